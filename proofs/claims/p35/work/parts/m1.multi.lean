/-! ===== the layer g: new T[2][0] ===== -/
theorem gMn_len (t : Nat) (c : gC) (h : gH) : (gMn t c h).2.length = h.length + 3 := by
  unfold gMn
  rw [List.length_append, List.length_append, List.length_append]
  rfl
theorem gMn_sl (t : Nat) (c : gC) (h : gH) (hc : gsz c = 0) : gsl (gMn t c h).2 = gsl h + 2 := by
  unfold gMn
  show gsl (((h ++ _) ++ [c]) ++ [c]) = _
  rw [gsl_push, gsl_push, gsl_push, hc]
  rfl
theorem g_over {ty : FieldType} {A A' : Array Value} {U : State} (h : (Cond.arrayOver (.array ty)).before A U = true) : (Cond.arrayClass (.array ty)).before A' U = true := by
  have h0 : Cond.value A U none U [] (.arrayOver (.array ty)) = some true := eq_of_beq h
  have h1 : Option.bind _ _ = some true := h0
  obtain ⟨comp, -, h1⟩ := Option.bind_eq_some_iff.mp h1
  obtain ⟨c, -, h1⟩ := Option.bind_eq_some_iff.mp h1
  obtain ⟨k, h3, h1⟩ := Option.map_eq_some_iff.mp h1
  refine beq_iff_eq.mpr ?_
  show Option.map _ (Option.bind _ _) = some true
  refine Option.map_eq_some_iff.mpr ⟨k, Option.bind_eq_some_iff.mpr ⟨c, ?_, h3⟩, ?_⟩
  · cases hk : k.kind <;> rw [hk] at h1 <;> first | exact (of_decide_eq_true (Bool.and_eq_true_iff.mp h1).2) | cases h1
  · cases hk : k.kind <;> rw [hk] at h1 <;> first | exact (Bool.and_eq_true_iff.mp h1).1 | cases h1
theorem gMn_out (c : ClassId) (h0 : Nat) : Jvm.Free.Multi.outerC c 2 h0 2 = arrV c 2 (fun j => if j = 1 then .ref (h0 + 2) else if j = 0 then .ref (h0 + 1) else .null) := by
  show (({ cls := c, slots := Array.replicate 2 .null, vm := .none } : Cell).setSlot 0 (.ref (h0 + 1 + 0))).setSlot 1 (.ref (h0 + 1 + 1)) = _
  rw [arrV_new, arrV_store, arrV_store]
  rfl
section GMN
variable {P : gG → Prop} {lay : List xS} {own : String} {cc : ByteArray} {nL d pc : Nat} {L : List (Nat × xV)} {st : List xV} {m : xM} {hp h9 : gH}
theorem g_mnI (C : ∀ Γ, P Γ → gX Γ lay own cc nL d h9) {idx : Nat} (hd : decode cc pc = .ok (.multianewarray idx 2, 4)) (hw : Cond.classLink own idx "[[I" ∈ wsL_law) (hic : Cond.arrayClass .int ∈ wsL_law) (h : gJ P lay nL (pc + 4) L (.inr (.inr (some (gMn 4 (.inl (0, [])) hp).1)) :: st) m (gMn 4 (.inl (0, [])) hp).2 h9) : gJ P lay nL pc L (.inl 0 :: .inl 2 :: st) m hp h9 := by
  have hl1 := gMn_len 4 (.inl (0, [])) hp
  have hl2 := gMn_sl 4 (.inl (0, [])) hp rfl
  have hg1 := h.1.1
  have hg2 := h.1.2
  refine ⟨⟨by omega, by omega⟩, ?_⟩
  intro Γ hΓ
  have C := C Γ hΓ
  obtain ⟨⟨p, l, e, R, s, m0, args, below, meth, cd⟩, ⟨A, ad, dC, dI, dA⟩, n0, s0, n1, s1, Q⟩ := Γ
  obtain ⟨hx, hb, hml, hown, hts, hK, had, hA, hfr, hlo, hlim, hstr, hTT⟩ := C
  intro H locs ls kk nn hs hP hD hS hv T hT X
  have hup := X.heapSize
  rw [hT] at hup
  obtain ⟨z0, z1, z2⟩ := g_next hP hS had hs.1 hs.2.2 hup
  have hcl : (Cond.classLink own idx ("[" ++ (FieldType.array .int).toString)).before args s = true := by
    rw [show "[" ++ (FieldType.array .int).toString = "[[I" from by decide +kernel]
    exact hts _ hw
  have hn2 : (Int32.ofInt 2).toNatClampNeg = 2 := by decide
  have hk0 : (Int32.ofInt 0).toNatClampNeg = 0 := by decide
  obtain ⟨vm₁, cA, comp, -, fA, fC, hO, -, X', step⟩ := X.multianewarray2F hx hown hcl (hTT.1 (.arrayOver (.array .int)) List.mem_cons_self) (hts _ hic) (g := F0 m0 pc ls ((.inl 0 :: .inl 2 :: st).map (xval ad))) rfl (by rw [hb]; exact hd) (n := Int32.ofInt 2) (k := Int32.ofInt 0) (rest := st.map (xval ad)) rfl (by decide) (by decide) (by decide) (by decide) (by decide) rfl rfl (by rw [hn2]; have := hlim.1; have := hs.1; omega) (by rw [hn2, hk0]; have := hlim.2; have := hs.2.1; omega)
  rw [hn2, hk0] at X' step
  have ecA : cA = dA 4 := Option.some.inj (fA.symm.trans (hK.2 4 _ rfl).2)
  have ecB : comp = dA 0 := Option.some.inj (fC.symm.trans (hK.2 0 _ rfl).2)
  subst ecA
  subst ecB
  have hTh : (T.setVm vm₁).heap = H := hT
  obtain ⟨f1, f2, -, -⟩ := Jvm.Free.Multi.fill_facts (T.setVm vm₁) (dA 4) (dA 0) 2 0 (defaultValue .int) 2
  have f3 : ∀ x : Nat, x < H.size → _ := fun x hx => Jvm.Free.Multi.fill_old (T.setVm vm₁) (dA 4) (dA 0) 2 0 (defaultValue .int) (a := x) (by rw [hTh]; exact hx) 2
  have f4 := fun j => Jvm.Free.Multi.fill_inner (T.setVm vm₁) (dA 4) (dA 0) 2 0 (defaultValue .int) 2 j
  generalize hF : Jvm.Free.Multi.fill (T.setVm vm₁) (dA 4) (dA 0) 2 0 (defaultValue .int) 2 = F at X' step f1 f2 f3 f4
  rw [hTh] at f1 f2 f3 f4
  obtain ⟨hP1, hD1, hS1⟩ := g_push (H1 := H.push (Jvm.Free.Multi.outerC (dA 4) 2 H.size 2)) (c := .inr (.inl (4, [some (2000 + (hp.length + 1)), some (2000 + (hp.length + 2))]))) hP hD hS hA z1 (by
    show (H.push _)[H.size]? = some (arrV (dA 4) 2 (fun j => va_rf ((([some (2000 + (hp.length + 1)), some (2000 + (hp.length + 2))] : List (Option Nat)).getD j none).map ad)))
    rw [Array.getElem?_push, if_pos rfl, gMn_out]
    congr 2
    funext j
    match j with
    | 0 => show Value.ref (H.size + 1) = Value.ref (ad (2000 + (hp.length + 1))); rw [← Nat.add_assoc, z2 1]
    | 1 => show Value.ref (H.size + 2) = Value.ref (ad (2000 + (hp.length + 2))); rw [← Nat.add_assoc, z2 2]
    | j + 2 => rfl) (Array.size_push _) (fun q hq => by rw [Array.getElem?_push, if_neg (Nat.ne_of_lt hq)])
  generalize hH1 : H.push (Jvm.Free.Multi.outerC (dA 4) 2 H.size 2) = H1 at hP1 hD1 hS1
  have q1 : H1.size = H.size + 1 := by rw [← hH1]; exact Array.size_push _
  obtain ⟨hP2, hD2, hS2⟩ := g_push (H1 := H1.push (Jvm.Free.Multi.innerC (dA 0) 0 (defaultValue .int))) (c := .inl (0, [])) hP1 hD1 hS1 hA (by rw [List.length_append, q1]; have := z2 1; rw [Nat.add_assoc] at this; exact this) (by
    show (H1.push _)[H1.size]? = some _
    rw [Array.getElem?_push, if_pos rfl]
    rfl) (Array.size_push _) (fun q hq => by rw [Array.getElem?_push, if_neg (Nat.ne_of_lt hq)])
  generalize hH2 : H1.push (Jvm.Free.Multi.innerC (dA 0) 0 (defaultValue .int)) = H2 at hP2 hD2 hS2
  have q2 : H2.size = H.size + 2 := by rw [← hH2, Array.size_push, q1]
  obtain ⟨hP3, hD3, hS3⟩ := g_push (H1 := H2.push (Jvm.Free.Multi.innerC (dA 0) 0 (defaultValue .int))) (c := .inl (0, [])) hP2 hD2 hS2 hA (by rw [List.length_append, List.length_append, q2]; have := z2 2; rw [Nat.add_assoc] at this; exact this) (by
    show (H2.push _)[H2.size]? = some _
    rw [Array.getElem?_push, if_pos rfl]
    rfl) (Array.size_push _) (fun q hq => by rw [Array.getElem?_push, if_neg (Nat.ne_of_lt hq)])
  have eF : F.heap = H2.push (Jvm.Free.Multi.innerC (dA 0) 0 (defaultValue .int)) := by
    apply Array.ext_getElem?
    intro i
    rw [Array.getElem?_push, q2]
    by_cases h2 : i = H.size + 2
    · rw [if_pos h2, h2]
      exact f4 1 (by omega)
    · rw [if_neg h2, ← hH2, Array.getElem?_push, q1]
      by_cases h1 : i = H.size + 1
      · rw [if_pos h1, h1]
        exact f4 0 (by omega)
      · rw [if_neg h1, ← hH1, Array.getElem?_push]
        by_cases h0 : i = H.size
        · rw [if_pos h0, h0]
          exact f2
        · rw [if_neg h0]
          by_cases hi : i < H.size
          · exact f3 i hi
          · rw [Array.getElem?_eq_none (by omega), Array.getElem?_eq_none (by omega)]
  rw [← eF] at hP3 hS3
  obtain ⟨t, a1, b1⟩ := h.2 _ hΓ F.heap locs ls (kk + 3) (nn + 2) ⟨by have := hs.1; omega, by have := hs.2.1; omega, by have := hs.2.2; omega⟩ hP3 hD3 hS3 hv F rfl X'
  refine ⟨t, step t ?_, b1⟩
  show Steps p.tables e below (F.setTop (F0 m0 (pc + 4) ls (.ref T.heap.size :: st.map (xval ad)))) t
  rw [hT, ← z1]
  exact a1
theorem g_mnQ (C : ∀ Γ, P Γ → gX Γ lay own cc nL d h9) {idx : Nat} (hd : decode cc pc = .ok (.multianewarray idx 2, 4)) (hw : Cond.classLink own idx "[[[I" ∈ gNb) (h : gJ P lay nL (pc + 4) L (.inr (.inr (some (gMn 5 (.inr (.inl (4, []))) hp).1)) :: st) m (gMn 5 (.inr (.inl (4, []))) hp).2 h9) : gJ P lay nL pc L (.inl 0 :: .inl 2 :: st) m hp h9 := by
  have hl1 := gMn_len 5 (.inr (.inl (4, []))) hp
  have hl2 := gMn_sl 5 (.inr (.inl (4, []))) hp rfl
  have hg1 := h.1.1
  have hg2 := h.1.2
  refine ⟨⟨by omega, by omega⟩, ?_⟩
  intro Γ hΓ
  have C := C Γ hΓ
  obtain ⟨⟨p, l, e, R, s, m0, args, below, meth, cd⟩, ⟨A, ad, dC, dI, dA⟩, n0, s0, n1, s1, Q⟩ := Γ
  obtain ⟨hx, hb, hml, hown, hts, hK, had, hA, hfr, hlo, hlim, hstr, hTT⟩ := C
  intro H locs ls kk nn hs hP hD hS hv T hT X
  have hup := X.heapSize
  rw [hT] at hup
  obtain ⟨z0, z1, z2⟩ := g_next hP hS had hs.1 hs.2.2 hup
  have hcl : (Cond.classLink own idx ("[" ++ (FieldType.array (.array .int)).toString)).before args s = true := by
    rw [show "[" ++ (FieldType.array (.array .int)).toString = "[[[I" from by decide +kernel]
    exact va_Nw.use (by rfl) (hTT.2 _ hw)
  have hn2 : (Int32.ofInt 2).toNatClampNeg = 2 := by decide
  have hk0 : (Int32.ofInt 0).toNatClampNeg = 0 := by decide
  obtain ⟨vm₁, cA, comp, -, fA, fC, hO, -, X', step⟩ := X.multianewarray2F hx hown hcl (hTT.1 (.arrayOver (.array (.array .int))) (List.mem_cons_of_mem _ List.mem_cons_self)) (g_over (hTT.1 (.arrayOver (.array .int)) List.mem_cons_self)) (g := F0 m0 pc ls ((.inl 0 :: .inl 2 :: st).map (xval ad))) rfl (by rw [hb]; exact hd) (n := Int32.ofInt 2) (k := Int32.ofInt 0) (rest := st.map (xval ad)) rfl (by decide) (by decide) (by decide) (by decide) (by decide) rfl rfl (by rw [hn2]; have := hlim.1; have := hs.1; omega) (by rw [hn2, hk0]; have := hlim.2; have := hs.2.1; omega)
  rw [hn2, hk0] at X' step
  have ecA : cA = dA 5 := Option.some.inj (fA.symm.trans (hK.2 5 _ rfl).2)
  have ecB : comp = dA 4 := Option.some.inj (fC.symm.trans (hK.2 4 _ rfl).2)
  subst ecA
  subst ecB
  have hTh : (T.setVm vm₁).heap = H := hT
  obtain ⟨f1, f2, -, -⟩ := Jvm.Free.Multi.fill_facts (T.setVm vm₁) (dA 5) (dA 4) 2 0 (defaultValue (.array .int)) 2
  have f3 : ∀ x : Nat, x < H.size → _ := fun x hx => Jvm.Free.Multi.fill_old (T.setVm vm₁) (dA 5) (dA 4) 2 0 (defaultValue (.array .int)) (a := x) (by rw [hTh]; exact hx) 2
  have f4 := fun j => Jvm.Free.Multi.fill_inner (T.setVm vm₁) (dA 5) (dA 4) 2 0 (defaultValue (.array .int)) 2 j
  generalize hF : Jvm.Free.Multi.fill (T.setVm vm₁) (dA 5) (dA 4) 2 0 (defaultValue (.array .int)) 2 = F at X' step f1 f2 f3 f4
  rw [hTh] at f1 f2 f3 f4
  obtain ⟨hP1, hD1, hS1⟩ := g_push (H1 := H.push (Jvm.Free.Multi.outerC (dA 5) 2 H.size 2)) (c := .inr (.inl (5, [some (2000 + (hp.length + 1)), some (2000 + (hp.length + 2))]))) hP hD hS hA z1 (by
    show (H.push _)[H.size]? = some (arrV (dA 5) 2 (fun j => va_rf ((([some (2000 + (hp.length + 1)), some (2000 + (hp.length + 2))] : List (Option Nat)).getD j none).map ad)))
    rw [Array.getElem?_push, if_pos rfl, gMn_out]
    congr 2
    funext j
    match j with
    | 0 => show Value.ref (H.size + 1) = Value.ref (ad (2000 + (hp.length + 1))); rw [← Nat.add_assoc, z2 1]
    | 1 => show Value.ref (H.size + 2) = Value.ref (ad (2000 + (hp.length + 2))); rw [← Nat.add_assoc, z2 2]
    | j + 2 => rfl) (Array.size_push _) (fun q hq => by rw [Array.getElem?_push, if_neg (Nat.ne_of_lt hq)])
  generalize hH1 : H.push (Jvm.Free.Multi.outerC (dA 5) 2 H.size 2) = H1 at hP1 hD1 hS1
  have q1 : H1.size = H.size + 1 := by rw [← hH1]; exact Array.size_push _
  obtain ⟨hP2, hD2, hS2⟩ := g_push (H1 := H1.push (Jvm.Free.Multi.innerC (dA 4) 0 (defaultValue (.array .int)))) (c := .inr (.inl (4, []))) hP1 hD1 hS1 hA (by rw [List.length_append, q1]; have := z2 1; rw [Nat.add_assoc] at this; exact this) (by
    show (H1.push _)[H1.size]? = some _
    rw [Array.getElem?_push, if_pos rfl]
    rfl) (Array.size_push _) (fun q hq => by rw [Array.getElem?_push, if_neg (Nat.ne_of_lt hq)])
  generalize hH2 : H1.push (Jvm.Free.Multi.innerC (dA 4) 0 (defaultValue (.array .int))) = H2 at hP2 hD2 hS2
  have q2 : H2.size = H.size + 2 := by rw [← hH2, Array.size_push, q1]
  obtain ⟨hP3, hD3, hS3⟩ := g_push (H1 := H2.push (Jvm.Free.Multi.innerC (dA 4) 0 (defaultValue (.array .int)))) (c := .inr (.inl (4, []))) hP2 hD2 hS2 hA (by rw [List.length_append, List.length_append, q2]; have := z2 2; rw [Nat.add_assoc] at this; exact this) (by
    show (H2.push _)[H2.size]? = some _
    rw [Array.getElem?_push, if_pos rfl]
    rfl) (Array.size_push _) (fun q hq => by rw [Array.getElem?_push, if_neg (Nat.ne_of_lt hq)])
  have eF : F.heap = H2.push (Jvm.Free.Multi.innerC (dA 4) 0 (defaultValue (.array .int))) := by
    apply Array.ext_getElem?
    intro i
    rw [Array.getElem?_push, q2]
    by_cases h2 : i = H.size + 2
    · rw [if_pos h2, h2]
      exact f4 1 (by omega)
    · rw [if_neg h2, ← hH2, Array.getElem?_push, q1]
      by_cases h1 : i = H.size + 1
      · rw [if_pos h1, h1]
        exact f4 0 (by omega)
      · rw [if_neg h1, ← hH1, Array.getElem?_push]
        by_cases h0 : i = H.size
        · rw [if_pos h0, h0]
          exact f2
        · rw [if_neg h0]
          by_cases hi : i < H.size
          · exact f3 i hi
          · rw [Array.getElem?_eq_none (by omega), Array.getElem?_eq_none (by omega)]
  rw [← eF] at hP3 hS3
  obtain ⟨t, a1, b1⟩ := h.2 _ hΓ F.heap locs ls (kk + 3) (nn + 2) ⟨by have := hs.1; omega, by have := hs.2.1; omega, by have := hs.2.2; omega⟩ hP3 hD3 hS3 hv F rfl X'
  refine ⟨t, step t ?_, b1⟩
  show Steps p.tables e below (F.setTop (F0 m0 (pc + 4) ls (.ref T.heap.size :: st.map (xval ad)))) t
  rw [hT, ← z1]
  exact a1
end GMN

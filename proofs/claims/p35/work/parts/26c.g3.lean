/-! ===== rows of the layer g: references, fields, what is made, ends ===== -/
theorem g_assign (vm : Vm) (c : ClassId) : vm.assignable c c = true := by
  show vm.assignableAux (255 + 1) c c = true
  rw [Vm.assignableAux, Bool.or_eq_true, beq_iff_eq]
  exact Or.inl rfl
def gokB (t : Nat) (h : gH) (x : Option Nat) : Bool := match x with
  | none => false
  | some v => match gat h v with
    | some (.inl q) => t == 4 && q.1 == 0
    | some (.inr (.inl q)) => t == 5 && q.1 == 4
    | _ => false
def gsQ (t : Nat) (h : gH) (k : Nat) (j : Int) (x : Option Nat) : Option gH := if gokB t h x = true then gsR t h k j x else none
theorem gokB_4 {h : gH} {x : Option Nat} (e : gokB 4 h x = true) : ∃ (v : Nat) (l : List Int), x = some v ∧ gat h v = some (.inl (0, l)) := by
  unfold gokB at e
  cases x with
  | none => cases e
  | some v =>
    dsimp only at e
    cases hc : gat h v with
    | none => rw [hc] at e; cases e
    | some c =>
      rw [hc] at e
      rcases c with ⟨t', l⟩ | ⟨t', l⟩ | fs
      · have h1 : t' = 0 := by simpa using e
        subst h1
        exact ⟨v, l, rfl, hc⟩
      · have h1 : False := by simpa using e
        exact h1.elim
      · cases e
theorem gokB_5 {h : gH} {x : Option Nat} (e : gokB 5 h x = true) : ∃ (v : Nat) (l : List (Option Nat)), x = some v ∧ gat h v = some (.inr (.inl (4, l))) := by
  unfold gokB at e
  cases x with
  | none => cases e
  | some v =>
    dsimp only at e
    cases hc : gat h v with
    | none => rw [hc] at e; cases e
    | some c =>
      rw [hc] at e
      rcases c with ⟨t', l⟩ | ⟨t', l⟩ | fs
      · have h1 : False := by simpa using e
        exact h1.elim
      · have h1 : t' = 4 := by simpa using e
        subst h1
        exact ⟨v, l, rfl, hc⟩
      · cases e
/-- the classes of arrays of arrays -/
theorem g_cls {dC : Nat → ClassId} {dI : Nat → Nat → Nat} {dA : Nat → ClassId} {s : State} (hK : va_K (dC, dI) vwCl (xtys dA) s) (hT : gT s) : (∃ k4 : Class, s.vm.classes[dA 4]? = some k4 ∧ k4.kind = .array (dA 0) (.array .int)) ∧ (∃ k5 : Class, s.vm.classes[dA 5]? = some k5 ∧ k5.kind = .array (dA 4) (.array (.array .int))) ∧ (∃ k0 : Class, s.vm.classes[dA 0]? = some k0) := by
  have n0 : s.vm.findClass ("[" ++ (FieldType.int).toString) = some (dA 0) := (hK.2 0 _ rfl).2
  have n4 : s.vm.findClass ("[" ++ (FieldType.array .int).toString) = some (dA 4) := (hK.2 4 _ rfl).2
  have n5 : s.vm.findClass ("[" ++ (FieldType.array (.array .int)).toString) = some (dA 5) := (hK.2 5 _ rfl).2
  obtain ⟨c1, a1, k1, e1, -, e2, e3, e4⟩ := arrayOverA_spec (hT.1 (.arrayOver (.array .int)) List.mem_cons_self)
  obtain ⟨c2, a2, k2, f1, -, f2, f3, f4⟩ := arrayOverA_spec (hT.1 (.arrayOver (.array (.array .int))) (List.mem_cons_of_mem _ List.mem_cons_self))
  have x1 : c1 = dA 0 := Option.some.inj (e1.symm.trans n0)
  have x2 : a1 = dA 4 := Option.some.inj (e4.symm.trans n4)
  have x3 : c2 = dA 4 := Option.some.inj (f1.symm.trans n4)
  have x4 : a2 = dA 5 := Option.some.inj (f4.symm.trans n5)
  subst x1; subst x2; subst x4
  obtain ⟨-, k0, hk0, -⟩ := (hK.2 0 _ rfl).1 0 (fun _ => .null)
  exact ⟨⟨k1, e2, e3⟩, ⟨k2, f2, by rw [f3, x3]⟩, ⟨k0, hk0⟩⟩
theorem g_rf (ad : Nat → Nat) (x : Option Nat) : xval ad (.inr (.inr x)) = va_rf (x.map ad) := by cases x <;> rfl
section GM2
variable {P : gG → Prop} {lay : List xS} {own : String} {cc : ByteArray} {nL d pc : Nat} {L : List (Nat × xV)} {st : List xV} {m : xM} {hp h9 : gH}
theorem g_aaload4 (C : ∀ Γ, P Γ → gX Γ lay own cc nL d h9) {k : Nat} {j : Int} {x : Option Nat} (hd : decode cc pc = .ok (.aaload, 1)) (hq : gaR 4 hp k j = some x) (h : gJ P lay nL (pc + 1) L (.inr (.inr x) :: st) m hp h9) : gJ P lay nL pc L (.inl j :: .inr (.inr (some k)) :: st) m hp h9 := by
  obtain ⟨l0, h1, h2, h3⟩ := gaR_some hq
  have hlt : xix j < l0.length := by obtain ⟨q1, q2⟩ := h2; show (xw j).toNat < _; omega
  refine ⟨h.1, ?_⟩
  intro Γ hΓ
  have C := C Γ hΓ
  obtain ⟨⟨p, l, e, R, s, m0, args, below, meth, c⟩, ⟨A, ad, dC, dI, dA⟩, n0, s0, n1, s1, Q⟩ := Γ
  obtain ⟨hx, hb, hml, hown, hts, hK, had, hA, hfr, hlo, hlim, hstr, hTT⟩ := C
  intro H locs ls kk nn hs hP hD hS hv
  have hk := h.2 _ hΓ H locs ls kk nn hs hP hD hS hv
  rw [List.map_cons, g_rf, h3] at hk
  exact W.aald (v := va_rf ((l0.getD (xix j) none).map ad)) (ty := .array .int) hx hb (hP _ _ (gwd_at h1)) ((hK.2 4 _ rfl).1 l0.length (fun z => va_rf ((l0.getD z none).map ad))) rfl (fun q => by cases q) (by show ¬ (_ < 0 ∨ (arrV _ _ _).slots.size ≤ _); rw [arrV_size]; exact xib_in h2) (by show (arrV _ _ _).slots[_]? = _; exact arrV_read _ _ hlt) rfl rfl hd hk
theorem g_aastore4 (C : ∀ Γ, P Γ → gX Γ lay own cc nL d h9) {k : Nat} {j : Int} {x : Option Nat} {hp1 : gH} (hd : decode cc pc = .ok (.aastore, 1)) (hq : gsQ 4 hp k j x = some hp1) (h : gJ P lay nL (pc + 1) L st m hp1 h9) : gJ P lay nL pc L (.inr (.inr x) :: .inl j :: .inr (.inr (some k)) :: st) m hp h9 := by
  obtain ⟨hok, hq⟩ := x_some1 hq
  obtain ⟨v, lv, rfl, hcv⟩ := gokB_4 hok
  obtain ⟨l0, h1, h2, h3⟩ := gsR_some hq
  subst h3
  have hlt : xix j < l0.length := by obtain ⟨q1, q2⟩ := h2; show (xw j).toNat < _; omega
  have hsz : gsz (.inr (.inl (4, l0.set (xix j) (some v)))) = gsz (.inr (.inl (4, l0))) := List.length_set
  refine ⟨gle_of_set h1 hsz h.1, ?_⟩
  intro Γ hΓ
  have C := C Γ hΓ
  obtain ⟨⟨p, l, e, R, s, m0, args, below, meth, c⟩, ⟨A, ad, dC, dI, dA⟩, n0, s0, n1, s1, Q⟩ := Γ
  obtain ⟨hx, hb, hml, hown, hts, hK, had, hA, hfr, hlo, hlim, hstr, hTT⟩ := C
  obtain ⟨⟨k4, hk4, hkd4⟩, ⟨k5, hk5, hkd5⟩, k0, hk0⟩ := g_cls hK hTT
  intro H locs ls kk nn hs hP hD hS hv
  have h0 : ¬ Int32.ofInt j < 0 := fun q => xib_in h2 (Or.inl q)
  refine W.aast hx hb (hP _ _ (gwd_at h1)) (fun q h => by cases h) (fun h => by cases h) hk4 hkd4 rfl hk0 ⟨h0, by show _ < (arrV _ _ _).slots.size; rw [arrV_size]; exact hlt⟩ (hP _ _ (gwd_at hcv)) (fun q h => by cases h) hk0 (g_assign _ _) rfl rfl hd fun H1 e z oq => ?_
  have e2 : updV (fun z => va_rf ((l0.getD z none).map ad)) (xix j) (.ref (ad v)) = fun z => va_rf (((l0.set (xix j) (some v)).getD z none).map ad) := by
    funext z
    rw [gset_d none l0 _ z (some v) hlt]
    show (if z = xix j then _ else _) = _
    by_cases hz9 : z = xix j
    · rw [if_pos hz9, if_pos hz9]; rfl
    · rw [if_neg hz9, if_neg hz9]
  have e : H1[ad k]? = some (vp_cell (dA 4) ((l0.set (xix j) (some v)).length, .inr (.inr (.inr (.inr (fun z => ((l0.set (xix j) (some v)).getD z none).map ad)))))) := by
    refine e.trans (congrArg some ?_)
    show (arrV (dA 4) l0.length (fun z => va_rf ((l0.getD z none).map ad))).setSlot (xix j) (.ref (ad v)) = arrV (dA 4) (l0.set (xix j) (some v)).length (fun z => va_rf (((l0.set (xix j) (some v)).getD z none).map ad))
    rw [arrV_store, e2, List.length_set]
  have hP1 := hP.set (e := gent ad dA (.inr (.inl (4, l0.set (xix j) (some v))))) hD (gwd_at h1) e oq
  have hD1 := hD.set (e := gent ad dA (.inr (.inl (4, l0.set (xix j) (some v))))) (gwd_at h1)
  rw [gwd_set h1 rfl] at hP1 hD1
  exact h.2 _ hΓ H1 _ ls kk nn ⟨by rw [List.length_set]; exact hs.1, by rw [gsl_set _ _ _ _ (gat_some h1).2 hsz]; exact hs.2.1, by rw [List.length_set]; exact hs.2.2⟩ hP1 hD1 (hS.put z oq (hD.2 _ _ (gwd_at h1))) hv
theorem g_aaload5 (C : ∀ Γ, P Γ → gX Γ lay own cc nL d h9) {k : Nat} {j : Int} {x : Option Nat} (hd : decode cc pc = .ok (.aaload, 1)) (hq : gaR 5 hp k j = some x) (h : gJ P lay nL (pc + 1) L (.inr (.inr x) :: st) m hp h9) : gJ P lay nL pc L (.inl j :: .inr (.inr (some k)) :: st) m hp h9 := by
  obtain ⟨l0, h1, h2, h3⟩ := gaR_some hq
  have hlt : xix j < l0.length := by obtain ⟨q1, q2⟩ := h2; show (xw j).toNat < _; omega
  refine ⟨h.1, ?_⟩
  intro Γ hΓ
  have C := C Γ hΓ
  obtain ⟨⟨p, l, e, R, s, m0, args, below, meth, c⟩, ⟨A, ad, dC, dI, dA⟩, n0, s0, n1, s1, Q⟩ := Γ
  obtain ⟨hx, hb, hml, hown, hts, hK, had, hA, hfr, hlo, hlim, hstr, hTT⟩ := C
  intro H locs ls kk nn hs hP hD hS hv
  have hk := h.2 _ hΓ H locs ls kk nn hs hP hD hS hv
  rw [List.map_cons, g_rf, h3] at hk
  exact W.aald (v := va_rf ((l0.getD (xix j) none).map ad)) (ty := .array (.array .int)) hx hb (hP _ _ (gwd_at h1)) ((hK.2 5 _ rfl).1 l0.length (fun z => va_rf ((l0.getD z none).map ad))) rfl (fun q => by cases q) (by show ¬ (_ < 0 ∨ (arrV _ _ _).slots.size ≤ _); rw [arrV_size]; exact xib_in h2) (by show (arrV _ _ _).slots[_]? = _; exact arrV_read _ _ hlt) rfl rfl hd hk
theorem g_aastore5 (C : ∀ Γ, P Γ → gX Γ lay own cc nL d h9) {k : Nat} {j : Int} {x : Option Nat} {hp1 : gH} (hd : decode cc pc = .ok (.aastore, 1)) (hq : gsQ 5 hp k j x = some hp1) (h : gJ P lay nL (pc + 1) L st m hp1 h9) : gJ P lay nL pc L (.inr (.inr x) :: .inl j :: .inr (.inr (some k)) :: st) m hp h9 := by
  obtain ⟨hok, hq⟩ := x_some1 hq
  obtain ⟨v, lv, rfl, hcv⟩ := gokB_5 hok
  obtain ⟨l0, h1, h2, h3⟩ := gsR_some hq
  subst h3
  have hlt : xix j < l0.length := by obtain ⟨q1, q2⟩ := h2; show (xw j).toNat < _; omega
  have hsz : gsz (.inr (.inl (5, l0.set (xix j) (some v)))) = gsz (.inr (.inl (5, l0))) := List.length_set
  refine ⟨gle_of_set h1 hsz h.1, ?_⟩
  intro Γ hΓ
  have C := C Γ hΓ
  obtain ⟨⟨p, l, e, R, s, m0, args, below, meth, c⟩, ⟨A, ad, dC, dI, dA⟩, n0, s0, n1, s1, Q⟩ := Γ
  obtain ⟨hx, hb, hml, hown, hts, hK, had, hA, hfr, hlo, hlim, hstr, hTT⟩ := C
  obtain ⟨⟨k4, hk4, hkd4⟩, ⟨k5, hk5, hkd5⟩, k0, hk0⟩ := g_cls hK hTT
  intro H locs ls kk nn hs hP hD hS hv
  have h0 : ¬ Int32.ofInt j < 0 := fun q => xib_in h2 (Or.inl q)
  refine W.aast hx hb (hP _ _ (gwd_at h1)) (fun q h => by cases h) (fun h => by cases h) hk5 hkd5 rfl hk4 ⟨h0, by show _ < (arrV _ _ _).slots.size; rw [arrV_size]; exact hlt⟩ (hP _ _ (gwd_at hcv)) (fun q h => by cases h) hk4 (g_assign _ _) rfl rfl hd fun H1 e z oq => ?_
  have e2 : updV (fun z => va_rf ((l0.getD z none).map ad)) (xix j) (.ref (ad v)) = fun z => va_rf (((l0.set (xix j) (some v)).getD z none).map ad) := by
    funext z
    rw [gset_d none l0 _ z (some v) hlt]
    show (if z = xix j then _ else _) = _
    by_cases hz9 : z = xix j
    · rw [if_pos hz9, if_pos hz9]; rfl
    · rw [if_neg hz9, if_neg hz9]
  have e : H1[ad k]? = some (vp_cell (dA 5) ((l0.set (xix j) (some v)).length, .inr (.inr (.inr (.inr (fun z => ((l0.set (xix j) (some v)).getD z none).map ad)))))) := by
    refine e.trans (congrArg some ?_)
    show (arrV (dA 5) l0.length (fun z => va_rf ((l0.getD z none).map ad))).setSlot (xix j) (.ref (ad v)) = arrV (dA 5) (l0.set (xix j) (some v)).length (fun z => va_rf (((l0.set (xix j) (some v)).getD z none).map ad))
    rw [arrV_store, e2, List.length_set]
  have hP1 := hP.set (e := gent ad dA (.inr (.inl (5, l0.set (xix j) (some v))))) hD (gwd_at h1) e oq
  have hD1 := hD.set (e := gent ad dA (.inr (.inl (5, l0.set (xix j) (some v))))) (gwd_at h1)
  rw [gwd_set h1 rfl] at hP1 hD1
  exact h.2 _ hΓ H1 _ ls kk nn ⟨by rw [List.length_set]; exact hs.1, by rw [gsl_set _ _ _ _ (gat_some h1).2 hsz]; exact hs.2.1, by rw [List.length_set]; exact hs.2.2⟩ hP1 hD1 (hS.put z oq (hD.2 _ _ (gwd_at h1))) hv
theorem g_getI (C : ∀ Γ, P Γ → gX Γ lay own cc nL d h9) {idx j k : Nat} {t : FieldType} {fin : Bool} {x : Int} (hd : decode cc pc = .ok (.getfield idx, 3)) (hF : xF own idx 12 j t fin) (hq : gfI hp k j = some x) (h : gJ P lay nL (pc + 3) L (.inl x :: st) m hp h9) : gJ P lay nL pc L (.inr (.inr (some k)) :: st) m hp h9 := by
  obtain ⟨fs, h1, h2⟩ := gfI_some hq
  obtain ⟨Cn, T, N, ty, f1, f2, f3, f4, f5, f6, f7, f8, f9⟩ := hF
  refine ⟨h.1, ?_⟩
  intro Γ hΓ
  have C := C Γ hΓ
  obtain ⟨⟨p, l, e, R, s, m0, args, below, meth, c⟩, ⟨A, ad, dC, dI, dA⟩, n0, s0, n1, s1, Q⟩ := Γ
  obtain ⟨hx, hb, hml, hown, hts, hK, had, hA, hfr, hlo, hlim, hstr, hTT⟩ := C
  intro H locs ls kk nn hs hP hD hS hv
  exact va_get (own := own) (ref := Cn) (C := Cn) (T := T) (N := N) hx hb hts f5 hown hK hP _ (gwd_at h1) f1 j f2 (hts _ f3) (fun z hz => by rw [f4] at hz; exact hz) (v := xval ad (.inl x)) (by rw [List.getElem?_map, h2]; rfl) hd (h.2 _ hΓ H locs ls kk nn hs hP hD hS hv)
theorem g_getR (C : ∀ Γ, P Γ → gX Γ lay own cc nL d h9) {idx j k : Nat} {t : FieldType} {fin : Bool} {x : Option Nat} (hd : decode cc pc = .ok (.getfield idx, 3)) (hF : xF own idx 12 j t fin) (hq : gfR hp k j = some x) (h : gJ P lay nL (pc + 3) L (.inr (.inr x) :: st) m hp h9) : gJ P lay nL pc L (.inr (.inr (some k)) :: st) m hp h9 := by
  obtain ⟨fs, h1, h2⟩ := gfR_some hq
  obtain ⟨Cn, T, N, ty, f1, f2, f3, f4, f5, f6, f7, f8, f9⟩ := hF
  refine ⟨h.1, ?_⟩
  intro Γ hΓ
  have C := C Γ hΓ
  obtain ⟨⟨p, l, e, R, s, m0, args, below, meth, c⟩, ⟨A, ad, dC, dI, dA⟩, n0, s0, n1, s1, Q⟩ := Γ
  obtain ⟨hx, hb, hml, hown, hts, hK, had, hA, hfr, hlo, hlim, hstr, hTT⟩ := C
  intro H locs ls kk nn hs hP hD hS hv
  exact va_get (own := own) (ref := Cn) (C := Cn) (T := T) (N := N) hx hb hts f5 hown hK hP _ (gwd_at h1) f1 j f2 (hts _ f3) (fun z hz => by rw [f4] at hz; exact hz) (v := xval ad (.inr (.inr x))) (by rw [List.getElem?_map, h2]; rfl) hd (h.2 _ hΓ H locs ls kk nn hs hP hD hS hv)
theorem g_putI (C : ∀ Γ, P Γ → gX Γ lay own cc nL d h9) {idx j k : Nat} {x : Int} {hp1 : gH} (hd : decode cc pc = .ok (.putfield idx, 3)) (hF : xF own idx 12 j .int false) (hq : gpt hp k j (.inl x) = some hp1) (h : gJ P lay nL (pc + 3) L st m hp1 h9) : gJ P lay nL pc L (.inl x :: .inr (.inr (some k)) :: st) m hp h9 := by
  obtain ⟨fs, h1, h2, h3⟩ := gpt_some hq
  subst h3
  have hsz : gsz (.inr (.inr (fs.set j (.inl x)))) = gsz (.inr (.inr fs)) := List.length_set
  obtain ⟨Cn, T, N, ty, f1, f2, f3, f4, f5, f6, f7, f8, f9⟩ := hF
  refine ⟨gle_of_set h1 hsz h.1, ?_⟩
  intro Γ hΓ
  have C := C Γ hΓ
  obtain ⟨⟨p, l, e, R, s, m0, args, below, meth, c⟩, ⟨A, ad, dC, dI, dA⟩, n0, s0, n1, s1, Q⟩ := Γ
  obtain ⟨hx, hb, hml, hown, hts, hK, had, hA, hfr, hlo, hlim, hstr, hTT⟩ := C
  intro H locs ls kk nn hs hP hD hS hv
  refine va_put (own := own) (ref := Cn) (C := Cn) (T := T) (N := N) hx hb hts f5 ty f6 f7 hown hK hP hD hS _ (gwd_at h1) f1 j f2 (hts _ f3) (fun z hz => by rw [f4] at hz; exact hz) f9 (ty := .int) (v := xval ad (.inl x)) (by rw [f6 j f2, f8]) rfl rfl (by rw [List.length_map]; exact h2) hd (fun H1 locs1 hP1 hD1 hS1 => ?_)
  rw [← List.map_set, show (Sum.inr (12, List.map (xval ad) (fs.set j (.inl x))) : va_E) = gent ad dA (.inr (.inr (fs.set j (.inl x)))) from rfl, gwd_set h1 rfl] at hP1 hD1
  exact h.2 _ hΓ H1 locs1 ls kk nn ⟨by rw [List.length_set]; exact hs.1, by rw [gsl_set _ _ _ _ (gat_some h1).2 hsz]; exact hs.2.1, by rw [List.length_set]; exact hs.2.2⟩ hP1 hD1 hS1 hv
theorem g_putZ (C : ∀ Γ, P Γ → gX Γ lay own cc nL d h9) {idx j k : Nat} {x : Int} {hp1 : gH} (hd : decode cc pc = .ok (.putfield idx, 3)) (hF : xF own idx 12 j .boolean false) (hz : xbz x) (hq : gpt hp k j (.inl x) = some hp1) (h : gJ P lay nL (pc + 3) L st m hp1 h9) : gJ P lay nL pc L (.inl x :: .inr (.inr (some k)) :: st) m hp h9 := by
  obtain ⟨fs, h1, h2, h3⟩ := gpt_some hq
  subst h3
  have hsz : gsz (.inr (.inr (fs.set j (.inl x)))) = gsz (.inr (.inr fs)) := List.length_set
  obtain ⟨Cn, T, N, ty, f1, f2, f3, f4, f5, f6, f7, f8, f9⟩ := hF
  refine ⟨gle_of_set h1 hsz h.1, ?_⟩
  intro Γ hΓ
  have C := C Γ hΓ
  obtain ⟨⟨p, l, e, R, s, m0, args, below, meth, c⟩, ⟨A, ad, dC, dI, dA⟩, n0, s0, n1, s1, Q⟩ := Γ
  obtain ⟨hx, hb, hml, hown, hts, hK, had, hA, hfr, hlo, hlim, hstr, hTT⟩ := C
  intro H locs ls kk nn hs hP hD hS hv
  refine va_put (own := own) (ref := Cn) (C := Cn) (T := T) (N := N) hx hb hts f5 ty f6 f7 hown hK hP hD hS _ (gwd_at h1) f1 j f2 (hts _ f3) (fun z hz => by rw [f4] at hz; exact hz) f9 (ty := .boolean) (v := xval ad (.inl x)) (by rw [f6 j f2, f8]) (xbz_nar hz).1 (xbz_nar hz).2 (by rw [List.length_map]; exact h2) hd (fun H1 locs1 hP1 hD1 hS1 => ?_)
  rw [← List.map_set, show (Sum.inr (12, List.map (xval ad) (fs.set j (.inl x))) : va_E) = gent ad dA (.inr (.inr (fs.set j (.inl x)))) from rfl, gwd_set h1 rfl] at hP1 hD1
  exact h.2 _ hΓ H1 locs1 ls kk nn ⟨by rw [List.length_set]; exact hs.1, by rw [gsl_set _ _ _ _ (gat_some h1).2 hsz]; exact hs.2.1, by rw [List.length_set]; exact hs.2.2⟩ hP1 hD1 hS1 hv
theorem g_putR (C : ∀ Γ, P Γ → gX Γ lay own cc nL d h9) {idx j k : Nat} {x : Option Nat} {t : FieldType} {hp1 : gH} (hd : decode cc pc = .ok (.putfield idx, 3)) (hF : xF own idx 12 j (.array t) false) (hq : gpt hp k j (.inr (.inr x)) = some hp1) (h : gJ P lay nL (pc + 3) L st m hp1 h9) : gJ P lay nL pc L (.inr (.inr x) :: .inr (.inr (some k)) :: st) m hp h9 := by
  obtain ⟨fs, h1, h2, h3⟩ := gpt_some hq
  subst h3
  have hsz : gsz (.inr (.inr (fs.set j (.inr (.inr x))))) = gsz (.inr (.inr fs)) := List.length_set
  obtain ⟨Cn, T, N, ty, f1, f2, f3, f4, f5, f6, f7, f8, f9⟩ := hF
  refine ⟨gle_of_set h1 hsz h.1, ?_⟩
  intro Γ hΓ
  have C := C Γ hΓ
  obtain ⟨⟨p, l, e, R, s, m0, args, below, meth, c⟩, ⟨A, ad, dC, dI, dA⟩, n0, s0, n1, s1, Q⟩ := Γ
  obtain ⟨hx, hb, hml, hown, hts, hK, had, hA, hfr, hlo, hlim, hstr, hTT⟩ := C
  intro H locs ls kk nn hs hP hD hS hv
  refine va_put (own := own) (ref := Cn) (C := Cn) (T := T) (N := N) hx hb hts f5 ty f6 f7 hown hK hP hD hS _ (gwd_at h1) f1 j f2 (hts _ f3) (fun z hz => by rw [f4] at hz; exact hz) f9 (ty := (.array t)) (v := xval ad (.inr (.inr x))) (by rw [f6 j f2, f8]) (by cases x <;> rfl) (by cases x <;> rfl) (by rw [List.length_map]; exact h2) hd (fun H1 locs1 hP1 hD1 hS1 => ?_)
  rw [← List.map_set, show (Sum.inr (12, List.map (xval ad) (fs.set j (.inr (.inr x)))) : va_E) = gent ad dA (.inr (.inr (fs.set j (.inr (.inr x))))) from rfl, gwd_set h1 rfl] at hP1 hD1
  exact h.2 _ hΓ H1 locs1 ls kk nn ⟨by rw [List.length_set]; exact hs.1, by rw [gsl_set _ _ _ _ (gat_some h1).2 hsz]; exact hs.2.1, by rw [List.length_set]; exact hs.2.2⟩ hP1 hD1 hS1 hv
end GM2

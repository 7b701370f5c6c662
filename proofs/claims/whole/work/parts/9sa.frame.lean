/-! ===== texts: worlds that a method changes and makes anew ===== -/
/-- the tables of digits -/
def xDg (ad : Nat → Nat) (A : Nat → Prop) (U : State) (H : Heap) : Prop := va_Z "java/lang/Integer" "DigitOnes" "[B" (.ref (ad (1000 + 300))) A U H ∧ va_Z "java/lang/Integer" "DigitTens" "[B" (.ref (ad (1000 + 301))) A U H ∧ va_T .byte (ad (1000 + 300)) 100 (fun j => .int (Int32.ofInt ((48 + j % 10 : Nat) : Int))) A U H ∧ va_T .byte (ad (1000 + 301)) 100 (fun j => .int (Int32.ofInt ((48 + j / 10 : Nat) : Int))) A U H
theorem xDg.goes {ad ad' : Nat → Nat} {A B : Nat → Prop} {u U : State} {H H1 : Heap} (hW : u.WarmedH U.vm) (h : xDg ad A u H) (had : ∀ i : Nat, ad' (1000 + i) = ad (1000 + i)) (hq : ∀ a : Nat, a < H.size → ¬ A a → H1[a]? = H[a]?) (hAB : ∀ q, B q → A q) : xDg ad' B U H1 := by
  obtain ⟨h1, h2, h3, h4⟩ := h
  unfold xDg
  rw [had, had]
  exact ⟨((h1.moved hW.alike).kept hq).narrow hAB, ((h2.moved hW.alike).kept hq).narrow hAB, ((h3.moved hW.alike).kept hq).narrow hAB, ((h4.moved hW.alike).kept hq).narrow hAB⟩
theorem xDg.same {ad : Nat → Nat} {A : Nat → Prop} {u U : State} {H : Heap} (hv : U.vm = u.vm) (h : xDg ad A u H) : xDg ad A U H := by
  have ha : u.vm.Alike U.vm := by rw [hv]; exact Vm.Alike.refl u.vm
  exact ⟨h.1.moved ha, h.2.1.moved ha, h.2.2.1.moved ha, h.2.2.2.moved ha⟩
def tPre (dC : Nat → ClassId) (dI : Nat → Nat → Nat) (dA : Nat → ClassId) (ad : Nat → Nat) (ws : va_W) (sz : Nat) (U : State) : Prop :=
  U.heap.size = sz ∧ va_P (dC, dI) vwCl ws U.heap ∧ va_D (fun _ => True) ws ∧ va_K (dC, dI) vwCl (ytys dA) U ∧ yTab U ∧ ySt ad (va_A ws sz) U U.heap ∧ xDg ad (va_A ws sz) U U.heap
theorem tPre_blind (av : List Value) (dC : Nat → ClassId) (dI : Nat → Nat → Nat) (dA : Nat → ClassId) (ad : Nat → Nat) (ws : va_W) (sz : Nat) : FrameBlind (va_Pc av (tPre dC dI dA ad ws sz)) := by
  intro a U g mk q
  obtain ⟨q0, q1, qP, qD, qK, qT, qS, qG⟩ := q
  exact ⟨q0, q1, qP, qD, va_K.moved (u := U) (U := U.calling g mk a) (Vm.Alike.refl U.vm) qK, qT.same (u := U) (U := U.calling g mk a) rfl, qS.same (u := U) (U := U.calling g mk a) rfl, qG.same (u := U) (U := U.calling g mk a) rfl⟩
/-- a contract: the world that is left stands in a relation to the answer -/
def tMet (l : Launch) (y : MethodName) (cc : ByteArray) (maxL : Nat) (ret : Option FieldType) (d K N : Nat) (av : List Value) (dA : Nat → ClassId) (ad : Nat → Nat) (ws : va_W) (Rel : Option Value → va_W → Prop) : Prop :=
  ∀ (dC : Nat → ClassId) (dI : Nat → Nat → Nat) (sz : Nat), Met l y (Cond.code y cc maxL ret :: wsL_law) (yrm d K N) (va_Pc av (tPre dC dI dA ad ws sz)) (fun _ st oc t => (∃ (rv : Option Value) (w' : va_W), oc = .returned rv ∧ Rel rv w' ∧ va_P (dC, dI) vwCl w' t.heap ∧ va_D (va_A ws sz) w') ∧ va_F (va_A ws sz) st t) K N (va_A ws sz)
def yDg (Γ : yG) : Prop := match Γ with
  | ((p, l, e, R, s, m0, args, below, meth, c), (A, dC, dI, dA, sa), Q) => xDg sa A s s.heap
/-- the returns -/
def tRi (Γ : yG) (cc : ByteArray) (Rel : Option Value → va_W → Prop) (K N : Nat) : Prop := match Γ with
  | ((p, l, e, R, s, m0, args, below, meth, c), (A, dC, dI, dA, sa), Q) => ∀ (H : Heap) (locs : List Loc) (ls : Array Slot) (pc k n : Nat) (r : Int32) (w' : va_W), k ≤ K → n ≤ N → Rel (some (.int r)) w' → va_P (dC, dI) vwCl w' H → va_D A w' → va_S A s.heap H locs → decode cc pc = .ok (.ireturn, 1) → W p l e R s m0 args below meth c H locs k n Q (F0 m0 pc ls [.int r])
def tRv (Γ : yG) (cc : ByteArray) (Rel : Option Value → va_W → Prop) (K N : Nat) : Prop := match Γ with
  | ((p, l, e, R, s, m0, args, below, meth, c), (A, dC, dI, dA, sa), Q) => ∀ (H : Heap) (locs : List Loc) (ls : Array Slot) (pc k n : Nat) (w' : va_W), k ≤ K → n ≤ N → Rel none w' → va_P (dC, dI) vwCl w' H → va_D A w' → va_S A s.heap H locs → decode cc pc = .ok (.return_, 1) → W p l e R s m0 args below meth c H locs k n Q (F0 m0 pc ls [])
def tRa (Γ : yG) (cc : ByteArray) (Rel : Option Value → va_W → Prop) (K N : Nat) : Prop := match Γ with
  | ((p, l, e, R, s, m0, args, below, meth, c), (A, dC, dI, dA, sa), Q) => ∀ (H : Heap) (locs : List Loc) (ls : Array Slot) (pc k n a : Nat) (w' : va_W), k ≤ K → n ≤ N → Rel (some (.ref a)) w' → va_P (dC, dI) vwCl w' H → va_D A w' → va_S A s.heap H locs → decode cc pc = .ok (.areturn, 1) → W p l e R s m0 args below meth c H locs k n Q (F0 m0 pc ls [.ref a])
section TM
variable {l : Launch} {y : MethodName} {cc : ByteArray} {maxL d K N : Nat} {av : List Value} {dA : Nat → ClassId} {ad : Nat → Nat} {ws : va_W} {Rel : Option Value → va_W → Prop}
theorem tMet_i (ty : FieldType) (hnar : ∀ (r : Int32) (w' : va_W), Rel (some (.int r)) w' → narrow ty (.int r) = .int r) (hy : plainName y.cls = true ∨ plainFor y = true) (hw : (lg_sl av).length ≤ maxL)
    (hb : ∀ Γ : yG, yC Γ y.cls cc maxL d K N → yDg Γ → ySA Γ = ad → yDA Γ = dA → tRi Γ cc Rel K N → Γ.1.2.1 = l → yW Γ maxL 0 (lv_args 0 av) [] ws 0 0) : tMet l y cc maxL (some ty) d K N av dA ad ws Rel := by
  intro dC dI sz
  refine x_ofW (cc := cc) (maxL := maxL) (ret := some ty) hy rfl ?_
  intro p e s m0 args below meth c s₁ B hml hv
  obtain ⟨rfl, hsz, hP, hD, hK, hT, hX, hG⟩ := hv
  subst hsz
  have hl2 := lv_entry av (n := maxL) hw
  rw [lg_entry_eq]
  refine hb ((p, l, e, yrm d K N, s, m0, av.toArray, below, meth, c), (va_A ws s.heap.size, dC, dI, dA, ad), _) ?_ hG rfl rfl ?_ rfl s.heap [] _ hP hD.self va_S.rf hl2
  · exact ⟨B.exec, B.bytes, hml, findClass_of_methodNamed B.named, fun w h => atoms_spec (ws := Cond.code y cc maxL (some ty) :: wsL_law) B.pre w (List.mem_cons_of_mem _ h), hK, fun q h => Or.inr h, ⟨Nat.le_refl _, Nat.le_refl _⟩, ⟨Nat.le_refl _, Nat.le_refl _⟩, hT, hX⟩
  · intro H locs ls pc k n r w' hk hn hr hP1 hD1 hS hd
    refine W.widen (k := K) (n := N) hk hn ?_
    exact W.zret (v := r) (ty := ty) B.exec B.bytes B.returns (hnar r w' hr) (fun t ht hW => ⟨⟨_, w', rfl, hr, by rw [ht]; exact hP1, hD1⟩, hS.F ht⟩) hS.2.2 hd B.notSynchronized
theorem tMet_ii (hy : plainName y.cls = true ∨ plainFor y = true) (hw : (lg_sl av).length ≤ maxL)
    (hb : ∀ Γ : yG, yC Γ y.cls cc maxL d K N → yDg Γ → ySA Γ = ad → yDA Γ = dA → tRi Γ cc Rel K N → Γ.1.2.1 = l → yW Γ maxL 0 (lv_args 0 av) [] ws 0 0) : tMet l y cc maxL (some .int) d K N av dA ad ws Rel := by
  intro dC dI sz
  refine x_ofW (cc := cc) (maxL := maxL) (ret := some .int) hy rfl ?_
  intro p e s m0 args below meth c s₁ B hml hv
  obtain ⟨rfl, hsz, hP, hD, hK, hT, hX, hG⟩ := hv
  subst hsz
  have hl2 := lv_entry av (n := maxL) hw
  rw [lg_entry_eq]
  refine hb ((p, l, e, yrm d K N, s, m0, av.toArray, below, meth, c), (va_A ws s.heap.size, dC, dI, dA, ad), _) ?_ hG rfl rfl ?_ rfl s.heap [] _ hP hD.self va_S.rf hl2
  · exact ⟨B.exec, B.bytes, hml, findClass_of_methodNamed B.named, fun w h => atoms_spec (ws := Cond.code y cc maxL (some .int) :: wsL_law) B.pre w (List.mem_cons_of_mem _ h), hK, fun q h => Or.inr h, ⟨Nat.le_refl _, Nat.le_refl _⟩, ⟨Nat.le_refl _, Nat.le_refl _⟩, hT, hX⟩
  · intro H locs ls pc k n r w' hk hn hr hP1 hD1 hS hd
    refine W.widen (k := K) (n := N) hk hn ?_
    exact W.iret (v := r) B.exec B.bytes B.returns (fun t ht hW => ⟨⟨_, w', rfl, hr, by rw [ht]; exact hP1, hD1⟩, hS.F ht⟩) hS.2.2 hd B.notSynchronized
theorem tMet_v (hy : plainName y.cls = true ∨ plainFor y = true) (hw : (lg_sl av).length ≤ maxL)
    (hb : ∀ Γ : yG, yC Γ y.cls cc maxL d K N → yDg Γ → ySA Γ = ad → yDA Γ = dA → tRv Γ cc Rel K N → Γ.1.2.1 = l → yW Γ maxL 0 (lv_args 0 av) [] ws 0 0) : tMet l y cc maxL none d K N av dA ad ws Rel := by
  intro dC dI sz
  refine x_ofW (cc := cc) (maxL := maxL) (ret := none) hy rfl ?_
  intro p e s m0 args below meth c s₁ B hml hv
  obtain ⟨rfl, hsz, hP, hD, hK, hT, hX, hG⟩ := hv
  subst hsz
  have hl2 := lv_entry av (n := maxL) hw
  rw [lg_entry_eq]
  refine hb ((p, l, e, yrm d K N, s, m0, av.toArray, below, meth, c), (va_A ws s.heap.size, dC, dI, dA, ad), _) ?_ hG rfl rfl ?_ rfl s.heap [] _ hP hD.self va_S.rf hl2
  · exact ⟨B.exec, B.bytes, hml, findClass_of_methodNamed B.named, fun w h => atoms_spec (ws := Cond.code y cc maxL none :: wsL_law) B.pre w (List.mem_cons_of_mem _ h), hK, fun q h => Or.inr h, ⟨Nat.le_refl _, Nat.le_refl _⟩, ⟨Nat.le_refl _, Nat.le_refl _⟩, hT, hX⟩
  · intro H locs ls pc k n w' hk hn hr hP1 hD1 hS hd
    refine W.widen (k := K) (n := N) hk hn ?_
    exact W.vret B.exec B.bytes B.returns (fun t ht hW => ⟨⟨_, w', rfl, hr, by rw [ht]; exact hP1, hD1⟩, hS.F ht⟩) hS.2.2 hd B.notSynchronized
theorem tMet_a {rt : FieldType} (hrt : (∃ C, rt = .object C) ∨ ∃ t, rt = .array t) (hy : plainName y.cls = true ∨ plainFor y = true) (hw : (lg_sl av).length ≤ maxL)
    (hb : ∀ Γ : yG, yC Γ y.cls cc maxL d K N → yDg Γ → ySA Γ = ad → yDA Γ = dA → tRa Γ cc Rel K N → Γ.1.2.1 = l → yW Γ maxL 0 (lv_args 0 av) [] ws 0 0) : tMet l y cc maxL (some rt) d K N av dA ad ws Rel := by
  intro dC dI sz
  refine x_ofW (cc := cc) (maxL := maxL) (ret := some rt) hy rfl ?_
  intro p e s m0 args below meth c s₁ B hml hv
  obtain ⟨rfl, hsz, hP, hD, hK, hT, hX, hG⟩ := hv
  subst hsz
  have hl2 := lv_entry av (n := maxL) hw
  rw [lg_entry_eq]
  refine hb ((p, l, e, yrm d K N, s, m0, av.toArray, below, meth, c), (va_A ws s.heap.size, dC, dI, dA, ad), _) ?_ hG rfl rfl ?_ rfl s.heap [] _ hP hD.self va_S.rf hl2
  · exact ⟨B.exec, B.bytes, hml, findClass_of_methodNamed B.named, fun w h => atoms_spec (ws := Cond.code y cc maxL (some rt) :: wsL_law) B.pre w (List.mem_cons_of_mem _ h), hK, fun q h => Or.inr h, ⟨Nat.le_refl _, Nat.le_refl _⟩, ⟨Nat.le_refl _, Nat.le_refl _⟩, hT, hX⟩
  · intro H locs ls pc k n a w' hk hn hr hP1 hD1 hS hd
    refine W.widen (k := K) (n := N) hk hn ?_
    exact W.aret (v := .ref a) (rt := rt) B.exec B.bytes B.returns hrt (Or.inr ⟨_, rfl⟩) (fun t ht hW => ⟨⟨_, w', rfl, hr, by rw [ht]; exact hP1, hD1⟩, hS.F ht⟩) hS.2.2 hd B.notSynchronized
end TM
section TR
variable {Γ : yG} {own : String} {cc : ByteArray} {nL d pc K N k n : Nat} {L : List (Nat × Value)} {st : List Value} {ws : va_W} {Rel : Option Value → va_W → Prop}
theorem t_iret (hR : tRi Γ cc Rel K N) (hd : decode cc pc = .ok (.ireturn, 1)) (hk : k ≤ K) (hn : n ≤ N) {r : Int32} (hr : Rel (some (.int r)) ws) : yW Γ nL pc L [.int r] ws k n := by
  obtain ⟨⟨p, l, e, R, s, m0, args, below, meth, c⟩, ⟨A, dC, dI, dA, sa⟩, Q⟩ := Γ
  intro H locs ls hP hD hS hv
  exact hR H locs ls pc k n r ws hk hn hr hP hD hS hd
theorem t_ret (hR : tRv Γ cc Rel K N) (hd : decode cc pc = .ok (.return_, 1)) (hk : k ≤ K) (hn : n ≤ N) (hr : Rel none ws) : yW Γ nL pc L [] ws k n := by
  obtain ⟨⟨p, l, e, R, s, m0, args, below, meth, c⟩, ⟨A, dC, dI, dA, sa⟩, Q⟩ := Γ
  intro H locs ls hP hD hS hv
  exact hR H locs ls pc k n ws hk hn hr hP hD hS hd
theorem t_aret (hR : tRa Γ cc Rel K N) (hd : decode cc pc = .ok (.areturn, 1)) (hk : k ≤ K) (hn : n ≤ N) {a : Nat} (hr : Rel (some (.ref a)) ws) : yW Γ nL pc L [.ref a] ws k n := by
  obtain ⟨⟨p, l, e, R, s, m0, args, below, meth, c⟩, ⟨A, dC, dI, dA, sa⟩, Q⟩ := Γ
  intro H locs ls hP hD hS hv
  exact hR H locs ls pc k n a ws hk hn hr hP hD hS hd
/-- cells that are not wanted any more -/
theorem t_pick {ws' : va_W} (is : List Nat) (hi : is.map (fun i => ws[i]?) = ws'.map some) (hnd : va_nd is = true) (h : yW Γ nL pc L st ws' k n) : yW Γ nL pc L st ws k n := by
  obtain ⟨⟨p, l, e, R, s, m0, args, below, meth, c⟩, ⟨A, dC, dI, dA, sa⟩, Q⟩ := Γ
  intro H locs ls hP hD hS hv
  refine h H locs ls (fun j q hq => ?_) (hD.sub is hnd hi) hS hv
  have h1 : (is.map (fun i => ws[i]?))[j]? = some (some q) := by rw [hi, List.getElem?_map, hq]; rfl
  rw [List.getElem?_map] at h1
  cases hj : is[j]? with
  | none => rw [hj] at h1; cases h1
  | some i => rw [hj] at h1; exact hP i q (Option.some.inj h1)
end TR
section TA
variable {p : Program} {l : Launch} {e : Env} {R : Room} {s : State} {m0 : MethodId} {args : Array Value} {below : List Frame} {meth : Method} {c : Code} {H : Heap} {locs : List Loc} {Q : State → Prop} {A : Nat → Prop} {dC : Nat → ClassId} {dI : Nat → Nat → Nat} {dA : Nat → ClassId} {sa : Nat → Nat}
theorem t_after {wa wc : va_W} {nL pc k n KY NY : Nat} {L : List (Nat × Value)} {st st0 : List Value} {ls : Array Slot} {Rel : Option Value → va_W → Prop} {Qa : State → Outcome → State → Prop} {Fr : Nat → Prop} (hP : va_P (dC, dI) vwCl (wa ++ wc) H) (hD : va_D A (wa ++ wc)) (hS : va_S A s.heap H locs) (hA : ∀ q : Nat, s.heap.size ≤ q → A q) (hl : lv_has ls nL L)
    (hr : va_Run p l e R s m0 args below meth c H locs k n KY NY (F0 m0 pc ls st0) st Qa Fr) (hFr : ∀ q, Fr q → va_A wc H.size q)
    (hQa : ∀ (st₀ t : State) (v : Option Value), st₀.heap = H → Qa st₀ (.returned v) t → ∃ w' : va_W, Rel v w' ∧ va_P (dC, dI) vwCl w' t.heap ∧ va_D (va_A wc H.size) w' ∧ H.size ≤ t.heap.size ∧ ∀ q : Nat, q < H.size → ¬ va_A wc H.size q → t.heap[q]? = H[q]?)
    (kk : ∀ (rv : Option Value) (w' : va_W), Rel rv w' → yW ((p, l, e, R, s, m0, args, below, meth, c), (A, dC, dI, dA, sa), Q) nL (pc + 3) L (rv.toList ++ st) (wa ++ w') (k + KY) (n + NY)) : W p l e R s m0 args below meth c H locs k n Q (F0 m0 pc ls st0) := by
  have hcw : ∀ (i : Nat) (q : Nat × va_E), wc[i]? = some q → (wa ++ wc)[wa.length + i]? = some q := fun i q hi => by rw [List.getElem?_append_right (by omega), Nat.add_sub_cancel_left]; exact hi
  have haw : ∀ (i : Nat) (q : Nat × va_E), wa[i]? = some q → (wa ++ wc)[i]? = some q := fun i q hi => by rw [List.getElem?_append_left (List.getElem?_eq_some_iff.mp hi).1]; exact hi
  have hAA : ∀ q : Nat, va_A wc H.size q → A q := fun q hq => by
    rcases hq with ⟨i, e9, hi⟩ | hq
    · exact hD.2 _ (q, e9) (hcw i _ hi)
    · exact hA _ (Nat.le_trans hS.1 hq)
  have apart : ∀ (i : Nat) (q : Nat × va_E), wa[i]? = some q → q.1 < H.size ∧ ¬ va_A wc H.size q.1 := fun i q hi => by
    have hlt := (hP _ q (haw i q hi)).lt
    refine ⟨hlt, fun hh => ?_⟩
    rcases hh with ⟨j, e9, hj⟩ | hh
    · have := hD.1 _ _ _ _ (haw i q hi) (hcw j _ hj) rfl
      have := (List.getElem?_eq_some_iff.mp hi).1
      omega
    · omega
  intro Ts hTs X
  obtain ⟨v, st₀, t, T', Lo, h0, X', hL, e1, e2, hq, stp⟩ := hr Ts hTs X
  obtain ⟨w', hrel, hp1, hd1, hz, hkk⟩ := hQa st₀ t v h0 hq
  have hP2 : va_P (dC, dI) vwCl (wa ++ w') T'.heap := by
    rw [e1]
    exact va_P.app (fun i q hi => (hP _ q (haw i q hi)).kept (hkk q.1 (apart i q hi).1 (apart i q hi).2)) hp1
  have hD2 : va_D A (wa ++ w') := va_D.app ⟨fun i j x y hx hy hxy => hD.1 i j x y (haw i x hx) (haw j y hy) hxy, fun i x hx => hD.2 i x (haw i x hx)⟩ (hd1.weaken (fun i x _ h => hAA _ h)) (fun i j x y hx hy hxy => (apart i x hx).2 (by rw [hxy]; exact hd1.2 j y hy))
  obtain ⟨t2, a1, b1⟩ := kk v w' hrel T'.heap (locs ++ Lo) ls hP2 hD2 ⟨Nat.le_trans hS.1 (by rw [e1]; exact hz), fun q h1 h2 => by rw [e1, hkk q (Nat.lt_of_lt_of_le h1 hS.1) (fun z => h2 (hAA q z))]; exact hS.2.1 q h1 h2, fun q hq => by
      rcases List.mem_append.mp hq with h | h
      · exact hS.2.2 q h
      · exact hAA _ (hFr _ (hL q h))⟩ hl T' rfl X'
  exact ⟨t2, stp t2 a1, b1⟩
end TA

/-! ===== texts: calls ===== -/
section TC
variable {Γ : yG} {own : String} {cc : ByteArray} {nL d pc K N k n : Nat} {L : List (Nat × Value)} {st : List Value} {ws wa wc : va_W}
theorem t_pre {s : State} {H : Heap} {locs : List Loc} {A : Nat → Prop} {dC : Nat → ClassId} {dI : Nat → Nat → Nat} {dA : Nat → ClassId} {sa : Nat → Nat} (hP : va_P (dC, dI) vwCl (wa ++ wc) H) (hD : va_D A (wa ++ wc)) (hS : va_S A s.heap H locs) (hA : ∀ q : Nat, s.heap.size ≤ q → A q) (hK : va_K (dC, dI) vwCl (ytys dA) s) (hT : yTab s) (hX : ySt sa A s s.heap) (hG : xDg sa A s s.heap) : ∀ U : State, U.heap = H → s.WarmedH U.vm → tPre dC dI dA sa wc H.size U := by
  intro U hU hW
  have hcw : ∀ (i : Nat) (q : Nat × va_E), wc[i]? = some q → (wa ++ wc)[wa.length + i]? = some q := fun i q hi => by rw [List.getElem?_append_right (by omega), Nat.add_sub_cancel_left]; exact hi
  have hAA : ∀ q : Nat, va_A wc H.size q → A q := fun q hq => by
    rcases hq with ⟨i, e9, hi⟩ | hq
    · exact hD.2 _ (q, e9) (hcw i _ hi)
    · exact hA _ (Nat.le_trans hS.1 hq)
  refine ⟨by rw [hU], fun i q hi => by rw [hU]; exact hP _ q (hcw i q hi), ⟨fun i j x y hx hy hxy => ?_, fun _ _ _ => trivial⟩, va_K.moved hW.alike hK, hT.warm hW, by rw [hU]; exact ySt.goes hW hX (fun _ => rfl) (fun q h1 h2 => hS.2.1 q h1 h2) hAA, by rw [hU]; exact xDg.goes hW hG (fun _ => rfl) (fun q h1 h2 => hS.2.1 q h1 h2) hAA⟩
  have := hD.1 _ _ _ _ (hcw i x hx) (hcw j y hy) hxy
  omega
theorem t_qa {dC : Nat → ClassId} {dI : Nat → Nat → Nat} {H : Heap} {Rel : Option Value → va_W → Prop} : ∀ (st₀ t : State) (v : Option Value), st₀.heap = H → ((∃ (rv : Option Value) (w' : va_W), (Outcome.returned v) = .returned rv ∧ Rel rv w' ∧ va_P (dC, dI) vwCl w' t.heap ∧ va_D (va_A wc H.size) w') ∧ va_F (va_A wc H.size) st₀ t) → ∃ w' : va_W, Rel v w' ∧ va_P (dC, dI) vwCl w' t.heap ∧ va_D (va_A wc H.size) w' ∧ H.size ≤ t.heap.size ∧ ∀ q : Nat, q < H.size → ¬ va_A wc H.size q → t.heap[q]? = H[q]? := by
  intro st₀ t v h0 hq
  obtain ⟨⟨rv, w', hv, hr, hp, hd⟩, hz, hk⟩ := hq
  cases hv
  rw [h0] at hz hk
  exact ⟨w', hr, hp, hd, hz, hk⟩
variable {idx : Nat} {y : MethodName} {cY : ByteArray} {maxL nP dY KY NY : Nat} {ret : Option FieldType} {av : List Value} {Rel : Option Value → va_W → Prop}
/-- a private member of the builder's superclass, on a builder -/
theorem t_callU (C : yC Γ own cc nL d K N) (hG : yDg Γ) {x : Nat} {fs : List Value} (hd : decode cc pc = .ok (.invokevirtual idx, 3)) (hl : Cond.methodLink own idx y ∈ wsL_law) (hsm : Cond.sameMethod y.cls y.cls y.name y.desc ∈ wsL_law) (hse : Cond.selects RJ4 y y ∈ wsL_law) (hin : Cond.instanceMethod y ∈ wsL_law) (hY : xY y cY maxL ret nP) (hdd : dY + 1 ≤ d) (hmax : maxL ≤ 40)
    (q0 : Nat) (he : wc[q0]? = some (x, .inr (1, fs))) (hn : av.length = nP) (hst : (st.map fun v => v.category).sum ≤ 8) (hM : tMet Γ.1.2.1 y cY maxL ret dY KY NY (.ref x :: av) (yDA Γ) (ySA Γ) wc Rel) (hk : k + KY ≤ K) (hn2 : n + NY ≤ N) {stk : List Value} (hs : stk = av.reverse ++ .ref x :: st)
    (h : ∀ (rv : Option Value) (w' : va_W), Rel rv w' → yW Γ nL (pc + 3) L (rv.toList ++ st) (wa ++ w') (k + KY) (n + NY)) : yW Γ nL pc L stk (wa ++ wc) k n := by
  subst hs
  obtain ⟨⟨p, l, e, R, s, m0, args, below, meth, c⟩, ⟨A, dC, dI, dA, sa⟩, Q⟩ := Γ
  obtain ⟨hx, hbc, hml, hown, hts, hK, hA, ⟨hfr, hlo⟩, ⟨hce, hsl⟩, hT, hX⟩ := C
  intro H locs ls hP hD hS hv
  have hcw : (wa ++ wc)[wa.length + q0]? = some (x, .inr (1, fs)) := by rw [List.getElem?_append_right (by omega), Nat.add_sub_cancel_left]; exact he
  have hGW : GoodIn wsL_law (va_wsU own idx RJ4 y.cls y y (Cond.code y cY maxL ret :: wsL_law)) := by
    intro w hw
    unfold va_wsU at hw
    rcases List.mem_append.mp hw with h | h
    · simp only [List.mem_cons, List.not_mem_nil, or_false] at h
      rcases h with rfl | rfl | rfl | rfl | rfl
      · exact xgood1 hl
      · exact xgood1 hsm
      · exact xgood1 hse
      · exact xgood1 hin
      · exact xgood1 hY.2.1
    · exact xgoodY hY.1 w h
  exact t_after hP hD hS hA hv (va_runU (C := RJ4) (nL := nL) (As := av) (rest := st) ⟨hx, hbc, hml, hown, hts⟩ (hM dC dI H.size) (va_cwU nP hts hGW rfl rfl rfl rfl hY.2.2 ⟨by show dY + 1 ≤ R.frames; omega, by show 8 + (maxL + 11) + 60 * dY ≤ R.locals; omega⟩)
    ⟨tPre_blind _ _ _ _ _ _ _, va_recv hK hP (show vwCl[1]? = some (RJ4, TJ4, 4) from rfl) hcw, fun U hU hW => ⟨rfl, t_pre hP hD hS hA hK hT hX hG U hU hW⟩⟩ rfl hn hv.1 rfl (lv_room hst) hd ⟨by omega, by omega⟩) (fun _ h => h) t_qa h
/-- a member of the superclass, told by super -/
theorem t_callSU (C : yC Γ RJ4 cc nL d K N) (hG : yDg Γ) {x : Nat} {fs : List Value} (hd : decode cc pc = .ok (.invokespecial idx, 3)) (hl : Cond.methodLink RJ4 idx y ∈ wsL_law) (hsm : Cond.sameMethod y.cls y.cls y.name y.desc ∈ wsL_law) (hsu : Cond.superclass RJ4 y.cls ∈ wsL_law) (hin : Cond.instanceMethod y ∈ wsL_law) (hia : Cond.instantiable RJ4 4 ∈ wsL_law) (hno : y.name ≠ "<init>") (hY : xY y cY maxL ret nP) (hdd : dY + 1 ≤ d) (hmax : maxL ≤ 40)
    (q0 : Nat) (he : wc[q0]? = some (x, .inr (1, fs))) (hn : av.length = nP) (hst : (st.map fun v => v.category).sum ≤ 8) (hM : tMet Γ.1.2.1 y cY maxL ret dY KY NY (.ref x :: av) (yDA Γ) (ySA Γ) wc Rel) (hk : k + KY ≤ K) (hn2 : n + NY ≤ N) {stk : List Value} (hs : stk = av.reverse ++ .ref x :: st)
    (h : ∀ (rv : Option Value) (w' : va_W), Rel rv w' → yW Γ nL (pc + 3) L (rv.toList ++ st) (wa ++ w') (k + KY) (n + NY)) : yW Γ nL pc L stk (wa ++ wc) k n := by
  subst hs
  obtain ⟨⟨p, l, e, R, s, m0, args, below, meth, c⟩, ⟨A, dC, dI, dA, sa⟩, Q⟩ := Γ
  obtain ⟨hx, hbc, hml, hown, hts, hK, hA, ⟨hfr, hlo⟩, ⟨hce, hsl⟩, hT, hX⟩ := C
  intro H locs ls hP hD hS hv
  have hcw : (wa ++ wc)[wa.length + q0]? = some (x, .inr (1, fs)) := by rw [List.getElem?_append_right (by omega), Nat.add_sub_cancel_left]; exact he
  have hGW : GoodIn wsL_law (va_wsSU RJ4 idx y (Cond.code y cY maxL ret :: wsL_law)) := by
    intro w hw
    unfold va_wsSU at hw
    rcases List.mem_append.mp hw with h | h
    · simp only [List.mem_cons, List.not_mem_nil, or_false] at h
      rcases h with rfl | rfl | rfl | rfl | rfl
      · exact xgood1 hl
      · exact xgood1 hsm
      · exact xgood1 hsu
      · exact xgood1 hin
      · exact xgood1 hY.2.1
    · exact xgoodY hY.1 w h
  obtain ⟨cC, hat⟩ := classAt_of (hts _ hia)
  exact t_after hP hD hS hA hv (va_runSU (C := RJ4) (nL := nL) (As := av) (rest := st) hat ⟨hx, hbc, hml, hown, hts⟩ (hM dC dI H.size) (va_cwSU nP hts hGW rfl rfl rfl ⟨hno, hY.2.2.2.2⟩ ⟨by show dY + 1 ≤ R.frames; omega, by show 8 + (maxL + 11) + 60 * dY ≤ R.locals; omega⟩)
    ⟨tPre_blind _ _ _ _ _ _ _, va_recv hK hP (show vwCl[1]? = some (RJ4, TJ4, 4) from rfl) hcw, fun U hU hW => ⟨rfl, t_pre hP hD hS hA hK hT hX hG U hU hW⟩⟩ rfl hn hv.1 rfl (lv_room hst) hd ⟨by omega, by omega⟩) (fun _ h => h) t_qa h
/-- a member of the receiver's own class -/
theorem t_callV (C : yC Γ own cc nL d K N) (hG : yDg Γ) {x ci : Nat} {fs : List Value} (hd : decode cc pc = .ok (.invokevirtual idx, 3)) (hl : Cond.methodLink own idx y ∈ wsL_law) (hse : Cond.selects y.cls y y ∈ wsL_law) (hin : Cond.instanceMethod y ∈ wsL_law) (hY : xY y cY maxL ret nP) (hdd : dY + 1 ≤ d) (hmax : maxL ≤ 40)
    (q0 : Nat) (he : wc[q0]? = some (x, .inr (ci, fs))) (hci : ∃ TT N9, vwCl[ci]? = some (y.cls, TT, N9)) (hn : av.length = nP) (hst : (st.map fun v => v.category).sum ≤ 8) (hM : tMet Γ.1.2.1 y cY maxL ret dY KY NY (.ref x :: av) (yDA Γ) (ySA Γ) wc Rel) (hk : k + KY ≤ K) (hn2 : n + NY ≤ N) {stk : List Value} (hs : stk = av.reverse ++ .ref x :: st)
    (h : ∀ (rv : Option Value) (w' : va_W), Rel rv w' → yW Γ nL (pc + 3) L (rv.toList ++ st) (wa ++ w') (k + KY) (n + NY)) : yW Γ nL pc L stk (wa ++ wc) k n := by
  subst hs
  obtain ⟨⟨p, l, e, R, s, m0, args, below, meth, c⟩, ⟨A, dC, dI, dA, sa⟩, Q⟩ := Γ
  obtain ⟨hx, hbc, hml, hown, hts, hK, hA, ⟨hfr, hlo⟩, ⟨hce, hsl⟩, hT, hX⟩ := C
  obtain ⟨TT, N9, hci⟩ := hci
  intro H locs ls hP hD hS hv
  have hcw : (wa ++ wc)[wa.length + q0]? = some (x, .inr (ci, fs)) := by rw [List.getElem?_append_right (by omega), Nat.add_sub_cancel_left]; exact he
  have hGW : GoodIn wsL_law (wsV own idx y.cls y (Cond.code y cY maxL ret :: wsL_law)) := by
    intro w hw
    unfold wsV at hw
    rcases List.mem_append.mp hw with h | h
    · simp only [List.mem_cons, List.not_mem_nil, or_false] at h
      rcases h with rfl | rfl | rfl | rfl
      · exact xgood1 hl
      · exact xgood1 hin
      · exact xgood1 hse
      · exact xgood1 hY.2.1
    · exact xgoodY hY.1 w h
  exact t_after hP hD hS hA hv (va_runV (nL := nL) (As := av) (rest := st) ⟨hx, hbc, hml, hown, hts⟩ (hM dC dI H.size) (cwV nP hts hGW rfl rfl rfl ⟨rfl, hY.2.2⟩ ⟨by show dY + 1 ≤ R.frames; omega, by show 8 + (maxL + 11) + 60 * dY ≤ R.locals; omega⟩)
    ⟨tPre_blind _ _ _ _ _ _ _, va_recv hK hP hci hcw, fun U hU hW => ⟨rfl, t_pre hP hD hS hA hK hT hX hG U hU hW⟩⟩ rfl hn hv.1 rfl (lv_room hst) hd ⟨by omega, by omega⟩) (fun _ h => h) t_qa h
/-- a member of a constant text -/
theorem t_callK (C : yC Γ own cc nL d K N) (hG : yDg Γ) {i : Nat} (hi : i < 26) (hcl : y.cls = "java/lang/String") (hd : decode cc pc = .ok (.invokevirtual idx, 3)) (hl : Cond.methodLink own idx y ∈ wsL_law) (hse : Cond.selects y.cls y y ∈ wsL_law) (hin : Cond.instanceMethod y ∈ wsL_law) (hY : xY y cY maxL ret nP) (hdd : dY + 1 ≤ d) (hmax : maxL ≤ 40)
    (hn : av.length = nP) (hst : (st.map fun v => v.category).sum ≤ 8) (hM : tMet Γ.1.2.1 y cY maxL ret dY KY NY (.ref (ySA Γ (1000 + i)) :: av) (yDA Γ) (ySA Γ) wc Rel) (hk : k + KY ≤ K) (hn2 : n + NY ≤ N) {stk : List Value} (hs : stk = av.reverse ++ .ref (ySA Γ (1000 + i)) :: st)
    (h : ∀ (rv : Option Value) (w' : va_W), Rel rv w' → yW Γ nL (pc + 3) L (rv.toList ++ st) (wa ++ w') (k + KY) (n + NY)) : yW Γ nL pc L stk (wa ++ wc) k n := by
  subst hs
  obtain ⟨⟨p, l, e, R, s, m0, args, below, meth, c⟩, ⟨A, dC, dI, dA, sa⟩, Q⟩ := Γ
  obtain ⟨hx, hbc, hml, hown, hts, hK, hA, ⟨hfr, hlo⟩, ⟨hce, hsl⟩, hT, hX⟩ := C
  intro H locs ls hP hD hS hv
  have hrc : ∃ cell : Cell, H[sa (1000 + i)]? = some cell ∧ cell.vm.isStatics = false ∧ s.vm.findClass y.cls = some cell.cls := by
    obtain ⟨cell, h1, h2, h3, -⟩ := (hX.1.1 i hi).1.kept hS.2.1
    exact ⟨cell, h1, h2, by rw [hcl]; exact h3⟩
  have hGW : GoodIn wsL_law (wsV own idx y.cls y (Cond.code y cY maxL ret :: wsL_law)) := by
    intro w hw
    unfold wsV at hw
    rcases List.mem_append.mp hw with h | h
    · simp only [List.mem_cons, List.not_mem_nil, or_false] at h
      rcases h with rfl | rfl | rfl | rfl
      · exact xgood1 hl
      · exact xgood1 hin
      · exact xgood1 hse
      · exact xgood1 hY.2.1
    · exact xgoodY hY.1 w h
  exact t_after hP hD hS hA hv (va_runV (nL := nL) (As := av) (rest := st) ⟨hx, hbc, hml, hown, hts⟩ (hM dC dI H.size) (cwV nP hts hGW rfl rfl rfl ⟨rfl, hY.2.2⟩ ⟨by show dY + 1 ≤ R.frames; omega, by show 8 + (maxL + 11) + 60 * dY ≤ R.locals; omega⟩)
    ⟨tPre_blind _ _ _ _ _ _ _, hrc, fun U hU hW => ⟨rfl, t_pre hP hD hS hA hK hT hX hG U hU hW⟩⟩ rfl hn hv.1 rfl (lv_room hst) hd ⟨by omega, by omega⟩) (fun _ h => h) t_qa h
/-- a static member -/
theorem t_callS (C : yC Γ own cc nL d K N) (hG : yDg Γ) (hd : decode cc pc = .ok (.invokestatic idx, 3)) (hl : Cond.methodLink own idx y ∈ wsL_law) (hse : Cond.static y ∈ wsL_law) (hY : xY y cY maxL ret nP) (hdd : dY + 1 ≤ d) (hmax : maxL ≤ 40)
    (hn : av.length = nP) (hst : (st.map fun v => v.category).sum ≤ 8) (hM : tMet Γ.1.2.1 y cY maxL ret dY KY NY av (yDA Γ) (ySA Γ) wc Rel) (hk : k + KY ≤ K) (hn2 : n + NY ≤ N) {stk : List Value} (hs : stk = av.reverse ++ st)
    (h : ∀ (rv : Option Value) (w' : va_W), Rel rv w' → yW Γ nL (pc + 3) L (rv.toList ++ st) (wa ++ w') (k + KY) (n + NY)) : yW Γ nL pc L stk (wa ++ wc) k n := by
  subst hs
  obtain ⟨⟨p, l, e, R, s, m0, args, below, meth, c⟩, ⟨A, dC, dI, dA, sa⟩, Q⟩ := Γ
  obtain ⟨hx, hbc, hml, hown, hts, hK, hA, ⟨hfr, hlo⟩, ⟨hce, hsl⟩, hT, hX⟩ := C
  intro H locs ls hP hD hS hv
  exact t_after hP hD hS hA hv (va_runS (nL := nL) (As := av) (rest := st) ⟨hx, hbc, hml, hown, hts⟩ (hM dC dI H.size) ⟨callB_of nP hts (xgoodY hY.1) rfl rfl rfl (hts _ hY.2.1) (hts _ hl) hY.2.2 ⟨by show dY + 1 ≤ R.frames; omega, by show 8 + (maxL + 11) + 60 * dY ≤ R.locals; omega⟩, hts _ hse⟩
    ⟨tPre_blind _ _ _ _ _ _ _, fun U hU hW => ⟨rfl, t_pre hP hD hS hA hK hT hX hG U hU hW⟩⟩ rfl hn hv.1 rfl (lv_room hst) hd ⟨by omega, by omega⟩) (fun _ h => h) t_qa h
/-- contracts over whole numbers that want no cells: a static member, a member of a constant text -/
theorem t_qx {dC : Nat → ClassId} {dI : Nat → Nat → Nat} {dA : Nat → ClassId} {sa : Nat → Nat} {H : Heap} {rv : Option xV} {mY : xM} : ∀ (st₀ t : State) (v : Option Value), st₀.heap = H → (((Outcome.returned v) = .returned (rv.map (xval sa)) ∧ va_P (dC, dI) vwCl (xwld sa dA mY 0 []) t.heap) ∧ va_F (xAr sa [] H.size) st₀ t) → ∃ w' : va_W, (v = rv.map (xval sa) ∧ w' = []) ∧ va_P (dC, dI) vwCl w' t.heap ∧ va_D (va_A [] H.size) w' ∧ H.size ≤ t.heap.size ∧ ∀ q : Nat, q < H.size → ¬ va_A [] H.size q → t.heap[q]? = H[q]? := by
  intro st₀ t v h0 hq
  obtain ⟨⟨hv, -⟩, hz, hk⟩ := hq
  cases hv
  rw [h0] at hz hk
  refine ⟨[], ⟨rfl, rfl⟩, fun i q hi => (by cases hi), ⟨fun i j x y hx => (by cases hx), fun i x hx => (by cases hx)⟩, hz, fun q h1 h2 => hk q h1 (fun hh => h2 ?_)⟩
  rcases hh with ⟨i, hi, _⟩ | hh
  · exact absurd hi (Nat.not_lt_zero i)
  · exact Or.inr hh
theorem t_fx {sa : Nat → Nat} {sz : Nat} : ∀ q, xAr sa [] sz q → va_A [] sz q := by
  intro q hh
  rcases hh with ⟨i, hi, _⟩ | hh
  · exact absurd hi (Nat.not_lt_zero i)
  · exact Or.inr hh
theorem t_prex {s : State} {H : Heap} {locs : List Loc} {A : Nat → Prop} {dC : Nat → ClassId} {dI : Nat → Nat → Nat} {dA : Nat → ClassId} {sa : Nat → Nat} {m : xM} (hS : va_S A s.heap H locs) (hA : ∀ q : Nat, s.heap.size ≤ q → A q) (hK : va_K (dC, dI) vwCl (ytys dA) s) (hX : ySt sa A s s.heap) : ∀ U : State, U.heap = H → s.WarmedH U.vm → xPre dC dI dA sa [] m H.size U := by
  intro U hU hW
  refine ⟨by rw [hU], fun i q hi => (by cases hi), (va_K.moved hW.alike hK).sub (tys' := xtys dA) [0, 1, 2, 3] rfl, fun i j hi => absurd hi (Nat.not_lt_zero i), ?_⟩
  rw [hU]
  refine xStr.goes hW hX.1 (fun _ => rfl) (fun q h1 h2 => hS.2.1 q h1 h2) (fun q hh => ?_)
  rcases hh with ⟨i, hi, _⟩ | hh
  · exact absurd hi (Nat.not_lt_zero i)
  · exact hA _ (Nat.le_trans hS.1 hh)
theorem t_callSx (C : yC Γ own cc nL d K N) {a : List xV} {m mY : xM} {rv : Option xV} (hd : decode cc pc = .ok (.invokestatic idx, 3)) (hl : Cond.methodLink own idx y ∈ wsL_law) (hse : Cond.static y ∈ wsL_law) (hY : xY y cY maxL ret nP) (hdd : dY + 1 ≤ d) (hmax : maxL ≤ 40)
    (hn : a.length = nP) (hst : (st.map fun v => v.category).sum ≤ 8) (hM : xMet Γ.1.2.1 y cY maxL ret dY [] a m rv mY) (hk : k ≤ K) (hn2 : n ≤ N) {stk : List Value} (hs : stk = (a.map (xval (ySA Γ))).reverse ++ st)
    (h : yW Γ nL (pc + 3) L ((rv.map (xval (ySA Γ))).toList ++ st) ws k n) : yW Γ nL pc L stk ws k n := by
  subst hs
  obtain ⟨⟨p, l, e, R, s, m0, args, below, meth, c⟩, ⟨A, dC, dI, dA, sa⟩, Q⟩ := Γ
  obtain ⟨hx, hbc, hml, hown, hts, hK, hA, ⟨hfr, hlo⟩, ⟨hce, hsl⟩, hT, hX⟩ := C
  intro H locs ls hP hD hS hv
  refine t_after (dA := dA) (sa := sa) (wa := ws) (wc := []) (KY := 0) (NY := 0) (Rel := fun r w' => r = rv.map (xval sa) ∧ w' = []) (by rw [List.append_nil]; exact hP) (by rw [List.append_nil]; exact hD) hS hA hv (va_runS (nL := nL) (As := a.map (xval sa)) (rest := st) ⟨hx, hbc, hml, hown, hts⟩ (hM dC dI dA sa H.size) ⟨callB_of nP hts (xgoodY hY.1) rfl rfl rfl (hts _ hY.2.1) (hts _ hl) hY.2.2 ⟨by show dY + 1 ≤ R.frames; omega, by show 8 + (maxL + 11) + 60 * dY ≤ R.locals; omega⟩, hts _ hse⟩
    ⟨xPre_blind _ _ _ _ _ _ _ _, fun U hU hW => ⟨rfl, t_prex hS hA hK hX U hU hW⟩⟩ rfl (by rw [List.length_map]; exact hn) hv.1 rfl (lv_room hst) hd ⟨by omega, by omega⟩) t_fx t_qx (fun r w' hr => ?_)
  obtain ⟨rfl, rfl⟩ := hr
  rw [List.append_nil]
  exact h
theorem t_callKx (C : yC Γ own cc nL d K N) {i : Nat} (hi : i < 26) (hcl : y.cls = "java/lang/String") {a : List xV} {m mY : xM} {rv : Option xV} (hd : decode cc pc = .ok (.invokevirtual idx, 3)) (hl : Cond.methodLink own idx y ∈ wsL_law) (hse : Cond.selects y.cls y y ∈ wsL_law) (hin : Cond.instanceMethod y ∈ wsL_law) (hY : xY y cY maxL ret nP) (hdd : dY + 1 ≤ d) (hmax : maxL ≤ 40)
    (hn : a.length = nP) (hst : (st.map fun v => v.category).sum ≤ 8) (hM : xMet Γ.1.2.1 y cY maxL ret dY [] (.inr (.inr (some (1000 + i))) :: a) m rv mY) (hk : k ≤ K) (hn2 : n ≤ N) {stk : List Value} (hs : stk = (a.map (xval (ySA Γ))).reverse ++ .ref (ySA Γ (1000 + i)) :: st)
    (h : yW Γ nL (pc + 3) L ((rv.map (xval (ySA Γ))).toList ++ st) ws k n) : yW Γ nL pc L stk ws k n := by
  subst hs
  obtain ⟨⟨p, l, e, R, s, m0, args, below, meth, c⟩, ⟨A, dC, dI, dA, sa⟩, Q⟩ := Γ
  obtain ⟨hx, hbc, hml, hown, hts, hK, hA, ⟨hfr, hlo⟩, ⟨hce, hsl⟩, hT, hX⟩ := C
  intro H locs ls hP hD hS hv
  have hrc : ∃ cell : Cell, H[sa (1000 + i)]? = some cell ∧ cell.vm.isStatics = false ∧ s.vm.findClass y.cls = some cell.cls := by
    obtain ⟨cell, h1, h2, h3, -⟩ := (hX.1.1 i hi).1.kept hS.2.1
    exact ⟨cell, h1, h2, by rw [hcl]; exact h3⟩
  have hGW : GoodIn wsL_law (wsV own idx y.cls y (Cond.code y cY maxL ret :: wsL_law)) := by
    intro w hw
    unfold wsV at hw
    rcases List.mem_append.mp hw with h | h
    · simp only [List.mem_cons, List.not_mem_nil, or_false] at h
      rcases h with rfl | rfl | rfl | rfl
      · exact xgood1 hl
      · exact xgood1 hin
      · exact xgood1 hse
      · exact xgood1 hY.2.1
    · exact xgoodY hY.1 w h
  refine t_after (dA := dA) (sa := sa) (wa := ws) (wc := []) (KY := 0) (NY := 0) (Rel := fun r w' => r = rv.map (xval sa) ∧ w' = []) (by rw [List.append_nil]; exact hP) (by rw [List.append_nil]; exact hD) hS hA hv (va_runV (nL := nL) (As := a.map (xval sa)) (rest := st) ⟨hx, hbc, hml, hown, hts⟩ (hM dC dI dA sa H.size) (cwV nP hts hGW rfl rfl rfl ⟨rfl, hY.2.2⟩ ⟨by show dY + 1 ≤ R.frames; omega, by show 8 + (maxL + 11) + 60 * dY ≤ R.locals; omega⟩)
    ⟨xPre_blind _ _ _ _ _ _ _ _, hrc, fun U hU hW => ⟨rfl, t_prex hS hA hK hX U hU hW⟩⟩ rfl (by rw [List.length_map]; exact hn) hv.1 rfl (lv_room hst) hd ⟨by omega, by omega⟩) t_fx t_qx (fun r w' hr => ?_)
  obtain ⟨rfl, rfl⟩ := hr
  rw [List.append_nil]
  exact h
end TC

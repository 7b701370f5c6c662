/-! ===== methods with handlers: what they want, a call that throws and is caught ===== -/
def wPre (dC : Nat → ClassId) (dI : Nat → Nat → Nat) (dA : Nat → ClassId) (ad : Nat → Nat) (ws : va_W) (sz : Nat) (U : State) : Prop :=
  U.heap.size = sz ∧ va_P (dC, dI) vwCl ws U.heap ∧ va_D (fun _ => True) ws ∧ va_K (dC, dI) vwCl (ytys dA) U ∧ yTab U ∧ ySt ad (va_A ws sz) U U.heap ∧ xTh (va_A ws sz) U U.heap ∧ va_Nc xE1 xE2 U
theorem wPre_blind (av : List Value) (dC : Nat → ClassId) (dI : Nat → Nat → Nat) (dA : Nat → ClassId) (ad : Nat → Nat) (ws : va_W) (sz : Nat) : FrameBlind (va_Pc av (wPre dC dI dA ad ws sz)) := by
  intro a U g mk q
  obtain ⟨q0, q1, qP, qD, qK, qT, qS, qH, qN⟩ := q
  exact ⟨q0, q1, qP, qD, va_K.moved (u := U) (U := U.calling g mk a) (Vm.Alike.refl U.vm) qK, qT.same (u := U) (U := U.calling g mk a) rfl, qS.same (u := U) (U := U.calling g mk a) rfl, qH.same (u := U) (U := U.calling g mk a) rfl, va_Nc.moved (u := U) (U := U.calling g mk a) (Vm.Alike.refl U.vm) qN⟩
def wMet (l : Launch) (y : MethodName) (head : Cond) (d K N : Nat) (av : List Value) (rv : Option Value) (dC : Nat → ClassId) (dI : Nat → Nat → Nat) (dA : Nat → ClassId) (ad : Nat → Nat) (ws ws' : va_W) (sz : Nat) : Prop :=
  Met l y (head :: wsL_law) (yrm d K N) (va_Pc av (wPre dC dI dA ad ws sz)) (fun _ st oc t => (oc = .returned rv ∧ va_P (dC, dI) vwCl ws' t.heap) ∧ va_F (va_A ws sz) st t) K N (va_A ws sz)
/-- what a body with handlers has of its frame -/
def zC (Γ : yG) (hh : List (Nat × Nat × Nat × Nat)) : Prop := match Γ with
  | ((p, l, e, R, s, m0, args, below, meth, c), (A, dC, dI, dA, sa), Q) => c.exceptionTable.toList = tableOf hh ∧ l.stackTraces = false ∧ xTh A s s.heap ∧ va_Nc xE1 xE2 s
def wR (Γ : yG) (cc : ByteArray) (r : Int32) (ws' : va_W) (K N : Nat) : Prop := match Γ with
  | ((p, l, e, R, s, m0, args, below, meth, c), (A, dC, dI, dA, sa), Q) => ∀ (H : Heap) (locs : List Loc) (ls : Array Slot) (pc k n : Nat), k ≤ K → n ≤ N → va_P (dC, dI) vwCl ws' H → va_S A s.heap H locs → decode cc pc = .ok (.ireturn, 1) → W p l e R s m0 args below meth c H locs k n Q (F0 m0 pc ls [.int r])
theorem wMet_of {l : Launch} (hl : l.stackTraces = false) {y : MethodName} {cc : ByteArray} {maxL d K N : Nat} {hh : List (Nat × Nat × Nat × Nat)} {av : List Value} {r : Int32} {dC : Nat → ClassId} {dI : Nat → Nat → Nat} {dA : Nat → ClassId} {ad : Nat → Nat} {ws ws' : va_W} {sz : Nat} (hy : plainName y.cls = true) (hw : (lg_sl av).length ≤ maxL)
    (hb : ∀ Γ : yG, yC Γ y.cls cc maxL d K N → ySA Γ = ad → yDA Γ = dA → zC Γ hh → Γ.1.2.1 = l → wR Γ cc r ws' K N → yW Γ maxL 0 (lv_args 0 av) [] ws 0 0) : wMet l y (Cond.codeWith y cc maxL (some .int) hh) d K N av (some (.int r)) dC dI dA ad ws ws' sz := by
  refine va_MetW (cc := cc) (maxL := maxL) (ret := some .int) (hh := hh) hy rfl ?_
  intro p e s m0 args below meth c s₁ B hml hv
  obtain ⟨rfl, hsz, hP, hD, hK, hT, hX, hH, hN⟩ := hv
  subst hsz
  have hl2 := lv_entry av (n := maxL) hw
  rw [lg_entry_eq]
  have hts := atoms_spec (ws := Cond.codeWith y cc maxL (some .int) hh :: wsL_law) B.pre
  refine hb ((p, l, e, yrm d K N, s, m0, av.toArray, below, meth, c), (va_A ws s.heap.size, dC, dI, dA, ad), _) ?_ rfl rfl ⟨vx_table (x := y) B (hts _ List.mem_cons_self), hl, hH, hN⟩ rfl ?_ s.heap [] _ hP hD.self va_S.rf hl2
  · exact ⟨B.exec, B.bytes, hml, findClass_of_methodNamed B.named, fun w h => hts w (List.mem_cons_of_mem _ h), hK, fun q h => Or.inr h, ⟨Nat.le_refl _, Nat.le_refl _⟩, ⟨Nat.le_refl _, Nat.le_refl _⟩, hT, hX⟩
  · intro H locs ls pc k n hk hn hP1 hS hd
    refine W.widen (k := K) (n := N) hk hn ?_
    exact W.iret (v := r) B.exec B.bytes B.returns (fun t ht hW => ⟨⟨rfl, by rw [ht]; exact hP1⟩, hS.F ht⟩) hS.2.2 hd B.notSynchronized
section YL
variable {Γ : yG} {own : String} {cc : ByteArray} {nL d pc K N k n : Nat} {L : List (Nat × Value)} {st : List Value} {ws wa : va_W}
theorem y_i2l (C : yC Γ own cc nL d K N) {x : Int32} {v : Int64} (hd : decode cc pc = .ok (.i2l, 1)) (hv : x.toInt64 = v) (h : yW Γ nL (pc + 1) L (.long v :: st) ws k n) : yW Γ nL pc L (.int x :: st) ws k n := by
  obtain ⟨⟨p, l, e, R, s, m0, args, below, meth, c⟩, ⟨A, dC, dI, dA, sa⟩, Q⟩ := Γ
  obtain ⟨hx, hb, -⟩ := C
  intro H locs ls hP hD hS hl
  exact lv_i2l hx hb hd hv (h H locs ls hP hD hS hl)
theorem y_lastore0 (C : yC Γ own cc nL d K N) {o : Nat} {g : Nat → Int64} {v : Int64} (hd : decode cc pc = .ok (.lastore, 1)) (h : yW Γ nL (pc + 1) L st ((o, .inl (yDA Γ 1, 1, .inr (.inl (fun j => if j = 0 then v else g j)))) :: wa) k n) : yW Γ nL pc L (.long v :: .int 0 :: .ref o :: st) ((o, .inl (yDA Γ 1, 1, .inr (.inl g))) :: wa) k n := by
  obtain ⟨⟨p, l, e, R, s, m0, args, below, meth, c⟩, ⟨A, dC, dI, dA, sa⟩, Q⟩ := Γ
  obtain ⟨hx, hb, hml, hown, hts, hK, hA, hfr, hce, hT, hX⟩ := C
  intro H locs ls hP hD hS hl
  exact va_last hx hb hK hP hD hS 0 1 rfl rfl (by unfold vp_in; decide) hd (fun H1 locs1 hP1 hD1 hS1 => h H1 locs1 ls hP1 hD1 hS1 hl)
theorem y_laload0 (C : yC Γ own cc nL d K N) {o : Nat} {g : Nat → Int64} (q0 : Nat) (hd : decode cc pc = .ok (.laload, 1)) (ha : ws[q0]? = some (o, .inl (yDA Γ 1, 1, .inr (.inl g)))) (h : yW Γ nL (pc + 1) L (.long (g 0) :: st) ws k n) : yW Γ nL pc L (.int 0 :: .ref o :: st) ws k n := by
  obtain ⟨⟨p, l, e, R, s, m0, args, below, meth, c⟩, ⟨A, dC, dI, dA, sa⟩, Q⟩ := Γ
  obtain ⟨hx, hb, hml, hown, hts, hK, hA, hfr, hce, hT, hX⟩ := C
  intro H locs ls hP hD hS hl
  exact va_lald hx hb hK hP q0 1 ha rfl (by unfold vp_in; decide) hd (h H locs ls hP hD hS hl)
theorem y_astoren (C : yC Γ own cc nL d K N) {kk : Fin 4} {i x : Nat} {L' : List (Nat × Value)} (hd : decode cc pc = .ok (.astore_n kk, 1)) (hi : (kk : Nat) = i) (hn9 : i < nL) (hL : (i, Value.ref x) :: L.filter (fun q => !(q.1 == i) && !(q.1 + 1 == i && q.2.category == 2)) = L') (h : yW Γ nL (pc + 1) L' st ws k n) : yW Γ nL pc L (.ref x :: st) ws k n := by
  obtain ⟨⟨p, l, e, R, s, m0, args, below, meth, c⟩, ⟨A, dC, dI, dA, sa⟩, Q⟩ := Γ
  obtain ⟨hx, hb, -⟩ := C
  intro H locs ls hP hD hS hv
  exact lv_astore_n hx hb hd hi hv hn9 hL (fun ls' hv' => h H locs ls' hP hD hS hv')
theorem y_astore (C : yC Γ own cc nL d K N) {i x : Nat} {L' : List (Nat × Value)} (hd : decode cc pc = .ok (.astore i, 2)) (hn9 : i < nL) (hL : (i, Value.ref x) :: L.filter (fun q => !(q.1 == i) && !(q.1 + 1 == i && q.2.category == 2)) = L') (h : yW Γ nL (pc + 2) L' st ws k n) : yW Γ nL pc L (.ref x :: st) ws k n := by
  obtain ⟨⟨p, l, e, R, s, m0, args, below, meth, c⟩, ⟨A, dC, dI, dA, sa⟩, Q⟩ := Γ
  obtain ⟨hx, hb, -⟩ := C
  intro H locs ls hP hD hS hv
  exact lv_astore hx hb hd hv hn9 hL (fun ls' hv' => h H locs ls' hP hD hS hv')
theorem y_aloadw (C : yC Γ own cc nL d K N) {i x : Nat} (pl : Nat) (hd : decode cc pc = .ok (.aload i, 2)) (hL : L[pl]? = some (i, .ref x)) (h : yW Γ nL (pc + 2) L (.ref x :: st) ws k n) : yW Γ nL pc L st ws k n := by
  obtain ⟨⟨p, l, e, R, s, m0, args, below, meth, c⟩, ⟨A, dC, dI, dA, sa⟩, Q⟩ := Γ
  obtain ⟨hx, hb, -⟩ := C
  intro H locs ls hP hD hS hv
  exact lv_aload hx hb hd (lv_at hv pl hL) (h H locs ls hP hD hS hv)
theorem y_iloadw (C : yC Γ own cc nL d K N) {i : Nat} {x : Int32} (pl : Nat) (hd : decode cc pc = .ok (.iload i, 2)) (hL : L[pl]? = some (i, .int x)) (h : yW Γ nL (pc + 2) L (.int x :: st) ws k n) : yW Γ nL pc L st ws k n := by
  obtain ⟨⟨p, l, e, R, s, m0, args, below, meth, c⟩, ⟨A, dC, dI, dA, sa⟩, Q⟩ := Γ
  obtain ⟨hx, hb, -⟩ := C
  intro H locs ls hP hD hS hv
  exact lv_iload hx hb hd (lv_at hv pl hL) (h H locs ls hP hD hS hv)
theorem y_istorew (C : yC Γ own cc nL d K N) {i : Nat} {x : Int32} {L' : List (Nat × Value)} (hd : decode cc pc = .ok (.istore i, 2)) (hn9 : i < nL) (hL : (i, Value.int x) :: L.filter (fun q => !(q.1 == i) && !(q.1 + 1 == i && q.2.category == 2)) = L') (h : yW Γ nL (pc + 2) L' st ws k n) : yW Γ nL pc L (.int x :: st) ws k n := by
  obtain ⟨⟨p, l, e, R, s, m0, args, below, meth, c⟩, ⟨A, dC, dI, dA, sa⟩, Q⟩ := Γ
  obtain ⟨hx, hb, -⟩ := C
  intro H locs ls hP hD hS hv
  exact lv_istore hx hb hd hv hn9 hL (fun ls' hv' => h H locs ls' hP hD hS hv')
theorem w_ret {r : Int32} {ws' : va_W} (hR : wR Γ cc r ws' K N) (hd : decode cc pc = .ok (.ireturn, 1)) (hk : k ≤ K) (hn : n ≤ N) : yW Γ nL pc L [.int r] ws' k n := by
  obtain ⟨⟨p, l, e, R, s, m0, args, below, meth, c⟩, ⟨A, dC, dI, dA, sa⟩, Q⟩ := Γ
  intro H locs ls hP hD hS hv
  exact hR H locs ls pc k n hk hn hP hS hd
/-- a method of the last part of the world throws, and a handler takes it -/
theorem y_catch (C : yC Γ own cc nL d K N) {hh : List (Nat × Nat × Nat × Nat)} (Z : zC Γ hh) {idx : Nat} {y : MethodName} {cY : ByteArray} {maxL nP dY b ci : Nat} {ret : Option FieldType} {fs : List (Option Nat)} {layY : List xS} {av : List xV} {m : xM} {E nm : String} (ad' : Nat → Nat) (hd : decode cc pc = .ok (.invokevirtual idx, 3)) (hl : Cond.methodLink own idx y ∈ wsL_law) (hY : xY y cY maxL ret nP) (hin : Cond.instanceMethod y ∈ wsL_law) (hse : Cond.selects y.cls y y ∈ wsL_law) (hdd : dY + 1 ≤ d) (hmax : maxL ≤ 40)
    (hb : layY[b]? = some (.inl (ci, fs))) (hci : ∃ TT N, vwCl[ci]? = some (y.cls, TT, N)) (hn : av.length = nP) (hst : (st.map fun v => v.category).sum ≤ 8) (hM : xMetT Γ.1.2.1 y cY maxL ret dY layY (.inr (.inr (some b)) :: av) m E) (hk : k + 1 ≤ K) (hn2 : n + 6 ≤ N) (hsa : ∀ i : Nat, ad' (1000 + i) = ySA Γ (1000 + i)) {stk : List Value} (hs : stk = (av.map (xval ad')).reverse ++ .ref (ad' b) :: st)
    (pre : List ExceptionTableEntry) (x : ExceptionTableEntry) (suf : List ExceptionTableEntry) (hsplit : tableOf hh = pre ++ x :: suf) (hpass : ∀ z ∈ pre, covers z pc = false ∨ (z.catchType ≠ 0 ∧ E = xE1 ∧ Cond.classLink own z.catchType xE2 ∈ wsL_law)) (hcov : covers x pc = true) (h0 : x.catchType ≠ 0) (hlink : Cond.classLink own x.catchType nm ∈ wsL_law) (hcast : Cond.castable E nm ∈ xTb)
    (h : ∀ q9 : Nat, yW Γ nL x.handlerPc L [.ref q9] (wa ++ xwld ad' (yDA Γ) m 0 layY) (k + 1) (n + 6)) : yW Γ nL pc L stk (wa ++ xwld ad' (yDA Γ) m 0 layY) k n := by
  subst hs
  obtain ⟨⟨p, l, e, R, s, m0, args, below, meth, c⟩, ⟨A, dC, dI, dA, sa⟩, Q⟩ := Γ
  obtain ⟨hx, hbc, hml, hown, hts, hK, hA, ⟨hfr, hlo⟩, ⟨hce, hsl⟩, hT, hX⟩ := C
  obtain ⟨htab, hll, hTh, hNc⟩ := Z
  intro H locs ls hP hD hS hv
  have hPY : va_P (dC, dI) vwCl (xwld ad' dA m 0 layY) H := fun i q hi => by
    refine hP (wa.length + i) q ?_
    rw [List.getElem?_append_right (by omega), Nat.add_sub_cancel_left]; exact hi
  have hget : ∀ i, i < layY.length → ∃ s9, (xwld ad' dA m 0 layY)[i]? = some (ad' i, s9) := fun i hi => by
    rw [xwld_get, List.getElem?_eq_getElem hi, Nat.zero_add]
    exact ⟨_, rfl⟩
  have hget2 : ∀ i, i < layY.length → ∃ s9, (wa ++ xwld ad' dA m 0 layY)[wa.length + i]? = some (ad' i, s9) := fun i hi => by
    obtain ⟨s9, h9⟩ := hget i hi
    exact ⟨s9, by rw [List.getElem?_append_right (by omega), Nat.add_sub_cancel_left]; exact h9⟩
  have hinj : ∀ i j : Nat, i < layY.length → j < layY.length → ad' i = ad' j → i = j := fun i j hi hj hij => by
    obtain ⟨s1, h1⟩ := hget2 i hi
    obtain ⟨s2, h2⟩ := hget2 j hj
    have := hD.1 _ _ _ _ h1 h2 hij
    omega
  have hAin : ∀ i, i < layY.length → A (ad' i) := fun i hi => by
    obtain ⟨s1, h1⟩ := hget2 i hi
    exact hD.2 _ _ h1
  have hMy := hM dC dI dA ad' H.size
  have hAA2 : ∀ q : Nat, xAr ad' layY H.size q → A q := fun q h2 => by
    rcases h2 with ⟨i, hi, rfl⟩ | h2
    · exact hAin i hi
    · exact hA _ (Nat.le_trans hS.1 h2)
  obtain ⟨TT, N9, hci⟩ := hci
  have hGW : GoodIn wsL_law (wsV own idx y.cls y (Cond.code y cY maxL ret :: wsL_law)) := by
    intro w hw
    unfold wsV at hw
    rcases List.mem_append.mp hw with h | h
    · simp only [List.mem_cons, List.not_mem_nil, or_false] at h
      rcases h with rfl | rfl | rfl | rfl
      · exact xgood1 hl
      · exact xgood1 hin
      · exact xgood1 hse
      · exact xgood1 hY.2.1
    · exact xgoodY hY.1 w h
  have hrun := vx_runV (p := p) (l := l) (e := e) (R := R) (s := s) (m := m0) (args := args) (below := below) (meth := meth) (c := c) (H := H) (locs := locs) (cells := k) (slots := n) (nL := nL) (As := av.map (xval ad')) (rest := st) (g := F0 m0 pc ls ((av.map (xval ad')).reverse ++ .ref (ad' b) :: st))
    ⟨hx, hbc, hml, hown, hts⟩ hMy (cwV nP hts hGW rfl rfl rfl ⟨rfl, hY.2.2⟩ ⟨by show dY + 1 ≤ R.frames; omega, by show 8 + (maxL + 11) + 60 * dY ≤ R.locals; omega⟩)
    ⟨xPreT_blind _ _ _ _ _ _ _ _, va_recv hK hPY hci (xwld_at hb), fun U hU hW => ⟨rfl, ⟨by rw [hU], by rw [hU]; exact hPY, (va_K.moved hW.alike hK).sub (tys' := xtys dA) [0, 1, 2, 3] rfl, hinj, by rw [hU]; exact xStr.goes hW hX.1 hsa (fun q h1 h2 => hS.2.1 q h1 h2) hAA2⟩, by rw [hU]; exact xTh.goes hW hTh (fun q h1 h2 => hS.2.1 q h1 h2) hAA2⟩⟩
    rfl (by rw [List.length_map]; exact hn) hv.1 rfl (lv_room hst) hd ⟨by omega, by omega⟩
  intro Ts hTs X
  rcases hrun Ts hTs X with ⟨v, st₀, t, T', Lo, h0', X', hL, e1, e2, hf, stp⟩ | ⟨q, st₀, t, T', Lo, E', ce, h0', X', hL, e1, e2, ⟨rfl, hP1, hF⟩, hce9, hcv, hcl, stp⟩
  · exact hf.elim
  · have hAA : ∀ q : Nat, q < H.size → xAr ad' layY H.size q → A q := fun q _ h2 => hAA2 q h2
    obtain ⟨k1, k2, k3⟩ := vx_keep h0' e1 hS hAA hAA2 hL hF
    have hP2 : va_P (dC, dI) vwCl (wa ++ xwld ad' dA m 0 layY) T'.heap := by
      refine ((ya_app hP).kept (fun i x hx => ?_)).app (by rw [e1]; exact hP1)
      have hil := (List.getElem?_eq_some_iff.mp hx).1
      have hx2 : (wa ++ xwld ad' dA m 0 layY)[i]? = some x := by rw [List.getElem?_append_left hil]; exact hx
      refine k2 x.1 (hP i x hx2).lt (fun hh => ?_)
      rcases hh with ⟨j, hj, hq⟩ | hh
      · obtain ⟨s1, h1⟩ := hget2 j hj
        have := hD.1 _ _ _ _ hx2 h1 hq
        omega
      · have := (hP i x hx2).lt
        omega
    obtain ⟨t2, a1, b1⟩ := vx_catch (p := p) (l := l) (e := e) (R := R) (s := s) (m := m0) (args := args) (below := below) (meth := meth) (c := c) (H := T'.heap) (locs := locs ++ Lo) (cells := k + 1) (slots := n + 6) (Q := Q) (pc := pc) (ls := ls) (rest := st) (E := E') (name := nm) (own := own) (ce := ce) (q := q) hown pre x suf (htab.trans hsplit)
      (fun z hz => by
        rcases hpass z hz with h | ⟨h1, h2, h3⟩
        · exact Or.inl h
        · exact Or.inr ⟨h1, xE2, hts _ h3, by rw [h2]; exact hNc⟩) hcov h0 (hts _ hlink) (va_Nw.use (A := args) (xTb_on _ hcast) (hTh.2.2.1 _ hcast)) (by rw [e1]; exact hce9) hcv hcl
      (h q T'.heap (locs ++ Lo) ls hP2 hD k3 hv) T' rfl X'
    exact ⟨t2, stp.trans a1, b1⟩
end YL

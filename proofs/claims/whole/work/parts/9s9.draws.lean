/-! ===== calls that answer by a float: the record of draws goes on ===== -/
def yd (Γ : yG) (d : Drawn) : yG := ((Γ.1.1, Γ.1.2.1, Γ.1.2.2.1, Γ.1.2.2.2.1, Γ.1.2.2.2.2.1.setDrawn d, Γ.1.2.2.2.2.2), Γ.2)
def ydB (Γ : yG) (d : Drawn) : Prop := Γ.1.2.2.2.2.1.drawn.sameBut d lw_cs
theorem yd_C {Γ : yG} {own : String} {cc : ByteArray} {nL dd K N : Nat} (C : yC Γ own cc nL dd K N) (d : Drawn) : yC (yd Γ d) own cc nL dd K N := by
  obtain ⟨⟨p, l, e, R, s, m0, args, below, meth, c⟩, ⟨A, dC, dI, dA, sa⟩, Q⟩ := Γ
  obtain ⟨hx, hb, hml, hown, hts, hK, hA, hfl, hkn, hT, hX⟩ := C
  exact ⟨hx, hb, hml, hown, dr_words hts d, va_K.moved (u := s) (U := s.setDrawn d) (Vm.Alike.refl s.vm) hK, hA, hfl, hkn, yTab.warm (u := s) (U := s.setDrawn d) (State.WarmedH.refl s) hT, ySt.same (u := s) (U := s.setDrawn d) rfl hX⟩
theorem yd_Z {Γ : yG} {b Ln : Nat} {xs : Nat → Int32} (Z : lC Γ b Ln xs) (d : Drawn) : lC (yd Γ d) b Ln xs := by
  obtain ⟨⟨p, l, e, R, s, m0, args, below, meth, c⟩, ⟨A, dC, dI, dA, sa⟩, Q⟩ := Γ
  obtain ⟨h1, h2, h3, h4, h5, h6⟩ := Z
  exact ⟨va_X.moved (u := s) (U := s.setDrawn d) (Vm.Alike.refl s.vm) h1, h2, h3, xTh.same (u := s) (U := s.setDrawn d) rfl h4, va_Nc.moved (u := s) (U := s.setDrawn d) (Vm.Alike.refl s.vm) h5, h6⟩
/-- a contract of a method that answers a double, a NaN where that is one -/
def xMetD (l : Launch) (y : MethodName) (cc : ByteArray) (maxL : Nat) (d : Nat) (lay : List xS) (av : List xV) (m : xM) (x : UInt64) (m' : xM) : Prop :=
  ∀ (dC : Nat → ClassId) (dI : Nat → Nat → Nat) (dA : Nat → ClassId) (ad : Nat → Nat) (sz : Nat), MetD lw_cs l y (Cond.code y cc maxL (some .double) :: wsL_law) (xrm d) (va_Pc (av.map (xval ad)) (xPre dC dI dA ad lay m sz)) (va_Qd (fun (r : UInt64) (_ : Unit) => alike64 r x = true) (fun _ t => va_P (dC, dI) vwCl (xwld ad dA m' 0 lay) t.heap) (xAr ad lay sz)) 0 0 (xAr ad lay sz)
/-- its two ends: a double at hand, or a division and then its end -/
def xRd (Γ : xG) (lay : List xS) (cc : ByteArray) (x : UInt64) (m : xM) : Prop := match Γ with
  | ((p, l, e, R, s, m0, args, below, meth, c), (A, ad, dC, dI, dA), (cells, slots, Q)) =>
    (∀ (H : Heap) (locs : List Loc) (ls : Array Slot) (pc : Nat), va_P (dC, dI) vwCl (xwld ad dA m 0 lay) H → va_S A s.heap H locs → decode cc pc = .ok (.dreturn, 1) → W p l e R s m0 args below meth c H locs cells slots Q (F0 m0 pc ls [.double x])) ∧
    (∀ (H : Heap) (locs : List Loc) (ls : Array Slot) (pc : Nat) (a b : UInt64), va_P (dC, dI) vwCl (xwld ad dA m 0 lay) H → va_S A s.heap H locs → decode cc pc = .ok (.ddiv, 1) → decode cc (pc + 1) = .ok (.dreturn, 1) → FP.ddiv a b = x → W p l e R s m0 args below meth c H locs cells slots Q (F0 m0 pc ls [.double b, .double a]))
theorem xMetD_of {l : Launch} {y : MethodName} {cc : ByteArray} {maxL d : Nat} {lay : List xS} {av : List xV} {m m' : xM} {x : UInt64} (hy : plainName y.cls = true) (hw : xwid av ≤ maxL)
    (hb : ∀ Γ : xG, xC Γ lay y.cls cc maxL d → xRd Γ lay cc x m' → Γ.1.2.1 = l → xW Γ lay maxL 0 (xargs 0 av) [] m) : xMetD l y cc maxL d lay av m x m' := by
  intro dC dI dA ad sz
  refine MetD.ofW (cc := cc) (maxL := maxL) (ret := some .double) hy rfl ?_
  intro p e s m0 args below meth c s₁ B hml hv hd0
  obtain ⟨rfl, hsz, hP, hK, hD0, hX0⟩ := hv
  subst hsz
  have hl := lv_entry (av.map (xval ad)) (n := maxL) (by rw [xwid_sl]; exact hw)
  rw [lg_entry_eq]
  rw [xargs_lv] at hl
  have hts := dr_words (fun w h => atoms_spec (ws := Cond.code y cc maxL (some .double) :: wsL_law) B.pre w (List.mem_cons_of_mem _ h)) s.drawn
  refine hb ((p, l, e, xrm d, s.setDrawn s.drawn, m0, (av.map (xval ad)).toArray, below, meth, c), (xAr ad lay s.heap.size, ad, dC, dI, dA), (0, 0, _)) ?_ ?_ rfl s.heap [] _ hP va_S.rf hl
  · exact ⟨B.exec, B.bytes, hml, findClass_of_methodNamed B.named, hts, hK, xAr_D hD0, fun q h => Or.inr h, Nat.le_refl _, Nat.le_refl _, Nat.le_refl _, Nat.le_refl _, hX0⟩
  · refine ⟨fun H locs ls pc hP hS hd => ?_, fun H locs ls pc a b hP hS hd hd2 hab => ?_⟩
    · refine W.endD hd0 ?_
      exact W.dret (v := x) B.exec B.bytes B.returns (fun t ht hW => ⟨⟨x, (), rfl, alike64_refl x, by show va_P (dC, dI) vwCl (xwld ad dA m' 0 lay) t.heap; rw [ht]; exact hP⟩, hS.F ht⟩) hS.2.2 hd B.notSynchronized
    · refine lv_ddiv_any hd0 lw_bits B.exec B.bytes hd (fun r d1 hal hd1 => ?_)
      refine W.endD hd1 ?_
      exact W.dret (v := r) B.exec B.bytes B.returns (fun t ht hW => ⟨⟨r, (), rfl, by rw [← hab]; exact hal, by show va_P (dC, dI) vwCl (xwld ad dA m' 0 lay) t.heap; rw [ht]; exact hP⟩, hS.F ht⟩) hS.2.2 hd2 B.notSynchronized
section YPD
variable {Γ : yG} {own : String} {cc : ByteArray} {nL d pc K N k n : Nat} {L : List (Nat × Value)} {st : List Value} {ws wa wb : va_W}
theorem y_callXD {d0 : Drawn} (hd0 : ydB Γ d0) {x : UInt64} (C : yC Γ own cc nL d K N) {idx : Nat} {y : MethodName} {cY : ByteArray} {maxL nP dY b ci : Nat} {fs : List (Option Nat)} {layY : List xS} {av : List xV} {m mY : xM} (ad' : Nat → Nat) (hd : decode cc pc = .ok (.invokevirtual idx, 3)) (hl : Cond.methodLink own idx y ∈ wsL_law) (hY : xY y cY maxL (some .double) nP) (hin : Cond.instanceMethod y ∈ wsL_law) (hse : Cond.selects y.cls y y ∈ wsL_law) (hdd : dY + 1 ≤ d) (hmax : maxL ≤ 40)
    (hb : layY[b]? = some (.inl (ci, fs))) (hci : ∃ TT N, vwCl[ci]? = some (y.cls, TT, N)) (hn : av.length = nP) (hst : (st.map fun v => v.category).sum ≤ 8) (hM : xMetD Γ.1.2.1 y cY maxL dY layY (.inr (.inr (some b)) :: av) m x mY) (hk : k ≤ K) (hn2 : n ≤ N) (hsa : ∀ i : Nat, ad' (1000 + i) = ySA Γ (1000 + i)) {stk : List Value} (hs : stk = (av.map (xval ad')).reverse ++ .ref (ad' b) :: st)
    (h : ∀ (r : UInt64) (d' : Drawn), alike64 r x = true → ydB Γ d' → yW (yd Γ d') nL (pc + 3) L (.double r :: st) (wa ++ xwld ad' (yDA Γ) mY 0 layY) k n) : yW (yd Γ d0) nL pc L stk (wa ++ xwld ad' (yDA Γ) m 0 layY) k n := by
  subst hs
  obtain ⟨⟨p, l, e, R, s, m0, args, below, meth, c⟩, ⟨A, dC, dI, dA, sa⟩, Q⟩ := Γ
  have C0 := C
  obtain ⟨hx, hbc, hml, hown, hts, hK, hA, ⟨hfr, hlo⟩, ⟨hce, hsl⟩, hT, hX⟩ := C
  intro H locs ls hP hD hS hv
  have hPY : va_P (dC, dI) vwCl (xwld ad' dA m 0 layY) H := fun i q hi => by
    refine hP (wa.length + i) q ?_
    rw [List.getElem?_append_right (by omega), Nat.add_sub_cancel_left]; exact hi
  have hget : ∀ i, i < layY.length → ∃ s9, (xwld ad' dA m 0 layY)[i]? = some (ad' i, s9) := fun i hi => by
    rw [xwld_get, List.getElem?_eq_getElem hi, Nat.zero_add]
    exact ⟨_, rfl⟩
  have hget2 : ∀ i, i < layY.length → ∃ s9, (wa ++ xwld ad' dA m 0 layY)[wa.length + i]? = some (ad' i, s9) := fun i hi => by
    obtain ⟨s9, h9⟩ := hget i hi
    exact ⟨s9, by rw [List.getElem?_append_right (by omega), Nat.add_sub_cancel_left]; exact h9⟩
  have hinj : ∀ i j : Nat, i < layY.length → j < layY.length → ad' i = ad' j → i = j := fun i j hi hj hij => by
    obtain ⟨s1, h1⟩ := hget2 i hi
    obtain ⟨s2, h2⟩ := hget2 j hj
    have := hD.1 _ _ _ _ h1 h2 hij
    omega
  have hAin : ∀ i, i < layY.length → A (ad' i) := fun i hi => by
    obtain ⟨s1, h1⟩ := hget2 i hi
    exact hD.2 _ _ h1
  have hMy := hM dC dI dA ad' H.size
  have hAA2 : ∀ q : Nat, xAr ad' layY H.size q → A q := fun q h2 => by
    rcases h2 with ⟨i, hi, rfl⟩ | h2
    · exact hAin i hi
    · exact hA _ (Nat.le_trans hS.1 h2)
  obtain ⟨TT, N9, hci⟩ := hci
  have hGW : GoodIn wsL_law (wsV own idx y.cls y (Cond.code y cY maxL (some .double) :: wsL_law)) := by
    intro w hw
    unfold wsV at hw
    rcases List.mem_append.mp hw with h | h
    · simp only [List.mem_cons, List.not_mem_nil, or_false] at h
      rcases h with rfl | rfl | rfl | rfl
      · exact xgood1 hl
      · exact xgood1 hin
      · exact xgood1 hse
      · exact xgood1 hY.2.1
    · exact xgoodY hY.1 w h
  have hrun := va_runV_D (cs := lw_cs) (p := p) (l := l) (e := e) (R := R) (s := s.setDrawn d0) (m := m0) (args := args) (below := below) (meth := meth) (c := c) (H := H) (locs := locs) (cells := k) (slots := n) (nL := nL) (As := av.map (xval ad')) (rest := st) (g := F0 m0 pc ls ((av.map (xval ad')).reverse ++ .ref (ad' b) :: st))
    ⟨hx, hbc, hml, hown, dr_words hts d0⟩ hMy (cwV nP (dr_words hts d0) hGW rfl rfl rfl ⟨rfl, hY.2.2⟩ ⟨by show dY + 1 ≤ R.frames; omega, by show 8 + (maxL + 11) + 60 * dY ≤ R.locals; omega⟩)
    ⟨xPre_blind _ _ _ _ _ _ _ _, va_recv (s := s.setDrawn d0) (va_K.moved (u := s) (U := s.setDrawn d0) (Vm.Alike.refl s.vm) hK) hPY hci (xwld_at hb), fun U hU hW => ⟨rfl, by rw [hU], by rw [hU]; exact hPY, (va_K.moved (u := s) hW.alike hK).sub (tys' := xtys dA) [0, 1, 2, 3] rfl, hinj, by rw [hU]; exact xStr.goes (u := s) hW hX.1 hsa (fun q h1 h2 => hS.2.1 q h1 h2) hAA2⟩⟩
    rfl (by rw [List.length_map]; exact hn) hv.1 rfl (lv_room hst) hd ⟨by omega, by omega⟩
  intro Ts hTs X
  obtain ⟨v, st₀, t, T', Lo, d', hd', h0, X', hL, e1, e2, ⟨⟨r, u9, hv1, hpr, hp1⟩, hz, hkk⟩, stp⟩ := hrun Ts hTs X
  cases hv1
  rw [h0] at hz hkk
  have hP2 : va_P (dC, dI) vwCl (wa ++ xwld ad' dA mY 0 layY) T'.heap := by
    refine ((ya_app hP).kept (fun i x hx => ?_)).app (by rw [e1]; exact hp1)
    have hil := (List.getElem?_eq_some_iff.mp hx).1
    have hx2 : (wa ++ xwld ad' dA m 0 layY)[i]? = some x := by rw [List.getElem?_append_left hil]; exact hx
    rw [e1]
    refine hkk x.1 (hP i x hx2).lt (fun hh => ?_)
    rcases hh with ⟨j, hj, hq⟩ | hh
    · obtain ⟨s1, h1⟩ := hget2 j hj
      have := hD.1 _ _ _ _ hx2 h1 hq
      omega
    · have := (hP i x hx2).lt
      omega
  have hD2 : va_D A (wa ++ xwld ad' dA mY 0 layY) := va_D_addr (by rw [List.map_append, List.map_append, xwld_fst ad' dA m mY]) hD
  obtain ⟨t2, a1, b1⟩ := h r d' hpr (Drawn.sameBut.trans hd0 hd') T'.heap (locs ++ Lo) ls hP2 hD2 ⟨Nat.le_trans hS.1 (by rw [e1]; exact hz), fun q h1 h2 => by rw [e1, hkk q (Nat.lt_of_lt_of_le h1 hS.1) (fun z => h2 (hAA2 q z))]; exact hS.2.1 q h1 h2, fun q hq => by
      rcases List.mem_append.mp hq with h | h
      · exact hS.2.2 q h
      · exact hAA2 _ (hL q h)⟩ hv T' rfl X'
  exact ⟨t2, stp t2 a1, b1⟩
theorem y_callXDm {d0 : Drawn} (hd0 : ydB Γ d0) {x : UInt64} (C : yC Γ own cc nL d K N) {idx : Nat} {y : MethodName} {cY : ByteArray} {maxL nP dY b ci : Nat} {fs : List (Option Nat)} {layY : List xS} {av : List xV} {m mY : xM} (ad' : Nat → Nat) (hd : decode cc pc = .ok (.invokevirtual idx, 3)) (hl : Cond.methodLink own idx y ∈ wsL_law) (hY : xY y cY maxL (some .double) nP) (hin : Cond.instanceMethod y ∈ wsL_law) (hse : Cond.selects y.cls y y ∈ wsL_law) (hdd : dY + 1 ≤ d) (hmax : maxL ≤ 40)
    (hb : layY[b]? = some (.inl (ci, fs))) (hci : ∃ TT N, vwCl[ci]? = some (y.cls, TT, N)) (hn : av.length = nP) (hst : (st.map fun v => v.category).sum ≤ 8) (hM : xMetD Γ.1.2.1 y cY maxL dY layY (.inr (.inr (some b)) :: av) m x mY) (hk : k ≤ K) (hn2 : n ≤ N) (hsa : ∀ i : Nat, ad' (1000 + i) = ySA Γ (1000 + i)) {stk : List Value} (hs : stk = (av.map (xval ad')).reverse ++ .ref (ad' b) :: st)
    (h : ∀ (r : UInt64) (d' : Drawn), alike64 r x = true → ydB Γ d' → yW (yd Γ d') nL (pc + 3) L (.double r :: st) ((wa ++ xwld ad' (yDA Γ) mY 0 layY) ++ wb) k n) : yW (yd Γ d0) nL pc L stk ((wa ++ xwld ad' (yDA Γ) m 0 layY) ++ wb) k n := by
  refine y_perm (ws' := (wa ++ wb) ++ xwld ad' (yDA Γ) m 0 layY) (by rw [List.append_assoc, List.append_assoc]; exact List.Perm.append_left wa List.perm_append_comm) ?_
  refine y_callXD hd0 C ad' hd hl hY hin hse hdd hmax hb hci hn hst hM hk hn2 hsa hs (fun r d' h1 h2 => ?_)
  exact y_perm (ws' := (wa ++ xwld ad' (yDA Γ) mY 0 layY) ++ wb) (by rw [List.append_assoc, List.append_assoc]; exact List.Perm.append_left wa List.perm_append_comm) (h r d' h1 h2)
theorem y_callXDr {d0 : Drawn} (hd0 : ydB Γ d0) {x : UInt64} (C : yC Γ own cc nL d K N) {idx : Nat} {y : MethodName} {cY : ByteArray} {maxL nP dY b ci : Nat} {fs : List (Option Nat)} {layY : List xS} {av : List xV} {m mY : xM} (ad' : Nat → Nat) (hd : decode cc pc = .ok (.invokevirtual idx, 3)) (hl : Cond.methodLink own idx y ∈ wsL_law) (hY : xY y cY maxL (some .double) nP) (hin : Cond.instanceMethod y ∈ wsL_law) (hse : Cond.selects y.cls y y ∈ wsL_law) (hdd : dY + 1 ≤ d) (hmax : maxL ≤ 40)
    (hb : layY[b]? = some (.inl (ci, fs))) (hci : ∃ TT N, vwCl[ci]? = some (y.cls, TT, N)) (hn : av.length = nP) (hst : (st.map fun v => v.category).sum ≤ 8) (hM : xMetD Γ.1.2.1 y cY maxL dY layY (.inr (.inr (some b)) :: av) m x mY) (hk : k ≤ K) (hn2 : n ≤ N) (hsa : ∀ i : Nat, ad' (1000 + i) = ySA Γ (1000 + i)) {stk : List Value} (hs : stk = (av.map (xval ad')).reverse ++ .ref (ad' b) :: st)
    (h : ∀ (r : UInt64) (d' : Drawn), alike64 r x = true → ydB Γ d' → yW (yd Γ d') nL (pc + 3) L (.double r :: st) (wa ++ (wb ++ xwld ad' (yDA Γ) mY 0 layY)) k n) : yW (yd Γ d0) nL pc L stk (wa ++ (wb ++ xwld ad' (yDA Γ) m 0 layY)) k n := by
  rw [← List.append_assoc]
  refine y_callXD hd0 C ad' hd hl hY hin hse hdd hmax hb hci hn hst hM hk hn2 hsa hs (fun r d' h1 h2 => ?_)
  rw [List.append_assoc]
  exact h r d' h1 h2
theorem y_dstore (C : yC Γ own cc nL d K N) {i : Nat} {x : UInt64} {L' : List (Nat × Value)} (hd : decode cc pc = .ok (.dstore i, 2)) (hn9 : i + 1 < nL) (hL : (i, Value.double x) :: L.filter (fun q => !(q.1 == i) && (!(q.1 == i + 1) && !(q.1 + 1 == i && q.2.category == 2))) = L') (h : yW Γ nL (pc + 2) L' st ws k n) : yW Γ nL pc L (.double x :: st) ws k n := by
  obtain ⟨⟨p, l, e, R, s, m0, args, below, meth, c⟩, ⟨A, dC, dI, dA, sa⟩, Q⟩ := Γ
  obtain ⟨hx, hb, -⟩ := C
  intro H locs ls hP hD hS hv
  exact lv_dstore hx hb hd hv hn9 hL (fun ls' hv' => h H locs ls' hP hD hS hv')
theorem y_dload (C : yC Γ own cc nL d K N) {i : Nat} {x : UInt64} (pl : Nat) (hd : decode cc pc = .ok (.dload i, 2)) (hL : L[pl]? = some (i, .double x)) (h : yW Γ nL (pc + 2) L (.double x :: st) ws k n) : yW Γ nL pc L st ws k n := by
  obtain ⟨⟨p, l, e, R, s, m0, args, below, meth, c⟩, ⟨A, dC, dI, dA, sa⟩, Q⟩ := Γ
  obtain ⟨hx, hb, -⟩ := C
  intro H locs ls hP hD hS hv
  exact lv_dload hx hb hd (lv_at hv pl hL) (h H locs ls hP hD hS hv)
theorem y_dcmp (C : yC Γ own cc nL d K N) {x y : UInt64} {op : CmpOp} (hd : decode cc pc = .ok (.dcmp op, 1)) (h : yW Γ nL (pc + 1) L (.int (Op.cmpValue (FP.dcmp x y) op) :: st) ws k n) : yW Γ nL pc L (.double y :: .double x :: st) ws k n := by
  obtain ⟨⟨p, l, e, R, s, m0, args, below, meth, c⟩, ⟨A, dC, dI, dA, sa⟩, Q⟩ := Γ
  obtain ⟨hx, hb, -⟩ := C
  intro H locs ls hP hD hS hv
  exact lv_dcmp hx hb hd (h H locs ls hP hD hS hv)
end YPD
theorem dX10_costPerByte_0 : decode cX10_costPerByte 0 = .ok (.aload_n 0, 1) := by decide +kernel
theorem dX10_costPerByte_1 : decode cX10_costPerByte 1 = .ok (.getfield 27, 3) := by decide +kernel
theorem dX10_costPerByte_4 : decode cX10_costPerByte 4 = .ok (.getfield 178, 3) := by decide +kernel
theorem dX10_costPerByte_7 : decode cX10_costPerByte 7 = .ok (.bipush 10, 2) := by decide +kernel
theorem dX10_costPerByte_9 : decode cX10_costPerByte 9 = .ok (.iaload, 1) := by decide +kernel
theorem dX10_costPerByte_10 : decode cX10_costPerByte 10 = .ok (.istore_n 1, 1) := by decide +kernel
theorem dX10_costPerByte_11 : decode cX10_costPerByte 11 = .ok (.iload_n 1, 1) := by decide +kernel
theorem dX10_costPerByte_12 : decode cX10_costPerByte 12 = .ok (.ifCond .ne 7, 3) := by decide +kernel
theorem dX10_costPerByte_15 : decode cX10_costPerByte 15 = .ok (.dconst 0, 1) := by decide +kernel
theorem dX10_costPerByte_16 : decode cX10_costPerByte 16 = .ok (.goto 19, 3) := by decide +kernel
theorem dX10_costPerByte_19 : decode cX10_costPerByte 19 = .ok (.aload_n 0, 1) := by decide +kernel
theorem dX10_costPerByte_20 : decode cX10_costPerByte 20 = .ok (.getfield 27, 3) := by decide +kernel
theorem dX10_costPerByte_23 : decode cX10_costPerByte 23 = .ok (.getfield 178, 3) := by decide +kernel
theorem dX10_costPerByte_26 : decode cX10_costPerByte 26 = .ok (.bipush 9, 2) := by decide +kernel
theorem dX10_costPerByte_28 : decode cX10_costPerByte 28 = .ok (.iaload, 1) := by decide +kernel
theorem dX10_costPerByte_29 : decode cX10_costPerByte 29 = .ok (.i2d, 1) := by decide +kernel
theorem dX10_costPerByte_30 : decode cX10_costPerByte 30 = .ok (.iconst 2, 1) := by decide +kernel
theorem dX10_costPerByte_31 : decode cX10_costPerByte 31 = .ok (.iload_n 1, 1) := by decide +kernel
theorem dX10_costPerByte_32 : decode cX10_costPerByte 32 = .ok (.imul, 1) := by decide +kernel
theorem dX10_costPerByte_33 : decode cX10_costPerByte 33 = .ok (.i2d, 1) := by decide +kernel
theorem dX10_costPerByte_34 : decode cX10_costPerByte 34 = .ok (.ddiv, 1) := by decide +kernel
theorem dX10_costPerByte_35 : decode cX10_costPerByte 35 = .ok (.dreturn, 1) := by decide +kernel
theorem dX11_costPerByte_0 : decode cX11_costPerByte 0 = .ok (.aload_n 0, 1) := by decide +kernel
theorem dX11_costPerByte_1 : decode cX11_costPerByte 1 = .ok (.iconst 0, 1) := by decide +kernel
theorem dX11_costPerByte_2 : decode cX11_costPerByte 2 = .ok (.putfield 66, 3) := by decide +kernel
theorem dX11_costPerByte_5 : decode cX11_costPerByte 5 = .ok (.aload_n 0, 1) := by decide +kernel
theorem dX11_costPerByte_6 : decode cX11_costPerByte 6 = .ok (.getfield 9, 3) := by decide +kernel
theorem dX11_costPerByte_9 : decode cX11_costPerByte 9 = .ok (.bipush 55, 2) := by decide +kernel
theorem dX11_costPerByte_11 : decode cX11_costPerByte 11 = .ok (.iaload, 1) := by decide +kernel
theorem dX11_costPerByte_12 : decode cX11_costPerByte 12 = .ok (.ifCond .ne 7, 3) := by decide +kernel
theorem dX11_costPerByte_15 : decode cX11_costPerByte 15 = .ok (.dconst 0, 1) := by decide +kernel
theorem dX11_costPerByte_16 : decode cX11_costPerByte 16 = .ok (.goto 22, 3) := by decide +kernel
theorem dX11_costPerByte_19 : decode cX11_costPerByte 19 = .ok (.aload_n 0, 1) := by decide +kernel
theorem dX11_costPerByte_20 : decode cX11_costPerByte 20 = .ok (.getfield 9, 3) := by decide +kernel
theorem dX11_costPerByte_23 : decode cX11_costPerByte 23 = .ok (.bipush 54, 2) := by decide +kernel
theorem dX11_costPerByte_25 : decode cX11_costPerByte 25 = .ok (.iaload, 1) := by decide +kernel
theorem dX11_costPerByte_26 : decode cX11_costPerByte 26 = .ok (.i2d, 1) := by decide +kernel
theorem dX11_costPerByte_27 : decode cX11_costPerByte 27 = .ok (.iconst 2, 1) := by decide +kernel
theorem dX11_costPerByte_28 : decode cX11_costPerByte 28 = .ok (.aload_n 0, 1) := by decide +kernel
theorem dX11_costPerByte_29 : decode cX11_costPerByte 29 = .ok (.getfield 9, 3) := by decide +kernel
theorem dX11_costPerByte_32 : decode cX11_costPerByte 32 = .ok (.bipush 55, 2) := by decide +kernel
theorem dX11_costPerByte_34 : decode cX11_costPerByte 34 = .ok (.iaload, 1) := by decide +kernel
theorem dX11_costPerByte_35 : decode cX11_costPerByte 35 = .ok (.imul, 1) := by decide +kernel
theorem dX11_costPerByte_36 : decode cX11_costPerByte 36 = .ok (.i2d, 1) := by decide +kernel
theorem dX11_costPerByte_37 : decode cX11_costPerByte 37 = .ok (.ddiv, 1) := by decide +kernel
theorem dX11_costPerByte_38 : decode cX11_costPerByte 38 = .ok (.dreturn, 1) := by decide +kernel
/-- the quotient that both sides answer -/
def xqD (a b : Int) : UInt64 := if Int32.ofInt b = 0 then FP.dconst0 else FP.ddiv (FP.i2d (Int32.ofInt a)) (FP.i2d (2 * Int32.ofInt b))
theorem xib_q {j n : Nat} (h : j < n) (hn : n ≤ 100000) : (if xib (j : Int) n then some () else none) = some () := if_pos (b_ib (by omega))
theorem xy_X10_costD : xY yX10_costPerByte cX10_costPerByte 2 (some .double) 0 := ⟨xin_50 _ (List.mem_of_getElem? (i := 5) rfl), (xin_1 _ (List.mem_of_getElem? (i := 2) rfl)), by decide +kernel, by decide +kernel, by decide +kernel⟩
theorem xy_X11_costD : xY yX11_costPerByte cX11_costPerByte 1 (some .double) 0 := ⟨xin_50 _ (List.mem_of_getElem? (i := 9) rfl), (xin_1 _ (List.mem_of_getElem? (i := 5) rfl)), by decide +kernel, by decide +kernel, by decide +kernel⟩
set_option maxRecDepth 100000 in
theorem c_X_costD (l : Launch) (m : xM) : xMetD l yX10_costPerByte cX10_costPerByte 2 1 lay_X [.inr (.inr (some 0))] m (xqD (m 41 9) (m 41 10)) m :=
  xMetD_of (by decide +kernel) (Nat.le_of_ble_eq_true rfl) (fun Γ C hR _ => by
    refine x_aload_n C dX10_costPerByte_0 rfl ?_
    refine x_getR C dX10_costPerByte_1 fF_X10_27 rfl rfl ?_
    refine x_getR C dX10_costPerByte_4 fF_X10_178 rfl rfl ?_
    refine x_bipush C dX10_costPerByte_7 (by decide) ?_
    refine x_iaload C dX10_costPerByte_9 rfl (xib_q (j := 10) (by decide) (by decide)) (fun _ => ?_)
    rw [show xix (10 : Int) = 10 from by decide]
    refine x_istore_n C dX10_costPerByte_10 (by decide) ?_
    refine x_iload_n (x := m 41 10) C dX10_costPerByte_11 rfl ?_
    obtain ⟨⟨p, l, e, R, s, m0, args, below, meth, c⟩, ⟨A, ad, dC, dI, dA⟩, cells, slots, Q⟩ := Γ
    have C9 := C
    obtain ⟨hx, hb, -⟩ := C9
    intro H locs ls hP hS hv
    refine lv_if_ne (tgt := 19) hx hb dX10_costPerByte_12 (by decide) (fun hne => ?_) (fun h0 => ?_)
    · have h1 : xW ((p, l, e, R, s, m0, args, below, meth, c), (A, ad, dC, dI, dA), cells, slots, Q) lay_X 2 19 [(1, .inl (m 41 10)), (0, .inr (.inr (some 0)))] [] m := by
        refine x_aload_n C dX10_costPerByte_19 rfl ?_
        refine x_getR C dX10_costPerByte_20 fF_X10_27 rfl rfl ?_
        refine x_getR C dX10_costPerByte_23 fF_X10_178 rfl rfl ?_
        refine x_bipush C dX10_costPerByte_26 (by decide) ?_
        refine x_iaload C dX10_costPerByte_28 rfl (xib_q (j := 9) (by decide) (by decide)) (fun _ => ?_)
        rw [show xix (9 : Int) = 9 from by decide]
        intro H locs ls hP hS hv
        refine lv_i2d hx hb dX10_costPerByte_29 ?_
        refine lv_iconst (v := 2) hx hb dX10_costPerByte_30 (by decide) ?_
        refine lv_iload_n (x := Int32.ofInt (m 41 10)) hx hb dX10_costPerByte_31 rfl (xlv_get (v := .inl (m 41 10)) hv rfl) ?_
        refine lv_imul hx hb dX10_costPerByte_32 ?_
        refine lv_i2d hx hb dX10_costPerByte_33 ?_
        exact hR.2 H locs ls 34 _ _ hP hS dX10_costPerByte_34 dX10_costPerByte_35 (by unfold xqD; rw [if_neg hne])
      exact h1 H locs ls hP hS hv
    · refine lv_dconst0 hx hb dX10_costPerByte_15 ?_
      refine lv_goto (tgt := 35) hx hb dX10_costPerByte_16 (by decide) ?_
      have e : xqD (m 41 9) (m 41 10) = FP.dconst0 := by unfold xqD; rw [if_pos h0]
      rw [← e]
      exact hR.1 H locs ls 35 hP hS dX10_costPerByte_35)
set_option maxRecDepth 100000 in
theorem c_m_costD (l : Launch) (M : xM) : xMetD l yX11_costPerByte cX11_costPerByte 1 1 lay_M [.inr (.inr (some 0))] M (xqD (M 1 54) (M 1 55)) (xu M 0 6 0) :=
  xMetD_of (by decide +kernel) (Nat.le_of_ble_eq_true rfl) (fun Γ C hR _ => by
    refine x_aload_n C dX11_costPerByte_0 rfl ?_
    refine x_iconst C dX11_costPerByte_1 ?_
    refine x_putI C dX11_costPerByte_2 fF_X11_66 rfl rfl ?_
    refine x_aload_n C dX11_costPerByte_5 rfl ?_
    refine x_getR C dX11_costPerByte_6 fF_X11_9 rfl rfl ?_
    refine x_bipush C dX11_costPerByte_9 (by decide) ?_
    refine x_iaload C dX11_costPerByte_11 rfl (xib_q (j := 55) (by decide) (by decide)) (fun _ => ?_)
    rw [show xu M 0 6 0 1 (xix (55 : Int)) = M 1 55 from by rw [show xix (55 : Int) = 55 from by decide]; rfl]
    obtain ⟨⟨p, l, e, R, s, m0, args, below, meth, c⟩, ⟨A, ad, dC, dI, dA⟩, cells, slots, Q⟩ := Γ
    have C9 := C
    obtain ⟨hx, hb, hml, hown, hts, hK, -⟩ := C9
    intro H locs ls hP hS hv
    refine lv_if_ne (tgt := 19) hx hb dX11_costPerByte_12 (by decide) (fun hne => ?_) (fun h0 => ?_)
    · have h1 : xW ((p, l, e, R, s, m0, args, below, meth, c), (A, ad, dC, dI, dA), cells, slots, Q) lay_M 1 19 [(0, .inr (.inr (some 0)))] [] (xu M 0 6 0) := by
        refine x_aload_n C dX11_costPerByte_19 rfl ?_
        refine x_getR C dX11_costPerByte_20 fF_X11_9 rfl rfl ?_
        refine x_bipush C dX11_costPerByte_23 (by decide) ?_
        refine x_iaload C dX11_costPerByte_25 rfl (xib_q (j := 54) (by decide) (by decide)) (fun _ => ?_)
        rw [show xu M 0 6 0 1 (xix (54 : Int)) = M 1 54 from by rw [show xix (54 : Int) = 54 from by decide]; rfl]
        intro H locs ls hP hS hv
        refine lv_i2d hx hb dX11_costPerByte_26 ?_
        refine lv_iconst (v := 2) hx hb dX11_costPerByte_27 (by decide) ?_
        refine lv_aload_n hx hb dX11_costPerByte_28 rfl (xlv_get (v := .inr (.inr (some 0))) hv rfl) ?_
        obtain ⟨C, T, N, ty, g1, g2, g3, g4, g5, g6, g7, g8, g9⟩ := fF_X11_9
        refine va_get (own := RX11) (ref := C) (C := C) (T := T) (N := N) hx hb hts g5 hown hK hP 0 (xwld_at (lay := lay_M) (k := 0) rfl) g1 0 g2 (hts _ g3) (fun z hz => by rw [g4] at hz; exact hz) (v := Value.ref (ad 1)) rfl dX11_costPerByte_29 ?_
        refine lv_bipush (v := 55) hx hb dX11_costPerByte_32 (by decide) ?_
        refine va_iald hx hb hK hP 1 0 (xwld_at (lay := lay_M) (k := 1) rfl) rfl (xib_in (i := 55) (b_ib (by omega))) dX11_costPerByte_34 ?_
        refine lv_imul hx hb dX11_costPerByte_35 ?_
        refine lv_i2d hx hb dX11_costPerByte_36 ?_
        exact hR.2 H locs ls 37 _ _ hP hS dX11_costPerByte_37 dX11_costPerByte_38 (by unfold xqD; rw [if_neg hne]; rfl)
      exact h1 H locs ls hP hS hv
    · refine lv_dconst0 hx hb dX11_costPerByte_15 ?_
      refine lv_goto (tgt := 38) hx hb dX11_costPerByte_16 (by decide) ?_
      have e : xqD (M 1 54) (M 1 55) = FP.dconst0 := by unfold xqD; rw [if_pos h0]
      rw [← e]
      exact hR.1 H locs ls 38 hP hS dX11_costPerByte_38)
/-- two doubles alike to a third: the law's comparison of them passes -/
theorem x_nan64 {r : UInt64} (h : isNaN64 r = true) (q : UInt64) : Op.cmpValue (FP.dcmp r q) CmpOp.l ≠ 0 := by
  have h1 : 9218868437227405312 < r.toNat &&& (2 ^ 63 - 1) := isNaN64_iff.mp h
  rw [Nat.and_two_pow_sub_one_eq_mod] at h1
  have e1 : FP.Core.fieldE FP.Core.b64 r.toNat = FP.Core.b64.exps - 1 := by
    show r.toNat / 4503599627370496 % 2048 = 2047
    omega
  have e2 : ¬ FP.Core.fieldT FP.Core.b64 r.toNat = 0 := by
    show ¬ r.toNat % 4503599627370496 = 0
    omega
  have e3 : FP.Core.decode FP.Core.b64 r.toNat = .nan := by
    unfold FP.Core.decode
    rw [if_pos e1, if_neg e2]
  have e4 : FP.dcmp r q = none := by
    show FP.Core.order (FP.Core.decode FP.Core.b64 r.toNat) _ = none
    rw [e3]; rfl
  rw [e4]; decide
theorem x_alike {p q x : UInt64} (h1 : alike64 p x = true) (h2 : alike64 q x = true) (hc : Op.cmpValue (FP.dcmp p q) CmpOp.l ≠ 0) : Op.cmpValue (FP.dcmp p p) CmpOp.l ≠ 0 ∧ Op.cmpValue (FP.dcmp q q) CmpOp.l ≠ 0 := by
  unfold alike64 at h1 h2
  simp only [Bool.or_eq_true, decide_eq_true_eq, Bool.and_eq_true] at h1 h2
  rcases h1 with rfl | ⟨n1, n2⟩
  · rcases h2 with rfl | ⟨n3, n4⟩
    · exact ⟨hc, hc⟩
    · exact ⟨x_nan64 n4 _, x_nan64 n3 _⟩
  · rcases h2 with rfl | ⟨n3, n4⟩
    · exact ⟨x_nan64 n1 _, x_nan64 n2 _⟩
    · exact ⟨x_nan64 n1 _, x_nan64 n3 _⟩
set_option maxRecDepth 100000 in
set_option maxHeartbeats 8000000 in
theorem lc_16 {Γ : yG} {b Ln : Nat} {xs : Nat → Int32} (C : yC Γ RL cL_law 9 100 601024 7293034) {aX aM : Nat → Nat} (hS : lS Γ aX aM) (o i : Nat) {ws : va_W} {k n : Nat} (hk : k + 4 ≤ 601024) (hn : n + 200 ≤ 7293034) {d0 : Drawn} (hd0 : ydB Γ d0) (hI : lI (yDA Γ) aX aM o ws) (Gk : ∀ (d' : Drawn), ydB Γ d' → ∀ (ws' : va_W) (k' n' : Nat), lI (yDA Γ) aX aM o ws' → k' ≤ k + 4 → n' ≤ n + 200 → yW (yd Γ d') 9 1638 (lL b aX aM o i) [] ws' k' n') : yW (yd Γ d0) 9 1092 (lL b aX aM o i) [] ws k n := by
  obtain ⟨m, M, g, T, G, hX, hT, rfl⟩ := hI
  have q9 : m 41 9 = M 1 54 := by
    have t := hX.1.1.1.2.2.2.1 9 (by omega)
    rw [bV11_0 m (by omega)] at t
    exact t.symm
  have q10 : m 41 10 = M 1 55 := by
    have t := hX.1.1.1.2.2.2.1 10 (by omega)
    rw [bV11_0 m (by omega)] at t
    exact t.symm
  have hM2 := c_m_costD Γ.1.2.1 M
  rw [← q9, ← q10] at hM2
  refine y_aload (yd_C C d0) 1 dL_law_1092 rfl rfl ?_
  refine y_callXDm hd0 (wa := [lwo (yDA Γ) o g]) (wb := T ++ xwld aM (yDA Γ) M 0 lay_M) (st := []) (av := []) (b := 0) (layY := lay_X) (m := m) C aX dL_law_1093 (xin_50 _ (List.mem_of_getElem? (i := 2) rfl)) xy_X10_costD (xin_50 _ (List.mem_of_getElem? (i := 3) rfl)) (xin_50 _ (List.mem_of_getElem? (i := 4) rfl)) (by omega) (by decide) rfl ⟨_, _, rfl⟩ rfl (Nat.le_of_ble_eq_true rfl) (c_X_costD _ m) (by omega) (by omega) hS.1 rfl (fun r1 d1 h1 hd1 => ?_)
  refine y_dstore (yd_C C d1) dL_law_1096 (by omega) rfl ?_
  refine y_aload (yd_C C d1) 3 dL_law_1098 rfl rfl ?_
  refine y_callXDr hd1 (wa := lwo (yDA Γ) o g :: xwld aX (yDA Γ) m 0 lay_X) (wb := T) (st := []) (av := []) (b := 0) (layY := lay_M) (m := M) C aM dL_law_1099 (xin_50 _ (List.mem_of_getElem? (i := 6) rfl)) xy_X11_costD (xin_50 _ (List.mem_of_getElem? (i := 7) rfl)) (xin_50 _ (List.mem_of_getElem? (i := 8) rfl)) (by omega) (by decide) rfl ⟨_, _, rfl⟩ rfl (Nat.le_of_ble_eq_true rfl) hM2 (by omega) (by omega) hS.2 rfl (fun r2 d2 h2 hd2 => ?_)
  refine y_dstore (yd_C C d2) dL_law_1102 (by omega) rfl ?_
  have Gz : yW (yd Γ d2) 9 1638 (lL b aX aM o i) [] (lw (yDA Γ) aX aM o g T m (xu M 0 6 0)) k n := Gk d2 hd2 _ _ _ ⟨m, xu M 0 6 0, g, T, G, hX.thr 0, hT, rfl⟩ (by omega) (by omega)
  have C2 := yd_C C d2
  refine y_dload C2 1 dL_law_1104 rfl ?_
  refine y_dload C2 0 dL_law_1106 rfl ?_
  refine y_dcmp C2 dL_law_1108 ?_
  refine y_ifeqx C2 1130 dL_law_1109 (by decide) (fun _ => ?_) (fun hc => ?_)
  · refine y_goto C2 1638 dL_law_1130 (by decide) ?_
    exact y_sub [2, 3, 4, 5, 6] rfl Gz
  · obtain ⟨g1, g2⟩ := x_alike h1 h2 hc
    refine y_dload C2 1 dL_law_1112 rfl ?_
    refine y_dload C2 1 dL_law_1114 rfl ?_
    refine y_dcmp C2 dL_law_1116 ?_
    refine y_ifeqx C2 1128 dL_law_1117 (by decide) (fun h0 => absurd h0 g1) (fun _ => ?_)
    refine y_dload C2 0 dL_law_1120 rfl ?_
    refine y_dload C2 0 dL_law_1122 rfl ?_
    refine y_dcmp C2 dL_law_1124 ?_
    refine y_ifne1 C2 1130 dL_law_1125 (by decide) g2 ?_
    refine y_goto C2 1638 dL_law_1130 (by decide) ?_
    exact y_sub [2, 3, 4, 5, 6] rfl Gz

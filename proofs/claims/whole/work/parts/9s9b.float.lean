/-! ===== the same for a float (printed from the part before) ===== -/
theorem yd_base {Γ : yG} {nL pc k n : Nat} {L : List (Nat × Value)} {st : List Value} {ws : va_W} (h : yW (yd Γ Γ.1.2.2.2.2.1.drawn) nL pc L st ws k n) : yW Γ nL pc L st ws k n := by
  obtain ⟨⟨p, l, e, R, s, m0, args, below, meth, c⟩, ⟨A, dC, dI, dA, sa⟩, Q⟩ := Γ
  exact h
/-- a contract of a method that answers a double, a NaN where that is one -/
def xMetF (l : Launch) (y : MethodName) (cc : ByteArray) (maxL : Nat) (d : Nat) (lay : List xS) (av : List xV) (m : xM) (x : UInt32) (m' : xM) : Prop :=
  ∀ (dC : Nat → ClassId) (dI : Nat → Nat → Nat) (dA : Nat → ClassId) (ad : Nat → Nat) (sz : Nat), MetD lw_cs l y (Cond.code y cc maxL (some .float) :: wsL_law) (xrm d) (va_Pc (av.map (xval ad)) (xPre dC dI dA ad lay m sz)) (va_Qf (fun (r : UInt32) (_ : Unit) => alike32 r x = true) (fun _ t => va_P (dC, dI) vwCl (xwld ad dA m' 0 lay) t.heap) (xAr ad lay sz)) 0 0 (xAr ad lay sz)
/-- its two ends: a double at hand, or a division and then its end -/
def xRf (Γ : xG) (lay : List xS) (cc : ByteArray) (x : UInt32) (m : xM) : Prop := match Γ with
  | ((p, l, e, R, s, m0, args, below, meth, c), (A, ad, dC, dI, dA), (cells, slots, Q)) =>
    (∀ (H : Heap) (locs : List Loc) (ls : Array Slot) (pc : Nat), va_P (dC, dI) vwCl (xwld ad dA m 0 lay) H → va_S A s.heap H locs → decode cc pc = .ok (.freturn, 1) → W p l e R s m0 args below meth c H locs cells slots Q (F0 m0 pc ls [.float x])) ∧
    (∀ (H : Heap) (locs : List Loc) (ls : Array Slot) (pc : Nat) (a b : UInt32), va_P (dC, dI) vwCl (xwld ad dA m 0 lay) H → va_S A s.heap H locs → decode cc pc = .ok (.fdiv, 1) → decode cc (pc + 1) = .ok (.freturn, 1) → FP.fdiv a b = x → W p l e R s m0 args below meth c H locs cells slots Q (F0 m0 pc ls [.float b, .float a]))
theorem xMetF_of {l : Launch} {y : MethodName} {cc : ByteArray} {maxL d : Nat} {lay : List xS} {av : List xV} {m m' : xM} {x : UInt32} (hy : plainName y.cls = true) (hw : xwid av ≤ maxL)
    (hb : ∀ Γ : xG, xC Γ lay y.cls cc maxL d → xRf Γ lay cc x m' → Γ.1.2.1 = l → xW Γ lay maxL 0 (xargs 0 av) [] m) : xMetF l y cc maxL d lay av m x m' := by
  intro dC dI dA ad sz
  refine MetD.ofW (cc := cc) (maxL := maxL) (ret := some .float) hy rfl ?_
  intro p e s m0 args below meth c s₁ B hml hv hd0
  obtain ⟨rfl, hsz, hP, hK, hD0, hX0⟩ := hv
  subst hsz
  have hl := lv_entry (av.map (xval ad)) (n := maxL) (by rw [xwid_sl]; exact hw)
  rw [lg_entry_eq]
  rw [xargs_lv] at hl
  have hts := dr_words (fun w h => atoms_spec (ws := Cond.code y cc maxL (some .float) :: wsL_law) B.pre w (List.mem_cons_of_mem _ h)) s.drawn
  refine hb ((p, l, e, xrm d, s.setDrawn s.drawn, m0, (av.map (xval ad)).toArray, below, meth, c), (xAr ad lay s.heap.size, ad, dC, dI, dA), (0, 0, _)) ?_ ?_ rfl s.heap [] _ hP va_S.rf hl
  · exact ⟨B.exec, B.bytes, hml, findClass_of_methodNamed B.named, hts, hK, xAr_D hD0, fun q h => Or.inr h, Nat.le_refl _, Nat.le_refl _, Nat.le_refl _, Nat.le_refl _, hX0⟩
  · refine ⟨fun H locs ls pc hP hS hd => ?_, fun H locs ls pc a b hP hS hd hd2 hab => ?_⟩
    · refine W.endD hd0 ?_
      exact W.fret (v := x) B.exec B.bytes B.returns (fun t ht hW => ⟨⟨x, (), rfl, alike32_refl x, by show va_P (dC, dI) vwCl (xwld ad dA m' 0 lay) t.heap; rw [ht]; exact hP⟩, hS.F ht⟩) hS.2.2 hd B.notSynchronized
    · refine lv_fdiv_any hd0 lw_bits B.exec B.bytes hd (fun r d1 hal hd1 => ?_)
      refine W.endD hd1 ?_
      exact W.fret (v := r) B.exec B.bytes B.returns (fun t ht hW => ⟨⟨r, (), rfl, by rw [← hab]; exact hal, by show va_P (dC, dI) vwCl (xwld ad dA m' 0 lay) t.heap; rw [ht]; exact hP⟩, hS.F ht⟩) hS.2.2 hd2 B.notSynchronized
section YPD
variable {Γ : yG} {own : String} {cc : ByteArray} {nL d pc K N k n : Nat} {L : List (Nat × Value)} {st : List Value} {ws wa wb : va_W}
theorem y_callXF {d0 : Drawn} (hd0 : ydB Γ d0) {x : UInt32} (C : yC Γ own cc nL d K N) {idx : Nat} {y : MethodName} {cY : ByteArray} {maxL nP dY b ci : Nat} {fs : List (Option Nat)} {layY : List xS} {av : List xV} {m mY : xM} (ad' : Nat → Nat) (hd : decode cc pc = .ok (.invokevirtual idx, 3)) (hl : Cond.methodLink own idx y ∈ wsL_law) (hY : xY y cY maxL (some .float) nP) (hin : Cond.instanceMethod y ∈ wsL_law) (hse : Cond.selects y.cls y y ∈ wsL_law) (hdd : dY + 1 ≤ d) (hmax : maxL ≤ 40)
    (hb : layY[b]? = some (.inl (ci, fs))) (hci : ∃ TT N, vwCl[ci]? = some (y.cls, TT, N)) (hn : av.length = nP) (hst : (st.map fun v => v.category).sum ≤ 8) (hM : xMetF Γ.1.2.1 y cY maxL dY layY (.inr (.inr (some b)) :: av) m x mY) (hk : k ≤ K) (hn2 : n ≤ N) (hsa : ∀ i : Nat, ad' (1000 + i) = ySA Γ (1000 + i)) {stk : List Value} (hs : stk = (av.map (xval ad')).reverse ++ .ref (ad' b) :: st)
    (h : ∀ (r : UInt32) (d' : Drawn), alike32 r x = true → ydB Γ d' → yW (yd Γ d') nL (pc + 3) L (.float r :: st) (wa ++ xwld ad' (yDA Γ) mY 0 layY) k n) : yW (yd Γ d0) nL pc L stk (wa ++ xwld ad' (yDA Γ) m 0 layY) k n := by
  subst hs
  obtain ⟨⟨p, l, e, R, s, m0, args, below, meth, c⟩, ⟨A, dC, dI, dA, sa⟩, Q⟩ := Γ
  have C0 := C
  obtain ⟨hx, hbc, hml, hown, hts, hK, hA, ⟨hfr, hlo⟩, ⟨hce, hsl⟩, hT, hX⟩ := C
  intro H locs ls hP hD hS hv
  have hPY : va_P (dC, dI) vwCl (xwld ad' dA m 0 layY) H := fun i q hi => by
    refine hP (wa.length + i) q ?_
    rw [List.getElem?_append_right (by omega), Nat.add_sub_cancel_left]; exact hi
  have hget : ∀ i, i < layY.length → ∃ s9, (xwld ad' dA m 0 layY)[i]? = some (ad' i, s9) := fun i hi => by
    rw [xwld_get, List.getElem?_eq_getElem hi, Nat.zero_add]
    exact ⟨_, rfl⟩
  have hget2 : ∀ i, i < layY.length → ∃ s9, (wa ++ xwld ad' dA m 0 layY)[wa.length + i]? = some (ad' i, s9) := fun i hi => by
    obtain ⟨s9, h9⟩ := hget i hi
    exact ⟨s9, by rw [List.getElem?_append_right (by omega), Nat.add_sub_cancel_left]; exact h9⟩
  have hinj : ∀ i j : Nat, i < layY.length → j < layY.length → ad' i = ad' j → i = j := fun i j hi hj hij => by
    obtain ⟨s1, h1⟩ := hget2 i hi
    obtain ⟨s2, h2⟩ := hget2 j hj
    have := hD.1 _ _ _ _ h1 h2 hij
    omega
  have hAin : ∀ i, i < layY.length → A (ad' i) := fun i hi => by
    obtain ⟨s1, h1⟩ := hget2 i hi
    exact hD.2 _ _ h1
  have hMy := hM dC dI dA ad' H.size
  have hAA2 : ∀ q : Nat, xAr ad' layY H.size q → A q := fun q h2 => by
    rcases h2 with ⟨i, hi, rfl⟩ | h2
    · exact hAin i hi
    · exact hA _ (Nat.le_trans hS.1 h2)
  obtain ⟨TT, N9, hci⟩ := hci
  have hGW : GoodIn wsL_law (wsV own idx y.cls y (Cond.code y cY maxL (some .float) :: wsL_law)) := by
    intro w hw
    unfold wsV at hw
    rcases List.mem_append.mp hw with h | h
    · simp only [List.mem_cons, List.not_mem_nil, or_false] at h
      rcases h with rfl | rfl | rfl | rfl
      · exact xgood1 hl
      · exact xgood1 hin
      · exact xgood1 hse
      · exact xgood1 hY.2.1
    · exact xgoodY hY.1 w h
  have hrun := va_runV_D (cs := lw_cs) (p := p) (l := l) (e := e) (R := R) (s := s.setDrawn d0) (m := m0) (args := args) (below := below) (meth := meth) (c := c) (H := H) (locs := locs) (cells := k) (slots := n) (nL := nL) (As := av.map (xval ad')) (rest := st) (g := F0 m0 pc ls ((av.map (xval ad')).reverse ++ .ref (ad' b) :: st))
    ⟨hx, hbc, hml, hown, dr_words hts d0⟩ hMy (cwV nP (dr_words hts d0) hGW rfl rfl rfl ⟨rfl, hY.2.2⟩ ⟨by show dY + 1 ≤ R.frames; omega, by show 8 + (maxL + 11) + 60 * dY ≤ R.locals; omega⟩)
    ⟨xPre_blind _ _ _ _ _ _ _ _, va_recv (s := s.setDrawn d0) (va_K.moved (u := s) (U := s.setDrawn d0) (Vm.Alike.refl s.vm) hK) hPY hci (xwld_at hb), fun U hU hW => ⟨rfl, by rw [hU], by rw [hU]; exact hPY, (va_K.moved (u := s) hW.alike hK).sub (tys' := xtys dA) [0, 1, 2, 3] rfl, hinj, by rw [hU]; exact xStr.goes (u := s) hW hX.1 hsa (fun q h1 h2 => hS.2.1 q h1 h2) hAA2⟩⟩
    rfl (by rw [List.length_map]; exact hn) hv.1 rfl (lv_room hst) hd ⟨by omega, by omega⟩
  intro Ts hTs X
  obtain ⟨v, st₀, t, T', Lo, d', hd', h0, X', hL, e1, e2, ⟨⟨r, u9, hv1, hpr, hp1⟩, hz, hkk⟩, stp⟩ := hrun Ts hTs X
  cases hv1
  rw [h0] at hz hkk
  have hP2 : va_P (dC, dI) vwCl (wa ++ xwld ad' dA mY 0 layY) T'.heap := by
    refine ((ya_app hP).kept (fun i x hx => ?_)).app (by rw [e1]; exact hp1)
    have hil := (List.getElem?_eq_some_iff.mp hx).1
    have hx2 : (wa ++ xwld ad' dA m 0 layY)[i]? = some x := by rw [List.getElem?_append_left hil]; exact hx
    rw [e1]
    refine hkk x.1 (hP i x hx2).lt (fun hh => ?_)
    rcases hh with ⟨j, hj, hq⟩ | hh
    · obtain ⟨s1, h1⟩ := hget2 j hj
      have := hD.1 _ _ _ _ hx2 h1 hq
      omega
    · have := (hP i x hx2).lt
      omega
  have hD2 : va_D A (wa ++ xwld ad' dA mY 0 layY) := va_D_addr (by rw [List.map_append, List.map_append, xwld_fst ad' dA m mY]) hD
  obtain ⟨t2, a1, b1⟩ := h r d' hpr (Drawn.sameBut.trans hd0 hd') T'.heap (locs ++ Lo) ls hP2 hD2 ⟨Nat.le_trans hS.1 (by rw [e1]; exact hz), fun q h1 h2 => by rw [e1, hkk q (Nat.lt_of_lt_of_le h1 hS.1) (fun z => h2 (hAA2 q z))]; exact hS.2.1 q h1 h2, fun q hq => by
      rcases List.mem_append.mp hq with h | h
      · exact hS.2.2 q h
      · exact hAA2 _ (hL q h)⟩ hv T' rfl X'
  exact ⟨t2, stp t2 a1, b1⟩
theorem y_callXFm {d0 : Drawn} (hd0 : ydB Γ d0) {x : UInt32} (C : yC Γ own cc nL d K N) {idx : Nat} {y : MethodName} {cY : ByteArray} {maxL nP dY b ci : Nat} {fs : List (Option Nat)} {layY : List xS} {av : List xV} {m mY : xM} (ad' : Nat → Nat) (hd : decode cc pc = .ok (.invokevirtual idx, 3)) (hl : Cond.methodLink own idx y ∈ wsL_law) (hY : xY y cY maxL (some .float) nP) (hin : Cond.instanceMethod y ∈ wsL_law) (hse : Cond.selects y.cls y y ∈ wsL_law) (hdd : dY + 1 ≤ d) (hmax : maxL ≤ 40)
    (hb : layY[b]? = some (.inl (ci, fs))) (hci : ∃ TT N, vwCl[ci]? = some (y.cls, TT, N)) (hn : av.length = nP) (hst : (st.map fun v => v.category).sum ≤ 8) (hM : xMetF Γ.1.2.1 y cY maxL dY layY (.inr (.inr (some b)) :: av) m x mY) (hk : k ≤ K) (hn2 : n ≤ N) (hsa : ∀ i : Nat, ad' (1000 + i) = ySA Γ (1000 + i)) {stk : List Value} (hs : stk = (av.map (xval ad')).reverse ++ .ref (ad' b) :: st)
    (h : ∀ (r : UInt32) (d' : Drawn), alike32 r x = true → ydB Γ d' → yW (yd Γ d') nL (pc + 3) L (.float r :: st) ((wa ++ xwld ad' (yDA Γ) mY 0 layY) ++ wb) k n) : yW (yd Γ d0) nL pc L stk ((wa ++ xwld ad' (yDA Γ) m 0 layY) ++ wb) k n := by
  refine y_perm (ws' := (wa ++ wb) ++ xwld ad' (yDA Γ) m 0 layY) (by rw [List.append_assoc, List.append_assoc]; exact List.Perm.append_left wa List.perm_append_comm) ?_
  refine y_callXF hd0 C ad' hd hl hY hin hse hdd hmax hb hci hn hst hM hk hn2 hsa hs (fun r d' h1 h2 => ?_)
  exact y_perm (ws' := (wa ++ xwld ad' (yDA Γ) mY 0 layY) ++ wb) (by rw [List.append_assoc, List.append_assoc]; exact List.Perm.append_left wa List.perm_append_comm) (h r d' h1 h2)
theorem y_callXFr {d0 : Drawn} (hd0 : ydB Γ d0) {x : UInt32} (C : yC Γ own cc nL d K N) {idx : Nat} {y : MethodName} {cY : ByteArray} {maxL nP dY b ci : Nat} {fs : List (Option Nat)} {layY : List xS} {av : List xV} {m mY : xM} (ad' : Nat → Nat) (hd : decode cc pc = .ok (.invokevirtual idx, 3)) (hl : Cond.methodLink own idx y ∈ wsL_law) (hY : xY y cY maxL (some .float) nP) (hin : Cond.instanceMethod y ∈ wsL_law) (hse : Cond.selects y.cls y y ∈ wsL_law) (hdd : dY + 1 ≤ d) (hmax : maxL ≤ 40)
    (hb : layY[b]? = some (.inl (ci, fs))) (hci : ∃ TT N, vwCl[ci]? = some (y.cls, TT, N)) (hn : av.length = nP) (hst : (st.map fun v => v.category).sum ≤ 8) (hM : xMetF Γ.1.2.1 y cY maxL dY layY (.inr (.inr (some b)) :: av) m x mY) (hk : k ≤ K) (hn2 : n ≤ N) (hsa : ∀ i : Nat, ad' (1000 + i) = ySA Γ (1000 + i)) {stk : List Value} (hs : stk = (av.map (xval ad')).reverse ++ .ref (ad' b) :: st)
    (h : ∀ (r : UInt32) (d' : Drawn), alike32 r x = true → ydB Γ d' → yW (yd Γ d') nL (pc + 3) L (.float r :: st) (wa ++ (wb ++ xwld ad' (yDA Γ) mY 0 layY)) k n) : yW (yd Γ d0) nL pc L stk (wa ++ (wb ++ xwld ad' (yDA Γ) m 0 layY)) k n := by
  rw [← List.append_assoc]
  refine y_callXF hd0 C ad' hd hl hY hin hse hdd hmax hb hci hn hst hM hk hn2 hsa hs (fun r d' h1 h2 => ?_)
  rw [List.append_assoc]
  exact h r d' h1 h2
theorem y_f2d {d0 : Drawn} (hd0 : ydB Γ d0) (C : yC Γ own cc nL d K N) {x : UInt32} (hd : decode cc pc = .ok (.f2d, 1)) (h : ∀ (r : UInt64) (d' : Drawn), alike64 r (FP.f2d x) = true → ydB Γ d' → yW (yd Γ d') nL (pc + 1) L (.double r :: st) ws k n) : yW (yd Γ d0) nL pc L (.float x :: st) ws k n := by
  obtain ⟨⟨p, l, e, R, s, m0, args, below, meth, c⟩, ⟨A, dC, dI, dA, sa⟩, Q⟩ := Γ
  obtain ⟨hx, hb, -⟩ := C
  intro H locs ls hP hD hS hv
  exact lv_f2d_any hd0 lw_bits hx hb hd (fun r d' hal hd' => h r d' hal hd' H locs ls hP hD hS hv)
end YPD
theorem dX10_damage_0 : decode cX10_damage 0 = .ok (.aload_n 0, 1) := by decide +kernel
theorem dX10_damage_1 : decode cX10_damage 1 = .ok (.getfield 27, 3) := by decide +kernel
theorem dX10_damage_4 : decode cX10_damage 4 = .ok (.getfield 178, 3) := by decide +kernel
theorem dX10_damage_7 : decode cX10_damage 7 = .ok (.iconst 0, 1) := by decide +kernel
theorem dX10_damage_8 : decode cX10_damage 8 = .ok (.iaload, 1) := by decide +kernel
theorem dX10_damage_9 : decode cX10_damage 9 = .ok (.istore_n 1, 1) := by decide +kernel
theorem dX10_damage_10 : decode cX10_damage 10 = .ok (.iload_n 1, 1) := by decide +kernel
theorem dX10_damage_11 : decode cX10_damage 11 = .ok (.ifCond .ne 7, 3) := by decide +kernel
theorem dX10_damage_14 : decode cX10_damage 14 = .ok (.fconst 0, 1) := by decide +kernel
theorem dX10_damage_15 : decode cX10_damage 15 = .ok (.goto 16, 3) := by decide +kernel
theorem dX10_damage_18 : decode cX10_damage 18 = .ok (.aload_n 0, 1) := by decide +kernel
theorem dX10_damage_19 : decode cX10_damage 19 = .ok (.getfield 27, 3) := by decide +kernel
theorem dX10_damage_22 : decode cX10_damage 22 = .ok (.getfield 178, 3) := by decide +kernel
theorem dX10_damage_25 : decode cX10_damage 25 = .ok (.iconst 1, 1) := by decide +kernel
theorem dX10_damage_26 : decode cX10_damage 26 = .ok (.iaload, 1) := by decide +kernel
theorem dX10_damage_27 : decode cX10_damage 27 = .ok (.i2f, 1) := by decide +kernel
theorem dX10_damage_28 : decode cX10_damage 28 = .ok (.iload_n 1, 1) := by decide +kernel
theorem dX10_damage_29 : decode cX10_damage 29 = .ok (.i2f, 1) := by decide +kernel
theorem dX10_damage_30 : decode cX10_damage 30 = .ok (.fdiv, 1) := by decide +kernel
theorem dX10_damage_31 : decode cX10_damage 31 = .ok (.freturn, 1) := by decide +kernel
theorem dX11_damage_0 : decode cX11_damage 0 = .ok (.aload_n 0, 1) := by decide +kernel
theorem dX11_damage_1 : decode cX11_damage 1 = .ok (.iconst 0, 1) := by decide +kernel
theorem dX11_damage_2 : decode cX11_damage 2 = .ok (.putfield 66, 3) := by decide +kernel
theorem dX11_damage_5 : decode cX11_damage 5 = .ok (.aload_n 0, 1) := by decide +kernel
theorem dX11_damage_6 : decode cX11_damage 6 = .ok (.getfield 9, 3) := by decide +kernel
theorem dX11_damage_9 : decode cX11_damage 9 = .ok (.bipush 45, 2) := by decide +kernel
theorem dX11_damage_11 : decode cX11_damage 11 = .ok (.iaload, 1) := by decide +kernel
theorem dX11_damage_12 : decode cX11_damage 12 = .ok (.ifCond .ne 7, 3) := by decide +kernel
theorem dX11_damage_15 : decode cX11_damage 15 = .ok (.fconst 0, 1) := by decide +kernel
theorem dX11_damage_16 : decode cX11_damage 16 = .ok (.goto 20, 3) := by decide +kernel
theorem dX11_damage_19 : decode cX11_damage 19 = .ok (.aload_n 0, 1) := by decide +kernel
theorem dX11_damage_20 : decode cX11_damage 20 = .ok (.getfield 9, 3) := by decide +kernel
theorem dX11_damage_23 : decode cX11_damage 23 = .ok (.bipush 46, 2) := by decide +kernel
theorem dX11_damage_25 : decode cX11_damage 25 = .ok (.iaload, 1) := by decide +kernel
theorem dX11_damage_26 : decode cX11_damage 26 = .ok (.i2f, 1) := by decide +kernel
theorem dX11_damage_27 : decode cX11_damage 27 = .ok (.aload_n 0, 1) := by decide +kernel
theorem dX11_damage_28 : decode cX11_damage 28 = .ok (.getfield 9, 3) := by decide +kernel
theorem dX11_damage_31 : decode cX11_damage 31 = .ok (.bipush 45, 2) := by decide +kernel
theorem dX11_damage_33 : decode cX11_damage 33 = .ok (.iaload, 1) := by decide +kernel
theorem dX11_damage_34 : decode cX11_damage 34 = .ok (.i2f, 1) := by decide +kernel
theorem dX11_damage_35 : decode cX11_damage 35 = .ok (.fdiv, 1) := by decide +kernel
theorem dX11_damage_36 : decode cX11_damage 36 = .ok (.freturn, 1) := by decide +kernel
def xqF (a b : Int) : UInt32 := if Int32.ofInt b = 0 then FP.fconst0 else FP.fdiv (FP.i2f (Int32.ofInt a)) (FP.i2f (Int32.ofInt b))
theorem xy_X10_damF : xY yX10_damage cX10_damage 2 (some .float) 0 := ⟨xin_50 _ (List.mem_of_getElem? (i := 13) rfl), (xin_1 _ (List.mem_of_getElem? (i := 2) rfl)), by decide +kernel, by decide +kernel, by decide +kernel⟩
theorem xy_X11_damF : xY yX11_damage cX11_damage 1 (some .float) 0 := ⟨xin_50 _ (List.mem_of_getElem? (i := 17) rfl), (xin_1 _ (List.mem_of_getElem? (i := 5) rfl)), by decide +kernel, by decide +kernel, by decide +kernel⟩
set_option maxRecDepth 100000 in
theorem c_X_damF (l : Launch) (m : xM) : xMetF l yX10_damage cX10_damage 2 1 lay_X [.inr (.inr (some 0))] m (xqF (m 41 1) (m 41 0)) m :=
  xMetF_of (by decide +kernel) (Nat.le_of_ble_eq_true rfl) (fun Γ C hR _ => by
    refine x_aload_n C dX10_damage_0 rfl ?_
    refine x_getR C dX10_damage_1 fF_X10_27 rfl rfl ?_
    refine x_getR C dX10_damage_4 fF_X10_178 rfl rfl ?_
    refine x_iconst C dX10_damage_7 ?_
    refine x_iaload C dX10_damage_8 rfl (xib_q (j := 0) (by decide) (by decide)) (fun _ => ?_)
    rw [show xix (0 : Int) = 0 from by decide]
    refine x_istore_n C dX10_damage_9 (by decide) ?_
    refine x_iload_n (x := m 41 0) C dX10_damage_10 rfl ?_
    obtain ⟨⟨p, l, e, R, s, m0, args, below, meth, c⟩, ⟨A, ad, dC, dI, dA⟩, cells, slots, Q⟩ := Γ
    have C9 := C
    obtain ⟨hx, hb, -⟩ := C9
    intro H locs ls hP hS hv
    refine lv_if_ne (tgt := 18) hx hb dX10_damage_11 (by decide) (fun hne => ?_) (fun h0 => ?_)
    · have h1 : xW ((p, l, e, R, s, m0, args, below, meth, c), (A, ad, dC, dI, dA), cells, slots, Q) lay_X 2 18 [(1, .inl (m 41 0)), (0, .inr (.inr (some 0)))] [] m := by
        refine x_aload_n C dX10_damage_18 rfl ?_
        refine x_getR C dX10_damage_19 fF_X10_27 rfl rfl ?_
        refine x_getR C dX10_damage_22 fF_X10_178 rfl rfl ?_
        refine x_iconst C dX10_damage_25 ?_
        refine x_iaload C dX10_damage_26 rfl (xib_q (j := 1) (by decide) (by decide)) (fun _ => ?_)
        rw [show xix (1 : Int) = 1 from by decide]
        intro H locs ls hP hS hv
        refine lv_i2f hx hb dX10_damage_27 ?_
        refine lv_iload_n (x := Int32.ofInt (m 41 0)) hx hb dX10_damage_28 rfl (xlv_get (v := .inl (m 41 0)) hv rfl) ?_
        refine lv_i2f hx hb dX10_damage_29 ?_
        exact hR.2 H locs ls 30 _ _ hP hS dX10_damage_30 dX10_damage_31 (by unfold xqF; rw [if_neg hne])
      exact h1 H locs ls hP hS hv
    · refine lv_fconst0 hx hb dX10_damage_14 ?_
      refine lv_goto (tgt := 31) hx hb dX10_damage_15 (by decide) ?_
      have e : xqF (m 41 1) (m 41 0) = FP.fconst0 := by unfold xqF; rw [if_pos h0]
      rw [← e]
      exact hR.1 H locs ls 31 hP hS dX10_damage_31)
set_option maxRecDepth 100000 in
theorem c_m_damF (l : Launch) (M : xM) : xMetF l yX11_damage cX11_damage 1 1 lay_M [.inr (.inr (some 0))] M (xqF (M 1 46) (M 1 45)) (xu M 0 6 0) :=
  xMetF_of (by decide +kernel) (Nat.le_of_ble_eq_true rfl) (fun Γ C hR _ => by
    refine x_aload_n C dX11_damage_0 rfl ?_
    refine x_iconst C dX11_damage_1 ?_
    refine x_putI C dX11_damage_2 fF_X11_66 rfl rfl ?_
    refine x_aload_n C dX11_damage_5 rfl ?_
    refine x_getR C dX11_damage_6 fF_X11_9 rfl rfl ?_
    refine x_bipush C dX11_damage_9 (by decide) ?_
    refine x_iaload C dX11_damage_11 rfl (xib_q (j := 45) (by decide) (by decide)) (fun _ => ?_)
    rw [show xu M 0 6 0 1 (xix (45 : Int)) = M 1 45 from by rw [show xix (45 : Int) = 45 from by decide]; rfl]
    obtain ⟨⟨p, l, e, R, s, m0, args, below, meth, c⟩, ⟨A, ad, dC, dI, dA⟩, cells, slots, Q⟩ := Γ
    have C9 := C
    obtain ⟨hx, hb, hml, hown, hts, hK, -⟩ := C9
    intro H locs ls hP hS hv
    refine lv_if_ne (tgt := 19) hx hb dX11_damage_12 (by decide) (fun hne => ?_) (fun h0 => ?_)
    · have h1 : xW ((p, l, e, R, s, m0, args, below, meth, c), (A, ad, dC, dI, dA), cells, slots, Q) lay_M 1 19 [(0, .inr (.inr (some 0)))] [] (xu M 0 6 0) := by
        refine x_aload_n C dX11_damage_19 rfl ?_
        refine x_getR C dX11_damage_20 fF_X11_9 rfl rfl ?_
        refine x_bipush C dX11_damage_23 (by decide) ?_
        refine x_iaload C dX11_damage_25 rfl (xib_q (j := 46) (by decide) (by decide)) (fun _ => ?_)
        rw [show xu M 0 6 0 1 (xix (46 : Int)) = M 1 46 from by rw [show xix (46 : Int) = 46 from by decide]; rfl]
        intro H locs ls hP hS hv
        refine lv_i2f hx hb dX11_damage_26 ?_
        refine lv_aload_n hx hb dX11_damage_27 rfl (xlv_get (v := .inr (.inr (some 0))) hv rfl) ?_
        obtain ⟨C, T, N, ty, g1, g2, g3, g4, g5, g6, g7, g8, g9⟩ := fF_X11_9
        refine va_get (own := RX11) (ref := C) (C := C) (T := T) (N := N) hx hb hts g5 hown hK hP 0 (xwld_at (lay := lay_M) (k := 0) rfl) g1 0 g2 (hts _ g3) (fun z hz => by rw [g4] at hz; exact hz) (v := Value.ref (ad 1)) rfl dX11_damage_28 ?_
        refine lv_bipush (v := 45) hx hb dX11_damage_31 (by decide) ?_
        refine va_iald hx hb hK hP 1 0 (xwld_at (lay := lay_M) (k := 1) rfl) rfl (xib_in (i := 45) (b_ib (by omega))) dX11_damage_33 ?_
        refine lv_i2f hx hb dX11_damage_34 ?_
        exact hR.2 H locs ls 35 _ _ hP hS dX11_damage_35 dX11_damage_36 (by unfold xqF; rw [if_neg hne]; rfl)
      exact h1 H locs ls hP hS hv
    · refine lv_fconst0 hx hb dX11_damage_15 ?_
      refine lv_goto (tgt := 36) hx hb dX11_damage_16 (by decide) ?_
      have e : xqF (M 1 46) (M 1 45) = FP.fconst0 := by unfold xqF; rw [if_pos h0]
      rw [← e]
      exact hR.1 H locs ls 36 hP hS dX11_damage_36)
theorem x_nan32 {r : UInt32} (h : isNaN32 r = true) : FP.Core.decode FP.Core.b32 r.toNat = .nan := by
  have h1 : 2139095040 < r.toNat &&& (2 ^ 31 - 1) := isNaN32_iff.mp h
  rw [Nat.and_two_pow_sub_one_eq_mod] at h1
  have e1 : FP.Core.fieldE FP.Core.b32 r.toNat = FP.Core.b32.exps - 1 := by
    show r.toNat / 8388608 % 256 = 255
    omega
  have e2 : ¬ FP.Core.fieldT FP.Core.b32 r.toNat = 0 := by
    show ¬ r.toNat % 8388608 = 0
    omega
  unfold FP.Core.decode
  rw [if_pos e1, if_neg e2]
theorem x_f2n {u : UInt32} (hu : isNaN32 u = true) : isNaN64 (FP.f2d u) = true := by
  have e : FP.Core.fIsNaN u = true := decide_eq_true (x_nan32 hu)
  unfold FP.f2d
  rw [if_pos e]
  exact isNaN64_or_left (isNaN64_or_right (by decide +kernel))
theorem x_al {p x : UInt64} (h : alike64 p x = true) (hx : isNaN64 x = true) : isNaN64 p = true := by
  unfold alike64 at h
  simp only [Bool.or_eq_true, decide_eq_true_eq, Bool.and_eq_true] at h
  rcases h with rfl | ⟨n1, -⟩
  · exact hx
  · exact n1
theorem x_alikeF {f1 f2 x : UInt32} {p q : UInt64} (h3 : alike32 f1 x = true) (h4 : alike32 f2 x = true) (h1 : alike64 p (FP.f2d f1) = true) (h2 : alike64 q (FP.f2d f2) = true) (hc : Op.cmpValue (FP.dcmp p q) CmpOp.l ≠ 0) : Op.cmpValue (FP.dcmp p p) CmpOp.l ≠ 0 ∧ Op.cmpValue (FP.dcmp q q) CmpOp.l ≠ 0 := by
  unfold alike32 at h3 h4
  simp only [Bool.or_eq_true, decide_eq_true_eq, Bool.and_eq_true] at h3 h4
  have nn : isNaN32 f1 = true → isNaN32 f2 = true → Op.cmpValue (FP.dcmp p p) CmpOp.l ≠ 0 ∧ Op.cmpValue (FP.dcmp q q) CmpOp.l ≠ 0 := fun a b => ⟨x_nan64 (x_al h1 (x_f2n a)) _, x_nan64 (x_al h2 (x_f2n b)) _⟩
  rcases h3 with rfl | ⟨n1, n2⟩
  · rcases h4 with rfl | ⟨n3, n4⟩
    · exact x_alike h1 h2 hc
    · exact nn n4 n3
  · rcases h4 with rfl | ⟨n3, n4⟩
    · exact nn n1 n2
    · exact nn n1 n3
set_option maxRecDepth 100000 in
set_option maxHeartbeats 8000000 in
theorem lc_17 {Γ : yG} {b Ln : Nat} {xs : Nat → Int32} (C : yC Γ RL cL_law 9 100 601024 7293034) {aX aM : Nat → Nat} (hS : lS Γ aX aM) (o i : Nat) {ws : va_W} {k n : Nat} (hk : k + 4 ≤ 601024) (hn : n + 200 ≤ 7293034) {d0 : Drawn} (hd0 : ydB Γ d0) (hI : lI (yDA Γ) aX aM o ws) (Gk : ∀ (d' : Drawn), ydB Γ d' → ∀ (ws' : va_W) (k' n' : Nat), lI (yDA Γ) aX aM o ws' → k' ≤ k + 4 → n' ≤ n + 200 → yW (yd Γ d') 9 1638 (lL b aX aM o i) [] ws' k' n') : yW (yd Γ d0) 9 1133 (lL b aX aM o i) [] ws k n := by
  obtain ⟨m, M, g, T, G, hX, hT, rfl⟩ := hI
  have q9 : m 41 1 = M 1 46 := by
    have t := hX.1.1.1.2.2.2.1 1 (by omega)
    rw [bV11_0 m (by omega)] at t
    exact t.symm
  have q10 : m 41 0 = M 1 45 := by
    have t := hX.1.1.1.2.2.2.1 0 (by omega)
    rw [bV11_0 m (by omega)] at t
    exact t.symm
  have hM2 := c_m_damF Γ.1.2.1 M
  rw [← q9, ← q10] at hM2
  refine y_aload (yd_C C d0) 1 dL_law_1133 rfl rfl ?_
  refine y_callXFm hd0 (wa := [lwo (yDA Γ) o g]) (wb := T ++ xwld aM (yDA Γ) M 0 lay_M) (st := []) (av := []) (b := 0) (layY := lay_X) (m := m) C aX dL_law_1134 (xin_50 _ (List.mem_of_getElem? (i := 10) rfl)) xy_X10_damF (xin_50 _ (List.mem_of_getElem? (i := 11) rfl)) (xin_50 _ (List.mem_of_getElem? (i := 12) rfl)) (by omega) (by decide) rfl ⟨_, _, rfl⟩ rfl (Nat.le_of_ble_eq_true rfl) (c_X_damF _ m) (by omega) (by omega) hS.1 rfl (fun f1 d3 h3 hd3 => ?_)
  refine y_f2d hd3 C dL_law_1137 (fun r1 d1 h1 hd1 => ?_)
  refine y_dstore (yd_C C d1) dL_law_1138 (by omega) rfl ?_
  refine y_aload (yd_C C d1) 3 dL_law_1140 rfl rfl ?_
  refine y_callXFr hd1 (wa := lwo (yDA Γ) o g :: xwld aX (yDA Γ) m 0 lay_X) (wb := T) (st := []) (av := []) (b := 0) (layY := lay_M) (m := M) C aM dL_law_1141 (xin_50 _ (List.mem_of_getElem? (i := 14) rfl)) xy_X11_damF (xin_50 _ (List.mem_of_getElem? (i := 15) rfl)) (xin_50 _ (List.mem_of_getElem? (i := 16) rfl)) (by omega) (by decide) rfl ⟨_, _, rfl⟩ rfl (Nat.le_of_ble_eq_true rfl) hM2 (by omega) (by omega) hS.2 rfl (fun f2 d4 h4 hd4 => ?_)
  refine y_f2d hd4 C dL_law_1144 (fun r2 d2 h2 hd2 => ?_)
  refine y_dstore (yd_C C d2) dL_law_1145 (by omega) rfl ?_
  have Gz : yW (yd Γ d2) 9 1638 (lL b aX aM o i) [] (lw (yDA Γ) aX aM o g T m (xu M 0 6 0)) k n := Gk d2 hd2 _ _ _ ⟨m, xu M 0 6 0, g, T, G, hX.thr 0, hT, rfl⟩ (by omega) (by omega)
  have C2 := yd_C C d2
  refine y_dload C2 1 dL_law_1147 rfl ?_
  refine y_dload C2 0 dL_law_1149 rfl ?_
  refine y_dcmp C2 dL_law_1151 ?_
  refine y_ifeqx C2 1173 dL_law_1152 (by decide) (fun _ => ?_) (fun hc => ?_)
  · refine y_goto C2 1638 dL_law_1173 (by decide) ?_
    exact y_sub [2, 3, 4, 5, 6] rfl Gz
  · obtain ⟨g1, g2⟩ := x_alikeF h3 h4 h1 h2 hc
    refine y_dload C2 1 dL_law_1155 rfl ?_
    refine y_dload C2 1 dL_law_1157 rfl ?_
    refine y_dcmp C2 dL_law_1159 ?_
    refine y_ifeqx C2 1171 dL_law_1160 (by decide) (fun h0 => absurd h0 g1) (fun _ => ?_)
    refine y_dload C2 0 dL_law_1163 rfl ?_
    refine y_dload C2 0 dL_law_1165 rfl ?_
    refine y_dcmp C2 dL_law_1167 ?_
    refine y_ifne1 C2 1173 dL_law_1168 (by decide) g2 ?_
    refine y_goto C2 1638 dL_law_1173 (by decide) ?_
    exact y_sub [2, 3, 4, 5, 6] rfl Gz

/-! ===== yX11_inRange ===== -/
theorem dX11_inRange_0 : decode cX11_inRange 0 = .ok (.iload_n 0, 1) := by decide +kernel
theorem dX11_inRange_1 : decode cX11_inRange 1 = .ok (.iload_n 1, 1) := by decide +kernel
theorem dX11_inRange_2 : decode cX11_inRange 2 = .ok (.if_icmp .lt 12, 3) := by decide +kernel
theorem dX11_inRange_5 : decode cX11_inRange 5 = .ok (.iload_n 0, 1) := by decide +kernel
theorem dX11_inRange_6 : decode cX11_inRange 6 = .ok (.iload_n 2, 1) := by decide +kernel
theorem dX11_inRange_7 : decode cX11_inRange 7 = .ok (.if_icmp .gt 7, 3) := by decide +kernel
theorem dX11_inRange_10 : decode cX11_inRange 10 = .ok (.iconst 1, 1) := by decide +kernel
theorem dX11_inRange_11 : decode cX11_inRange 11 = .ok (.goto 4, 3) := by decide +kernel
theorem dX11_inRange_14 : decode cX11_inRange 14 = .ok (.iconst 0, 1) := by decide +kernel
theorem dX11_inRange_15 : decode cX11_inRange 15 = .ok (.ireturn, 1) := by decide +kernel
def f_m_inRange (v : Int) (a : Int) (b : Int) (m : xM) : Option (Int) :=
     (if xw v < xw a then some 0
      else (if xw b < xw v then some 0
      else some 1))
set_option maxRecDepth 1000000 in
set_option maxHeartbeats 4000000 in
theorem t_m_inRange {Γ : xG} {d : Nat} (hd9 : 1 ≤ d) (C : xC Γ lay_0 RX11 cX11_inRange 3 d) (v : Int) (a : Int) (b : Int) {r : Int} {m : xM} (hR : xRz Γ lay_0 cX11_inRange r m) (h : f_m_inRange v a b m = some r) : xW Γ lay_0 3 0 [(0, .inl v), (1, .inl a), (2, .inl b)] [] m := by
  unfold f_m_inRange at h
  refine x_iload_n C dX11_inRange_0 rfl ?_
  refine x_iload_n C dX11_inRange_1 rfl ?_
  refine x_icmp_lt C 14 dX11_inRange_2 (by decide) h (fun h => ?_) (fun h => ?_)
  · refine x_iconst C dX11_inRange_14 ?_
    exact x_zreturnP hR (by decide) dX11_inRange_15 h
  · refine x_iload_n C dX11_inRange_5 rfl ?_
    refine x_iload_n C dX11_inRange_6 rfl ?_
    refine x_icmp_gt C 14 dX11_inRange_7 (by decide) h (fun h => ?_) (fun h => ?_)
    · refine x_iconst C dX11_inRange_14 ?_
      exact x_zreturnP hR (by decide) dX11_inRange_15 h
    · refine x_iconst C dX11_inRange_10 ?_
      refine x_goto C 15 dX11_inRange_11 (by decide) ?_
      exact x_zreturnP hR (by decide) dX11_inRange_15 h
theorem c_m_inRange (l : Launch) (v : Int) (a : Int) (b : Int) (m : xM) (r : Int) (h : f_m_inRange v a b m = some r) : xMet l yX11_inRange cX11_inRange 3 (some .boolean) 1 lay_0 [.inl v, .inl a, .inl b] m (some (.inl r)) m :=
  xMet_z (by decide +kernel) (Nat.le_of_ble_eq_true rfl) (fun Γ C hR hl9 => t_m_inRange (Nat.le_refl _) C v a b hR h)
/-! ===== yX11_endAt ===== -/
theorem dX11_endAt_0 : decode cX11_endAt 0 = .ok (.bipush 56, 2) := by decide +kernel
theorem dX11_endAt_2 : decode cX11_endAt 2 = .ok (.sipush 717, 3) := by decide +kernel
theorem dX11_endAt_5 : decode cX11_endAt 5 = .ok (.iload_n 0, 1) := by decide +kernel
theorem dX11_endAt_6 : decode cX11_endAt 6 = .ok (.imul, 1) := by decide +kernel
theorem dX11_endAt_7 : decode cX11_endAt 7 = .ok (.iadd, 1) := by decide +kernel
theorem dX11_endAt_8 : decode cX11_endAt 8 = .ok (.iload_n 1, 1) := by decide +kernel
theorem dX11_endAt_9 : decode cX11_endAt 9 = .ok (.iadd, 1) := by decide +kernel
theorem dX11_endAt_10 : decode cX11_endAt 10 = .ok (.ireturn, 1) := by decide +kernel
def f_m_endAt (e : Int) (f : Int) (m : xM) : Option (Int) :=
     some ((56 + (717 * e)) + f)
set_option maxRecDepth 1000000 in
set_option maxHeartbeats 4000000 in
theorem t_m_endAt {Γ : xG} {d : Nat} (hd9 : 1 ≤ d) (C : xC Γ lay_0 RX11 cX11_endAt 2 d) (e : Int) (f : Int) {r : Int} {m : xM} (hR : xRi Γ lay_0 cX11_endAt r m) (h : f_m_endAt e f m = some r) : xW Γ lay_0 2 0 [(0, .inl e), (1, .inl f)] [] m := by
  unfold f_m_endAt at h
  refine x_bipush C dX11_endAt_0 (by decide) ?_
  refine x_sipush C dX11_endAt_2 (by decide) ?_
  refine x_iload_n C dX11_endAt_5 rfl ?_
  refine x_imul C dX11_endAt_6 ?_
  refine x_iadd C dX11_endAt_7 ?_
  refine x_iload_n C dX11_endAt_8 rfl ?_
  refine x_iadd C dX11_endAt_9 ?_
  exact x_ireturnP hR dX11_endAt_10 h
theorem c_m_endAt (l : Launch) (e : Int) (f : Int) (m : xM) (r : Int) (h : f_m_endAt e f m = some r) : xMet l yX11_endAt cX11_endAt 2 (some .int) 1 lay_0 [.inl e, .inl f] m (some (.inl r)) m :=
  xMet_i (by decide +kernel) (Nat.le_of_ble_eq_true rfl) (fun Γ C hR hl9 => t_m_endAt (Nat.le_refl _) C e f hR h)
/-! ===== yX11_of ===== -/
theorem fF_X11_9 : xF RX11 9 13 0 (.array .int) true := ⟨RX11, TX11, 26, tyX11, rfl, by decide, (xin_9 _ (List.mem_of_getElem? (i := 2) rfl)), rfl, inlX11, tyX11_ok, nmX11, rfl, rfl⟩
theorem xy_X11_endAt : xY yX11_endAt cX11_endAt 2 (some .int) 2 := ⟨(xin_27 _ (List.mem_of_getElem? (i := 20) rfl)), (xin_1 _ (List.mem_of_getElem? (i := 5) rfl)), by decide, by decide, by decide +kernel⟩
theorem xt_X11_endAt : Cond.static yX11_endAt ∈ wsL_law := (xin_27 _ (List.mem_of_getElem? (i := 19) rfl))
theorem xv_49 : xview lay_M lay_0 [] := xview_of (by decide +kernel)
theorem dX11_of_0 : decode cX11_of 0 = .ok (.aload_n 0, 1) := by decide +kernel
theorem dX11_of_1 : decode cX11_of 1 = .ok (.getfield 9, 3) := by decide +kernel
theorem dX11_of_4 : decode cX11_of 4 = .ok (.iload_n 1, 1) := by decide +kernel
theorem dX11_of_5 : decode cX11_of 5 = .ok (.iload_n 2, 1) := by decide +kernel
theorem dX11_of_6 : decode cX11_of 6 = .ok (.invokestatic 69, 3) := by decide +kernel
theorem dX11_of_9 : decode cX11_of 9 = .ok (.iaload, 1) := by decide +kernel
theorem dX11_of_10 : decode cX11_of 10 = .ok (.ireturn, 1) := by decide +kernel
def f_m_of (e : Int) (f : Int) (m : xM) : Option (Int) :=
     (Option.bind (f_m_endAt e f (xvw [] m)) fun q0 =>
      (if xib q0 3530 then some (m 1 (xix q0))
      else none))
set_option maxRecDepth 1000000 in
set_option maxHeartbeats 4000000 in
theorem t_m_of {Γ : xG} {d : Nat} (hd9 : 2 ≤ d) (C : xC Γ lay_M RX11 cX11_of 3 d) (e : Int) (f : Int) {r : Int} {m : xM} (hR : xRi Γ lay_M cX11_of r m) (h : f_m_of e f m = some r) : xW Γ lay_M 3 0 [(0, .inr (.inr (some 0))), (1, .inl e), (2, .inl f)] [] m := by
  unfold f_m_of at h
  refine x_aload_n C dX11_of_0 rfl ?_
  refine x_getR C dX11_of_1 fF_X11_9 rfl rfl ?_
  refine x_iload_n C dX11_of_4 rfl ?_
  refine x_iload_n C dX11_of_5 rfl ?_
  obtain ⟨q0, hq0, h⟩ := x_bind h
  refine x_callSp C dX11_of_6 (xin_27 _ (List.mem_of_getElem? (i := 18) rfl)) xy_X11_endAt (xt_X11_endAt) [] xv_49 (by omega) (by decide) (av := [.inl e, .inl f]) rfl (Nat.le_of_ble_eq_true rfl) (c_m_endAt _ _ _ _ _ hq0) rfl ?_
  refine x_iaload C dX11_of_9 rfl h (fun h => ?_)
  exact x_ireturnP hR dX11_of_10 h
theorem c_m_of (l : Launch) (e : Int) (f : Int) (m : xM) (r : Int) (h : f_m_of e f m = some r) : xMet l yX11_of cX11_of 3 (some .int) 2 lay_M [.inr (.inr (some 0)), .inl e, .inl f] m (some (.inl r)) m :=
  xMet_i (by decide +kernel) (Nat.le_of_ble_eq_true rfl) (fun Γ C hR hl9 => t_m_of (Nat.le_refl _) C e f hR h)
/-! ===== yX11_frameAt ===== -/
theorem dX11_frameAt_0 : decode cX11_frameAt 0 = .ok (.iload_n 0, 1) := by decide +kernel
theorem dX11_frameAt_1 : decode cX11_frameAt 1 = .ok (.bipush 26, 2) := by decide +kernel
theorem dX11_frameAt_3 : decode cX11_frameAt 3 = .ok (.bipush 13, 2) := by decide +kernel
theorem dX11_frameAt_5 : decode cX11_frameAt 5 = .ok (.iload_n 1, 1) := by decide +kernel
theorem dX11_frameAt_6 : decode cX11_frameAt 6 = .ok (.imul, 1) := by decide +kernel
theorem dX11_frameAt_7 : decode cX11_frameAt 7 = .ok (.iadd, 1) := by decide +kernel
theorem dX11_frameAt_8 : decode cX11_frameAt 8 = .ok (.iload_n 2, 1) := by decide +kernel
theorem dX11_frameAt_9 : decode cX11_frameAt 9 = .ok (.iadd, 1) := by decide +kernel
theorem dX11_frameAt_10 : decode cX11_frameAt 10 = .ok (.invokestatic 69, 3) := by decide +kernel
theorem dX11_frameAt_13 : decode cX11_frameAt 13 = .ok (.ireturn, 1) := by decide +kernel
def f_m_frameAt (e : Int) (p : Int) (f : Int) (m : xM) : Option (Int) :=
     (Option.bind (f_m_endAt e ((26 + (13 * p)) + f) m) fun q0 =>
      some q0)
set_option maxRecDepth 1000000 in
set_option maxHeartbeats 4000000 in
theorem t_m_frameAt {Γ : xG} {d : Nat} (hd9 : 2 ≤ d) (C : xC Γ lay_0 RX11 cX11_frameAt 3 d) (e : Int) (p : Int) (f : Int) {r : Int} {m : xM} (hR : xRi Γ lay_0 cX11_frameAt r m) (h : f_m_frameAt e p f m = some r) : xW Γ lay_0 3 0 [(0, .inl e), (1, .inl p), (2, .inl f)] [] m := by
  unfold f_m_frameAt at h
  refine x_iload_n C dX11_frameAt_0 rfl ?_
  refine x_bipush C dX11_frameAt_1 (by decide) ?_
  refine x_bipush C dX11_frameAt_3 (by decide) ?_
  refine x_iload_n C dX11_frameAt_5 rfl ?_
  refine x_imul C dX11_frameAt_6 ?_
  refine x_iadd C dX11_frameAt_7 ?_
  refine x_iload_n C dX11_frameAt_8 rfl ?_
  refine x_iadd C dX11_frameAt_9 ?_
  obtain ⟨q0, hq0, h⟩ := x_bind h
  refine x_callSI C dX11_frameAt_10 (xin_27 _ (List.mem_of_getElem? (i := 18) rfl)) xy_X11_endAt (xt_X11_endAt) (by omega) (by decide) (av := [.inl e, .inl ((26 + (13 * p)) + f)]) rfl (Nat.le_of_ble_eq_true rfl) (c_m_endAt _ _ _ _ _ hq0) rfl ?_
  exact x_ireturnP hR dX11_frameAt_13 h
theorem c_m_frameAt (l : Launch) (e : Int) (p : Int) (f : Int) (m : xM) (r : Int) (h : f_m_frameAt e p f m = some r) : xMet l yX11_frameAt cX11_frameAt 3 (some .int) 2 lay_0 [.inl e, .inl p, .inl f] m (some (.inl r)) m :=
  xMet_i (by decide +kernel) (Nat.le_of_ble_eq_true rfl) (fun Γ C hR hl9 => t_m_frameAt (Nat.le_refl _) C e p f hR h)
/-! ===== yX11_ofFrame ===== -/
theorem xy_X11_frameAt : xY yX11_frameAt cX11_frameAt 3 (some .int) 3 := ⟨(xin_28 _ (List.mem_of_getElem? (i := 7) rfl)), (xin_1 _ (List.mem_of_getElem? (i := 5) rfl)), by decide, by decide, by decide +kernel⟩
theorem xt_X11_frameAt : Cond.static yX11_frameAt ∈ wsL_law := (xin_28 _ (List.mem_of_getElem? (i := 6) rfl))
theorem dX11_ofFrame_0 : decode cX11_ofFrame 0 = .ok (.aload_n 0, 1) := by decide +kernel
theorem dX11_ofFrame_1 : decode cX11_ofFrame 1 = .ok (.getfield 9, 3) := by decide +kernel
theorem dX11_ofFrame_4 : decode cX11_ofFrame 4 = .ok (.iload_n 1, 1) := by decide +kernel
theorem dX11_ofFrame_5 : decode cX11_ofFrame 5 = .ok (.iload_n 2, 1) := by decide +kernel
theorem dX11_ofFrame_6 : decode cX11_ofFrame 6 = .ok (.iload_n 3, 1) := by decide +kernel
theorem dX11_ofFrame_7 : decode cX11_ofFrame 7 = .ok (.invokestatic 73, 3) := by decide +kernel
theorem dX11_ofFrame_10 : decode cX11_ofFrame 10 = .ok (.iaload, 1) := by decide +kernel
theorem dX11_ofFrame_11 : decode cX11_ofFrame 11 = .ok (.ireturn, 1) := by decide +kernel
def f_m_ofFrame (e : Int) (p : Int) (f : Int) (m : xM) : Option (Int) :=
     (Option.bind (f_m_frameAt e p f (xvw [] m)) fun q0 =>
      (if xib q0 3530 then some (m 1 (xix q0))
      else none))
set_option maxRecDepth 1000000 in
set_option maxHeartbeats 4000000 in
theorem t_m_ofFrame {Γ : xG} {d : Nat} (hd9 : 3 ≤ d) (C : xC Γ lay_M RX11 cX11_ofFrame 4 d) (e : Int) (p : Int) (f : Int) {r : Int} {m : xM} (hR : xRi Γ lay_M cX11_ofFrame r m) (h : f_m_ofFrame e p f m = some r) : xW Γ lay_M 4 0 [(0, .inr (.inr (some 0))), (1, .inl e), (2, .inl p), (3, .inl f)] [] m := by
  unfold f_m_ofFrame at h
  refine x_aload_n C dX11_ofFrame_0 rfl ?_
  refine x_getR C dX11_ofFrame_1 fF_X11_9 rfl rfl ?_
  refine x_iload_n C dX11_ofFrame_4 rfl ?_
  refine x_iload_n C dX11_ofFrame_5 rfl ?_
  refine x_iload_n C dX11_ofFrame_6 rfl ?_
  obtain ⟨q0, hq0, h⟩ := x_bind h
  refine x_callSp C dX11_ofFrame_7 (xin_28 _ (List.mem_of_getElem? (i := 5) rfl)) xy_X11_frameAt (xt_X11_frameAt) [] xv_49 (by omega) (by decide) (av := [.inl e, .inl p, .inl f]) rfl (Nat.le_of_ble_eq_true rfl) (c_m_frameAt _ _ _ _ _ _ hq0) rfl ?_
  refine x_iaload C dX11_ofFrame_10 rfl h (fun h => ?_)
  exact x_ireturnP hR dX11_ofFrame_11 h
theorem c_m_ofFrame (l : Launch) (e : Int) (p : Int) (f : Int) (m : xM) (r : Int) (h : f_m_ofFrame e p f m = some r) : xMet l yX11_ofFrame cX11_ofFrame 4 (some .int) 3 lay_M [.inr (.inr (some 0)), .inl e, .inl p, .inl f] m (some (.inl r)) m :=
  xMet_i (by decide +kernel) (Nat.le_of_ble_eq_true rfl) (fun Γ C hR hl9 => t_m_ofFrame (Nat.le_refl _) C e p f hR h)
/-! ===== yX11_flyAt ===== -/
theorem dX11_flyAt_0 : decode cX11_flyAt 0 = .ok (.sipush 1730, 3) := by decide +kernel
theorem dX11_flyAt_3 : decode cX11_flyAt 3 = .ok (.bipush 15, 2) := by decide +kernel
theorem dX11_flyAt_5 : decode cX11_flyAt 5 = .ok (.iload_n 0, 1) := by decide +kernel
theorem dX11_flyAt_6 : decode cX11_flyAt 6 = .ok (.imul, 1) := by decide +kernel
theorem dX11_flyAt_7 : decode cX11_flyAt 7 = .ok (.iadd, 1) := by decide +kernel
theorem dX11_flyAt_8 : decode cX11_flyAt 8 = .ok (.iload_n 1, 1) := by decide +kernel
theorem dX11_flyAt_9 : decode cX11_flyAt 9 = .ok (.iadd, 1) := by decide +kernel
theorem dX11_flyAt_10 : decode cX11_flyAt 10 = .ok (.ireturn, 1) := by decide +kernel
def f_m_flyAt (p : Int) (f : Int) (m : xM) : Option (Int) :=
     some ((1730 + (15 * p)) + f)
set_option maxRecDepth 1000000 in
set_option maxHeartbeats 4000000 in
theorem t_m_flyAt {Γ : xG} {d : Nat} (hd9 : 1 ≤ d) (C : xC Γ lay_0 RX11 cX11_flyAt 2 d) (p : Int) (f : Int) {r : Int} {m : xM} (hR : xRi Γ lay_0 cX11_flyAt r m) (h : f_m_flyAt p f m = some r) : xW Γ lay_0 2 0 [(0, .inl p), (1, .inl f)] [] m := by
  unfold f_m_flyAt at h
  refine x_sipush C dX11_flyAt_0 (by decide) ?_
  refine x_bipush C dX11_flyAt_3 (by decide) ?_
  refine x_iload_n C dX11_flyAt_5 rfl ?_
  refine x_imul C dX11_flyAt_6 ?_
  refine x_iadd C dX11_flyAt_7 ?_
  refine x_iload_n C dX11_flyAt_8 rfl ?_
  refine x_iadd C dX11_flyAt_9 ?_
  exact x_ireturnP hR dX11_flyAt_10 h
theorem c_m_flyAt (l : Launch) (p : Int) (f : Int) (m : xM) (r : Int) (h : f_m_flyAt p f m = some r) : xMet l yX11_flyAt cX11_flyAt 2 (some .int) 1 lay_0 [.inl p, .inl f] m (some (.inl r)) m :=
  xMet_i (by decide +kernel) (Nat.le_of_ble_eq_true rfl) (fun Γ C hR hl9 => t_m_flyAt (Nat.le_refl _) C p f hR h)
/-! ===== yX11_isPhase ===== -/
theorem dX11_isPhase_0 : decode cX11_isPhase 0 = .ok (.aload_n 0, 1) := by decide +kernel
theorem dX11_isPhase_1 : decode cX11_isPhase 1 = .ok (.getfield 9, 3) := by decide +kernel
theorem dX11_isPhase_4 : decode cX11_isPhase 4 = .ok (.iconst 1, 1) := by decide +kernel
theorem dX11_isPhase_5 : decode cX11_isPhase 5 = .ok (.iaload, 1) := by decide +kernel
theorem dX11_isPhase_6 : decode cX11_isPhase 6 = .ok (.iload_n 1, 1) := by decide +kernel
theorem dX11_isPhase_7 : decode cX11_isPhase 7 = .ok (.if_icmp .ne 7, 3) := by decide +kernel
theorem dX11_isPhase_10 : decode cX11_isPhase 10 = .ok (.iconst 1, 1) := by decide +kernel
theorem dX11_isPhase_11 : decode cX11_isPhase 11 = .ok (.goto 4, 3) := by decide +kernel
theorem dX11_isPhase_14 : decode cX11_isPhase 14 = .ok (.iconst 0, 1) := by decide +kernel
theorem dX11_isPhase_15 : decode cX11_isPhase 15 = .ok (.ireturn, 1) := by decide +kernel
def f_m_isPhase (z : Int) (m : xM) : Option (Int) :=
     (if xib 1 3530 then (if xw (m 1 1) = xw z then some 1
      else some 0)
      else none)
set_option maxRecDepth 1000000 in
set_option maxHeartbeats 4000000 in
theorem t_m_isPhase {Γ : xG} {d : Nat} (hd9 : 1 ≤ d) (C : xC Γ lay_M RX11 cX11_isPhase 2 d) (z : Int) {r : Int} {m : xM} (hR : xRz Γ lay_M cX11_isPhase r m) (h : f_m_isPhase z m = some r) : xW Γ lay_M 2 0 [(0, .inr (.inr (some 0))), (1, .inl z)] [] m := by
  unfold f_m_isPhase at h
  refine x_aload_n C dX11_isPhase_0 rfl ?_
  refine x_getR C dX11_isPhase_1 fF_X11_9 rfl rfl ?_
  refine x_iconst C dX11_isPhase_4 ?_
  refine x_iaload C dX11_isPhase_5 rfl h (fun h => ?_)
  refine x_iload_n C dX11_isPhase_6 rfl ?_
  refine x_icmp_ne C 14 dX11_isPhase_7 (by decide) h (fun h => ?_) (fun h => ?_)
  · refine x_iconst C dX11_isPhase_14 ?_
    exact x_zreturnP hR (by decide) dX11_isPhase_15 h
  · refine x_iconst C dX11_isPhase_10 ?_
    refine x_goto C 15 dX11_isPhase_11 (by decide) ?_
    exact x_zreturnP hR (by decide) dX11_isPhase_15 h
theorem c_m_isPhase (l : Launch) (z : Int) (m : xM) (r : Int) (h : f_m_isPhase z m = some r) : xMet l yX11_isPhase cX11_isPhase 2 (some .boolean) 1 lay_M [.inr (.inr (some 0)), .inl z] m (some (.inl r)) m :=
  xMet_z (by decide +kernel) (Nat.le_of_ble_eq_true rfl) (fun Γ C hR hl9 => t_m_isPhase (Nat.le_refl _) C z hR h)
/-! ===== yX11_rateNow ===== -/
theorem xy_X11_isPhase : xY yX11_isPhase cX11_isPhase 2 (some .boolean) 1 := ⟨(xin_25 _ (List.mem_of_getElem? (i := 15) rfl)), (xin_1 _ (List.mem_of_getElem? (i := 5) rfl)), by decide, by decide, by decide +kernel⟩
theorem xi_X11_isPhase : Cond.instanceMethod yX11_isPhase ∈ wsL_law := (xin_25 _ (List.mem_of_getElem? (i := 13) rfl))
theorem xs_X11_isPhase : Cond.selects yX11_isPhase.cls yX11_isPhase yX11_isPhase ∈ wsL_law := (xin_25 _ (List.mem_of_getElem? (i := 14) rfl))
theorem dX11_rateNow_0 : decode cX11_rateNow 0 = .ok (.aload_n 0, 1) := by decide +kernel
theorem dX11_rateNow_1 : decode cX11_rateNow 1 = .ok (.iconst 2, 1) := by decide +kernel
theorem dX11_rateNow_2 : decode cX11_rateNow 2 = .ok (.invokevirtual 77, 3) := by decide +kernel
theorem dX11_rateNow_5 : decode cX11_rateNow 5 = .ok (.ifCond .eq 12, 3) := by decide +kernel
theorem dX11_rateNow_8 : decode cX11_rateNow 8 = .ok (.aload_n 0, 1) := by decide +kernel
theorem dX11_rateNow_9 : decode cX11_rateNow 9 = .ok (.getfield 9, 3) := by decide +kernel
theorem dX11_rateNow_12 : decode cX11_rateNow 12 = .ok (.iconst 3, 1) := by decide +kernel
theorem dX11_rateNow_13 : decode cX11_rateNow 13 = .ok (.iaload, 1) := by decide +kernel
theorem dX11_rateNow_14 : decode cX11_rateNow 14 = .ok (.goto 4, 3) := by decide +kernel
theorem dX11_rateNow_17 : decode cX11_rateNow 17 = .ok (.iconst (-1), 1) := by decide +kernel
theorem dX11_rateNow_18 : decode cX11_rateNow 18 = .ok (.ireturn, 1) := by decide +kernel
def f_m_rateNow (m : xM) : Option (Int) :=
     (Option.bind (f_m_isPhase 2 m) fun q0 =>
      (if xw q0 = 0 then some (-1)
      else (if xib 3 3530 then some (m 1 3)
      else none)))
set_option maxRecDepth 1000000 in
set_option maxHeartbeats 4000000 in
theorem t_m_rateNow {Γ : xG} {d : Nat} (hd9 : 2 ≤ d) (C : xC Γ lay_M RX11 cX11_rateNow 1 d) {r : Int} {m : xM} (hR : xRi Γ lay_M cX11_rateNow r m) (h : f_m_rateNow m = some r) : xW Γ lay_M 1 0 [(0, .inr (.inr (some 0)))] [] m := by
  unfold f_m_rateNow at h
  refine x_aload_n C dX11_rateNow_0 rfl ?_
  refine x_iconst C dX11_rateNow_1 ?_
  obtain ⟨q0, hq0, h⟩ := x_bind h
  refine x_callVI C dX11_rateNow_2 (xin_25 _ (List.mem_of_getElem? (i := 12) rfl)) xy_X11_isPhase (xi_X11_isPhase) (xs_X11_isPhase) (by omega) (by decide) (b := 0) rfl ⟨_, _, rfl⟩ (av := [.inl 2]) rfl (Nat.le_of_ble_eq_true rfl) (c_m_isPhase _ _ _ _ hq0) rfl ?_
  refine x_if_eq C 17 dX11_rateNow_5 (by decide) h (fun h => ?_) (fun h => ?_)
  · refine x_iconst C dX11_rateNow_17 ?_
    exact x_ireturnP hR dX11_rateNow_18 h
  · refine x_aload_n C dX11_rateNow_8 rfl ?_
    refine x_getR C dX11_rateNow_9 fF_X11_9 rfl rfl ?_
    refine x_iconst C dX11_rateNow_12 ?_
    refine x_iaload C dX11_rateNow_13 rfl h (fun h => ?_)
    refine x_goto C 18 dX11_rateNow_14 (by decide) ?_
    exact x_ireturnP hR dX11_rateNow_18 h
theorem c_m_rateNow (l : Launch) (m : xM) (r : Int) (h : f_m_rateNow m = some r) : xMet l yX11_rateNow cX11_rateNow 1 (some .int) 2 lay_M [.inr (.inr (some 0))] m (some (.inl r)) m :=
  xMet_i (by decide +kernel) (Nat.le_of_ble_eq_true rfl) (fun Γ C hR hl9 => t_m_rateNow (Nat.le_refl _) C hR h)
/-! ===== yX11_isEnd ===== -/
theorem xy_X11_inRange : xY yX11_inRange cX11_inRange 3 (some .boolean) 3 := ⟨(xin_18 _ (List.mem_of_getElem? (i := 21) rfl)), (xin_1 _ (List.mem_of_getElem? (i := 5) rfl)), by decide, by decide, by decide +kernel⟩
theorem xt_X11_inRange : Cond.static yX11_inRange ∈ wsL_law := (xin_18 _ (List.mem_of_getElem? (i := 20) rfl))
theorem dX11_isEnd_0 : decode cX11_isEnd 0 = .ok (.iload_n 0, 1) := by decide +kernel
theorem dX11_isEnd_1 : decode cX11_isEnd 1 = .ok (.iconst 0, 1) := by decide +kernel
theorem dX11_isEnd_2 : decode cX11_isEnd 2 = .ok (.iconst 1, 1) := by decide +kernel
theorem dX11_isEnd_3 : decode cX11_isEnd 3 = .ok (.invokestatic 81, 3) := by decide +kernel
theorem dX11_isEnd_6 : decode cX11_isEnd 6 = .ok (.ireturn, 1) := by decide +kernel
def f_m_isEnd (e : Int) (m : xM) : Option (Int) :=
     (Option.bind (f_m_inRange e 0 1 m) fun q0 =>
      (if xbz q0 then some q0
      else none))
set_option maxRecDepth 1000000 in
set_option maxHeartbeats 4000000 in
theorem t_m_isEnd {Γ : xG} {d : Nat} (hd9 : 2 ≤ d) (C : xC Γ lay_0 RX11 cX11_isEnd 1 d) (e : Int) {r : Int} {m : xM} (hR : xRz Γ lay_0 cX11_isEnd r m) (h : f_m_isEnd e m = some r) : xW Γ lay_0 1 0 [(0, .inl e)] [] m := by
  unfold f_m_isEnd at h
  refine x_iload_n C dX11_isEnd_0 rfl ?_
  refine x_iconst C dX11_isEnd_1 ?_
  refine x_iconst C dX11_isEnd_2 ?_
  obtain ⟨q0, hq0, h⟩ := x_bind h
  refine x_callSI C dX11_isEnd_3 (xin_18 _ (List.mem_of_getElem? (i := 19) rfl)) xy_X11_inRange (xt_X11_inRange) (by omega) (by decide) (av := [.inl e, .inl 0, .inl 1]) rfl (Nat.le_of_ble_eq_true rfl) (c_m_inRange _ _ _ _ _ _ hq0) rfl ?_
  obtain ⟨hz9, h⟩ := x_some1 h
  exact x_zreturnP hR hz9 dX11_isEnd_6 h
theorem c_m_isEnd (l : Launch) (e : Int) (m : xM) (r : Int) (h : f_m_isEnd e m = some r) : xMet l yX11_isEnd cX11_isEnd 1 (some .boolean) 2 lay_0 [.inl e] m (some (.inl r)) m :=
  xMet_z (by decide +kernel) (Nat.le_of_ble_eq_true rfl) (fun Γ C hR hl9 => t_m_isEnd (Nat.le_refl _) C e hR h)
/-! ===== yX11_isRate ===== -/
theorem dX11_isRate_0 : decode cX11_isRate 0 = .ok (.iload_n 1, 1) := by decide +kernel
theorem dX11_isRate_1 : decode cX11_isRate 1 = .ok (.iconst 0, 1) := by decide +kernel
theorem dX11_isRate_2 : decode cX11_isRate 2 = .ok (.aload_n 0, 1) := by decide +kernel
theorem dX11_isRate_3 : decode cX11_isRate 3 = .ok (.getfield 9, 3) := by decide +kernel
theorem dX11_isRate_6 : decode cX11_isRate 6 = .ok (.bipush 11, 2) := by decide +kernel
theorem dX11_isRate_8 : decode cX11_isRate 8 = .ok (.iaload, 1) := by decide +kernel
theorem dX11_isRate_9 : decode cX11_isRate 9 = .ok (.iconst 1, 1) := by decide +kernel
theorem dX11_isRate_10 : decode cX11_isRate 10 = .ok (.isub, 1) := by decide +kernel
theorem dX11_isRate_11 : decode cX11_isRate 11 = .ok (.invokestatic 81, 3) := by decide +kernel
theorem dX11_isRate_14 : decode cX11_isRate 14 = .ok (.ireturn, 1) := by decide +kernel
def f_m_isRate (z : Int) (m : xM) : Option (Int) :=
     (if xib 11 3530 then (Option.bind (f_m_inRange z 0 ((m 1 11) - 1) (xvw [] m)) fun q0 =>
      (if xbz q0 then some q0
      else none))
      else none)
set_option maxRecDepth 1000000 in
set_option maxHeartbeats 4000000 in
theorem t_m_isRate {Γ : xG} {d : Nat} (hd9 : 2 ≤ d) (C : xC Γ lay_M RX11 cX11_isRate 2 d) (z : Int) {r : Int} {m : xM} (hR : xRz Γ lay_M cX11_isRate r m) (h : f_m_isRate z m = some r) : xW Γ lay_M 2 0 [(0, .inr (.inr (some 0))), (1, .inl z)] [] m := by
  unfold f_m_isRate at h
  refine x_iload_n C dX11_isRate_0 rfl ?_
  refine x_iconst C dX11_isRate_1 ?_
  refine x_aload_n C dX11_isRate_2 rfl ?_
  refine x_getR C dX11_isRate_3 fF_X11_9 rfl rfl ?_
  refine x_bipush C dX11_isRate_6 (by decide) ?_
  refine x_iaload C dX11_isRate_8 rfl h (fun h => ?_)
  refine x_iconst C dX11_isRate_9 ?_
  refine x_isub C dX11_isRate_10 ?_
  obtain ⟨q0, hq0, h⟩ := x_bind h
  refine x_callSp C dX11_isRate_11 (xin_18 _ (List.mem_of_getElem? (i := 19) rfl)) xy_X11_inRange (xt_X11_inRange) [] xv_49 (by omega) (by decide) (av := [.inl z, .inl 0, .inl ((m 1 11) - 1)]) rfl (Nat.le_of_ble_eq_true rfl) (c_m_inRange _ _ _ _ _ _ hq0) rfl ?_
  obtain ⟨hz9, h⟩ := x_some1 h
  exact x_zreturnP hR hz9 dX11_isRate_14 h
theorem c_m_isRate (l : Launch) (z : Int) (m : xM) (r : Int) (h : f_m_isRate z m = some r) : xMet l yX11_isRate cX11_isRate 2 (some .boolean) 2 lay_M [.inr (.inr (some 0)), .inl z] m (some (.inl r)) m :=
  xMet_z (by decide +kernel) (Nat.le_of_ble_eq_true rfl) (fun Γ C hR hl9 => t_m_isRate (Nat.le_refl _) C z hR h)
/-! ===== yX11_thrown ===== -/
theorem fF_X11_66 : xF RX11 66 13 6 .int false := ⟨RX11, TX11, 26, tyX11, rfl, by decide, (xin_10 _ (List.mem_of_getElem? (i := 8) rfl)), rfl, inlX11, tyX11_ok, nmX11, rfl, rfl⟩
theorem dX11_thrown_0 : decode cX11_thrown 0 = .ok (.aload_n 0, 1) := by decide +kernel
theorem dX11_thrown_1 : decode cX11_thrown 1 = .ok (.getfield 66, 3) := by decide +kernel
theorem dX11_thrown_4 : decode cX11_thrown 4 = .ok (.ireturn, 1) := by decide +kernel
def f_m_thrown (m : xM) : Option (Int) :=
     some (m 0 6)
set_option maxRecDepth 1000000 in
set_option maxHeartbeats 4000000 in
theorem t_m_thrown {Γ : xG} {d : Nat} (hd9 : 1 ≤ d) (C : xC Γ lay_M RX11 cX11_thrown 1 d) {r : Int} {m : xM} (hR : xRi Γ lay_M cX11_thrown r m) (h : f_m_thrown m = some r) : xW Γ lay_M 1 0 [(0, .inr (.inr (some 0)))] [] m := by
  unfold f_m_thrown at h
  refine x_aload_n C dX11_thrown_0 rfl ?_
  refine x_getI C dX11_thrown_1 fF_X11_66 rfl rfl ?_
  exact x_ireturnP hR dX11_thrown_4 h
theorem c_m_thrown (l : Launch) (m : xM) (r : Int) (h : f_m_thrown m = some r) : xMet l yX11_thrown cX11_thrown 1 (some .int) 1 lay_M [.inr (.inr (some 0))] m (some (.inl r)) m :=
  xMet_i (by decide +kernel) (Nat.le_of_ble_eq_true rfl) (fun Γ C hR hl9 => t_m_thrown (Nat.le_refl _) C hR h)
/-! ===== yX11_raise ===== -/
theorem dX11_raise_0 : decode cX11_raise 0 = .ok (.aload_n 0, 1) := by decide +kernel
theorem dX11_raise_1 : decode cX11_raise 1 = .ok (.iload_n 1, 1) := by decide +kernel
theorem dX11_raise_2 : decode cX11_raise 2 = .ok (.putfield 66, 3) := by decide +kernel
theorem dX11_raise_5 : decode cX11_raise 5 = .ok (.iconst 0, 1) := by decide +kernel
theorem dX11_raise_6 : decode cX11_raise 6 = .ok (.ireturn, 1) := by decide +kernel
def f_m_raise (z : Int) (m : xM) : Option (Int × xM) :=
     some (0, (xu m 0 6 z))
set_option maxRecDepth 1000000 in
set_option maxHeartbeats 4000000 in
theorem t_m_raise {Γ : xG} {d : Nat} (hd9 : 1 ≤ d) (C : xC Γ lay_M RX11 cX11_raise 2 d) (z : Int) {r : Int} {m9 : xM} (hR : xRi Γ lay_M cX11_raise r m9) (m : xM) (h : f_m_raise z m = some (r, m9)) : xW Γ lay_M 2 0 [(0, .inr (.inr (some 0))), (1, .inl z)] [] m := by
  unfold f_m_raise at h
  refine x_aload_n C dX11_raise_0 rfl ?_
  refine x_iload_n C dX11_raise_1 rfl ?_
  refine x_putI C dX11_raise_2 fF_X11_66 rfl rfl ?_
  refine x_iconst C dX11_raise_5 ?_
  exact x_ireturn hR dX11_raise_6 h
theorem c_m_raise (l : Launch) (z : Int) (m : xM) (r : Int) (m9 : xM) (h : f_m_raise z m = some (r, m9)) : xMet l yX11_raise cX11_raise 2 (some .int) 1 lay_M [.inr (.inr (some 0)), .inl z] m (some (.inl r)) m9 :=
  xMet_i (by decide +kernel) (Nat.le_of_ble_eq_true rfl) (fun Γ C hR hl9 => t_m_raise (Nat.le_refl _) C z hR m h)
/-! ===== yX11_tellEvent ===== -/
theorem xy_X11_rateNow : xY yX11_rateNow cX11_rateNow 1 (some .int) 0 := ⟨(xin_25 _ (List.mem_of_getElem? (i := 11) rfl)), (xin_1 _ (List.mem_of_getElem? (i := 5) rfl)), by decide, by decide, by decide +kernel⟩
theorem xi_X11_rateNow : Cond.instanceMethod yX11_rateNow ∈ wsL_law := (xin_25 _ (List.mem_of_getElem? (i := 9) rfl))
theorem xs_X11_rateNow : Cond.selects yX11_rateNow.cls yX11_rateNow yX11_rateNow ∈ wsL_law := (xin_25 _ (List.mem_of_getElem? (i := 10) rfl))
theorem dX11_tellEvent_0 : decode cX11_tellEvent 0 = .ok (.aload_n 0, 1) := by decide +kernel
theorem dX11_tellEvent_1 : decode cX11_tellEvent 1 = .ok (.getfield 9, 3) := by decide +kernel
theorem dX11_tellEvent_4 : decode cX11_tellEvent 4 = .ok (.bipush 10, 2) := by decide +kernel
theorem dX11_tellEvent_6 : decode cX11_tellEvent 6 = .ok (.iaload, 1) := by decide +kernel
theorem dX11_tellEvent_7 : decode cX11_tellEvent 7 = .ok (.bipush 60, 2) := by decide +kernel
theorem dX11_tellEvent_9 : decode cX11_tellEvent 9 = .ok (.if_icmp .ne 45, 3) := by decide +kernel
theorem dX11_tellEvent_12 : decode cX11_tellEvent 12 = .ok (.sipush 1490, 3) := by decide +kernel
theorem dX11_tellEvent_15 : decode cX11_tellEvent 15 = .ok (.istore_n 3, 1) := by decide +kernel
theorem dX11_tellEvent_16 : decode cX11_tellEvent 16 = .ok (.iload_n 3, 1) := by decide +kernel
theorem dX11_tellEvent_17 : decode cX11_tellEvent 17 = .ok (.sipush 1726, 3) := by decide +kernel
theorem dX11_tellEvent_20 : decode cX11_tellEvent 20 = .ok (.if_icmp .ge 23, 3) := by decide +kernel
theorem dX11_tellEvent_23 : decode cX11_tellEvent 23 = .ok (.aload_n 0, 1) := by decide +kernel
theorem dX11_tellEvent_24 : decode cX11_tellEvent 24 = .ok (.getfield 9, 3) := by decide +kernel
theorem dX11_tellEvent_27 : decode cX11_tellEvent 27 = .ok (.iload_n 3, 1) := by decide +kernel
theorem dX11_tellEvent_28 : decode cX11_tellEvent 28 = .ok (.aload_n 0, 1) := by decide +kernel
theorem dX11_tellEvent_29 : decode cX11_tellEvent 29 = .ok (.getfield 9, 3) := by decide +kernel
theorem dX11_tellEvent_32 : decode cX11_tellEvent 32 = .ok (.iload_n 3, 1) := by decide +kernel
theorem dX11_tellEvent_33 : decode cX11_tellEvent 33 = .ok (.iconst 4, 1) := by decide +kernel
theorem dX11_tellEvent_34 : decode cX11_tellEvent 34 = .ok (.iadd, 1) := by decide +kernel
theorem dX11_tellEvent_35 : decode cX11_tellEvent 35 = .ok (.iaload, 1) := by decide +kernel
theorem dX11_tellEvent_36 : decode cX11_tellEvent 36 = .ok (.iastore, 1) := by decide +kernel
theorem dX11_tellEvent_37 : decode cX11_tellEvent 37 = .ok (.iinc 3 1, 3) := by decide +kernel
theorem dX11_tellEvent_40 : decode cX11_tellEvent 40 = .ok (.goto (-24), 3) := by decide +kernel
theorem dX11_tellEvent_43 : decode cX11_tellEvent 43 = .ok (.aload_n 0, 1) := by decide +kernel
theorem dX11_tellEvent_44 : decode cX11_tellEvent 44 = .ok (.getfield 9, 3) := by decide +kernel
theorem dX11_tellEvent_47 : decode cX11_tellEvent 47 = .ok (.bipush 10, 2) := by decide +kernel
theorem dX11_tellEvent_49 : decode cX11_tellEvent 49 = .ok (.dup2, 1) := by decide +kernel
theorem dX11_tellEvent_50 : decode cX11_tellEvent 50 = .ok (.iaload, 1) := by decide +kernel
theorem dX11_tellEvent_51 : decode cX11_tellEvent 51 = .ok (.iconst 1, 1) := by decide +kernel
theorem dX11_tellEvent_52 : decode cX11_tellEvent 52 = .ok (.isub, 1) := by decide +kernel
theorem dX11_tellEvent_53 : decode cX11_tellEvent 53 = .ok (.iastore, 1) := by decide +kernel
theorem dX11_tellEvent_54 : decode cX11_tellEvent 54 = .ok (.sipush 1490, 3) := by decide +kernel
theorem dX11_tellEvent_57 : decode cX11_tellEvent 57 = .ok (.iconst 4, 1) := by decide +kernel
theorem dX11_tellEvent_58 : decode cX11_tellEvent 58 = .ok (.aload_n 0, 1) := by decide +kernel
theorem dX11_tellEvent_59 : decode cX11_tellEvent 59 = .ok (.getfield 9, 3) := by decide +kernel
theorem dX11_tellEvent_62 : decode cX11_tellEvent 62 = .ok (.bipush 10, 2) := by decide +kernel
theorem dX11_tellEvent_64 : decode cX11_tellEvent 64 = .ok (.iaload, 1) := by decide +kernel
theorem dX11_tellEvent_65 : decode cX11_tellEvent 65 = .ok (.imul, 1) := by decide +kernel
theorem dX11_tellEvent_66 : decode cX11_tellEvent 66 = .ok (.iadd, 1) := by decide +kernel
theorem dX11_tellEvent_67 : decode cX11_tellEvent 67 = .ok (.istore_n 3, 1) := by decide +kernel
theorem dX11_tellEvent_68 : decode cX11_tellEvent 68 = .ok (.aload_n 0, 1) := by decide +kernel
theorem dX11_tellEvent_69 : decode cX11_tellEvent 69 = .ok (.getfield 9, 3) := by decide +kernel
theorem dX11_tellEvent_72 : decode cX11_tellEvent 72 = .ok (.iload_n 3, 1) := by decide +kernel
theorem dX11_tellEvent_73 : decode cX11_tellEvent 73 = .ok (.aload_n 0, 1) := by decide +kernel
theorem dX11_tellEvent_74 : decode cX11_tellEvent 74 = .ok (.getfield 9, 3) := by decide +kernel
theorem dX11_tellEvent_77 : decode cX11_tellEvent 77 = .ok (.iconst 0, 1) := by decide +kernel
theorem dX11_tellEvent_78 : decode cX11_tellEvent 78 = .ok (.iaload, 1) := by decide +kernel
theorem dX11_tellEvent_79 : decode cX11_tellEvent 79 = .ok (.iastore, 1) := by decide +kernel
theorem dX11_tellEvent_80 : decode cX11_tellEvent 80 = .ok (.aload_n 0, 1) := by decide +kernel
theorem dX11_tellEvent_81 : decode cX11_tellEvent 81 = .ok (.getfield 9, 3) := by decide +kernel
theorem dX11_tellEvent_84 : decode cX11_tellEvent 84 = .ok (.iload_n 3, 1) := by decide +kernel
theorem dX11_tellEvent_85 : decode cX11_tellEvent 85 = .ok (.iconst 1, 1) := by decide +kernel
theorem dX11_tellEvent_86 : decode cX11_tellEvent 86 = .ok (.iadd, 1) := by decide +kernel
theorem dX11_tellEvent_87 : decode cX11_tellEvent 87 = .ok (.iload_n 1, 1) := by decide +kernel
theorem dX11_tellEvent_88 : decode cX11_tellEvent 88 = .ok (.iastore, 1) := by decide +kernel
theorem dX11_tellEvent_89 : decode cX11_tellEvent 89 = .ok (.aload_n 0, 1) := by decide +kernel
theorem dX11_tellEvent_90 : decode cX11_tellEvent 90 = .ok (.getfield 9, 3) := by decide +kernel
theorem dX11_tellEvent_93 : decode cX11_tellEvent 93 = .ok (.iload_n 3, 1) := by decide +kernel
theorem dX11_tellEvent_94 : decode cX11_tellEvent 94 = .ok (.iconst 2, 1) := by decide +kernel
theorem dX11_tellEvent_95 : decode cX11_tellEvent 95 = .ok (.iadd, 1) := by decide +kernel
theorem dX11_tellEvent_96 : decode cX11_tellEvent 96 = .ok (.iload_n 2, 1) := by decide +kernel
theorem dX11_tellEvent_97 : decode cX11_tellEvent 97 = .ok (.iastore, 1) := by decide +kernel
theorem dX11_tellEvent_98 : decode cX11_tellEvent 98 = .ok (.aload_n 0, 1) := by decide +kernel
theorem dX11_tellEvent_99 : decode cX11_tellEvent 99 = .ok (.getfield 9, 3) := by decide +kernel
theorem dX11_tellEvent_102 : decode cX11_tellEvent 102 = .ok (.iload_n 3, 1) := by decide +kernel
theorem dX11_tellEvent_103 : decode cX11_tellEvent 103 = .ok (.iconst 3, 1) := by decide +kernel
theorem dX11_tellEvent_104 : decode cX11_tellEvent 104 = .ok (.iadd, 1) := by decide +kernel
theorem dX11_tellEvent_105 : decode cX11_tellEvent 105 = .ok (.aload_n 0, 1) := by decide +kernel
theorem dX11_tellEvent_106 : decode cX11_tellEvent 106 = .ok (.invokevirtual 85, 3) := by decide +kernel
theorem dX11_tellEvent_109 : decode cX11_tellEvent 109 = .ok (.iastore, 1) := by decide +kernel
theorem dX11_tellEvent_110 : decode cX11_tellEvent 110 = .ok (.aload_n 0, 1) := by decide +kernel
theorem dX11_tellEvent_111 : decode cX11_tellEvent 111 = .ok (.getfield 9, 3) := by decide +kernel
theorem dX11_tellEvent_114 : decode cX11_tellEvent 114 = .ok (.bipush 10, 2) := by decide +kernel
theorem dX11_tellEvent_116 : decode cX11_tellEvent 116 = .ok (.dup2, 1) := by decide +kernel
theorem dX11_tellEvent_117 : decode cX11_tellEvent 117 = .ok (.iaload, 1) := by decide +kernel
theorem dX11_tellEvent_118 : decode cX11_tellEvent 118 = .ok (.iconst 1, 1) := by decide +kernel
theorem dX11_tellEvent_119 : decode cX11_tellEvent 119 = .ok (.iadd, 1) := by decide +kernel
theorem dX11_tellEvent_120 : decode cX11_tellEvent 120 = .ok (.iastore, 1) := by decide +kernel
theorem dX11_tellEvent_121 : decode cX11_tellEvent 121 = .ok (.return_, 1) := by decide +kernel
def f_m_tellEvent_89 (k : Int) (e : Int) (x3 : Int) (m : xM) : Option (xM) :=
     (if xib (x3 + 2) 3530 then (Option.bind (f_m_rateNow (xu m 1 (xix (x3 + 2)) e)) fun q0 =>
      (if xib (x3 + 3) 3530 then (if xib 10 3530 then (if xib 10 3530 then some (xu (xu (xu m 1 (xix (x3 + 2)) e) 1 (xix (x3 + 3)) q0) 1 10 (((xu (xu m 1 (xix (x3 + 2)) e) 1 (xix (x3 + 3)) q0) 1 10) + 1))
      else none)
      else none)
      else none))
      else none)
set_option maxRecDepth 1000000 in
set_option maxHeartbeats 4000000 in
theorem t_m_tellEvent_89 {Γ : xG} {d : Nat} (hd9 : 3 ≤ d) (C : xC Γ lay_M RX11 cX11_tellEvent 4 d) (k : Int) (e : Int) {m9 : xM} (hR : xRv Γ lay_M cX11_tellEvent m9) (x3 : Int) (m : xM) (h : f_m_tellEvent_89 k e x3 m = some m9) : xW Γ lay_M 4 89 [(0, .inr (.inr (some 0))), (2, .inl e), (3, .inl x3)] [] m := by
  unfold f_m_tellEvent_89 at h
  refine x_aload_n C dX11_tellEvent_89 rfl ?_
  refine x_getR C dX11_tellEvent_90 fF_X11_9 rfl rfl ?_
  refine x_iload_n C dX11_tellEvent_93 rfl ?_
  refine x_iconst C dX11_tellEvent_94 ?_
  refine x_iadd C dX11_tellEvent_95 ?_
  refine x_iload_n C dX11_tellEvent_96 rfl ?_
  refine x_iastore C dX11_tellEvent_97 rfl h (fun h => ?_)
  refine x_aload_n C dX11_tellEvent_98 rfl ?_
  refine x_getR C dX11_tellEvent_99 fF_X11_9 rfl rfl ?_
  refine x_iload_n C dX11_tellEvent_102 rfl ?_
  refine x_iconst C dX11_tellEvent_103 ?_
  refine x_iadd C dX11_tellEvent_104 ?_
  refine x_aload_n C dX11_tellEvent_105 rfl ?_
  obtain ⟨q0, hq0, h⟩ := x_bind h
  refine x_callVI C dX11_tellEvent_106 (xin_25 _ (List.mem_of_getElem? (i := 8) rfl)) xy_X11_rateNow (xi_X11_rateNow) (xs_X11_rateNow) (by omega) (by decide) (b := 0) rfl ⟨_, _, rfl⟩ (av := []) rfl (Nat.le_of_ble_eq_true rfl) (c_m_rateNow _ _ _ hq0) rfl ?_
  refine x_iastore C dX11_tellEvent_109 rfl h (fun h => ?_)
  refine x_aload_n C dX11_tellEvent_110 rfl ?_
  refine x_getR C dX11_tellEvent_111 fF_X11_9 rfl rfl ?_
  refine x_bipush C dX11_tellEvent_114 (by decide) ?_
  refine x_dup2 C dX11_tellEvent_116 rfl rfl ?_
  refine x_iaload C dX11_tellEvent_117 rfl h (fun h => ?_)
  refine x_iconst C dX11_tellEvent_118 ?_
  refine x_iadd C dX11_tellEvent_119 ?_
  refine x_iastore C dX11_tellEvent_120 rfl h (fun h => ?_)
  exact x_returnV hR dX11_tellEvent_121 h
def f_m_tellEvent_54 (k : Int) (e : Int) (m : xM) : Option (xM) :=
     (if xib 10 3530 then (if xib 0 3530 then (if xib (1490 + (4 * (m 1 10))) 3530 then (if xib ((1490 + (4 * (m 1 10))) + 1) 3530 then f_m_tellEvent_89 k e (1490 + (4 * (m 1 10))) (xu (xu m 1 (xix (1490 + (4 * (m 1 10)))) (m 1 0)) 1 (xix ((1490 + (4 * (m 1 10))) + 1)) k)
      else none)
      else none)
      else none)
      else none)
set_option maxRecDepth 1000000 in
set_option maxHeartbeats 4000000 in
theorem t_m_tellEvent_54 {Γ : xG} {d : Nat} (hd9 : 3 ≤ d) (C : xC Γ lay_M RX11 cX11_tellEvent 4 d) (k : Int) (e : Int) {m9 : xM} (hR : xRv Γ lay_M cX11_tellEvent m9) (m : xM) (h : f_m_tellEvent_54 k e m = some m9) : xW Γ lay_M 4 54 [(0, .inr (.inr (some 0))), (1, .inl k), (2, .inl e)] [] m := by
  unfold f_m_tellEvent_54 at h
  refine x_sipush C dX11_tellEvent_54 (by decide) ?_
  refine x_iconst C dX11_tellEvent_57 ?_
  refine x_aload_n C dX11_tellEvent_58 rfl ?_
  refine x_getR C dX11_tellEvent_59 fF_X11_9 rfl rfl ?_
  refine x_bipush C dX11_tellEvent_62 (by decide) ?_
  refine x_iaload C dX11_tellEvent_64 rfl h (fun h => ?_)
  refine x_imul C dX11_tellEvent_65 ?_
  refine x_iadd C dX11_tellEvent_66 ?_
  refine x_istore_n C dX11_tellEvent_67 (by decide) ?_
  refine x_aload_n C dX11_tellEvent_68 rfl ?_
  refine x_getR C dX11_tellEvent_69 fF_X11_9 rfl rfl ?_
  refine x_iload_n C dX11_tellEvent_72 rfl ?_
  refine x_aload_n C dX11_tellEvent_73 rfl ?_
  refine x_getR C dX11_tellEvent_74 fF_X11_9 rfl rfl ?_
  refine x_iconst C dX11_tellEvent_77 ?_
  refine x_iaload C dX11_tellEvent_78 rfl h (fun h => ?_)
  refine x_iastore C dX11_tellEvent_79 rfl h (fun h => ?_)
  refine x_aload_n C dX11_tellEvent_80 rfl ?_
  refine x_getR C dX11_tellEvent_81 fF_X11_9 rfl rfl ?_
  refine x_iload_n C dX11_tellEvent_84 rfl ?_
  refine x_iconst C dX11_tellEvent_85 ?_
  refine x_iadd C dX11_tellEvent_86 ?_
  refine x_iload_n C dX11_tellEvent_87 rfl ?_
  refine x_iastore C dX11_tellEvent_88 rfl h (fun h => ?_)
  refine x_loc [(0, .inr (.inr (some 0))), (2, .inl e), (3, .inl (1490 + (4 * (m 1 10))))] ⟨rfl, rfl, rfl, trivial⟩ ?_
  exact t_m_tellEvent_89 hd9 C _ _ hR _ _ h
def f_m_tellEvent_43 (k : Int) (e : Int) (m : xM) : Option (xM) :=
     (if xib 10 3530 then (if xib 10 3530 then f_m_tellEvent_54 k e (xu m 1 10 ((m 1 10) - 1))
      else none)
      else none)
set_option maxRecDepth 1000000 in
set_option maxHeartbeats 4000000 in
theorem t_m_tellEvent_43 {Γ : xG} {d : Nat} (hd9 : 3 ≤ d) (C : xC Γ lay_M RX11 cX11_tellEvent 4 d) (k : Int) (e : Int) {m9 : xM} (hR : xRv Γ lay_M cX11_tellEvent m9) (m : xM) (h : f_m_tellEvent_43 k e m = some m9) : xW Γ lay_M 4 43 [(0, .inr (.inr (some 0))), (1, .inl k), (2, .inl e)] [] m := by
  unfold f_m_tellEvent_43 at h
  refine x_aload_n C dX11_tellEvent_43 rfl ?_
  refine x_getR C dX11_tellEvent_44 fF_X11_9 rfl rfl ?_
  refine x_bipush C dX11_tellEvent_47 (by decide) ?_
  refine x_dup2 C dX11_tellEvent_49 rfl rfl ?_
  refine x_iaload C dX11_tellEvent_50 rfl h (fun h => ?_)
  refine x_iconst C dX11_tellEvent_51 ?_
  refine x_isub C dX11_tellEvent_52 ?_
  refine x_iastore C dX11_tellEvent_53 rfl h (fun h => ?_)
  refine x_loc [(0, .inr (.inr (some 0))), (1, .inl k), (2, .inl e)] ⟨rfl, rfl, rfl, trivial⟩ ?_
  exact t_m_tellEvent_54 hd9 C _ _ hR _ h
def f_m_tellEvent_16 (k : Int) (e : Int) : Nat → Int → xM → Option (xM)
  | 0, _, _ => none
  | n + 1, x3, m =>
     (if xw x3 < xw 1726 then (if xib (x3 + 4) 3530 then (if xib x3 3530 then f_m_tellEvent_16 k e n (x3 + 1) (xu m 1 (xix x3) (m 1 (xix (x3 + 4))))
      else none)
      else none)
      else f_m_tellEvent_43 k e m)
set_option maxRecDepth 1000000 in
set_option maxHeartbeats 4000000 in
theorem t_m_tellEvent_16 {Γ : xG} {d : Nat} (hd9 : 3 ≤ d) (C : xC Γ lay_M RX11 cX11_tellEvent 4 d) (k : Int) (e : Int) {m9 : xM} (hR : xRv Γ lay_M cX11_tellEvent m9) : ∀ (n : Nat) (x3 : Int) (m : xM), f_m_tellEvent_16 k e n x3 m = some m9 → xW Γ lay_M 4 16 [(0, .inr (.inr (some 0))), (1, .inl k), (2, .inl e), (3, .inl x3)] [] m := by
  intro n
  induction n with
  | zero => intro _ _ h; cases h
  | succ n ih =>
    intro x3 m h
    rw [f_m_tellEvent_16] at h
    refine x_iload_n C dX11_tellEvent_16 rfl ?_
    refine x_sipush C dX11_tellEvent_17 (by decide) ?_
    refine x_icmp_ge C 43 dX11_tellEvent_20 (by decide) h (fun h => ?_) (fun h => ?_)
    · refine x_loc [(0, .inr (.inr (some 0))), (1, .inl k), (2, .inl e)] ⟨rfl, rfl, rfl, trivial⟩ ?_
      exact t_m_tellEvent_43 hd9 C _ _ hR _ h
    · refine x_aload_n C dX11_tellEvent_23 rfl ?_
      refine x_getR C dX11_tellEvent_24 fF_X11_9 rfl rfl ?_
      refine x_iload_n C dX11_tellEvent_27 rfl ?_
      refine x_aload_n C dX11_tellEvent_28 rfl ?_
      refine x_getR C dX11_tellEvent_29 fF_X11_9 rfl rfl ?_
      refine x_iload_n C dX11_tellEvent_32 rfl ?_
      refine x_iconst C dX11_tellEvent_33 ?_
      refine x_iadd C dX11_tellEvent_34 ?_
      refine x_iaload C dX11_tellEvent_35 rfl h (fun h => ?_)
      refine x_iastore C dX11_tellEvent_36 rfl h (fun h => ?_)
      refine x_iinc C dX11_tellEvent_37 (by decide) rfl ?_
      refine x_goto C 16 dX11_tellEvent_40 (by decide) ?_
      refine x_loc [(0, .inr (.inr (some 0))), (1, .inl k), (2, .inl e), (3, .inl (x3 + 1))] ⟨rfl, rfl, rfl, rfl, trivial⟩ ?_
      exact ih _ _ h
def f_m_tellEvent (k : Int) (e : Int) (m : xM) : Option (xM) :=
     (if xib 10 3530 then (if xw (m 1 10) = xw 60 then f_m_tellEvent_16 k e fu 1490 m
      else f_m_tellEvent_54 k e m)
      else none)
set_option maxRecDepth 1000000 in
set_option maxHeartbeats 4000000 in
theorem t_m_tellEvent {Γ : xG} {d : Nat} (hd9 : 3 ≤ d) (C : xC Γ lay_M RX11 cX11_tellEvent 4 d) (k : Int) (e : Int) {m9 : xM} (hR : xRv Γ lay_M cX11_tellEvent m9) (m : xM) (h : f_m_tellEvent k e m = some m9) : xW Γ lay_M 4 0 [(0, .inr (.inr (some 0))), (1, .inl k), (2, .inl e)] [] m := by
  unfold f_m_tellEvent at h
  refine x_aload_n C dX11_tellEvent_0 rfl ?_
  refine x_getR C dX11_tellEvent_1 fF_X11_9 rfl rfl ?_
  refine x_bipush C dX11_tellEvent_4 (by decide) ?_
  refine x_iaload C dX11_tellEvent_6 rfl h (fun h => ?_)
  refine x_bipush C dX11_tellEvent_7 (by decide) ?_
  refine x_icmp_ne C 54 dX11_tellEvent_9 (by decide) h (fun h => ?_) (fun h => ?_)
  · refine x_loc [(0, .inr (.inr (some 0))), (1, .inl k), (2, .inl e)] ⟨rfl, rfl, rfl, trivial⟩ ?_
    exact t_m_tellEvent_54 hd9 C _ _ hR _ h
  · refine x_sipush C dX11_tellEvent_12 (by decide) ?_
    refine x_istore_n C dX11_tellEvent_15 (by decide) ?_
    refine x_loc [(0, .inr (.inr (some 0))), (1, .inl k), (2, .inl e), (3, .inl 1490)] ⟨rfl, rfl, rfl, rfl, trivial⟩ ?_
    exact t_m_tellEvent_16 hd9 C _ _ hR fu _ _ h
theorem c_m_tellEvent (l : Launch) (k : Int) (e : Int) (m m9 : xM) (h : f_m_tellEvent k e m = some m9) : xMet l yX11_tellEvent cX11_tellEvent 4 none 3 lay_M [.inr (.inr (some 0)), .inl k, .inl e] m none m9 :=
  xMet_v (by decide +kernel) (Nat.le_of_ble_eq_true rfl) (fun Γ C hR hl9 => t_m_tellEvent (Nat.le_refl _) C k e hR m h)
/-! ===== yX11_wordsAt ===== -/
theorem dX11_wordsAt_0 : decode cX11_wordsAt 0 = .ok (.iload_n 0, 1) := by decide +kernel
theorem dX11_wordsAt_1 : decode cX11_wordsAt 1 = .ok (.iload_n 1, 1) := by decide +kernel
theorem dX11_wordsAt_2 : decode cX11_wordsAt 2 = .ok (.ifCond .eq 8, 3) := by decide +kernel
theorem dX11_wordsAt_5 : decode cX11_wordsAt 5 = .ok (.bipush 10, 2) := by decide +kernel
theorem dX11_wordsAt_7 : decode cX11_wordsAt 7 = .ok (.goto 5, 3) := by decide +kernel
theorem dX11_wordsAt_10 : decode cX11_wordsAt 10 = .ok (.bipush 18, 2) := by decide +kernel
theorem dX11_wordsAt_12 : decode cX11_wordsAt 12 = .ok (.invokestatic 69, 3) := by decide +kernel
theorem dX11_wordsAt_15 : decode cX11_wordsAt 15 = .ok (.ireturn, 1) := by decide +kernel
def f_m_wordsAt_12 (e : Int) (w : Int) (m : xM) (s0 : Int) (s1 : Int) : Option (Int) :=
     (Option.bind (f_m_endAt s1 s0 m) fun q0 =>
      some q0)
set_option maxRecDepth 1000000 in
set_option maxHeartbeats 4000000 in
theorem t_m_wordsAt_12 {Γ : xG} {d : Nat} (hd9 : 2 ≤ d) (C : xC Γ lay_0 RX11 cX11_wordsAt 2 d) (e : Int) (w : Int) {r : Int} {m : xM} (hR : xRi Γ lay_0 cX11_wordsAt r m) (s0 : Int) (s1 : Int) (h : f_m_wordsAt_12 e w m s0 s1 = some r) : xW Γ lay_0 2 12 [] [.inl s0, .inl s1] m := by
  unfold f_m_wordsAt_12 at h
  obtain ⟨q0, hq0, h⟩ := x_bind h
  refine x_callSI C dX11_wordsAt_12 (xin_27 _ (List.mem_of_getElem? (i := 18) rfl)) xy_X11_endAt (xt_X11_endAt) (by omega) (by decide) (av := [.inl s1, .inl s0]) rfl (Nat.le_of_ble_eq_true rfl) (c_m_endAt _ _ _ _ _ hq0) rfl ?_
  exact x_ireturnP hR dX11_wordsAt_15 h
def f_m_wordsAt (e : Int) (w : Int) (m : xM) : Option (Int) :=
     (if xw w = 0 then f_m_wordsAt_12 e w m 18 e
      else f_m_wordsAt_12 e w m 10 e)
set_option maxRecDepth 1000000 in
set_option maxHeartbeats 4000000 in
theorem t_m_wordsAt {Γ : xG} {d : Nat} (hd9 : 2 ≤ d) (C : xC Γ lay_0 RX11 cX11_wordsAt 2 d) (e : Int) (w : Int) {r : Int} {m : xM} (hR : xRi Γ lay_0 cX11_wordsAt r m) (h : f_m_wordsAt e w m = some r) : xW Γ lay_0 2 0 [(0, .inl e), (1, .inl w)] [] m := by
  unfold f_m_wordsAt at h
  refine x_iload_n C dX11_wordsAt_0 rfl ?_
  refine x_iload_n C dX11_wordsAt_1 rfl ?_
  refine x_if_eq C 10 dX11_wordsAt_2 (by decide) h (fun h => ?_) (fun h => ?_)
  · refine x_bipush C dX11_wordsAt_10 (by decide) ?_
    refine x_loc [] trivial ?_
    exact t_m_wordsAt_12 hd9 C _ _ hR _ _ h
  · refine x_bipush C dX11_wordsAt_5 (by decide) ?_
    refine x_goto C 12 dX11_wordsAt_7 (by decide) ?_
    refine x_loc [] trivial ?_
    exact t_m_wordsAt_12 hd9 C _ _ hR _ _ h
theorem c_m_wordsAt (l : Launch) (e : Int) (w : Int) (m : xM) (r : Int) (h : f_m_wordsAt e w m = some r) : xMet l yX11_wordsAt cX11_wordsAt 2 (some .int) 2 lay_0 [.inl e, .inl w] m (some (.inl r)) m :=
  xMet_i (by decide +kernel) (Nat.le_of_ble_eq_true rfl) (fun Γ C hR hl9 => t_m_wordsAt (Nat.le_refl _) C e w hR h)
/-! ===== yX11_countAt ===== -/
theorem dX11_countAt_0 : decode cX11_countAt 0 = .ok (.iload_n 0, 1) := by decide +kernel
theorem dX11_countAt_1 : decode cX11_countAt 1 = .ok (.iload_n 1, 1) := by decide +kernel
theorem dX11_countAt_2 : decode cX11_countAt 2 = .ok (.ifCond .eq 8, 3) := by decide +kernel
theorem dX11_countAt_5 : decode cX11_countAt 5 = .ok (.bipush 7, 2) := by decide +kernel
theorem dX11_countAt_7 : decode cX11_countAt 7 = .ok (.goto 5, 3) := by decide +kernel
theorem dX11_countAt_10 : decode cX11_countAt 10 = .ok (.bipush 8, 2) := by decide +kernel
theorem dX11_countAt_12 : decode cX11_countAt 12 = .ok (.invokestatic 69, 3) := by decide +kernel
theorem dX11_countAt_15 : decode cX11_countAt 15 = .ok (.ireturn, 1) := by decide +kernel
def f_m_countAt_12 (e : Int) (w : Int) (m : xM) (s0 : Int) (s1 : Int) : Option (Int) :=
     (Option.bind (f_m_endAt s1 s0 m) fun q0 =>
      some q0)
set_option maxRecDepth 1000000 in
set_option maxHeartbeats 4000000 in
theorem t_m_countAt_12 {Γ : xG} {d : Nat} (hd9 : 2 ≤ d) (C : xC Γ lay_0 RX11 cX11_countAt 2 d) (e : Int) (w : Int) {r : Int} {m : xM} (hR : xRi Γ lay_0 cX11_countAt r m) (s0 : Int) (s1 : Int) (h : f_m_countAt_12 e w m s0 s1 = some r) : xW Γ lay_0 2 12 [] [.inl s0, .inl s1] m := by
  unfold f_m_countAt_12 at h
  obtain ⟨q0, hq0, h⟩ := x_bind h
  refine x_callSI C dX11_countAt_12 (xin_27 _ (List.mem_of_getElem? (i := 18) rfl)) xy_X11_endAt (xt_X11_endAt) (by omega) (by decide) (av := [.inl s1, .inl s0]) rfl (Nat.le_of_ble_eq_true rfl) (c_m_endAt _ _ _ _ _ hq0) rfl ?_
  exact x_ireturnP hR dX11_countAt_15 h
def f_m_countAt (e : Int) (w : Int) (m : xM) : Option (Int) :=
     (if xw w = 0 then f_m_countAt_12 e w m 8 e
      else f_m_countAt_12 e w m 7 e)
set_option maxRecDepth 1000000 in
set_option maxHeartbeats 4000000 in
theorem t_m_countAt {Γ : xG} {d : Nat} (hd9 : 2 ≤ d) (C : xC Γ lay_0 RX11 cX11_countAt 2 d) (e : Int) (w : Int) {r : Int} {m : xM} (hR : xRi Γ lay_0 cX11_countAt r m) (h : f_m_countAt e w m = some r) : xW Γ lay_0 2 0 [(0, .inl e), (1, .inl w)] [] m := by
  unfold f_m_countAt at h
  refine x_iload_n C dX11_countAt_0 rfl ?_
  refine x_iload_n C dX11_countAt_1 rfl ?_
  refine x_if_eq C 10 dX11_countAt_2 (by decide) h (fun h => ?_) (fun h => ?_)
  · refine x_bipush C dX11_countAt_10 (by decide) ?_
    refine x_loc [] trivial ?_
    exact t_m_countAt_12 hd9 C _ _ hR _ _ h
  · refine x_bipush C dX11_countAt_5 (by decide) ?_
    refine x_goto C 12 dX11_countAt_7 (by decide) ?_
    refine x_loc [] trivial ?_
    exact t_m_countAt_12 hd9 C _ _ hR _ _ h
theorem c_m_countAt (l : Launch) (e : Int) (w : Int) (m : xM) (r : Int) (h : f_m_countAt e w m = some r) : xMet l yX11_countAt cX11_countAt 2 (some .int) 2 lay_0 [.inl e, .inl w] m (some (.inl r)) m :=
  xMet_i (by decide +kernel) (Nat.le_of_ble_eq_true rfl) (fun Γ C hR hl9 => t_m_countAt (Nat.le_refl _) C e w hR h)
/-! ===== yX11_use ===== -/
theorem xy_X11_wordsAt : xY yX11_wordsAt cX11_wordsAt 2 (some .int) 2 := ⟨(xin_31 _ (List.mem_of_getElem? (i := 9) rfl)), (xin_1 _ (List.mem_of_getElem? (i := 5) rfl)), by decide, by decide, by decide +kernel⟩
theorem xt_X11_wordsAt : Cond.static yX11_wordsAt ∈ wsL_law := (xin_31 _ (List.mem_of_getElem? (i := 8) rfl))
theorem xy_X11_countAt : xY yX11_countAt cX11_countAt 2 (some .int) 2 := ⟨(xin_31 _ (List.mem_of_getElem? (i := 6) rfl)), (xin_1 _ (List.mem_of_getElem? (i := 5) rfl)), by decide, by decide, by decide +kernel⟩
theorem xt_X11_countAt : Cond.static yX11_countAt ∈ wsL_law := (xin_31 _ (List.mem_of_getElem? (i := 5) rfl))
theorem dX11_use_0 : decode cX11_use 0 = .ok (.iload_n 1, 1) := by decide +kernel
theorem dX11_use_1 : decode cX11_use 1 = .ok (.iload_n 2, 1) := by decide +kernel
theorem dX11_use_2 : decode cX11_use 2 = .ok (.invokestatic 89, 3) := by decide +kernel
theorem dX11_use_5 : decode cX11_use 5 = .ok (.istore 4, 2) := by decide +kernel
theorem dX11_use_7 : decode cX11_use 7 = .ok (.iload_n 1, 1) := by decide +kernel
theorem dX11_use_8 : decode cX11_use 8 = .ok (.iload_n 2, 1) := by decide +kernel
theorem dX11_use_9 : decode cX11_use 9 = .ok (.invokestatic 93, 3) := by decide +kernel
theorem dX11_use_12 : decode cX11_use 12 = .ok (.istore 5, 2) := by decide +kernel
theorem dX11_use_14 : decode cX11_use 14 = .ok (.iconst 0, 1) := by decide +kernel
theorem dX11_use_15 : decode cX11_use 15 = .ok (.istore 6, 2) := by decide +kernel
theorem dX11_use_17 : decode cX11_use 17 = .ok (.iload 6, 2) := by decide +kernel
theorem dX11_use_19 : decode cX11_use 19 = .ok (.aload_n 0, 1) := by decide +kernel
theorem dX11_use_20 : decode cX11_use 20 = .ok (.getfield 9, 3) := by decide +kernel
theorem dX11_use_23 : decode cX11_use 23 = .ok (.iload 5, 2) := by decide +kernel
theorem dX11_use_25 : decode cX11_use 25 = .ok (.iaload, 1) := by decide +kernel
theorem dX11_use_26 : decode cX11_use 26 = .ok (.if_icmp .ge 23, 3) := by decide +kernel
theorem dX11_use_29 : decode cX11_use 29 = .ok (.aload_n 0, 1) := by decide +kernel
theorem dX11_use_30 : decode cX11_use 30 = .ok (.getfield 9, 3) := by decide +kernel
theorem dX11_use_33 : decode cX11_use 33 = .ok (.iload 4, 2) := by decide +kernel
theorem dX11_use_35 : decode cX11_use 35 = .ok (.iload 6, 2) := by decide +kernel
theorem dX11_use_37 : decode cX11_use 37 = .ok (.iadd, 1) := by decide +kernel
theorem dX11_use_38 : decode cX11_use 38 = .ok (.iaload, 1) := by decide +kernel
theorem dX11_use_39 : decode cX11_use 39 = .ok (.iload_n 3, 1) := by decide +kernel
theorem dX11_use_40 : decode cX11_use 40 = .ok (.if_icmp .eq 9, 3) := by decide +kernel
theorem dX11_use_43 : decode cX11_use 43 = .ok (.iinc 6 1, 3) := by decide +kernel
theorem dX11_use_46 : decode cX11_use 46 = .ok (.goto (-29), 3) := by decide +kernel
theorem dX11_use_49 : decode cX11_use 49 = .ok (.iload 6, 2) := by decide +kernel
theorem dX11_use_51 : decode cX11_use 51 = .ok (.aload_n 0, 1) := by decide +kernel
theorem dX11_use_52 : decode cX11_use 52 = .ok (.getfield 9, 3) := by decide +kernel
theorem dX11_use_55 : decode cX11_use 55 = .ok (.iload 5, 2) := by decide +kernel
theorem dX11_use_57 : decode cX11_use 57 = .ok (.iaload, 1) := by decide +kernel
theorem dX11_use_58 : decode cX11_use 58 = .ok (.if_icmp .ge 7, 3) := by decide +kernel
theorem dX11_use_61 : decode cX11_use 61 = .ok (.iconst 1, 1) := by decide +kernel
theorem dX11_use_62 : decode cX11_use 62 = .ok (.goto 4, 3) := by decide +kernel
theorem dX11_use_65 : decode cX11_use 65 = .ok (.iconst 3, 1) := by decide +kernel
theorem dX11_use_66 : decode cX11_use 66 = .ok (.istore 7, 2) := by decide +kernel
theorem dX11_use_68 : decode cX11_use 68 = .ok (.iload 6, 2) := by decide +kernel
theorem dX11_use_70 : decode cX11_use 70 = .ok (.aload_n 0, 1) := by decide +kernel
theorem dX11_use_71 : decode cX11_use 71 = .ok (.getfield 9, 3) := by decide +kernel
theorem dX11_use_74 : decode cX11_use 74 = .ok (.iload 5, 2) := by decide +kernel
theorem dX11_use_76 : decode cX11_use 76 = .ok (.iaload, 1) := by decide +kernel
theorem dX11_use_77 : decode cX11_use 77 = .ok (.if_icmp .ne 21, 3) := by decide +kernel
theorem dX11_use_80 : decode cX11_use 80 = .ok (.iload 6, 2) := by decide +kernel
theorem dX11_use_82 : decode cX11_use 82 = .ok (.bipush 8, 2) := by decide +kernel
theorem dX11_use_84 : decode cX11_use 84 = .ok (.if_icmp .ge 14, 3) := by decide +kernel
theorem dX11_use_87 : decode cX11_use 87 = .ok (.aload_n 0, 1) := by decide +kernel
theorem dX11_use_88 : decode cX11_use 88 = .ok (.getfield 9, 3) := by decide +kernel
theorem dX11_use_91 : decode cX11_use 91 = .ok (.iload 5, 2) := by decide +kernel
theorem dX11_use_93 : decode cX11_use 93 = .ok (.dup2, 1) := by decide +kernel
theorem dX11_use_94 : decode cX11_use 94 = .ok (.iaload, 1) := by decide +kernel
theorem dX11_use_95 : decode cX11_use 95 = .ok (.iconst 1, 1) := by decide +kernel
theorem dX11_use_96 : decode cX11_use 96 = .ok (.iadd, 1) := by decide +kernel
theorem dX11_use_97 : decode cX11_use 97 = .ok (.iastore, 1) := by decide +kernel
theorem dX11_use_98 : decode cX11_use 98 = .ok (.iload 6, 2) := by decide +kernel
theorem dX11_use_100 : decode cX11_use 100 = .ok (.bipush 7, 2) := by decide +kernel
theorem dX11_use_102 : decode cX11_use 102 = .ok (.invokestatic 96, 3) := by decide +kernel
theorem dX11_use_105 : decode cX11_use 105 = .ok (.istore 8, 2) := by decide +kernel
theorem dX11_use_107 : decode cX11_use 107 = .ok (.iload 8, 2) := by decide +kernel
theorem dX11_use_109 : decode cX11_use 109 = .ok (.ifCond .le 31, 3) := by decide +kernel
theorem dX11_use_112 : decode cX11_use 112 = .ok (.aload_n 0, 1) := by decide +kernel
theorem dX11_use_113 : decode cX11_use 113 = .ok (.getfield 9, 3) := by decide +kernel
theorem dX11_use_116 : decode cX11_use 116 = .ok (.iload 4, 2) := by decide +kernel
theorem dX11_use_118 : decode cX11_use 118 = .ok (.iload 8, 2) := by decide +kernel
theorem dX11_use_120 : decode cX11_use 120 = .ok (.iadd, 1) := by decide +kernel
theorem dX11_use_121 : decode cX11_use 121 = .ok (.aload_n 0, 1) := by decide +kernel
theorem dX11_use_122 : decode cX11_use 122 = .ok (.getfield 9, 3) := by decide +kernel
theorem dX11_use_125 : decode cX11_use 125 = .ok (.iload 4, 2) := by decide +kernel
theorem dX11_use_127 : decode cX11_use 127 = .ok (.iload 8, 2) := by decide +kernel
theorem dX11_use_129 : decode cX11_use 129 = .ok (.iadd, 1) := by decide +kernel
theorem dX11_use_130 : decode cX11_use 130 = .ok (.iconst 1, 1) := by decide +kernel
theorem dX11_use_131 : decode cX11_use 131 = .ok (.isub, 1) := by decide +kernel
theorem dX11_use_132 : decode cX11_use 132 = .ok (.iaload, 1) := by decide +kernel
theorem dX11_use_133 : decode cX11_use 133 = .ok (.iastore, 1) := by decide +kernel
theorem dX11_use_134 : decode cX11_use 134 = .ok (.iinc 8 (-1), 3) := by decide +kernel
theorem dX11_use_137 : decode cX11_use 137 = .ok (.goto (-30), 3) := by decide +kernel
theorem dX11_use_140 : decode cX11_use 140 = .ok (.aload_n 0, 1) := by decide +kernel
theorem dX11_use_141 : decode cX11_use 141 = .ok (.getfield 9, 3) := by decide +kernel
theorem dX11_use_144 : decode cX11_use 144 = .ok (.iload 4, 2) := by decide +kernel
theorem dX11_use_146 : decode cX11_use 146 = .ok (.iload_n 3, 1) := by decide +kernel
theorem dX11_use_147 : decode cX11_use 147 = .ok (.iastore, 1) := by decide +kernel
theorem dX11_use_148 : decode cX11_use 148 = .ok (.iload 7, 2) := by decide +kernel
theorem dX11_use_150 : decode cX11_use 150 = .ok (.ireturn, 1) := by decide +kernel
def f_m_use_140 (e : Int) (w : Int) (z : Int) (x4 : Int) (x7 : Int) (m : xM) : Option (Int × xM) :=
     (if xib x4 3530 then some (x7, (xu m 1 (xix x4) z))
      else none)
set_option maxRecDepth 1000000 in
set_option maxHeartbeats 4000000 in
theorem t_m_use_140 {Γ : xG} {d : Nat} (hd9 : 3 ≤ d) (C : xC Γ lay_M RX11 cX11_use 9 d) (e : Int) (w : Int) (z : Int) {r : Int} {m9 : xM} (hR : xRi Γ lay_M cX11_use r m9) (x4 : Int) (x7 : Int) (m : xM) (h : f_m_use_140 e w z x4 x7 m = some (r, m9)) : xW Γ lay_M 9 140 [(0, .inr (.inr (some 0))), (3, .inl z), (4, .inl x4), (7, .inl x7)] [] m := by
  unfold f_m_use_140 at h
  refine x_aload_n C dX11_use_140 rfl ?_
  refine x_getR C dX11_use_141 fF_X11_9 rfl rfl ?_
  refine x_iload C dX11_use_144 rfl ?_
  refine x_iload_n C dX11_use_146 rfl ?_
  refine x_iastore C dX11_use_147 rfl h (fun h => ?_)
  refine x_iload C dX11_use_148 rfl ?_
  exact x_ireturn hR dX11_use_150 h
def f_m_use_107 (e : Int) (w : Int) (z : Int) : Nat → Int → Int → Int → xM → Option (Int × xM)
  | 0, _, _, _, _ => none
  | n + 1, x4, x7, x8, m =>
     (if 0 < xw x8 then (if xib ((x4 + x8) - 1) 3530 then (if xib (x4 + x8) 3530 then f_m_use_107 e w z n x4 x7 (x8 + (-1)) (xu m 1 (xix (x4 + x8)) (m 1 (xix ((x4 + x8) - 1))))
      else none)
      else none)
      else f_m_use_140 e w z x4 x7 m)
set_option maxRecDepth 1000000 in
set_option maxHeartbeats 4000000 in
theorem t_m_use_107 {Γ : xG} {d : Nat} (hd9 : 3 ≤ d) (C : xC Γ lay_M RX11 cX11_use 9 d) (e : Int) (w : Int) (z : Int) {r : Int} {m9 : xM} (hR : xRi Γ lay_M cX11_use r m9) : ∀ (n : Nat) (x4 : Int) (x7 : Int) (x8 : Int) (m : xM), f_m_use_107 e w z n x4 x7 x8 m = some (r, m9) → xW Γ lay_M 9 107 [(0, .inr (.inr (some 0))), (3, .inl z), (4, .inl x4), (7, .inl x7), (8, .inl x8)] [] m := by
  intro n
  induction n with
  | zero => intro _ _ _ _ h; cases h
  | succ n ih =>
    intro x4 x7 x8 m h
    rw [f_m_use_107] at h
    refine x_iload C dX11_use_107 rfl ?_
    refine x_if_le C 140 dX11_use_109 (by decide) h (fun h => ?_) (fun h => ?_)
    · refine x_loc [(0, .inr (.inr (some 0))), (3, .inl z), (4, .inl x4), (7, .inl x7)] ⟨rfl, rfl, rfl, rfl, trivial⟩ ?_
      exact t_m_use_140 hd9 C _ _ _ hR _ _ _ h
    · refine x_aload_n C dX11_use_112 rfl ?_
      refine x_getR C dX11_use_113 fF_X11_9 rfl rfl ?_
      refine x_iload C dX11_use_116 rfl ?_
      refine x_iload C dX11_use_118 rfl ?_
      refine x_iadd C dX11_use_120 ?_
      refine x_aload_n C dX11_use_121 rfl ?_
      refine x_getR C dX11_use_122 fF_X11_9 rfl rfl ?_
      refine x_iload C dX11_use_125 rfl ?_
      refine x_iload C dX11_use_127 rfl ?_
      refine x_iadd C dX11_use_129 ?_
      refine x_iconst C dX11_use_130 ?_
      refine x_isub C dX11_use_131 ?_
      refine x_iaload C dX11_use_132 rfl h (fun h => ?_)
      refine x_iastore C dX11_use_133 rfl h (fun h => ?_)
      refine x_iinc C dX11_use_134 (by decide) rfl ?_
      refine x_goto C 107 dX11_use_137 (by decide) ?_
      refine x_loc [(0, .inr (.inr (some 0))), (3, .inl z), (4, .inl x4), (7, .inl x7), (8, .inl (x8 + (-1)))] ⟨rfl, rfl, rfl, rfl, rfl, trivial⟩ ?_
      exact ih _ _ _ _ h
def f_m_use_98 (e : Int) (w : Int) (z : Int) (x4 : Int) (x6 : Int) (x7 : Int) (m : xM) : Option (Int × xM) :=
     f_m_use_107 e w z fu x4 x7 (if xw 7 < xw x6 then 7 else x6) m
set_option maxRecDepth 1000000 in
set_option maxHeartbeats 4000000 in
theorem t_m_use_98 {Γ : xG} {d : Nat} (hd9 : 3 ≤ d) (C : xC Γ lay_M RX11 cX11_use 9 d) (e : Int) (w : Int) (z : Int) {r : Int} {m9 : xM} (hR : xRi Γ lay_M cX11_use r m9) (x4 : Int) (x6 : Int) (x7 : Int) (m : xM) (h : f_m_use_98 e w z x4 x6 x7 m = some (r, m9)) : xW Γ lay_M 9 98 [(0, .inr (.inr (some 0))), (3, .inl z), (4, .inl x4), (6, .inl x6), (7, .inl x7)] [] m := by
  unfold f_m_use_98 at h
  refine x_iload C dX11_use_98 rfl ?_
  refine x_bipush C dX11_use_100 (by decide) ?_
  refine x_min C dX11_use_102 (xin_30 _ (List.mem_of_getElem? (i := 15) rfl)) gm_min_s gm_math gm_min_c (by omega) (Nat.le_of_ble_eq_true rfl) ?_
  refine x_istore C dX11_use_105 (by decide) ?_
  refine x_loc [(0, .inr (.inr (some 0))), (3, .inl z), (4, .inl x4), (7, .inl x7), (8, .inl (if xw 7 < xw x6 then 7 else x6))] ⟨rfl, rfl, rfl, rfl, rfl, trivial⟩ ?_
  exact t_m_use_107 hd9 C _ _ _ hR fu _ _ _ _ h
def f_m_use_66 (e : Int) (w : Int) (z : Int) (x4 : Int) (x5 : Int) (x6 : Int) (s0 : Int) (m : xM) : Option (Int × xM) :=
     (if xib x5 3530 then (if xw x6 = xw (m 1 (xix x5)) then (if xw x6 < xw 8 then (if xib x5 3530 then (if xib x5 3530 then f_m_use_98 e w z x4 x6 s0 (xu m 1 (xix x5) ((m 1 (xix x5)) + 1))
      else none)
      else none)
      else f_m_use_98 e w z x4 x6 s0 m)
      else f_m_use_98 e w z x4 x6 s0 m)
      else none)
set_option maxRecDepth 1000000 in
set_option maxHeartbeats 4000000 in
theorem t_m_use_66 {Γ : xG} {d : Nat} (hd9 : 3 ≤ d) (C : xC Γ lay_M RX11 cX11_use 9 d) (e : Int) (w : Int) (z : Int) {r : Int} {m9 : xM} (hR : xRi Γ lay_M cX11_use r m9) (x4 : Int) (x5 : Int) (x6 : Int) (s0 : Int) (m : xM) (h : f_m_use_66 e w z x4 x5 x6 s0 m = some (r, m9)) : xW Γ lay_M 9 66 [(0, .inr (.inr (some 0))), (3, .inl z), (4, .inl x4), (5, .inl x5), (6, .inl x6)] [.inl s0] m := by
  unfold f_m_use_66 at h
  refine x_istore C dX11_use_66 (by decide) ?_
  refine x_iload C dX11_use_68 rfl ?_
  refine x_aload_n C dX11_use_70 rfl ?_
  refine x_getR C dX11_use_71 fF_X11_9 rfl rfl ?_
  refine x_iload C dX11_use_74 rfl ?_
  refine x_iaload C dX11_use_76 rfl h (fun h => ?_)
  refine x_icmp_ne C 98 dX11_use_77 (by decide) h (fun h => ?_) (fun h => ?_)
  · refine x_loc [(0, .inr (.inr (some 0))), (3, .inl z), (4, .inl x4), (6, .inl x6), (7, .inl s0)] ⟨rfl, rfl, rfl, rfl, rfl, trivial⟩ ?_
    exact t_m_use_98 hd9 C _ _ _ hR _ _ _ _ h
  · refine x_iload C dX11_use_80 rfl ?_
    refine x_bipush C dX11_use_82 (by decide) ?_
    refine x_icmp_ge C 98 dX11_use_84 (by decide) h (fun h => ?_) (fun h => ?_)
    · refine x_loc [(0, .inr (.inr (some 0))), (3, .inl z), (4, .inl x4), (6, .inl x6), (7, .inl s0)] ⟨rfl, rfl, rfl, rfl, rfl, trivial⟩ ?_
      exact t_m_use_98 hd9 C _ _ _ hR _ _ _ _ h
    · refine x_aload_n C dX11_use_87 rfl ?_
      refine x_getR C dX11_use_88 fF_X11_9 rfl rfl ?_
      refine x_iload C dX11_use_91 rfl ?_
      refine x_dup2 C dX11_use_93 rfl rfl ?_
      refine x_iaload C dX11_use_94 rfl h (fun h => ?_)
      refine x_iconst C dX11_use_95 ?_
      refine x_iadd C dX11_use_96 ?_
      refine x_iastore C dX11_use_97 rfl h (fun h => ?_)
      refine x_loc [(0, .inr (.inr (some 0))), (3, .inl z), (4, .inl x4), (6, .inl x6), (7, .inl s0)] ⟨rfl, rfl, rfl, rfl, rfl, trivial⟩ ?_
      exact t_m_use_98 hd9 C _ _ _ hR _ _ _ _ h
def f_m_use_49 (e : Int) (w : Int) (z : Int) (x4 : Int) (x5 : Int) (x6 : Int) (m : xM) : Option (Int × xM) :=
     (if xib x5 3530 then (if xw x6 < xw (m 1 (xix x5)) then f_m_use_66 e w z x4 x5 x6 1 m
      else f_m_use_66 e w z x4 x5 x6 3 m)
      else none)
set_option maxRecDepth 1000000 in
set_option maxHeartbeats 4000000 in
theorem t_m_use_49 {Γ : xG} {d : Nat} (hd9 : 3 ≤ d) (C : xC Γ lay_M RX11 cX11_use 9 d) (e : Int) (w : Int) (z : Int) {r : Int} {m9 : xM} (hR : xRi Γ lay_M cX11_use r m9) (x4 : Int) (x5 : Int) (x6 : Int) (m : xM) (h : f_m_use_49 e w z x4 x5 x6 m = some (r, m9)) : xW Γ lay_M 9 49 [(0, .inr (.inr (some 0))), (3, .inl z), (4, .inl x4), (5, .inl x5), (6, .inl x6)] [] m := by
  unfold f_m_use_49 at h
  refine x_iload C dX11_use_49 rfl ?_
  refine x_aload_n C dX11_use_51 rfl ?_
  refine x_getR C dX11_use_52 fF_X11_9 rfl rfl ?_
  refine x_iload C dX11_use_55 rfl ?_
  refine x_iaload C dX11_use_57 rfl h (fun h => ?_)
  refine x_icmp_ge C 65 dX11_use_58 (by decide) h (fun h => ?_) (fun h => ?_)
  · refine x_iconst C dX11_use_65 ?_
    refine x_loc [(0, .inr (.inr (some 0))), (3, .inl z), (4, .inl x4), (5, .inl x5), (6, .inl x6)] ⟨rfl, rfl, rfl, rfl, rfl, trivial⟩ ?_
    exact t_m_use_66 hd9 C _ _ _ hR _ _ _ _ _ h
  · refine x_iconst C dX11_use_61 ?_
    refine x_goto C 66 dX11_use_62 (by decide) ?_
    refine x_loc [(0, .inr (.inr (some 0))), (3, .inl z), (4, .inl x4), (5, .inl x5), (6, .inl x6)] ⟨rfl, rfl, rfl, rfl, rfl, trivial⟩ ?_
    exact t_m_use_66 hd9 C _ _ _ hR _ _ _ _ _ h
def f_m_use_17 (e : Int) (w : Int) (z : Int) : Nat → Int → Int → Int → xM → Option (Int × xM)
  | 0, _, _, _, _ => none
  | n + 1, x4, x5, x6, m =>
     (if xib x5 3530 then (if xw x6 < xw (m 1 (xix x5)) then (if xib (x4 + x6) 3530 then (if xw (m 1 (xix (x4 + x6))) = xw z then f_m_use_49 e w z x4 x5 x6 m
      else f_m_use_17 e w z n x4 x5 (x6 + 1) m)
      else none)
      else f_m_use_49 e w z x4 x5 x6 m)
      else none)
set_option maxRecDepth 1000000 in
set_option maxHeartbeats 4000000 in
theorem t_m_use_17 {Γ : xG} {d : Nat} (hd9 : 3 ≤ d) (C : xC Γ lay_M RX11 cX11_use 9 d) (e : Int) (w : Int) (z : Int) {r : Int} {m9 : xM} (hR : xRi Γ lay_M cX11_use r m9) : ∀ (n : Nat) (x4 : Int) (x5 : Int) (x6 : Int) (m : xM), f_m_use_17 e w z n x4 x5 x6 m = some (r, m9) → xW Γ lay_M 9 17 [(0, .inr (.inr (some 0))), (3, .inl z), (4, .inl x4), (5, .inl x5), (6, .inl x6)] [] m := by
  intro n
  induction n with
  | zero => intro _ _ _ _ h; cases h
  | succ n ih =>
    intro x4 x5 x6 m h
    rw [f_m_use_17] at h
    refine x_iload C dX11_use_17 rfl ?_
    refine x_aload_n C dX11_use_19 rfl ?_
    refine x_getR C dX11_use_20 fF_X11_9 rfl rfl ?_
    refine x_iload C dX11_use_23 rfl ?_
    refine x_iaload C dX11_use_25 rfl h (fun h => ?_)
    refine x_icmp_ge C 49 dX11_use_26 (by decide) h (fun h => ?_) (fun h => ?_)
    · refine x_loc [(0, .inr (.inr (some 0))), (3, .inl z), (4, .inl x4), (5, .inl x5), (6, .inl x6)] ⟨rfl, rfl, rfl, rfl, rfl, trivial⟩ ?_
      exact t_m_use_49 hd9 C _ _ _ hR _ _ _ _ h
    · refine x_aload_n C dX11_use_29 rfl ?_
      refine x_getR C dX11_use_30 fF_X11_9 rfl rfl ?_
      refine x_iload C dX11_use_33 rfl ?_
      refine x_iload C dX11_use_35 rfl ?_
      refine x_iadd C dX11_use_37 ?_
      refine x_iaload C dX11_use_38 rfl h (fun h => ?_)
      refine x_iload_n C dX11_use_39 rfl ?_
      refine x_icmp_eq C 49 dX11_use_40 (by decide) h (fun h => ?_) (fun h => ?_)
      · refine x_loc [(0, .inr (.inr (some 0))), (3, .inl z), (4, .inl x4), (5, .inl x5), (6, .inl x6)] ⟨rfl, rfl, rfl, rfl, rfl, trivial⟩ ?_
        exact t_m_use_49 hd9 C _ _ _ hR _ _ _ _ h
      · refine x_iinc C dX11_use_43 (by decide) rfl ?_
        refine x_goto C 17 dX11_use_46 (by decide) ?_
        refine x_loc [(0, .inr (.inr (some 0))), (3, .inl z), (4, .inl x4), (5, .inl x5), (6, .inl (x6 + 1))] ⟨rfl, rfl, rfl, rfl, rfl, trivial⟩ ?_
        exact ih _ _ _ _ h
def f_m_use (e : Int) (w : Int) (z : Int) (m : xM) : Option (Int × xM) :=
     (Option.bind (f_m_wordsAt e w (xvw [] m)) fun q0 =>
      (Option.bind (f_m_countAt e w (xvw [] m)) fun q1 =>
      f_m_use_17 e w z fu q0 q1 0 m))
set_option maxRecDepth 1000000 in
set_option maxHeartbeats 4000000 in
theorem t_m_use {Γ : xG} {d : Nat} (hd9 : 3 ≤ d) (C : xC Γ lay_M RX11 cX11_use 9 d) (e : Int) (w : Int) (z : Int) {r : Int} {m9 : xM} (hR : xRi Γ lay_M cX11_use r m9) (m : xM) (h : f_m_use e w z m = some (r, m9)) : xW Γ lay_M 9 0 [(0, .inr (.inr (some 0))), (1, .inl e), (2, .inl w), (3, .inl z)] [] m := by
  unfold f_m_use at h
  refine x_iload_n C dX11_use_0 rfl ?_
  refine x_iload_n C dX11_use_1 rfl ?_
  obtain ⟨q0, hq0, h⟩ := x_bind h
  refine x_callSp C dX11_use_2 (xin_31 _ (List.mem_of_getElem? (i := 7) rfl)) xy_X11_wordsAt (xt_X11_wordsAt) [] xv_49 (by omega) (by decide) (av := [.inl e, .inl w]) rfl (Nat.le_of_ble_eq_true rfl) (c_m_wordsAt _ _ _ _ _ hq0) rfl ?_
  refine x_istore C dX11_use_5 (by decide) ?_
  refine x_iload_n C dX11_use_7 rfl ?_
  refine x_iload_n C dX11_use_8 rfl ?_
  obtain ⟨q1, hq1, h⟩ := x_bind h
  refine x_callSp C dX11_use_9 (xin_31 _ (List.mem_of_getElem? (i := 4) rfl)) xy_X11_countAt (xt_X11_countAt) [] xv_49 (by omega) (by decide) (av := [.inl e, .inl w]) rfl (Nat.le_of_ble_eq_true rfl) (c_m_countAt _ _ _ _ _ hq1) rfl ?_
  refine x_istore C dX11_use_12 (by decide) ?_
  refine x_iconst C dX11_use_14 ?_
  refine x_istore C dX11_use_15 (by decide) ?_
  refine x_loc [(0, .inr (.inr (some 0))), (3, .inl z), (4, .inl q0), (5, .inl q1), (6, .inl 0)] ⟨rfl, rfl, rfl, rfl, rfl, trivial⟩ ?_
  exact t_m_use_17 hd9 C _ _ _ hR fu _ _ _ _ h
theorem c_m_use (l : Launch) (e : Int) (w : Int) (z : Int) (m : xM) (r : Int) (m9 : xM) (h : f_m_use e w z m = some (r, m9)) : xMet l yX11_use cX11_use 9 (some .int) 3 lay_M [.inr (.inr (some 0)), .inl e, .inl w, .inl z] m (some (.inl r)) m9 :=
  xMet_i (by decide +kernel) (Nat.le_of_ble_eq_true rfl) (fun Γ C hR hl9 => t_m_use (Nat.le_refl _) C e w z hR m h)
/-! ===== yX11_keepWords ===== -/
theorem xy_X11_of : xY yX11_of cX11_of 3 (some .int) 2 := ⟨(xin_27 _ (List.mem_of_getElem? (i := 17) rfl)), (xin_1 _ (List.mem_of_getElem? (i := 5) rfl)), by decide, by decide, by decide +kernel⟩
theorem xi_X11_of : Cond.instanceMethod yX11_of ∈ wsL_law := (xin_27 _ (List.mem_of_getElem? (i := 15) rfl))
theorem xs_X11_of : Cond.selects yX11_of.cls yX11_of yX11_of ∈ wsL_law := (xin_27 _ (List.mem_of_getElem? (i := 16) rfl))
theorem fF_X11_104 : xF RX11 104 13 9 .int false := ⟨RX11, TX11, 26, tyX11, rfl, by decide, (xin_34 _ (List.mem_of_getElem? (i := 16) rfl)), rfl, inlX11, tyX11_ok, nmX11, rfl, rfl⟩
theorem fF_X11_26 : xF RX11 26 13 8 (.array .int) true := ⟨RX11, TX11, 26, tyX11, rfl, by decide, (xin_9 _ (List.mem_of_getElem? (i := 8) rfl)), rfl, inlX11, tyX11_ok, nmX11, rfl, rfl⟩
theorem dX11_keepWords_0 : decode cX11_keepWords 0 = .ok (.aload_n 0, 1) := by decide +kernel
theorem dX11_keepWords_1 : decode cX11_keepWords 1 = .ok (.aload_n 0, 1) := by decide +kernel
theorem dX11_keepWords_2 : decode cX11_keepWords 2 = .ok (.iload_n 1, 1) := by decide +kernel
theorem dX11_keepWords_3 : decode cX11_keepWords 3 = .ok (.bipush 7, 2) := by decide +kernel
theorem dX11_keepWords_5 : decode cX11_keepWords 5 = .ok (.invokevirtual 101, 3) := by decide +kernel
theorem dX11_keepWords_8 : decode cX11_keepWords 8 = .ok (.putfield 104, 3) := by decide +kernel
theorem dX11_keepWords_11 : decode cX11_keepWords 11 = .ok (.iconst 0, 1) := by decide +kernel
theorem dX11_keepWords_12 : decode cX11_keepWords 12 = .ok (.istore_n 2, 1) := by decide +kernel
theorem dX11_keepWords_13 : decode cX11_keepWords 13 = .ok (.iload_n 2, 1) := by decide +kernel
theorem dX11_keepWords_14 : decode cX11_keepWords 14 = .ok (.bipush 8, 2) := by decide +kernel
theorem dX11_keepWords_16 : decode cX11_keepWords 16 = .ok (.if_icmp .ge 24, 3) := by decide +kernel
theorem dX11_keepWords_19 : decode cX11_keepWords 19 = .ok (.aload_n 0, 1) := by decide +kernel
theorem dX11_keepWords_20 : decode cX11_keepWords 20 = .ok (.getfield 26, 3) := by decide +kernel
theorem dX11_keepWords_23 : decode cX11_keepWords 23 = .ok (.iload_n 2, 1) := by decide +kernel
theorem dX11_keepWords_24 : decode cX11_keepWords 24 = .ok (.aload_n 0, 1) := by decide +kernel
theorem dX11_keepWords_25 : decode cX11_keepWords 25 = .ok (.iload_n 1, 1) := by decide +kernel
theorem dX11_keepWords_26 : decode cX11_keepWords 26 = .ok (.bipush 10, 2) := by decide +kernel
theorem dX11_keepWords_28 : decode cX11_keepWords 28 = .ok (.iload_n 2, 1) := by decide +kernel
theorem dX11_keepWords_29 : decode cX11_keepWords 29 = .ok (.iadd, 1) := by decide +kernel
theorem dX11_keepWords_30 : decode cX11_keepWords 30 = .ok (.invokevirtual 101, 3) := by decide +kernel
theorem dX11_keepWords_33 : decode cX11_keepWords 33 = .ok (.iastore, 1) := by decide +kernel
theorem dX11_keepWords_34 : decode cX11_keepWords 34 = .ok (.iinc 2 1, 3) := by decide +kernel
theorem dX11_keepWords_37 : decode cX11_keepWords 37 = .ok (.goto (-24), 3) := by decide +kernel
theorem dX11_keepWords_40 : decode cX11_keepWords 40 = .ok (.return_, 1) := by decide +kernel
def f_m_keepWords_13 (e : Int) : Nat → Int → xM → Option (xM)
  | 0, _, _ => none
  | n + 1, x2, m =>
     (if xw x2 < xw 8 then (Option.bind (f_m_of e (10 + x2) m) fun q1 =>
      (if xib x2 8 then f_m_keepWords_13 e n (x2 + 1) (xu m 6 (xix x2) q1)
      else none))
      else some m)
set_option maxRecDepth 1000000 in
set_option maxHeartbeats 4000000 in
theorem t_m_keepWords_13 {Γ : xG} {d : Nat} (hd9 : 3 ≤ d) (C : xC Γ lay_M RX11 cX11_keepWords 3 d) (e : Int) {m9 : xM} (hR : xRv Γ lay_M cX11_keepWords m9) : ∀ (n : Nat) (x2 : Int) (m : xM), f_m_keepWords_13 e n x2 m = some m9 → xW Γ lay_M 3 13 [(0, .inr (.inr (some 0))), (1, .inl e), (2, .inl x2)] [] m := by
  intro n
  induction n with
  | zero => intro _ _ h; cases h
  | succ n ih =>
    intro x2 m h
    rw [f_m_keepWords_13] at h
    refine x_iload_n C dX11_keepWords_13 rfl ?_
    refine x_bipush C dX11_keepWords_14 (by decide) ?_
    refine x_icmp_ge C 40 dX11_keepWords_16 (by decide) h (fun h => ?_) (fun h => ?_)
    · exact x_returnV hR dX11_keepWords_40 h
    · refine x_aload_n C dX11_keepWords_19 rfl ?_
      refine x_getR C dX11_keepWords_20 fF_X11_26 rfl rfl ?_
      refine x_iload_n C dX11_keepWords_23 rfl ?_
      refine x_aload_n C dX11_keepWords_24 rfl ?_
      refine x_iload_n C dX11_keepWords_25 rfl ?_
      refine x_bipush C dX11_keepWords_26 (by decide) ?_
      refine x_iload_n C dX11_keepWords_28 rfl ?_
      refine x_iadd C dX11_keepWords_29 ?_
      obtain ⟨q1, hq1, h⟩ := x_bind h
      refine x_callVI C dX11_keepWords_30 (xin_27 _ (List.mem_of_getElem? (i := 14) rfl)) xy_X11_of (xi_X11_of) (xs_X11_of) (by omega) (by decide) (b := 0) rfl ⟨_, _, rfl⟩ (av := [.inl e, .inl (10 + x2)]) rfl (Nat.le_of_ble_eq_true rfl) (c_m_of _ _ _ _ _ hq1) rfl ?_
      refine x_iastore C dX11_keepWords_33 rfl h (fun h => ?_)
      refine x_iinc C dX11_keepWords_34 (by decide) rfl ?_
      refine x_goto C 13 dX11_keepWords_37 (by decide) ?_
      refine x_loc [(0, .inr (.inr (some 0))), (1, .inl e), (2, .inl (x2 + 1))] ⟨rfl, rfl, rfl, trivial⟩ ?_
      exact ih _ _ h
def f_m_keepWords (e : Int) (m : xM) : Option (xM) :=
     (Option.bind (f_m_of e 7 m) fun q0 =>
      f_m_keepWords_13 e fu 0 (xu m 0 9 q0))
set_option maxRecDepth 1000000 in
set_option maxHeartbeats 4000000 in
theorem t_m_keepWords {Γ : xG} {d : Nat} (hd9 : 3 ≤ d) (C : xC Γ lay_M RX11 cX11_keepWords 3 d) (e : Int) {m9 : xM} (hR : xRv Γ lay_M cX11_keepWords m9) (m : xM) (h : f_m_keepWords e m = some m9) : xW Γ lay_M 3 0 [(0, .inr (.inr (some 0))), (1, .inl e)] [] m := by
  unfold f_m_keepWords at h
  refine x_aload_n C dX11_keepWords_0 rfl ?_
  refine x_aload_n C dX11_keepWords_1 rfl ?_
  refine x_iload_n C dX11_keepWords_2 rfl ?_
  refine x_bipush C dX11_keepWords_3 (by decide) ?_
  obtain ⟨q0, hq0, h⟩ := x_bind h
  refine x_callVI C dX11_keepWords_5 (xin_27 _ (List.mem_of_getElem? (i := 14) rfl)) xy_X11_of (xi_X11_of) (xs_X11_of) (by omega) (by decide) (b := 0) rfl ⟨_, _, rfl⟩ (av := [.inl e, .inl 7]) rfl (Nat.le_of_ble_eq_true rfl) (c_m_of _ _ _ _ _ hq0) rfl ?_
  refine x_putI C dX11_keepWords_8 fF_X11_104 rfl rfl ?_
  refine x_iconst C dX11_keepWords_11 ?_
  refine x_istore_n C dX11_keepWords_12 (by decide) ?_
  refine x_loc [(0, .inr (.inr (some 0))), (1, .inl e), (2, .inl 0)] ⟨rfl, rfl, rfl, trivial⟩ ?_
  exact t_m_keepWords_13 hd9 C _ hR fu _ _ h
theorem c_m_keepWords (l : Launch) (e : Int) (m m9 : xM) (h : f_m_keepWords e m = some m9) : xMet l yX11_keepWords cX11_keepWords 3 none 3 lay_M [.inr (.inr (some 0)), .inl e] m none m9 :=
  xMet_v (by decide +kernel) (Nat.le_of_ble_eq_true rfl) (fun Γ C hR hl9 => t_m_keepWords (Nat.le_refl _) C e hR m h)
/-! ===== yX11_takeWordsBack ===== -/
theorem dX11_takeWordsBack_0 : decode cX11_takeWordsBack 0 = .ok (.aload_n 0, 1) := by decide +kernel
theorem dX11_takeWordsBack_1 : decode cX11_takeWordsBack 1 = .ok (.getfield 9, 3) := by decide +kernel
theorem dX11_takeWordsBack_4 : decode cX11_takeWordsBack 4 = .ok (.iload_n 1, 1) := by decide +kernel
theorem dX11_takeWordsBack_5 : decode cX11_takeWordsBack 5 = .ok (.bipush 7, 2) := by decide +kernel
theorem dX11_takeWordsBack_7 : decode cX11_takeWordsBack 7 = .ok (.invokestatic 69, 3) := by decide +kernel
theorem dX11_takeWordsBack_10 : decode cX11_takeWordsBack 10 = .ok (.aload_n 0, 1) := by decide +kernel
theorem dX11_takeWordsBack_11 : decode cX11_takeWordsBack 11 = .ok (.getfield 104, 3) := by decide +kernel
theorem dX11_takeWordsBack_14 : decode cX11_takeWordsBack 14 = .ok (.iastore, 1) := by decide +kernel
theorem dX11_takeWordsBack_15 : decode cX11_takeWordsBack 15 = .ok (.iconst 0, 1) := by decide +kernel
theorem dX11_takeWordsBack_16 : decode cX11_takeWordsBack 16 = .ok (.istore_n 2, 1) := by decide +kernel
theorem dX11_takeWordsBack_17 : decode cX11_takeWordsBack 17 = .ok (.iload_n 2, 1) := by decide +kernel
theorem dX11_takeWordsBack_18 : decode cX11_takeWordsBack 18 = .ok (.bipush 8, 2) := by decide +kernel
theorem dX11_takeWordsBack_20 : decode cX11_takeWordsBack 20 = .ok (.if_icmp .ge 28, 3) := by decide +kernel
theorem dX11_takeWordsBack_23 : decode cX11_takeWordsBack 23 = .ok (.aload_n 0, 1) := by decide +kernel
theorem dX11_takeWordsBack_24 : decode cX11_takeWordsBack 24 = .ok (.getfield 9, 3) := by decide +kernel
theorem dX11_takeWordsBack_27 : decode cX11_takeWordsBack 27 = .ok (.iload_n 1, 1) := by decide +kernel
theorem dX11_takeWordsBack_28 : decode cX11_takeWordsBack 28 = .ok (.bipush 10, 2) := by decide +kernel
theorem dX11_takeWordsBack_30 : decode cX11_takeWordsBack 30 = .ok (.iload_n 2, 1) := by decide +kernel
theorem dX11_takeWordsBack_31 : decode cX11_takeWordsBack 31 = .ok (.iadd, 1) := by decide +kernel
theorem dX11_takeWordsBack_32 : decode cX11_takeWordsBack 32 = .ok (.invokestatic 69, 3) := by decide +kernel
theorem dX11_takeWordsBack_35 : decode cX11_takeWordsBack 35 = .ok (.aload_n 0, 1) := by decide +kernel
theorem dX11_takeWordsBack_36 : decode cX11_takeWordsBack 36 = .ok (.getfield 26, 3) := by decide +kernel
theorem dX11_takeWordsBack_39 : decode cX11_takeWordsBack 39 = .ok (.iload_n 2, 1) := by decide +kernel
theorem dX11_takeWordsBack_40 : decode cX11_takeWordsBack 40 = .ok (.iaload, 1) := by decide +kernel
theorem dX11_takeWordsBack_41 : decode cX11_takeWordsBack 41 = .ok (.iastore, 1) := by decide +kernel
theorem dX11_takeWordsBack_42 : decode cX11_takeWordsBack 42 = .ok (.iinc 2 1, 3) := by decide +kernel
theorem dX11_takeWordsBack_45 : decode cX11_takeWordsBack 45 = .ok (.goto (-28), 3) := by decide +kernel
theorem dX11_takeWordsBack_48 : decode cX11_takeWordsBack 48 = .ok (.return_, 1) := by decide +kernel
def f_m_takeWordsBack_17 (e : Int) : Nat → Int → xM → Option (xM)
  | 0, _, _ => none
  | n + 1, x2, m =>
     (if xw x2 < xw 8 then (Option.bind (f_m_endAt e (10 + x2) (xvw [] m)) fun q1 =>
      (if xib x2 8 then (if xib q1 3530 then f_m_takeWordsBack_17 e n (x2 + 1) (xu m 1 (xix q1) (m 6 (xix x2)))
      else none)
      else none))
      else some m)
set_option maxRecDepth 1000000 in
set_option maxHeartbeats 4000000 in
theorem t_m_takeWordsBack_17 {Γ : xG} {d : Nat} (hd9 : 2 ≤ d) (C : xC Γ lay_M RX11 cX11_takeWordsBack 3 d) (e : Int) {m9 : xM} (hR : xRv Γ lay_M cX11_takeWordsBack m9) : ∀ (n : Nat) (x2 : Int) (m : xM), f_m_takeWordsBack_17 e n x2 m = some m9 → xW Γ lay_M 3 17 [(0, .inr (.inr (some 0))), (1, .inl e), (2, .inl x2)] [] m := by
  intro n
  induction n with
  | zero => intro _ _ h; cases h
  | succ n ih =>
    intro x2 m h
    rw [f_m_takeWordsBack_17] at h
    refine x_iload_n C dX11_takeWordsBack_17 rfl ?_
    refine x_bipush C dX11_takeWordsBack_18 (by decide) ?_
    refine x_icmp_ge C 48 dX11_takeWordsBack_20 (by decide) h (fun h => ?_) (fun h => ?_)
    · exact x_returnV hR dX11_takeWordsBack_48 h
    · refine x_aload_n C dX11_takeWordsBack_23 rfl ?_
      refine x_getR C dX11_takeWordsBack_24 fF_X11_9 rfl rfl ?_
      refine x_iload_n C dX11_takeWordsBack_27 rfl ?_
      refine x_bipush C dX11_takeWordsBack_28 (by decide) ?_
      refine x_iload_n C dX11_takeWordsBack_30 rfl ?_
      refine x_iadd C dX11_takeWordsBack_31 ?_
      obtain ⟨q1, hq1, h⟩ := x_bind h
      refine x_callSp C dX11_takeWordsBack_32 (xin_27 _ (List.mem_of_getElem? (i := 18) rfl)) xy_X11_endAt (xt_X11_endAt) [] xv_49 (by omega) (by decide) (av := [.inl e, .inl (10 + x2)]) rfl (Nat.le_of_ble_eq_true rfl) (c_m_endAt _ _ _ _ _ hq1) rfl ?_
      refine x_aload_n C dX11_takeWordsBack_35 rfl ?_
      refine x_getR C dX11_takeWordsBack_36 fF_X11_26 rfl rfl ?_
      refine x_iload_n C dX11_takeWordsBack_39 rfl ?_
      refine x_iaload C dX11_takeWordsBack_40 rfl h (fun h => ?_)
      refine x_iastore C dX11_takeWordsBack_41 rfl h (fun h => ?_)
      refine x_iinc C dX11_takeWordsBack_42 (by decide) rfl ?_
      refine x_goto C 17 dX11_takeWordsBack_45 (by decide) ?_
      refine x_loc [(0, .inr (.inr (some 0))), (1, .inl e), (2, .inl (x2 + 1))] ⟨rfl, rfl, rfl, trivial⟩ ?_
      exact ih _ _ h
def f_m_takeWordsBack (e : Int) (m : xM) : Option (xM) :=
     (Option.bind (f_m_endAt e 7 (xvw [] m)) fun q0 =>
      (if xib q0 3530 then f_m_takeWordsBack_17 e fu 0 (xu m 1 (xix q0) (m 0 9))
      else none))
set_option maxRecDepth 1000000 in
set_option maxHeartbeats 4000000 in
theorem t_m_takeWordsBack {Γ : xG} {d : Nat} (hd9 : 2 ≤ d) (C : xC Γ lay_M RX11 cX11_takeWordsBack 3 d) (e : Int) {m9 : xM} (hR : xRv Γ lay_M cX11_takeWordsBack m9) (m : xM) (h : f_m_takeWordsBack e m = some m9) : xW Γ lay_M 3 0 [(0, .inr (.inr (some 0))), (1, .inl e)] [] m := by
  unfold f_m_takeWordsBack at h
  refine x_aload_n C dX11_takeWordsBack_0 rfl ?_
  refine x_getR C dX11_takeWordsBack_1 fF_X11_9 rfl rfl ?_
  refine x_iload_n C dX11_takeWordsBack_4 rfl ?_
  refine x_bipush C dX11_takeWordsBack_5 (by decide) ?_
  obtain ⟨q0, hq0, h⟩ := x_bind h
  refine x_callSp C dX11_takeWordsBack_7 (xin_27 _ (List.mem_of_getElem? (i := 18) rfl)) xy_X11_endAt (xt_X11_endAt) [] xv_49 (by omega) (by decide) (av := [.inl e, .inl 7]) rfl (Nat.le_of_ble_eq_true rfl) (c_m_endAt _ _ _ _ _ hq0) rfl ?_
  refine x_aload_n C dX11_takeWordsBack_10 rfl ?_
  refine x_getI C dX11_takeWordsBack_11 fF_X11_104 rfl rfl ?_
  refine x_iastore C dX11_takeWordsBack_14 rfl h (fun h => ?_)
  refine x_iconst C dX11_takeWordsBack_15 ?_
  refine x_istore_n C dX11_takeWordsBack_16 (by decide) ?_
  refine x_loc [(0, .inr (.inr (some 0))), (1, .inl e), (2, .inl 0)] ⟨rfl, rfl, rfl, trivial⟩ ?_
  exact t_m_takeWordsBack_17 hd9 C _ hR fu _ _ h
theorem c_m_takeWordsBack (l : Launch) (e : Int) (m m9 : xM) (h : f_m_takeWordsBack e m = some m9) : xMet l yX11_takeWordsBack cX11_takeWordsBack 3 none 2 lay_M [.inr (.inr (some 0)), .inl e] m none m9 :=
  xMet_v (by decide +kernel) (Nat.le_of_ble_eq_true rfl) (fun Γ C hR hl9 => t_m_takeWordsBack (Nat.le_refl _) C e hR m h)
/-! ===== yX11_write ===== -/
theorem xy_X11_use : xY yX11_use cX11_use 9 (some .int) 3 := ⟨(xin_35 _ (List.mem_of_getElem? (i := 0) rfl)), (xin_1 _ (List.mem_of_getElem? (i := 5) rfl)), by decide, by decide, by decide +kernel⟩
theorem xi_X11_use : Cond.instanceMethod yX11_use ∈ wsL_law := (xin_34 _ (List.mem_of_getElem? (i := 22) rfl))
theorem xs_X11_use : Cond.selects yX11_use.cls yX11_use yX11_use ∈ wsL_law := (xin_34 _ (List.mem_of_getElem? (i := 23) rfl))
theorem dX11_write_0 : decode cX11_write 0 = .ok (.aload_n 0, 1) := by decide +kernel
theorem dX11_write_1 : decode cX11_write 1 = .ok (.iload_n 1, 1) := by decide +kernel
theorem dX11_write_2 : decode cX11_write 2 = .ok (.bipush 9, 2) := by decide +kernel
theorem dX11_write_4 : decode cX11_write 4 = .ok (.invokevirtual 101, 3) := by decide +kernel
theorem dX11_write_7 : decode cX11_write 7 = .ok (.iconst 1, 1) := by decide +kernel
theorem dX11_write_8 : decode cX11_write 8 = .ok (.if_icmp .ne 7, 3) := by decide +kernel
theorem dX11_write_11 : decode cX11_write 11 = .ok (.iconst 1, 1) := by decide +kernel
theorem dX11_write_12 : decode cX11_write 12 = .ok (.goto 4, 3) := by decide +kernel
theorem dX11_write_15 : decode cX11_write 15 = .ok (.iconst 0, 1) := by decide +kernel
theorem dX11_write_16 : decode cX11_write 16 = .ok (.istore 4, 2) := by decide +kernel
theorem dX11_write_18 : decode cX11_write 18 = .ok (.iload 4, 2) := by decide +kernel
theorem dX11_write_20 : decode cX11_write 20 = .ok (.ifCond .eq 15, 3) := by decide +kernel
theorem dX11_write_23 : decode cX11_write 23 = .ok (.aload_n 0, 1) := by decide +kernel
theorem dX11_write_24 : decode cX11_write 24 = .ok (.getfield 9, 3) := by decide +kernel
theorem dX11_write_27 : decode cX11_write 27 = .ok (.iload_n 1, 1) := by decide +kernel
theorem dX11_write_28 : decode cX11_write 28 = .ok (.bipush 7, 2) := by decide +kernel
theorem dX11_write_30 : decode cX11_write 30 = .ok (.invokestatic 69, 3) := by decide +kernel
theorem dX11_write_33 : decode cX11_write 33 = .ok (.iconst 0, 1) := by decide +kernel
theorem dX11_write_34 : decode cX11_write 34 = .ok (.iastore, 1) := by decide +kernel
theorem dX11_write_35 : decode cX11_write 35 = .ok (.iload 4, 2) := by decide +kernel
theorem dX11_write_37 : decode cX11_write 37 = .ok (.ifCond .eq 7, 3) := by decide +kernel
theorem dX11_write_40 : decode cX11_write 40 = .ok (.iconst 5, 1) := by decide +kernel
theorem dX11_write_41 : decode cX11_write 41 = .ok (.goto 4, 3) := by decide +kernel
theorem dX11_write_44 : decode cX11_write 44 = .ok (.iconst 4, 1) := by decide +kernel
theorem dX11_write_45 : decode cX11_write 45 = .ok (.istore 5, 2) := by decide +kernel
theorem dX11_write_47 : decode cX11_write 47 = .ok (.iconst 0, 1) := by decide +kernel
theorem dX11_write_48 : decode cX11_write 48 = .ok (.istore 6, 2) := by decide +kernel
theorem dX11_write_50 : decode cX11_write 50 = .ok (.iload 6, 2) := by decide +kernel
theorem dX11_write_52 : decode cX11_write 52 = .ok (.iload_n 3, 1) := by decide +kernel
theorem dX11_write_53 : decode cX11_write 53 = .ok (.if_icmp .ge 29, 3) := by decide +kernel
theorem dX11_write_56 : decode cX11_write 56 = .ok (.iload 5, 2) := by decide +kernel
theorem dX11_write_58 : decode cX11_write 58 = .ok (.aload_n 0, 1) := by decide +kernel
theorem dX11_write_59 : decode cX11_write 59 = .ok (.iload_n 1, 1) := by decide +kernel
theorem dX11_write_60 : decode cX11_write 60 = .ok (.iconst 1, 1) := by decide +kernel
theorem dX11_write_61 : decode cX11_write 61 = .ok (.aload_n 0, 1) := by decide +kernel
theorem dX11_write_62 : decode cX11_write 62 = .ok (.getfield 9, 3) := by decide +kernel
theorem dX11_write_65 : decode cX11_write 65 = .ok (.iload_n 2, 1) := by decide +kernel
theorem dX11_write_66 : decode cX11_write 66 = .ok (.iload 6, 2) := by decide +kernel
theorem dX11_write_68 : decode cX11_write 68 = .ok (.iadd, 1) := by decide +kernel
theorem dX11_write_69 : decode cX11_write 69 = .ok (.iaload, 1) := by decide +kernel
theorem dX11_write_70 : decode cX11_write 70 = .ok (.invokevirtual 107, 3) := by decide +kernel
theorem dX11_write_73 : decode cX11_write 73 = .ok (.iadd, 1) := by decide +kernel
theorem dX11_write_74 : decode cX11_write 74 = .ok (.istore 5, 2) := by decide +kernel
theorem dX11_write_76 : decode cX11_write 76 = .ok (.iinc 6 1, 3) := by decide +kernel
theorem dX11_write_79 : decode cX11_write 79 = .ok (.goto (-29), 3) := by decide +kernel
theorem dX11_write_82 : decode cX11_write 82 = .ok (.iload 5, 2) := by decide +kernel
theorem dX11_write_84 : decode cX11_write 84 = .ok (.ireturn, 1) := by decide +kernel
def f_m_write_50 (e : Int) (f : Int) (z : Int) : Nat → Int → Int → xM → Option (Int × xM)
  | 0, _, _, _ => none
  | n + 1, x5, x6, m =>
     (if xw x6 < xw z then (if xib (f + x6) 3530 then (Option.bind (f_m_use e 1 (m 1 (xix (f + x6))) m) fun q1 =>
      f_m_write_50 e f z n (x5 + q1.1) (x6 + 1) q1.2)
      else none)
      else some (x5, m))
set_option maxRecDepth 1000000 in
set_option maxHeartbeats 4000000 in
theorem t_m_write_50 {Γ : xG} {d : Nat} (hd9 : 4 ≤ d) (C : xC Γ lay_M RX11 cX11_write 7 d) (e : Int) (f : Int) (z : Int) {r : Int} {m9 : xM} (hR : xRi Γ lay_M cX11_write r m9) : ∀ (n : Nat) (x5 : Int) (x6 : Int) (m : xM), f_m_write_50 e f z n x5 x6 m = some (r, m9) → xW Γ lay_M 7 50 [(0, .inr (.inr (some 0))), (1, .inl e), (2, .inl f), (3, .inl z), (5, .inl x5), (6, .inl x6)] [] m := by
  intro n
  induction n with
  | zero => intro _ _ _ h; cases h
  | succ n ih =>
    intro x5 x6 m h
    rw [f_m_write_50] at h
    refine x_iload C dX11_write_50 rfl ?_
    refine x_iload_n C dX11_write_52 rfl ?_
    refine x_icmp_ge C 82 dX11_write_53 (by decide) h (fun h => ?_) (fun h => ?_)
    · refine x_iload C dX11_write_82 rfl ?_
      exact x_ireturn hR dX11_write_84 h
    · refine x_iload C dX11_write_56 rfl ?_
      refine x_aload_n C dX11_write_58 rfl ?_
      refine x_iload_n C dX11_write_59 rfl ?_
      refine x_iconst C dX11_write_60 ?_
      refine x_aload_n C dX11_write_61 rfl ?_
      refine x_getR C dX11_write_62 fF_X11_9 rfl rfl ?_
      refine x_iload_n C dX11_write_65 rfl ?_
      refine x_iload C dX11_write_66 rfl ?_
      refine x_iadd C dX11_write_68 ?_
      refine x_iaload C dX11_write_69 rfl h (fun h => ?_)
      obtain ⟨q1, hq1, h⟩ := x_bind h
      refine x_callVI C dX11_write_70 (xin_34 _ (List.mem_of_getElem? (i := 21) rfl)) xy_X11_use (xi_X11_use) (xs_X11_use) (by omega) (by decide) (b := 0) rfl ⟨_, _, rfl⟩ (av := [.inl e, .inl 1, .inl (m 1 (xix (f + x6)))]) rfl (Nat.le_of_ble_eq_true rfl) (c_m_use _ _ _ _ _ q1.1 q1.2 hq1) rfl ?_
      refine x_iadd C dX11_write_73 ?_
      refine x_istore C dX11_write_74 (by decide) ?_
      refine x_iinc C dX11_write_76 (by decide) rfl ?_
      refine x_goto C 50 dX11_write_79 (by decide) ?_
      refine x_loc [(0, .inr (.inr (some 0))), (1, .inl e), (2, .inl f), (3, .inl z), (5, .inl (x5 + q1.1)), (6, .inl (x6 + 1))] ⟨rfl, rfl, rfl, rfl, rfl, rfl, trivial⟩ ?_
      exact ih _ _ _ h
def f_m_write_45 (e : Int) (f : Int) (z : Int) (s0 : Int) (m : xM) : Option (Int × xM) :=
     f_m_write_50 e f z fu s0 0 m
set_option maxRecDepth 1000000 in
set_option maxHeartbeats 4000000 in
theorem t_m_write_45 {Γ : xG} {d : Nat} (hd9 : 4 ≤ d) (C : xC Γ lay_M RX11 cX11_write 7 d) (e : Int) (f : Int) (z : Int) {r : Int} {m9 : xM} (hR : xRi Γ lay_M cX11_write r m9) (s0 : Int) (m : xM) (h : f_m_write_45 e f z s0 m = some (r, m9)) : xW Γ lay_M 7 45 [(0, .inr (.inr (some 0))), (1, .inl e), (2, .inl f), (3, .inl z)] [.inl s0] m := by
  unfold f_m_write_45 at h
  refine x_istore C dX11_write_45 (by decide) ?_
  refine x_iconst C dX11_write_47 ?_
  refine x_istore C dX11_write_48 (by decide) ?_
  refine x_loc [(0, .inr (.inr (some 0))), (1, .inl e), (2, .inl f), (3, .inl z), (5, .inl s0), (6, .inl 0)] ⟨rfl, rfl, rfl, rfl, rfl, rfl, trivial⟩ ?_
  exact t_m_write_50 hd9 C _ _ _ hR fu _ _ _ h
def f_m_write_35 (e : Int) (f : Int) (z : Int) (x4 : Int) (m : xM) : Option (Int × xM) :=
     (if xw x4 = 0 then f_m_write_45 e f z 4 m
      else f_m_write_45 e f z 5 m)
set_option maxRecDepth 1000000 in
set_option maxHeartbeats 4000000 in
theorem t_m_write_35 {Γ : xG} {d : Nat} (hd9 : 4 ≤ d) (C : xC Γ lay_M RX11 cX11_write 7 d) (e : Int) (f : Int) (z : Int) {r : Int} {m9 : xM} (hR : xRi Γ lay_M cX11_write r m9) (x4 : Int) (m : xM) (h : f_m_write_35 e f z x4 m = some (r, m9)) : xW Γ lay_M 7 35 [(0, .inr (.inr (some 0))), (1, .inl e), (2, .inl f), (3, .inl z), (4, .inl x4)] [] m := by
  unfold f_m_write_35 at h
  refine x_iload C dX11_write_35 rfl ?_
  refine x_if_eq C 44 dX11_write_37 (by decide) h (fun h => ?_) (fun h => ?_)
  · refine x_iconst C dX11_write_44 ?_
    refine x_loc [(0, .inr (.inr (some 0))), (1, .inl e), (2, .inl f), (3, .inl z)] ⟨rfl, rfl, rfl, rfl, trivial⟩ ?_
    exact t_m_write_45 hd9 C _ _ _ hR _ _ h
  · refine x_iconst C dX11_write_40 ?_
    refine x_goto C 45 dX11_write_41 (by decide) ?_
    refine x_loc [(0, .inr (.inr (some 0))), (1, .inl e), (2, .inl f), (3, .inl z)] ⟨rfl, rfl, rfl, rfl, trivial⟩ ?_
    exact t_m_write_45 hd9 C _ _ _ hR _ _ h
def f_m_write_16 (e : Int) (f : Int) (z : Int) (s0 : Int) (m : xM) : Option (Int × xM) :=
     (if xw s0 = 0 then f_m_write_35 e f z s0 m
      else (Option.bind (f_m_endAt e 7 (xvw [] m)) fun q2 =>
      (if xib q2 3530 then f_m_write_35 e f z s0 (xu m 1 (xix q2) 0)
      else none)))
set_option maxRecDepth 1000000 in
set_option maxHeartbeats 4000000 in
theorem t_m_write_16 {Γ : xG} {d : Nat} (hd9 : 4 ≤ d) (C : xC Γ lay_M RX11 cX11_write 7 d) (e : Int) (f : Int) (z : Int) {r : Int} {m9 : xM} (hR : xRi Γ lay_M cX11_write r m9) (s0 : Int) (m : xM) (h : f_m_write_16 e f z s0 m = some (r, m9)) : xW Γ lay_M 7 16 [(0, .inr (.inr (some 0))), (1, .inl e), (2, .inl f), (3, .inl z)] [.inl s0] m := by
  unfold f_m_write_16 at h
  refine x_istore C dX11_write_16 (by decide) ?_
  refine x_iload C dX11_write_18 rfl ?_
  refine x_if_eq C 35 dX11_write_20 (by decide) h (fun h => ?_) (fun h => ?_)
  · refine x_loc [(0, .inr (.inr (some 0))), (1, .inl e), (2, .inl f), (3, .inl z), (4, .inl s0)] ⟨rfl, rfl, rfl, rfl, rfl, trivial⟩ ?_
    exact t_m_write_35 hd9 C _ _ _ hR _ _ h
  · refine x_aload_n C dX11_write_23 rfl ?_
    refine x_getR C dX11_write_24 fF_X11_9 rfl rfl ?_
    refine x_iload_n C dX11_write_27 rfl ?_
    refine x_bipush C dX11_write_28 (by decide) ?_
    obtain ⟨q2, hq2, h⟩ := x_bind h
    refine x_callSp C dX11_write_30 (xin_27 _ (List.mem_of_getElem? (i := 18) rfl)) xy_X11_endAt (xt_X11_endAt) [] xv_49 (by omega) (by decide) (av := [.inl e, .inl 7]) rfl (Nat.le_of_ble_eq_true rfl) (c_m_endAt _ _ _ _ _ hq2) rfl ?_
    refine x_iconst C dX11_write_33 ?_
    refine x_iastore C dX11_write_34 rfl h (fun h => ?_)
    refine x_loc [(0, .inr (.inr (some 0))), (1, .inl e), (2, .inl f), (3, .inl z), (4, .inl s0)] ⟨rfl, rfl, rfl, rfl, rfl, trivial⟩ ?_
    exact t_m_write_35 hd9 C _ _ _ hR _ _ h
def f_m_write (e : Int) (f : Int) (z : Int) (m : xM) : Option (Int × xM) :=
     (Option.bind (f_m_of e 9 m) fun q0 =>
      (if xw q0 = xw 1 then f_m_write_16 e f z 1 m
      else f_m_write_16 e f z 0 m))
set_option maxRecDepth 1000000 in
set_option maxHeartbeats 4000000 in
theorem t_m_write {Γ : xG} {d : Nat} (hd9 : 4 ≤ d) (C : xC Γ lay_M RX11 cX11_write 7 d) (e : Int) (f : Int) (z : Int) {r : Int} {m9 : xM} (hR : xRi Γ lay_M cX11_write r m9) (m : xM) (h : f_m_write e f z m = some (r, m9)) : xW Γ lay_M 7 0 [(0, .inr (.inr (some 0))), (1, .inl e), (2, .inl f), (3, .inl z)] [] m := by
  unfold f_m_write at h
  refine x_aload_n C dX11_write_0 rfl ?_
  refine x_iload_n C dX11_write_1 rfl ?_
  refine x_bipush C dX11_write_2 (by decide) ?_
  obtain ⟨q0, hq0, h⟩ := x_bind h
  refine x_callVI C dX11_write_4 (xin_27 _ (List.mem_of_getElem? (i := 14) rfl)) xy_X11_of (xi_X11_of) (xs_X11_of) (by omega) (by decide) (b := 0) rfl ⟨_, _, rfl⟩ (av := [.inl e, .inl 9]) rfl (Nat.le_of_ble_eq_true rfl) (c_m_of _ _ _ _ _ hq0) rfl ?_
  refine x_iconst C dX11_write_7 ?_
  refine x_icmp_ne C 15 dX11_write_8 (by decide) h (fun h => ?_) (fun h => ?_)
  · refine x_iconst C dX11_write_15 ?_
    refine x_loc [(0, .inr (.inr (some 0))), (1, .inl e), (2, .inl f), (3, .inl z)] ⟨rfl, rfl, rfl, rfl, trivial⟩ ?_
    exact t_m_write_16 hd9 C _ _ _ hR _ _ h
  · refine x_iconst C dX11_write_11 ?_
    refine x_goto C 16 dX11_write_12 (by decide) ?_
    refine x_loc [(0, .inr (.inr (some 0))), (1, .inl e), (2, .inl f), (3, .inl z)] ⟨rfl, rfl, rfl, rfl, trivial⟩ ?_
    exact t_m_write_16 hd9 C _ _ _ hR _ _ h
theorem c_m_write (l : Launch) (e : Int) (f : Int) (z : Int) (m : xM) (r : Int) (m9 : xM) (h : f_m_write e f z m = some (r, m9)) : xMet l yX11_write cX11_write 7 (some .int) 4 lay_M [.inr (.inr (some 0)), .inl e, .inl f, .inl z] m (some (.inl r)) m9 :=
  xMet_i (by decide +kernel) (Nat.le_of_ble_eq_true rfl) (fun Γ C hR hl9 => t_m_write (Nat.le_refl _) C e f z hR m h)

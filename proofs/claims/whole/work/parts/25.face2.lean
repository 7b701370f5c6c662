/-! ===== yX10_rate ===== -/
def h_X_rate_24 (z : Int) (w : Int) (m : xM) : Option (Nat) :=
     some 2
set_option maxRecDepth 1000000 in
set_option maxHeartbeats 4000000 in
theorem t_h_X_rate_24 {Γ : xG} {d : Nat} (hd9 : 6 ≤ d) (C : xC Γ lay_X RX10 cX10_rate 3 d) (CT : xCT Γ) (z : Int) (w : Int) {r : Nat} {m : xM} (hR : xRt Γ lay_X m (xEx r)) (h : h_X_rate_24 z w m = some r) : xW Γ lay_X 3 24 [] [] m := by
  unfold h_X_rate_24 at h
  exact x_throw C CT hR (by omega) xe_2 (is := 232) (text := "no such rate or property") (List.mem_of_getElem? (i := 5) rfl) dX10_rate_24 dX10_rate_27 dX10_rate_28 dX10_rate_30 dX10_rate_33 h
def h_X_rate (z : Int) (w : Int) (m : xM) : Option (Nat) :=
     (if xw z < 0 then h_X_rate_24 z w m
      else (if xw z < xw (m 1 4) then (if xw w < 0 then h_X_rate_24 z w m
      else (if xw 1 < xw w then h_X_rate_24 z w m
      else none))
      else h_X_rate_24 z w m))
set_option maxRecDepth 1000000 in
set_option maxHeartbeats 4000000 in
theorem t_h_X_rate {Γ : xG} {d : Nat} (hd9 : 6 ≤ d) (C : xC Γ lay_X RX10 cX10_rate 3 d) (CT : xCT Γ) (z : Int) (w : Int) {r : Nat} {m : xM} (hR : xRt Γ lay_X m (xEx r)) (h : h_X_rate z w m = some r) : xW Γ lay_X 3 0 [(0, .inr (.inr (some 0))), (1, .inl z), (2, .inl w)] [] m := by
  unfold h_X_rate at h
  refine x_iload_n C dX10_rate_0 rfl ?_
  refine x_if_lt C 24 dX10_rate_1 (by decide) h (fun h => ?_) (fun h => ?_)
  · refine x_loc [] trivial ?_
    exact t_h_X_rate_24 hd9 C CT _ _ hR h
  · refine x_iload_n C dX10_rate_4 rfl ?_
    refine x_aload_n C dX10_rate_5 rfl ?_
    refine x_getR C dX10_rate_6 fF_X10_10 rfl rfl ?_
    refine x_getI C dX10_rate_9 fF_X10_123 rfl rfl ?_
    refine x_icmp_ge C 24 dX10_rate_12 (by decide) h (fun h => ?_) (fun h => ?_)
    · refine x_loc [] trivial ?_
      exact t_h_X_rate_24 hd9 C CT _ _ hR h
    · refine x_iload_n C dX10_rate_15 rfl ?_
      refine x_if_lt C 24 dX10_rate_16 (by decide) h (fun h => ?_) (fun h => ?_)
      · refine x_loc [] trivial ?_
        exact t_h_X_rate_24 hd9 C CT _ _ hR h
      · refine x_iload_n C dX10_rate_19 rfl ?_
        refine x_iconst C dX10_rate_20 ?_
        refine x_icmp_le C 34 dX10_rate_21 (by decide) h (fun h => ?_) (fun h => ?_)
        · cases h
        · refine x_loc [] trivial ?_
          exact t_h_X_rate_24 hd9 C CT _ _ hR h
theorem ch_X_rate (l : Launch) (hl : l.stackTraces = false) (z : Int) (w : Int) (m : xM) (r : Nat) (h : h_X_rate z w m = some r) : xMetT l yX10_rate cX10_rate 3 (some .int) 6 lay_X [.inr (.inr (some 0)), .inl z, .inl w] m (xEx r) :=
  xMet_T hl (by decide +kernel) (Nat.le_of_ble_eq_true rfl) (fun Γ C CT hR hl9 => t_h_X_rate (Nat.le_refl _) C CT z w hR h)
/-! ===== yX10_frame ===== -/
theorem fF_X10_242 : xF RX10 242 4 1 (.array .int) true := ⟨RX2, TX2, 6, tyX2, rfl, by decide, (xin_29 _ (List.mem_of_getElem? (i := 8) rfl)), rfl, inlX2, tyX2_ok, nmX2, rfl, rfl⟩
theorem xv_60 : xview lay_X lay_F [15, 16, 17, 18] := xview_of (by decide +kernel)
theorem fF_X10_249 : xF RX10 249 4 2 (.array .int) true := ⟨RX2, TX2, 6, tyX2, rfl, by decide, (xin_29 _ (List.mem_of_getElem? (i := 9) rfl)), rfl, inlX2, tyX2_ok, nmX2, rfl, rfl⟩
theorem xv_61 : xview lay_X lay_F [26, 27, 28, 29] := xview_of (by decide +kernel)
theorem dX10_frame_0 : decode cX10_frame 0 = .ok (.aload_n 0, 1) := by decide +kernel
theorem dX10_frame_1 : decode cX10_frame 1 = .ok (.iload_n 1, 1) := by decide +kernel
theorem dX10_frame_2 : decode cX10_frame 2 = .ok (.invokevirtual 181, 3) := by decide +kernel
theorem dX10_frame_5 : decode cX10_frame 5 = .ok (.aload_n 0, 1) := by decide +kernel
theorem dX10_frame_6 : decode cX10_frame 6 = .ok (.getfield 27, 3) := by decide +kernel
theorem dX10_frame_9 : decode cX10_frame 9 = .ok (.iload_n 1, 1) := by decide +kernel
theorem dX10_frame_10 : decode cX10_frame 10 = .ok (.invokevirtual 184, 3) := by decide +kernel
theorem dX10_frame_13 : decode cX10_frame 13 = .ok (.getfield 193, 3) := by decide +kernel
theorem dX10_frame_16 : decode cX10_frame 16 = .ok (.astore 4, 2) := by decide +kernel
theorem dX10_frame_18 : decode cX10_frame 18 = .ok (.iload_n 2, 1) := by decide +kernel
theorem dX10_frame_19 : decode cX10_frame 19 = .ok (.ifCond .lt 12, 3) := by decide +kernel
theorem dX10_frame_22 : decode cX10_frame 22 = .ok (.iload_n 2, 1) := by decide +kernel
theorem dX10_frame_23 : decode cX10_frame 23 = .ok (.aload 4, 2) := by decide +kernel
theorem dX10_frame_25 : decode cX10_frame 25 = .ok (.getfield 202, 3) := by decide +kernel
theorem dX10_frame_28 : decode cX10_frame 28 = .ok (.if_icmp .lt 13, 3) := by decide +kernel
theorem dX10_frame_31 : decode cX10_frame 31 = .ok (.new 171, 3) := by decide +kernel
theorem dX10_frame_34 : decode cX10_frame 34 = .ok (.dup, 1) := by decide +kernel
theorem dX10_frame_35 : decode cX10_frame 35 = .ok (.ldc 240, 2) := by decide +kernel
theorem dX10_frame_37 : decode cX10_frame 37 = .ok (.invokespecial 175, 3) := by decide +kernel
theorem dX10_frame_40 : decode cX10_frame 40 = .ok (.athrow, 1) := by decide +kernel
theorem dX10_frame_41 : decode cX10_frame 41 = .ok (.iload_n 3, 1) := by decide +kernel
theorem dX10_frame_42 : decode cX10_frame 42 = .ok (.tableswitch 79 0 3 #[30, 38, 51, 64], 30) := by decide +kernel
theorem dX10_frame_72 : decode cX10_frame 72 = .ok (.aload 4, 2) := by decide +kernel
theorem dX10_frame_74 : decode cX10_frame 74 = .ok (.getfield 203, 3) := by decide +kernel
theorem dX10_frame_77 : decode cX10_frame 77 = .ok (.iload_n 2, 1) := by decide +kernel
theorem dX10_frame_78 : decode cX10_frame 78 = .ok (.iadd, 1) := by decide +kernel
theorem dX10_frame_79 : decode cX10_frame 79 = .ok (.ireturn, 1) := by decide +kernel
theorem dX10_frame_80 : decode cX10_frame 80 = .ok (.aload 4, 2) := by decide +kernel
theorem dX10_frame_82 : decode cX10_frame 82 = .ok (.getfield 242, 3) := by decide +kernel
theorem dX10_frame_85 : decode cX10_frame 85 = .ok (.aload 4, 2) := by decide +kernel
theorem dX10_frame_87 : decode cX10_frame 87 = .ok (.iload_n 2, 1) := by decide +kernel
theorem dX10_frame_88 : decode cX10_frame 88 = .ok (.invokevirtual 245, 3) := by decide +kernel
theorem dX10_frame_91 : decode cX10_frame 91 = .ok (.iaload, 1) := by decide +kernel
theorem dX10_frame_92 : decode cX10_frame 92 = .ok (.ireturn, 1) := by decide +kernel
theorem dX10_frame_93 : decode cX10_frame 93 = .ok (.aload 4, 2) := by decide +kernel
theorem dX10_frame_95 : decode cX10_frame 95 = .ok (.getfield 249, 3) := by decide +kernel
theorem dX10_frame_98 : decode cX10_frame 98 = .ok (.aload 4, 2) := by decide +kernel
theorem dX10_frame_100 : decode cX10_frame 100 = .ok (.iload_n 2, 1) := by decide +kernel
theorem dX10_frame_101 : decode cX10_frame 101 = .ok (.invokevirtual 245, 3) := by decide +kernel
theorem dX10_frame_104 : decode cX10_frame 104 = .ok (.iaload, 1) := by decide +kernel
theorem dX10_frame_105 : decode cX10_frame 105 = .ok (.ireturn, 1) := by decide +kernel
theorem dX10_frame_106 : decode cX10_frame 106 = .ok (.iload_n 2, 1) := by decide +kernel
theorem dX10_frame_107 : decode cX10_frame 107 = .ok (.aload 4, 2) := by decide +kernel
theorem dX10_frame_109 : decode cX10_frame 109 = .ok (.getfield 197, 3) := by decide +kernel
theorem dX10_frame_112 : decode cX10_frame 112 = .ok (.if_icmp .ge 7, 3) := by decide +kernel
theorem dX10_frame_115 : decode cX10_frame 115 = .ok (.iconst 0, 1) := by decide +kernel
theorem dX10_frame_116 : decode cX10_frame 116 = .ok (.goto 4, 3) := by decide +kernel
theorem dX10_frame_119 : decode cX10_frame 119 = .ok (.iconst 1, 1) := by decide +kernel
theorem dX10_frame_120 : decode cX10_frame 120 = .ok (.ireturn, 1) := by decide +kernel
theorem dX10_frame_121 : decode cX10_frame 121 = .ok (.new 171, 3) := by decide +kernel
theorem dX10_frame_124 : decode cX10_frame 124 = .ok (.dup, 1) := by decide +kernel
theorem dX10_frame_125 : decode cX10_frame 125 = .ok (.ldc 252, 2) := by decide +kernel
theorem dX10_frame_127 : decode cX10_frame 127 = .ok (.invokespecial 175, 3) := by decide +kernel
theorem dX10_frame_130 : decode cX10_frame 130 = .ok (.athrow, 1) := by decide +kernel
def f_X_frame_31 (e : Int) (p : Int) (w : Int) (m : xM) : Option (Int) :=
     none
set_option maxRecDepth 1000000 in
set_option maxHeartbeats 4000000 in
theorem t_X_frame_31 {Γ : xG} {d : Nat} (hd9 : 3 ≤ d) (C : xC Γ lay_X RX10 cX10_frame 5 d) (e : Int) (p : Int) (w : Int) {r : Int} {m : xM} (hR : xRi Γ lay_X cX10_frame r m) (h : f_X_frame_31 e p w m = some r) : xW Γ lay_X 5 31 [] [] m := by
  unfold f_X_frame_31 at h
  cases h
def f_X_frame (e : Int) (p : Int) (w : Int) (m : xM) : Option (Int) :=
     (Option.bind (f_X_checkEnd e m) fun q0 =>
      (if xw e = 0 then (if xw p < 0 then f_X_frame_31 e p w m
      else (if xw p < xw (m 15 4) then (if xw w = 0 then some ((m 15 3) + p)
      else (if xw w = 1 then (Option.bind (f_F_slot p (xvw [15, 16, 17, 18] m)) fun q3 =>
      (if xib q3 7 then some (m 17 (xix q3))
      else none))
      else (if xw w = 2 then (Option.bind (f_F_slot p (xvw [15, 16, 17, 18] m)) fun q4 =>
      (if xib q4 7 then some (m 18 (xix q4))
      else none))
      else (if xw w = 3 then (if xw p < xw (m 15 5) then some 0
      else some 1)
      else none))))
      else f_X_frame_31 e p w m))
      else (if xw e = 1 then (if xw p < 0 then f_X_frame_31 e p w m
      else (if xw p < xw (m 26 4) then (if xw w = 0 then some ((m 26 3) + p)
      else (if xw w = 1 then (Option.bind (f_F_slot p (xvw [26, 27, 28, 29] m)) fun q6 =>
      (if xib q6 7 then some (m 28 (xix q6))
      else none))
      else (if xw w = 2 then (Option.bind (f_F_slot p (xvw [26, 27, 28, 29] m)) fun q7 =>
      (if xib q7 7 then some (m 29 (xix q7))
      else none))
      else (if xw w = 3 then (if xw p < xw (m 26 5) then some 0
      else some 1)
      else none))))
      else f_X_frame_31 e p w m))
      else none)))
set_option maxRecDepth 1000000 in
set_option maxHeartbeats 4000000 in
theorem t_X_frame {Γ : xG} {d : Nat} (hd9 : 3 ≤ d) (C : xC Γ lay_X RX10 cX10_frame 5 d) (e : Int) (p : Int) (w : Int) {r : Int} {m : xM} (hR : xRi Γ lay_X cX10_frame r m) (h : f_X_frame e p w m = some r) : xW Γ lay_X 5 0 [(0, .inr (.inr (some 0))), (1, .inl e), (2, .inl p), (3, .inl w)] [] m := by
  unfold f_X_frame at h
  refine x_aload_n C dX10_frame_0 rfl ?_
  refine x_iload_n C dX10_frame_1 rfl ?_
  obtain ⟨q0, hq0, h⟩ := x_bind h
  refine x_callVI C dX10_frame_2 (xin_26 _ (List.mem_of_getElem? (i := 23) rfl)) xy_X10_checkEnd (xi_X10_checkEnd) (xs_X10_checkEnd) (by omega) (by decide) (b := 0) rfl ⟨_, _, rfl⟩ (av := [.inl e]) rfl (Nat.le_of_ble_eq_true rfl) (c_X_checkEnd _ _ _ _ hq0) rfl ?_
  refine x_aload_n C dX10_frame_5 rfl ?_
  refine x_getR C dX10_frame_6 fF_X10_27 rfl rfl ?_
  refine x_iload_n C dX10_frame_9 rfl ?_
  refine x_ite h (fun hk92 h => ?_) (fun _ h => ?_)
  · refine x_callVp C dX10_frame_10 (xin_27 _ (List.mem_of_getElem? (i := 3) rfl)) xy_X3_endOf (xi_X3_endOf) (xs_X3_endOf) [11, 1, 12, 23, 34, 39, 41, 42] xv_59 (by omega) (by decide) (b := 0) rfl ⟨_, _, rfl⟩ (av := [.inl e]) rfl (Nat.le_of_ble_eq_true rfl) (c_endOf0 _ _ _ (by first | decide | assumption | exact xw_1m0 (by assumption) | exact xw_1m1 (by assumption) | exact xw_ne1 (by assumption) | exact xw_n1m0 (by assumption))) rfl ?_
    refine x_getR C dX10_frame_13 fF_X10_193 rfl rfl ?_
    refine x_astore C dX10_frame_16 (by decide) ?_
    refine x_iload_n C dX10_frame_18 rfl ?_
    refine x_if_lt C 31 dX10_frame_19 (by decide) h (fun h => ?_) (fun h => ?_)
    · refine x_loc [] trivial ?_
      exact t_X_frame_31 hd9 C _ _ _ hR h
    · refine x_iload_n C dX10_frame_22 rfl ?_
      refine x_aload C dX10_frame_23 rfl ?_
      refine x_getI C dX10_frame_25 fF_X10_202 rfl rfl ?_
      refine x_icmp_lt C 41 dX10_frame_28 (by decide) h (fun h => ?_) (fun h => ?_)
      · refine x_iload_n C dX10_frame_41 rfl ?_
        refine x_ite h (fun hc0 h => ?_) (fun hc0 h => ?_)
        · refine x_tabIn C 72 0 dX10_frame_42 hc0 (by decide) (by decide) rfl (by decide) ?_
          refine x_aload C dX10_frame_72 rfl ?_
          refine x_getI C dX10_frame_74 fF_X10_203 rfl rfl ?_
          refine x_iload_n C dX10_frame_77 rfl ?_
          refine x_iadd C dX10_frame_78 ?_
          exact x_ireturnP hR dX10_frame_79 h
        refine x_ite h (fun hc1 h => ?_) (fun hc1 h => ?_)
        · refine x_tabIn C 80 1 dX10_frame_42 hc1 (by decide) (by decide) rfl (by decide) ?_
          refine x_aload C dX10_frame_80 rfl ?_
          refine x_getR C dX10_frame_82 fF_X10_242 rfl rfl ?_
          refine x_aload C dX10_frame_85 rfl ?_
          refine x_iload_n C dX10_frame_87 rfl ?_
          obtain ⟨q3, hq3, h⟩ := x_bind h
          refine x_callVp C dX10_frame_88 (xin_29 _ (List.mem_of_getElem? (i := 10) rfl)) xy_X2_slotOf (xi_X2_slotOf) (xs_X2_slotOf) [15, 16, 17, 18] xv_60 (by omega) (by decide) (b := 0) rfl ⟨_, _, rfl⟩ (av := [.inl p]) rfl (Nat.le_of_ble_eq_true rfl) (c_F_slot _ _ _ _ hq3) rfl ?_
          refine x_iaload C dX10_frame_91 rfl h (fun h => ?_)
          exact x_ireturnP hR dX10_frame_92 h
        refine x_ite h (fun hc2 h => ?_) (fun hc2 h => ?_)
        · refine x_tabIn C 93 2 dX10_frame_42 hc2 (by decide) (by decide) rfl (by decide) ?_
          refine x_aload C dX10_frame_93 rfl ?_
          refine x_getR C dX10_frame_95 fF_X10_249 rfl rfl ?_
          refine x_aload C dX10_frame_98 rfl ?_
          refine x_iload_n C dX10_frame_100 rfl ?_
          obtain ⟨q4, hq4, h⟩ := x_bind h
          refine x_callVp C dX10_frame_101 (xin_29 _ (List.mem_of_getElem? (i := 10) rfl)) xy_X2_slotOf (xi_X2_slotOf) (xs_X2_slotOf) [15, 16, 17, 18] xv_60 (by omega) (by decide) (b := 0) rfl ⟨_, _, rfl⟩ (av := [.inl p]) rfl (Nat.le_of_ble_eq_true rfl) (c_F_slot _ _ _ _ hq4) rfl ?_
          refine x_iaload C dX10_frame_104 rfl h (fun h => ?_)
          exact x_ireturnP hR dX10_frame_105 h
        refine x_ite h (fun hc3 h => ?_) (fun hc3 h => ?_)
        · refine x_tabIn C 106 3 dX10_frame_42 hc3 (by decide) (by decide) rfl (by decide) ?_
          refine x_iload_n C dX10_frame_106 rfl ?_
          refine x_aload C dX10_frame_107 rfl ?_
          refine x_getI C dX10_frame_109 fF_X10_197 rfl rfl ?_
          refine x_icmp_ge C 119 dX10_frame_112 (by decide) h (fun h => ?_) (fun h => ?_)
          · refine x_iconst C dX10_frame_119 ?_
            exact x_ireturnP hR dX10_frame_120 h
          · refine x_iconst C dX10_frame_115 ?_
            refine x_goto C 120 dX10_frame_116 (by decide) ?_
            exact x_ireturnP hR dX10_frame_120 h
        refine x_tabOut C 121 (x := w) dX10_frame_42 (by omega) (by decide) ?_
        cases h
      · refine x_loc [] trivial ?_
        exact t_X_frame_31 hd9 C _ _ _ hR h
  · obtain ⟨hk92, h⟩ := x_some1 h
    refine x_callVp C dX10_frame_10 (xin_27 _ (List.mem_of_getElem? (i := 3) rfl)) xy_X3_endOf (xi_X3_endOf) (xs_X3_endOf) [11, 1, 12, 23, 34, 39, 41, 42] xv_59 (by omega) (by decide) (b := 0) rfl ⟨_, _, rfl⟩ (av := [.inl e]) rfl (Nat.le_of_ble_eq_true rfl) (c_endOf1 _ _ _ (by first | decide | assumption | exact xw_1m0 (by assumption) | exact xw_1m1 (by assumption) | exact xw_ne1 (by assumption) | exact xw_n1m0 (by assumption))) rfl ?_
    refine x_getR C dX10_frame_13 fF_X10_193 rfl rfl ?_
    refine x_astore C dX10_frame_16 (by decide) ?_
    refine x_iload_n C dX10_frame_18 rfl ?_
    refine x_if_lt C 31 dX10_frame_19 (by decide) h (fun h => ?_) (fun h => ?_)
    · refine x_loc [] trivial ?_
      exact t_X_frame_31 hd9 C _ _ _ hR h
    · refine x_iload_n C dX10_frame_22 rfl ?_
      refine x_aload C dX10_frame_23 rfl ?_
      refine x_getI C dX10_frame_25 fF_X10_202 rfl rfl ?_
      refine x_icmp_lt C 41 dX10_frame_28 (by decide) h (fun h => ?_) (fun h => ?_)
      · refine x_iload_n C dX10_frame_41 rfl ?_
        refine x_ite h (fun hc0 h => ?_) (fun hc0 h => ?_)
        · refine x_tabIn C 72 0 dX10_frame_42 hc0 (by decide) (by decide) rfl (by decide) ?_
          refine x_aload C dX10_frame_72 rfl ?_
          refine x_getI C dX10_frame_74 fF_X10_203 rfl rfl ?_
          refine x_iload_n C dX10_frame_77 rfl ?_
          refine x_iadd C dX10_frame_78 ?_
          exact x_ireturnP hR dX10_frame_79 h
        refine x_ite h (fun hc1 h => ?_) (fun hc1 h => ?_)
        · refine x_tabIn C 80 1 dX10_frame_42 hc1 (by decide) (by decide) rfl (by decide) ?_
          refine x_aload C dX10_frame_80 rfl ?_
          refine x_getR C dX10_frame_82 fF_X10_242 rfl rfl ?_
          refine x_aload C dX10_frame_85 rfl ?_
          refine x_iload_n C dX10_frame_87 rfl ?_
          obtain ⟨q6, hq6, h⟩ := x_bind h
          refine x_callVp C dX10_frame_88 (xin_29 _ (List.mem_of_getElem? (i := 10) rfl)) xy_X2_slotOf (xi_X2_slotOf) (xs_X2_slotOf) [26, 27, 28, 29] xv_61 (by omega) (by decide) (b := 0) rfl ⟨_, _, rfl⟩ (av := [.inl p]) rfl (Nat.le_of_ble_eq_true rfl) (c_F_slot _ _ _ _ hq6) rfl ?_
          refine x_iaload C dX10_frame_91 rfl h (fun h => ?_)
          exact x_ireturnP hR dX10_frame_92 h
        refine x_ite h (fun hc2 h => ?_) (fun hc2 h => ?_)
        · refine x_tabIn C 93 2 dX10_frame_42 hc2 (by decide) (by decide) rfl (by decide) ?_
          refine x_aload C dX10_frame_93 rfl ?_
          refine x_getR C dX10_frame_95 fF_X10_249 rfl rfl ?_
          refine x_aload C dX10_frame_98 rfl ?_
          refine x_iload_n C dX10_frame_100 rfl ?_
          obtain ⟨q7, hq7, h⟩ := x_bind h
          refine x_callVp C dX10_frame_101 (xin_29 _ (List.mem_of_getElem? (i := 10) rfl)) xy_X2_slotOf (xi_X2_slotOf) (xs_X2_slotOf) [26, 27, 28, 29] xv_61 (by omega) (by decide) (b := 0) rfl ⟨_, _, rfl⟩ (av := [.inl p]) rfl (Nat.le_of_ble_eq_true rfl) (c_F_slot _ _ _ _ hq7) rfl ?_
          refine x_iaload C dX10_frame_104 rfl h (fun h => ?_)
          exact x_ireturnP hR dX10_frame_105 h
        refine x_ite h (fun hc3 h => ?_) (fun hc3 h => ?_)
        · refine x_tabIn C 106 3 dX10_frame_42 hc3 (by decide) (by decide) rfl (by decide) ?_
          refine x_iload_n C dX10_frame_106 rfl ?_
          refine x_aload C dX10_frame_107 rfl ?_
          refine x_getI C dX10_frame_109 fF_X10_197 rfl rfl ?_
          refine x_icmp_ge C 119 dX10_frame_112 (by decide) h (fun h => ?_) (fun h => ?_)
          · refine x_iconst C dX10_frame_119 ?_
            exact x_ireturnP hR dX10_frame_120 h
          · refine x_iconst C dX10_frame_115 ?_
            refine x_goto C 120 dX10_frame_116 (by decide) ?_
            exact x_ireturnP hR dX10_frame_120 h
        refine x_tabOut C 121 (x := w) dX10_frame_42 (by omega) (by decide) ?_
        cases h
      · refine x_loc [] trivial ?_
        exact t_X_frame_31 hd9 C _ _ _ hR h
theorem c_X_frame (l : Launch) (e : Int) (p : Int) (w : Int) (m : xM) (r : Int) (h : f_X_frame e p w m = some r) : xMet l yX10_frame cX10_frame 5 (some .int) 3 lay_X [.inr (.inr (some 0)), .inl e, .inl p, .inl w] m (some (.inl r)) m :=
  xMet_i (by decide +kernel) (Nat.le_of_ble_eq_true rfl) (fun Γ C hR hl9 => t_X_frame (Nat.le_refl _) C e p w hR h)
/-! ===== yX10_frame ===== -/
def h_X_frame_31 (e : Int) (p : Int) (w : Int) (m : xM) : Option (Nat) :=
     some 2
set_option maxRecDepth 1000000 in
set_option maxHeartbeats 4000000 in
theorem t_h_X_frame_31 {Γ : xG} {d : Nat} (hd9 : 7 ≤ d) (C : xC Γ lay_X RX10 cX10_frame 5 d) (CT : xCT Γ) (e : Int) (p : Int) (w : Int) {r : Nat} {m : xM} (hR : xRt Γ lay_X m (xEx r)) (h : h_X_frame_31 e p w m = some r) : xW Γ lay_X 5 31 [] [] m := by
  unfold h_X_frame_31 at h
  exact x_throw C CT hR (by omega) xe_2 (is := 240) (text := "no such frame") (List.mem_of_getElem? (i := 6) rfl) dX10_frame_31 dX10_frame_34 dX10_frame_35 dX10_frame_37 dX10_frame_40 h
def h_X_frame (e : Int) (p : Int) (w : Int) (m : xM) : Option (Nat) :=
     (xthr (h_X_checkEnd e m) (Option.bind (f_X_checkEnd e m) fun q0 =>
      (if xw e = 0 then (if xw p < 0 then h_X_frame_31 e p w m
      else (if xw p < xw (m 15 4) then (if xw w = 0 then none
      else (if xw w = 1 then none
      else (if xw w = 2 then none
      else (if xw w = 3 then none
      else some 2))))
      else h_X_frame_31 e p w m))
      else (if xw e = 1 then (if xw p < 0 then h_X_frame_31 e p w m
      else (if xw p < xw (m 26 4) then (if xw w = 0 then none
      else (if xw w = 1 then none
      else (if xw w = 2 then none
      else (if xw w = 3 then none
      else some 2))))
      else h_X_frame_31 e p w m))
      else none))))
set_option maxRecDepth 1000000 in
set_option maxHeartbeats 4000000 in
theorem t_h_X_frame {Γ : xG} {d : Nat} (hd9 : 7 ≤ d) (C : xC Γ lay_X RX10 cX10_frame 5 d) (CT : xCT Γ) (e : Int) (p : Int) (w : Int) {r : Nat} {m : xM} (hR : xRt Γ lay_X m (xEx r)) (h : h_X_frame e p w m = some r) : xW Γ lay_X 5 0 [(0, .inr (.inr (some 0))), (1, .inl e), (2, .inl p), (3, .inl w)] [] m := by
  unfold h_X_frame at h
  refine x_aload_n C dX10_frame_0 rfl ?_
  refine x_iload_n C dX10_frame_1 rfl ?_
  rcases x_thr h with h9 | h
  · exact x_callVIT C CT hR dX10_frame_2 (xin_26 _ (List.mem_of_getElem? (i := 23) rfl)) xy_X10_checkEnd (xi_X10_checkEnd) (xs_X10_checkEnd) (by omega) (by decide) (b := 0) rfl ⟨_, _, rfl⟩ (av := [.inl e]) rfl (Nat.le_of_ble_eq_true rfl) (ch_X_checkEnd _ (xCT_l CT) _ _ _ h9) rfl
  obtain ⟨q0, hq0, h⟩ := x_bind h
  refine x_callVI C dX10_frame_2 (xin_26 _ (List.mem_of_getElem? (i := 23) rfl)) xy_X10_checkEnd (xi_X10_checkEnd) (xs_X10_checkEnd) (by omega) (by decide) (b := 0) rfl ⟨_, _, rfl⟩ (av := [.inl e]) rfl (Nat.le_of_ble_eq_true rfl) (c_X_checkEnd _ _ _ _ hq0) rfl ?_
  refine x_aload_n C dX10_frame_5 rfl ?_
  refine x_getR C dX10_frame_6 fF_X10_27 rfl rfl ?_
  refine x_iload_n C dX10_frame_9 rfl ?_
  refine x_ite h (fun hk92 h => ?_) (fun _ h => ?_)
  · refine x_callVp C dX10_frame_10 (xin_27 _ (List.mem_of_getElem? (i := 3) rfl)) xy_X3_endOf (xi_X3_endOf) (xs_X3_endOf) [11, 1, 12, 23, 34, 39, 41, 42] xv_59 (by omega) (by decide) (b := 0) rfl ⟨_, _, rfl⟩ (av := [.inl e]) rfl (Nat.le_of_ble_eq_true rfl) (c_endOf0 _ _ _ (by first | decide | assumption | exact xw_1m0 (by assumption) | exact xw_1m1 (by assumption) | exact xw_ne1 (by assumption) | exact xw_n1m0 (by assumption))) rfl ?_
    refine x_getR C dX10_frame_13 fF_X10_193 rfl rfl ?_
    refine x_astore C dX10_frame_16 (by decide) ?_
    refine x_iload_n C dX10_frame_18 rfl ?_
    refine x_if_lt C 31 dX10_frame_19 (by decide) h (fun h => ?_) (fun h => ?_)
    · refine x_loc [] trivial ?_
      exact t_h_X_frame_31 hd9 C CT _ _ _ hR h
    · refine x_iload_n C dX10_frame_22 rfl ?_
      refine x_aload C dX10_frame_23 rfl ?_
      refine x_getI C dX10_frame_25 fF_X10_202 rfl rfl ?_
      refine x_icmp_lt C 41 dX10_frame_28 (by decide) h (fun h => ?_) (fun h => ?_)
      · refine x_iload_n C dX10_frame_41 rfl ?_
        refine x_ite h (fun hc0 h => ?_) (fun hc0 h => ?_)
        · refine x_tabIn C 72 0 dX10_frame_42 hc0 (by decide) (by decide) rfl (by decide) ?_
          cases h
        refine x_ite h (fun hc1 h => ?_) (fun hc1 h => ?_)
        · refine x_tabIn C 80 1 dX10_frame_42 hc1 (by decide) (by decide) rfl (by decide) ?_
          cases h
        refine x_ite h (fun hc2 h => ?_) (fun hc2 h => ?_)
        · refine x_tabIn C 93 2 dX10_frame_42 hc2 (by decide) (by decide) rfl (by decide) ?_
          cases h
        refine x_ite h (fun hc3 h => ?_) (fun hc3 h => ?_)
        · refine x_tabIn C 106 3 dX10_frame_42 hc3 (by decide) (by decide) rfl (by decide) ?_
          cases h
        refine x_tabOut C 121 (x := w) dX10_frame_42 (by omega) (by decide) ?_
        exact x_throw C CT hR (by omega) xe_2 (is := 252) (text := "no such property of a frame") (List.mem_of_getElem? (i := 7) rfl) dX10_frame_121 dX10_frame_124 dX10_frame_125 dX10_frame_127 dX10_frame_130 h
      · refine x_loc [] trivial ?_
        exact t_h_X_frame_31 hd9 C CT _ _ _ hR h
  · obtain ⟨hk92, h⟩ := x_some1 h
    refine x_callVp C dX10_frame_10 (xin_27 _ (List.mem_of_getElem? (i := 3) rfl)) xy_X3_endOf (xi_X3_endOf) (xs_X3_endOf) [11, 1, 12, 23, 34, 39, 41, 42] xv_59 (by omega) (by decide) (b := 0) rfl ⟨_, _, rfl⟩ (av := [.inl e]) rfl (Nat.le_of_ble_eq_true rfl) (c_endOf1 _ _ _ (by first | decide | assumption | exact xw_1m0 (by assumption) | exact xw_1m1 (by assumption) | exact xw_ne1 (by assumption) | exact xw_n1m0 (by assumption))) rfl ?_
    refine x_getR C dX10_frame_13 fF_X10_193 rfl rfl ?_
    refine x_astore C dX10_frame_16 (by decide) ?_
    refine x_iload_n C dX10_frame_18 rfl ?_
    refine x_if_lt C 31 dX10_frame_19 (by decide) h (fun h => ?_) (fun h => ?_)
    · refine x_loc [] trivial ?_
      exact t_h_X_frame_31 hd9 C CT _ _ _ hR h
    · refine x_iload_n C dX10_frame_22 rfl ?_
      refine x_aload C dX10_frame_23 rfl ?_
      refine x_getI C dX10_frame_25 fF_X10_202 rfl rfl ?_
      refine x_icmp_lt C 41 dX10_frame_28 (by decide) h (fun h => ?_) (fun h => ?_)
      · refine x_iload_n C dX10_frame_41 rfl ?_
        refine x_ite h (fun hc0 h => ?_) (fun hc0 h => ?_)
        · refine x_tabIn C 72 0 dX10_frame_42 hc0 (by decide) (by decide) rfl (by decide) ?_
          cases h
        refine x_ite h (fun hc1 h => ?_) (fun hc1 h => ?_)
        · refine x_tabIn C 80 1 dX10_frame_42 hc1 (by decide) (by decide) rfl (by decide) ?_
          cases h
        refine x_ite h (fun hc2 h => ?_) (fun hc2 h => ?_)
        · refine x_tabIn C 93 2 dX10_frame_42 hc2 (by decide) (by decide) rfl (by decide) ?_
          cases h
        refine x_ite h (fun hc3 h => ?_) (fun hc3 h => ?_)
        · refine x_tabIn C 106 3 dX10_frame_42 hc3 (by decide) (by decide) rfl (by decide) ?_
          cases h
        refine x_tabOut C 121 (x := w) dX10_frame_42 (by omega) (by decide) ?_
        exact x_throw C CT hR (by omega) xe_2 (is := 252) (text := "no such property of a frame") (List.mem_of_getElem? (i := 7) rfl) dX10_frame_121 dX10_frame_124 dX10_frame_125 dX10_frame_127 dX10_frame_130 h
      · refine x_loc [] trivial ?_
        exact t_h_X_frame_31 hd9 C CT _ _ _ hR h
theorem ch_X_frame (l : Launch) (hl : l.stackTraces = false) (e : Int) (p : Int) (w : Int) (m : xM) (r : Nat) (h : h_X_frame e p w m = some r) : xMetT l yX10_frame cX10_frame 5 (some .int) 7 lay_X [.inr (.inr (some 0)), .inl e, .inl p, .inl w] m (xEx r) :=
  xMet_T hl (by decide +kernel) (Nat.le_of_ble_eq_true rfl) (fun Γ C CT hR hl9 => t_h_X_frame (Nat.le_refl _) C CT e p w hR h)
/-! ===== yX10_received ===== -/
theorem xv_62 : xview lay_X lay_E [12, 13, 14, 15, 16, 17, 18, 19, 20, 21, 22] := xview_of (by decide +kernel)
theorem fF_X10_258 : xF RX10 258 3 1 (.array .int) true := ⟨RX1, TX1, 11, tyX1, rfl, by decide, (xin_30 _ (List.mem_of_getElem? (i := 5) rfl)), rfl, inlX1, tyX1_ok, nmX1, rfl, rfl⟩
theorem xv_63 : xview lay_X lay_E [23, 24, 25, 26, 27, 28, 29, 30, 31, 32, 33] := xview_of (by decide +kernel)
theorem dX10_received_0 : decode cX10_received 0 = .ok (.aload_n 0, 1) := by decide +kernel
theorem dX10_received_1 : decode cX10_received 1 = .ok (.iload_n 1, 1) := by decide +kernel
theorem dX10_received_2 : decode cX10_received 2 = .ok (.invokevirtual 181, 3) := by decide +kernel
theorem dX10_received_5 : decode cX10_received 5 = .ok (.aload_n 0, 1) := by decide +kernel
theorem dX10_received_6 : decode cX10_received 6 = .ok (.getfield 27, 3) := by decide +kernel
theorem dX10_received_9 : decode cX10_received 9 = .ok (.iload_n 1, 1) := by decide +kernel
theorem dX10_received_10 : decode cX10_received 10 = .ok (.invokevirtual 184, 3) := by decide +kernel
theorem dX10_received_13 : decode cX10_received 13 = .ok (.astore_n 3, 1) := by decide +kernel
theorem dX10_received_14 : decode cX10_received 14 = .ok (.iload_n 2, 1) := by decide +kernel
theorem dX10_received_15 : decode cX10_received 15 = .ok (.ifCond .lt 20, 3) := by decide +kernel
theorem dX10_received_18 : decode cX10_received 18 = .ok (.iload_n 2, 1) := by decide +kernel
theorem dX10_received_19 : decode cX10_received 19 = .ok (.aload_n 3, 1) := by decide +kernel
theorem dX10_received_20 : decode cX10_received 20 = .ok (.invokevirtual 254, 3) := by decide +kernel
theorem dX10_received_23 : decode cX10_received 23 = .ok (.if_icmp .ge 12, 3) := by decide +kernel
theorem dX10_received_26 : decode cX10_received 26 = .ok (.aload_n 3, 1) := by decide +kernel
theorem dX10_received_27 : decode cX10_received 27 = .ok (.getfield 258, 3) := by decide +kernel
theorem dX10_received_30 : decode cX10_received 30 = .ok (.iload_n 2, 1) := by decide +kernel
theorem dX10_received_31 : decode cX10_received 31 = .ok (.iaload, 1) := by decide +kernel
theorem dX10_received_32 : decode cX10_received 32 = .ok (.goto 4, 3) := by decide +kernel
theorem dX10_received_35 : decode cX10_received 35 = .ok (.iconst (-1), 1) := by decide +kernel
theorem dX10_received_36 : decode cX10_received 36 = .ok (.ireturn, 1) := by decide +kernel
def f_X_received (e : Int) (p : Int) (m : xM) : Option (Int) :=
     (Option.bind (f_X_checkEnd e m) fun q0 =>
      (if xw e = 0 then (if xw p < 0 then some (-1)
      else (Option.bind (f_E_kept (xvw [12, 13, 14, 15, 16, 17, 18, 19, 20, 21, 22] m)) fun q3 =>
      (if xw p < xw q3 then (if xib p 400 then some (m 14 (xix p))
      else none)
      else some (-1))))
      else (if xw e = 1 then (if xw p < 0 then some (-1)
      else (Option.bind (f_E_kept (xvw [23, 24, 25, 26, 27, 28, 29, 30, 31, 32, 33] m)) fun q5 =>
      (if xw p < xw q5 then (if xib p 400 then some (m 25 (xix p))
      else none)
      else some (-1))))
      else none)))
set_option maxRecDepth 1000000 in
set_option maxHeartbeats 4000000 in
theorem t_X_received {Γ : xG} {d : Nat} (hd9 : 2 ≤ d) (C : xC Γ lay_X RX10 cX10_received 4 d) (e : Int) (p : Int) {r : Int} {m : xM} (hR : xRi Γ lay_X cX10_received r m) (h : f_X_received e p m = some r) : xW Γ lay_X 4 0 [(0, .inr (.inr (some 0))), (1, .inl e), (2, .inl p)] [] m := by
  unfold f_X_received at h
  refine x_aload_n C dX10_received_0 rfl ?_
  refine x_iload_n C dX10_received_1 rfl ?_
  obtain ⟨q0, hq0, h⟩ := x_bind h
  refine x_callVI C dX10_received_2 (xin_26 _ (List.mem_of_getElem? (i := 23) rfl)) xy_X10_checkEnd (xi_X10_checkEnd) (xs_X10_checkEnd) (by omega) (by decide) (b := 0) rfl ⟨_, _, rfl⟩ (av := [.inl e]) rfl (Nat.le_of_ble_eq_true rfl) (c_X_checkEnd _ _ _ _ hq0) rfl ?_
  refine x_aload_n C dX10_received_5 rfl ?_
  refine x_getR C dX10_received_6 fF_X10_27 rfl rfl ?_
  refine x_iload_n C dX10_received_9 rfl ?_
  refine x_ite h (fun hk92 h => ?_) (fun _ h => ?_)
  · refine x_callVp C dX10_received_10 (xin_27 _ (List.mem_of_getElem? (i := 3) rfl)) xy_X3_endOf (xi_X3_endOf) (xs_X3_endOf) [11, 1, 12, 23, 34, 39, 41, 42] xv_59 (by omega) (by decide) (b := 0) rfl ⟨_, _, rfl⟩ (av := [.inl e]) rfl (Nat.le_of_ble_eq_true rfl) (c_endOf0 _ _ _ (by first | decide | assumption | exact xw_1m0 (by assumption) | exact xw_1m1 (by assumption) | exact xw_ne1 (by assumption) | exact xw_n1m0 (by assumption))) rfl ?_
    refine x_astore_n C dX10_received_13 (by decide) ?_
    refine x_iload_n C dX10_received_14 rfl ?_
    refine x_if_lt C 35 dX10_received_15 (by decide) h (fun h => ?_) (fun h => ?_)
    · refine x_iconst C dX10_received_35 ?_
      exact x_ireturnP hR dX10_received_36 h
    · refine x_iload_n C dX10_received_18 rfl ?_
      refine x_aload_n C dX10_received_19 rfl ?_
      obtain ⟨q3, hq3, h⟩ := x_bind h
      refine x_callVp C dX10_received_20 (xin_30 _ (List.mem_of_getElem? (i := 6) rfl)) xy_X1_keptCount (xi_X1_keptCount) (xs_X1_keptCount) [12, 13, 14, 15, 16, 17, 18, 19, 20, 21, 22] xv_62 (by omega) (by decide) (b := 0) rfl ⟨_, _, rfl⟩ (av := []) rfl (Nat.le_of_ble_eq_true rfl) (c_E_kept _ _ _ hq3) rfl ?_
      refine x_icmp_ge C 35 dX10_received_23 (by decide) h (fun h => ?_) (fun h => ?_)
      · refine x_iconst C dX10_received_35 ?_
        exact x_ireturnP hR dX10_received_36 h
      · refine x_aload_n C dX10_received_26 rfl ?_
        refine x_getR C dX10_received_27 fF_X10_258 rfl rfl ?_
        refine x_iload_n C dX10_received_30 rfl ?_
        refine x_iaload C dX10_received_31 rfl h (fun h => ?_)
        refine x_goto C 36 dX10_received_32 (by decide) ?_
        exact x_ireturnP hR dX10_received_36 h
  · obtain ⟨hk92, h⟩ := x_some1 h
    refine x_callVp C dX10_received_10 (xin_27 _ (List.mem_of_getElem? (i := 3) rfl)) xy_X3_endOf (xi_X3_endOf) (xs_X3_endOf) [11, 1, 12, 23, 34, 39, 41, 42] xv_59 (by omega) (by decide) (b := 0) rfl ⟨_, _, rfl⟩ (av := [.inl e]) rfl (Nat.le_of_ble_eq_true rfl) (c_endOf1 _ _ _ (by first | decide | assumption | exact xw_1m0 (by assumption) | exact xw_1m1 (by assumption) | exact xw_ne1 (by assumption) | exact xw_n1m0 (by assumption))) rfl ?_
    refine x_astore_n C dX10_received_13 (by decide) ?_
    refine x_iload_n C dX10_received_14 rfl ?_
    refine x_if_lt C 35 dX10_received_15 (by decide) h (fun h => ?_) (fun h => ?_)
    · refine x_iconst C dX10_received_35 ?_
      exact x_ireturnP hR dX10_received_36 h
    · refine x_iload_n C dX10_received_18 rfl ?_
      refine x_aload_n C dX10_received_19 rfl ?_
      obtain ⟨q5, hq5, h⟩ := x_bind h
      refine x_callVp C dX10_received_20 (xin_30 _ (List.mem_of_getElem? (i := 6) rfl)) xy_X1_keptCount (xi_X1_keptCount) (xs_X1_keptCount) [23, 24, 25, 26, 27, 28, 29, 30, 31, 32, 33] xv_63 (by omega) (by decide) (b := 0) rfl ⟨_, _, rfl⟩ (av := []) rfl (Nat.le_of_ble_eq_true rfl) (c_E_kept _ _ _ hq5) rfl ?_
      refine x_icmp_ge C 35 dX10_received_23 (by decide) h (fun h => ?_) (fun h => ?_)
      · refine x_iconst C dX10_received_35 ?_
        exact x_ireturnP hR dX10_received_36 h
      · refine x_aload_n C dX10_received_26 rfl ?_
        refine x_getR C dX10_received_27 fF_X10_258 rfl rfl ?_
        refine x_iload_n C dX10_received_30 rfl ?_
        refine x_iaload C dX10_received_31 rfl h (fun h => ?_)
        refine x_goto C 36 dX10_received_32 (by decide) ?_
        exact x_ireturnP hR dX10_received_36 h
theorem c_X_received (l : Launch) (e : Int) (p : Int) (m : xM) (r : Int) (h : f_X_received e p m = some r) : xMet l yX10_received cX10_received 4 (some .int) 2 lay_X [.inr (.inr (some 0)), .inl e, .inl p] m (some (.inl r)) m :=
  xMet_i (by decide +kernel) (Nat.le_of_ble_eq_true rfl) (fun Γ C hR hl9 => t_X_received (Nat.le_refl _) C e p hR h)
/-! ===== yX10_received ===== -/
def h_X_received (e : Int) (p : Int) (m : xM) : Option (Nat) :=
     (xthr (h_X_checkEnd e m) none)
set_option maxRecDepth 1000000 in
set_option maxHeartbeats 4000000 in
theorem t_h_X_received {Γ : xG} {d : Nat} (hd9 : 7 ≤ d) (C : xC Γ lay_X RX10 cX10_received 4 d) (CT : xCT Γ) (e : Int) (p : Int) {r : Nat} {m : xM} (hR : xRt Γ lay_X m (xEx r)) (h : h_X_received e p m = some r) : xW Γ lay_X 4 0 [(0, .inr (.inr (some 0))), (1, .inl e), (2, .inl p)] [] m := by
  unfold h_X_received at h
  refine x_aload_n C dX10_received_0 rfl ?_
  refine x_iload_n C dX10_received_1 rfl ?_
  rcases x_thr h with h9 | h
  · exact x_callVIT C CT hR dX10_received_2 (xin_26 _ (List.mem_of_getElem? (i := 23) rfl)) xy_X10_checkEnd (xi_X10_checkEnd) (xs_X10_checkEnd) (by omega) (by decide) (b := 0) rfl ⟨_, _, rfl⟩ (av := [.inl e]) rfl (Nat.le_of_ble_eq_true rfl) (ch_X_checkEnd _ (xCT_l CT) _ _ _ h9) rfl
  cases h
theorem ch_X_received (l : Launch) (hl : l.stackTraces = false) (e : Int) (p : Int) (m : xM) (r : Nat) (h : h_X_received e p m = some r) : xMetT l yX10_received cX10_received 4 (some .int) 7 lay_X [.inr (.inr (some 0)), .inl e, .inl p] m (xEx r) :=
  xMet_T hl (by decide +kernel) (Nat.le_of_ble_eq_true rfl) (fun Γ C CT hR hl9 => t_h_X_received (Nat.le_refl _) C CT e p hR h)
/-! ===== yX10_word ===== -/
theorem fF_X10_261 : xF RX10 261 2 0 (.array .int) true := ⟨RX0, TX0, 2, tyX0, rfl, by decide, (xin_30 _ (List.mem_of_getElem? (i := 23) rfl)), rfl, inlX0, tyX0_ok, nmX0, rfl, rfl⟩
theorem dX10_word_0 : decode cX10_word 0 = .ok (.aload_n 0, 1) := by decide +kernel
theorem dX10_word_1 : decode cX10_word 1 = .ok (.iload_n 1, 1) := by decide +kernel
theorem dX10_word_2 : decode cX10_word 2 = .ok (.invokevirtual 181, 3) := by decide +kernel
theorem dX10_word_5 : decode cX10_word 5 = .ok (.aload_n 0, 1) := by decide +kernel
theorem dX10_word_6 : decode cX10_word 6 = .ok (.getfield 27, 3) := by decide +kernel
theorem dX10_word_9 : decode cX10_word 9 = .ok (.iload_n 1, 1) := by decide +kernel
theorem dX10_word_10 : decode cX10_word 10 = .ok (.invokevirtual 184, 3) := by decide +kernel
theorem dX10_word_13 : decode cX10_word 13 = .ok (.astore 4, 2) := by decide +kernel
theorem dX10_word_15 : decode cX10_word 15 = .ok (.iload_n 2, 1) := by decide +kernel
theorem dX10_word_16 : decode cX10_word 16 = .ok (.ifCond .eq 11, 3) := by decide +kernel
theorem dX10_word_19 : decode cX10_word 19 = .ok (.aload 4, 2) := by decide +kernel
theorem dX10_word_21 : decode cX10_word 21 = .ok (.getfield 218, 3) := by decide +kernel
theorem dX10_word_24 : decode cX10_word 24 = .ok (.goto 8, 3) := by decide +kernel
theorem dX10_word_27 : decode cX10_word 27 = .ok (.aload 4, 2) := by decide +kernel
theorem dX10_word_29 : decode cX10_word 29 = .ok (.getfield 225, 3) := by decide +kernel
theorem dX10_word_32 : decode cX10_word 32 = .ok (.astore 5, 2) := by decide +kernel
theorem dX10_word_34 : decode cX10_word 34 = .ok (.iload_n 3, 1) := by decide +kernel
theorem dX10_word_35 : decode cX10_word 35 = .ok (.ifCond .lt 22, 3) := by decide +kernel
theorem dX10_word_38 : decode cX10_word 38 = .ok (.iload_n 3, 1) := by decide +kernel
theorem dX10_word_39 : decode cX10_word 39 = .ok (.aload 5, 2) := by decide +kernel
theorem dX10_word_41 : decode cX10_word 41 = .ok (.getfield 222, 3) := by decide +kernel
theorem dX10_word_44 : decode cX10_word 44 = .ok (.if_icmp .ge 13, 3) := by decide +kernel
theorem dX10_word_47 : decode cX10_word 47 = .ok (.aload 5, 2) := by decide +kernel
theorem dX10_word_49 : decode cX10_word 49 = .ok (.getfield 261, 3) := by decide +kernel
theorem dX10_word_52 : decode cX10_word 52 = .ok (.iload_n 3, 1) := by decide +kernel
theorem dX10_word_53 : decode cX10_word 53 = .ok (.iaload, 1) := by decide +kernel
theorem dX10_word_54 : decode cX10_word 54 = .ok (.goto 4, 3) := by decide +kernel
theorem dX10_word_57 : decode cX10_word 57 = .ok (.iconst (-1), 1) := by decide +kernel
theorem dX10_word_58 : decode cX10_word 58 = .ok (.ireturn, 1) := by decide +kernel
def f_X_word_32 (e : Int) (b : Int) (p : Int) (m : xM) : Option (Int) :=
     (if xw p < 0 then some (-1)
      else (if xw p < xw (m 21 1) then (if xib p 8 then some (m 22 (xix p))
      else none)
      else some (-1)))
set_option maxRecDepth 1000000 in
set_option maxHeartbeats 4000000 in
theorem t_X_word_32 {Γ : xG} {d : Nat} (hd9 : 2 ≤ d) (C : xC Γ lay_X RX10 cX10_word 6 d) (e : Int) (b : Int) (p : Int) {r : Int} {m : xM} (hR : xRi Γ lay_X cX10_word r m) (h : f_X_word_32 e b p m = some r) : xW Γ lay_X 6 32 [(3, .inl p)] [.inr (.inr (some 21))] m := by
  unfold f_X_word_32 at h
  refine x_astore C dX10_word_32 (by decide) ?_
  refine x_iload_n C dX10_word_34 rfl ?_
  refine x_if_lt C 57 dX10_word_35 (by decide) h (fun h => ?_) (fun h => ?_)
  · refine x_iconst C dX10_word_57 ?_
    exact x_ireturnP hR dX10_word_58 h
  · refine x_iload_n C dX10_word_38 rfl ?_
    refine x_aload C dX10_word_39 rfl ?_
    refine x_getI C dX10_word_41 fF_X10_222 rfl rfl ?_
    refine x_icmp_ge C 57 dX10_word_44 (by decide) h (fun h => ?_) (fun h => ?_)
    · refine x_iconst C dX10_word_57 ?_
      exact x_ireturnP hR dX10_word_58 h
    · refine x_aload C dX10_word_47 rfl ?_
      refine x_getR C dX10_word_49 fF_X10_261 rfl rfl ?_
      refine x_iload_n C dX10_word_52 rfl ?_
      refine x_iaload C dX10_word_53 rfl h (fun h => ?_)
      refine x_goto C 58 dX10_word_54 (by decide) ?_
      exact x_ireturnP hR dX10_word_58 h
def f_X_word_32_19 (e : Int) (b : Int) (p : Int) (m : xM) : Option (Int) :=
     (if xw p < 0 then some (-1)
      else (if xw p < xw (m 19 1) then (if xib p 8 then some (m 20 (xix p))
      else none)
      else some (-1)))
set_option maxRecDepth 1000000 in
set_option maxHeartbeats 4000000 in
theorem t_X_word_32_19 {Γ : xG} {d : Nat} (hd9 : 2 ≤ d) (C : xC Γ lay_X RX10 cX10_word 6 d) (e : Int) (b : Int) (p : Int) {r : Int} {m : xM} (hR : xRi Γ lay_X cX10_word r m) (h : f_X_word_32_19 e b p m = some r) : xW Γ lay_X 6 32 [(3, .inl p)] [.inr (.inr (some 19))] m := by
  unfold f_X_word_32_19 at h
  refine x_astore C dX10_word_32 (by decide) ?_
  refine x_iload_n C dX10_word_34 rfl ?_
  refine x_if_lt C 57 dX10_word_35 (by decide) h (fun h => ?_) (fun h => ?_)
  · refine x_iconst C dX10_word_57 ?_
    exact x_ireturnP hR dX10_word_58 h
  · refine x_iload_n C dX10_word_38 rfl ?_
    refine x_aload C dX10_word_39 rfl ?_
    refine x_getI C dX10_word_41 fF_X10_222 rfl rfl ?_
    refine x_icmp_ge C 57 dX10_word_44 (by decide) h (fun h => ?_) (fun h => ?_)
    · refine x_iconst C dX10_word_57 ?_
      exact x_ireturnP hR dX10_word_58 h
    · refine x_aload C dX10_word_47 rfl ?_
      refine x_getR C dX10_word_49 fF_X10_261 rfl rfl ?_
      refine x_iload_n C dX10_word_52 rfl ?_
      refine x_iaload C dX10_word_53 rfl h (fun h => ?_)
      refine x_goto C 58 dX10_word_54 (by decide) ?_
      exact x_ireturnP hR dX10_word_58 h
def f_X_word_32_32 (e : Int) (b : Int) (p : Int) (m : xM) : Option (Int) :=
     (if xw p < 0 then some (-1)
      else (if xw p < xw (m 32 1) then (if xib p 8 then some (m 33 (xix p))
      else none)
      else some (-1)))
set_option maxRecDepth 1000000 in
set_option maxHeartbeats 4000000 in
theorem t_X_word_32_32 {Γ : xG} {d : Nat} (hd9 : 2 ≤ d) (C : xC Γ lay_X RX10 cX10_word 6 d) (e : Int) (b : Int) (p : Int) {r : Int} {m : xM} (hR : xRi Γ lay_X cX10_word r m) (h : f_X_word_32_32 e b p m = some r) : xW Γ lay_X 6 32 [(3, .inl p)] [.inr (.inr (some 32))] m := by
  unfold f_X_word_32_32 at h
  refine x_astore C dX10_word_32 (by decide) ?_
  refine x_iload_n C dX10_word_34 rfl ?_
  refine x_if_lt C 57 dX10_word_35 (by decide) h (fun h => ?_) (fun h => ?_)
  · refine x_iconst C dX10_word_57 ?_
    exact x_ireturnP hR dX10_word_58 h
  · refine x_iload_n C dX10_word_38 rfl ?_
    refine x_aload C dX10_word_39 rfl ?_
    refine x_getI C dX10_word_41 fF_X10_222 rfl rfl ?_
    refine x_icmp_ge C 57 dX10_word_44 (by decide) h (fun h => ?_) (fun h => ?_)
    · refine x_iconst C dX10_word_57 ?_
      exact x_ireturnP hR dX10_word_58 h
    · refine x_aload C dX10_word_47 rfl ?_
      refine x_getR C dX10_word_49 fF_X10_261 rfl rfl ?_
      refine x_iload_n C dX10_word_52 rfl ?_
      refine x_iaload C dX10_word_53 rfl h (fun h => ?_)
      refine x_goto C 58 dX10_word_54 (by decide) ?_
      exact x_ireturnP hR dX10_word_58 h
def f_X_word_32_30 (e : Int) (b : Int) (p : Int) (m : xM) : Option (Int) :=
     (if xw p < 0 then some (-1)
      else (if xw p < xw (m 30 1) then (if xib p 8 then some (m 31 (xix p))
      else none)
      else some (-1)))
set_option maxRecDepth 1000000 in
set_option maxHeartbeats 4000000 in
theorem t_X_word_32_30 {Γ : xG} {d : Nat} (hd9 : 2 ≤ d) (C : xC Γ lay_X RX10 cX10_word 6 d) (e : Int) (b : Int) (p : Int) {r : Int} {m : xM} (hR : xRi Γ lay_X cX10_word r m) (h : f_X_word_32_30 e b p m = some r) : xW Γ lay_X 6 32 [(3, .inl p)] [.inr (.inr (some 30))] m := by
  unfold f_X_word_32_30 at h
  refine x_astore C dX10_word_32 (by decide) ?_
  refine x_iload_n C dX10_word_34 rfl ?_
  refine x_if_lt C 57 dX10_word_35 (by decide) h (fun h => ?_) (fun h => ?_)
  · refine x_iconst C dX10_word_57 ?_
    exact x_ireturnP hR dX10_word_58 h
  · refine x_iload_n C dX10_word_38 rfl ?_
    refine x_aload C dX10_word_39 rfl ?_
    refine x_getI C dX10_word_41 fF_X10_222 rfl rfl ?_
    refine x_icmp_ge C 57 dX10_word_44 (by decide) h (fun h => ?_) (fun h => ?_)
    · refine x_iconst C dX10_word_57 ?_
      exact x_ireturnP hR dX10_word_58 h
    · refine x_aload C dX10_word_47 rfl ?_
      refine x_getR C dX10_word_49 fF_X10_261 rfl rfl ?_
      refine x_iload_n C dX10_word_52 rfl ?_
      refine x_iaload C dX10_word_53 rfl h (fun h => ?_)
      refine x_goto C 58 dX10_word_54 (by decide) ?_
      exact x_ireturnP hR dX10_word_58 h
def f_X_word (e : Int) (b : Int) (p : Int) (m : xM) : Option (Int) :=
     (Option.bind (f_X_checkEnd e m) fun q0 =>
      (if xw e = 0 then (if xw b = 0 then f_X_word_32 e b p m
      else f_X_word_32_19 e b p m)
      else (if xw e = 1 then (if xw b = 0 then f_X_word_32_32 e b p m
      else f_X_word_32_30 e b p m)
      else none)))
set_option maxRecDepth 1000000 in
set_option maxHeartbeats 4000000 in
theorem t_X_word {Γ : xG} {d : Nat} (hd9 : 2 ≤ d) (C : xC Γ lay_X RX10 cX10_word 6 d) (e : Int) (b : Int) (p : Int) {r : Int} {m : xM} (hR : xRi Γ lay_X cX10_word r m) (h : f_X_word e b p m = some r) : xW Γ lay_X 6 0 [(0, .inr (.inr (some 0))), (1, .inl e), (2, .inl b), (3, .inl p)] [] m := by
  unfold f_X_word at h
  refine x_aload_n C dX10_word_0 rfl ?_
  refine x_iload_n C dX10_word_1 rfl ?_
  obtain ⟨q0, hq0, h⟩ := x_bind h
  refine x_callVI C dX10_word_2 (xin_26 _ (List.mem_of_getElem? (i := 23) rfl)) xy_X10_checkEnd (xi_X10_checkEnd) (xs_X10_checkEnd) (by omega) (by decide) (b := 0) rfl ⟨_, _, rfl⟩ (av := [.inl e]) rfl (Nat.le_of_ble_eq_true rfl) (c_X_checkEnd _ _ _ _ hq0) rfl ?_
  refine x_aload_n C dX10_word_5 rfl ?_
  refine x_getR C dX10_word_6 fF_X10_27 rfl rfl ?_
  refine x_iload_n C dX10_word_9 rfl ?_
  refine x_ite h (fun hk92 h => ?_) (fun _ h => ?_)
  · refine x_callVp C dX10_word_10 (xin_27 _ (List.mem_of_getElem? (i := 3) rfl)) xy_X3_endOf (xi_X3_endOf) (xs_X3_endOf) [11, 1, 12, 23, 34, 39, 41, 42] xv_59 (by omega) (by decide) (b := 0) rfl ⟨_, _, rfl⟩ (av := [.inl e]) rfl (Nat.le_of_ble_eq_true rfl) (c_endOf0 _ _ _ (by first | decide | assumption | exact xw_1m0 (by assumption) | exact xw_1m1 (by assumption) | exact xw_ne1 (by assumption) | exact xw_n1m0 (by assumption))) rfl ?_
    refine x_astore C dX10_word_13 (by decide) ?_
    refine x_iload_n C dX10_word_15 rfl ?_
    refine x_if_eq C 27 dX10_word_16 (by decide) h (fun h => ?_) (fun h => ?_)
    · refine x_aload C dX10_word_27 rfl ?_
      refine x_getR C dX10_word_29 fF_X10_225 rfl rfl ?_
      refine x_loc [(3, .inl p)] ⟨rfl, trivial⟩ ?_
      exact t_X_word_32 hd9 C _ _ _ hR h
    · refine x_aload C dX10_word_19 rfl ?_
      refine x_getR C dX10_word_21 fF_X10_218 rfl rfl ?_
      refine x_goto C 32 dX10_word_24 (by decide) ?_
      refine x_loc [(3, .inl p)] ⟨rfl, trivial⟩ ?_
      exact t_X_word_32_19 hd9 C _ _ _ hR h
  · obtain ⟨hk92, h⟩ := x_some1 h
    refine x_callVp C dX10_word_10 (xin_27 _ (List.mem_of_getElem? (i := 3) rfl)) xy_X3_endOf (xi_X3_endOf) (xs_X3_endOf) [11, 1, 12, 23, 34, 39, 41, 42] xv_59 (by omega) (by decide) (b := 0) rfl ⟨_, _, rfl⟩ (av := [.inl e]) rfl (Nat.le_of_ble_eq_true rfl) (c_endOf1 _ _ _ (by first | decide | assumption | exact xw_1m0 (by assumption) | exact xw_1m1 (by assumption) | exact xw_ne1 (by assumption) | exact xw_n1m0 (by assumption))) rfl ?_
    refine x_astore C dX10_word_13 (by decide) ?_
    refine x_iload_n C dX10_word_15 rfl ?_
    refine x_if_eq C 27 dX10_word_16 (by decide) h (fun h => ?_) (fun h => ?_)
    · refine x_aload C dX10_word_27 rfl ?_
      refine x_getR C dX10_word_29 fF_X10_225 rfl rfl ?_
      refine x_loc [(3, .inl p)] ⟨rfl, trivial⟩ ?_
      exact t_X_word_32_32 hd9 C _ _ _ hR h
    · refine x_aload C dX10_word_19 rfl ?_
      refine x_getR C dX10_word_21 fF_X10_218 rfl rfl ?_
      refine x_goto C 32 dX10_word_24 (by decide) ?_
      refine x_loc [(3, .inl p)] ⟨rfl, trivial⟩ ?_
      exact t_X_word_32_30 hd9 C _ _ _ hR h
theorem c_X_word (l : Launch) (e : Int) (b : Int) (p : Int) (m : xM) (r : Int) (h : f_X_word e b p m = some r) : xMet l yX10_word cX10_word 6 (some .int) 2 lay_X [.inr (.inr (some 0)), .inl e, .inl b, .inl p] m (some (.inl r)) m :=
  xMet_i (by decide +kernel) (Nat.le_of_ble_eq_true rfl) (fun Γ C hR hl9 => t_X_word (Nat.le_refl _) C e b p hR h)
/-! ===== yX10_word ===== -/
def h_X_word (e : Int) (b : Int) (p : Int) (m : xM) : Option (Nat) :=
     (xthr (h_X_checkEnd e m) none)
set_option maxRecDepth 1000000 in
set_option maxHeartbeats 4000000 in
theorem t_h_X_word {Γ : xG} {d : Nat} (hd9 : 7 ≤ d) (C : xC Γ lay_X RX10 cX10_word 6 d) (CT : xCT Γ) (e : Int) (b : Int) (p : Int) {r : Nat} {m : xM} (hR : xRt Γ lay_X m (xEx r)) (h : h_X_word e b p m = some r) : xW Γ lay_X 6 0 [(0, .inr (.inr (some 0))), (1, .inl e), (2, .inl b), (3, .inl p)] [] m := by
  unfold h_X_word at h
  refine x_aload_n C dX10_word_0 rfl ?_
  refine x_iload_n C dX10_word_1 rfl ?_
  rcases x_thr h with h9 | h
  · exact x_callVIT C CT hR dX10_word_2 (xin_26 _ (List.mem_of_getElem? (i := 23) rfl)) xy_X10_checkEnd (xi_X10_checkEnd) (xs_X10_checkEnd) (by omega) (by decide) (b := 0) rfl ⟨_, _, rfl⟩ (av := [.inl e]) rfl (Nat.le_of_ble_eq_true rfl) (ch_X_checkEnd _ (xCT_l CT) _ _ _ h9) rfl
  cases h
theorem ch_X_word (l : Launch) (hl : l.stackTraces = false) (e : Int) (b : Int) (p : Int) (m : xM) (r : Nat) (h : h_X_word e b p m = some r) : xMetT l yX10_word cX10_word 6 (some .int) 7 lay_X [.inr (.inr (some 0)), .inl e, .inl b, .inl p] m (xEx r) :=
  xMet_T hl (by decide +kernel) (Nat.le_of_ble_eq_true rfl) (fun Γ C CT hR hl9 => t_h_X_word (Nat.le_refl _) C CT e b p hR h)
/-! ===== yX10_event ===== -/
theorem xv_64 : xview lay_X lay_G [39, 40] := xview_of (by decide +kernel)
theorem dX10_event_0 : decode cX10_event 0 = .ok (.iload_n 1, 1) := by decide +kernel
theorem dX10_event_1 : decode cX10_event 1 = .ok (.ifCond .lt 26, 3) := by decide +kernel
theorem dX10_event_4 : decode cX10_event 4 = .ok (.iload_n 1, 1) := by decide +kernel
theorem dX10_event_5 : decode cX10_event 5 = .ok (.aload_n 0, 1) := by decide +kernel
theorem dX10_event_6 : decode cX10_event 6 = .ok (.getfield 27, 3) := by decide +kernel
theorem dX10_event_9 : decode cX10_event 9 = .ok (.getfield 69, 3) := by decide +kernel
theorem dX10_event_12 : decode cX10_event 12 = .ok (.getfield 166, 3) := by decide +kernel
theorem dX10_event_15 : decode cX10_event 15 = .ok (.if_icmp .ge 12, 3) := by decide +kernel
theorem dX10_event_18 : decode cX10_event 18 = .ok (.iload_n 2, 1) := by decide +kernel
theorem dX10_event_19 : decode cX10_event 19 = .ok (.ifCond .lt 8, 3) := by decide +kernel
theorem dX10_event_22 : decode cX10_event 22 = .ok (.iload_n 2, 1) := by decide +kernel
theorem dX10_event_23 : decode cX10_event 23 = .ok (.iconst 4, 1) := by decide +kernel
theorem dX10_event_24 : decode cX10_event 24 = .ok (.if_icmp .lt 14, 3) := by decide +kernel
theorem dX10_event_27 : decode cX10_event 27 = .ok (.new 171, 3) := by decide +kernel
theorem dX10_event_30 : decode cX10_event 30 = .ok (.dup, 1) := by decide +kernel
theorem dX10_event_31 : decode cX10_event 31 = .ok (.ldc_w 264, 3) := by decide +kernel
theorem dX10_event_34 : decode cX10_event 34 = .ok (.invokespecial 175, 3) := by decide +kernel
theorem dX10_event_37 : decode cX10_event 37 = .ok (.athrow, 1) := by decide +kernel
theorem dX10_event_38 : decode cX10_event 38 = .ok (.aload_n 0, 1) := by decide +kernel
theorem dX10_event_39 : decode cX10_event 39 = .ok (.getfield 27, 3) := by decide +kernel
theorem dX10_event_42 : decode cX10_event 42 = .ok (.getfield 69, 3) := by decide +kernel
theorem dX10_event_45 : decode cX10_event 45 = .ok (.iload_n 1, 1) := by decide +kernel
theorem dX10_event_46 : decode cX10_event 46 = .ok (.iload_n 2, 1) := by decide +kernel
theorem dX10_event_47 : decode cX10_event 47 = .ok (.invokevirtual 266, 3) := by decide +kernel
theorem dX10_event_50 : decode cX10_event 50 = .ok (.ireturn, 1) := by decide +kernel
def f_X_event_27 (e : Int) (w : Int) (m : xM) : Option (Int) :=
     none
set_option maxRecDepth 1000000 in
set_option maxHeartbeats 4000000 in
theorem t_X_event_27 {Γ : xG} {d : Nat} (hd9 : 3 ≤ d) (C : xC Γ lay_X RX10 cX10_event 3 d) (e : Int) (w : Int) {r : Int} {m : xM} (hR : xRi Γ lay_X cX10_event r m) (h : f_X_event_27 e w m = some r) : xW Γ lay_X 3 27 [] [] m := by
  unfold f_X_event_27 at h
  cases h
def f_X_event (e : Int) (w : Int) (m : xM) : Option (Int) :=
     (if xw e < 0 then f_X_event_27 e w m
      else (if xw e < xw (m 39 2) then (if xw w < 0 then f_X_event_27 e w m
      else (if xw w < xw 4 then (Option.bind (f_G_prop e w (xvw [39, 40] m)) fun q0 =>
      some q0)
      else f_X_event_27 e w m))
      else f_X_event_27 e w m))
set_option maxRecDepth 1000000 in
set_option maxHeartbeats 4000000 in
theorem t_X_event {Γ : xG} {d : Nat} (hd9 : 3 ≤ d) (C : xC Γ lay_X RX10 cX10_event 3 d) (e : Int) (w : Int) {r : Int} {m : xM} (hR : xRi Γ lay_X cX10_event r m) (h : f_X_event e w m = some r) : xW Γ lay_X 3 0 [(0, .inr (.inr (some 0))), (1, .inl e), (2, .inl w)] [] m := by
  unfold f_X_event at h
  refine x_iload_n C dX10_event_0 rfl ?_
  refine x_if_lt C 27 dX10_event_1 (by decide) h (fun h => ?_) (fun h => ?_)
  · refine x_loc [] trivial ?_
    exact t_X_event_27 hd9 C _ _ hR h
  · refine x_iload_n C dX10_event_4 rfl ?_
    refine x_aload_n C dX10_event_5 rfl ?_
    refine x_getR C dX10_event_6 fF_X10_27 rfl rfl ?_
    refine x_getR C dX10_event_9 fF_X10_69 rfl rfl ?_
    refine x_getI C dX10_event_12 fF_X10_166 rfl rfl ?_
    refine x_icmp_ge C 27 dX10_event_15 (by decide) h (fun h => ?_) (fun h => ?_)
    · refine x_loc [] trivial ?_
      exact t_X_event_27 hd9 C _ _ hR h
    · refine x_iload_n C dX10_event_18 rfl ?_
      refine x_if_lt C 27 dX10_event_19 (by decide) h (fun h => ?_) (fun h => ?_)
      · refine x_loc [] trivial ?_
        exact t_X_event_27 hd9 C _ _ hR h
      · refine x_iload_n C dX10_event_22 rfl ?_
        refine x_iconst C dX10_event_23 ?_
        refine x_icmp_lt C 38 dX10_event_24 (by decide) h (fun h => ?_) (fun h => ?_)
        · refine x_aload_n C dX10_event_38 rfl ?_
          refine x_getR C dX10_event_39 fF_X10_27 rfl rfl ?_
          refine x_getR C dX10_event_42 fF_X10_69 rfl rfl ?_
          refine x_iload_n C dX10_event_45 rfl ?_
          refine x_iload_n C dX10_event_46 rfl ?_
          obtain ⟨q0, hq0, h⟩ := x_bind h
          refine x_callVp C dX10_event_47 (xin_31 _ (List.mem_of_getElem? (i := 17) rfl)) xy_X4_propertyOf (xi_X4_propertyOf) (xs_X4_propertyOf) [39, 40] xv_64 (by omega) (by decide) (b := 0) rfl ⟨_, _, rfl⟩ (av := [.inl e, .inl w]) rfl (Nat.le_of_ble_eq_true rfl) (c_G_prop _ _ _ _ _ hq0) rfl ?_
          exact x_ireturnP hR dX10_event_50 h
        · refine x_loc [] trivial ?_
          exact t_X_event_27 hd9 C _ _ hR h
theorem c_X_event (l : Launch) (e : Int) (w : Int) (m : xM) (r : Int) (h : f_X_event e w m = some r) : xMet l yX10_event cX10_event 3 (some .int) 3 lay_X [.inr (.inr (some 0)), .inl e, .inl w] m (some (.inl r)) m :=
  xMet_i (by decide +kernel) (Nat.le_of_ble_eq_true rfl) (fun Γ C hR hl9 => t_X_event (Nat.le_refl _) C e w hR h)
/-! ===== yX10_event ===== -/
def h_X_event_27 (e : Int) (w : Int) (m : xM) : Option (Nat) :=
     some 2
set_option maxRecDepth 1000000 in
set_option maxHeartbeats 4000000 in
theorem t_h_X_event_27 {Γ : xG} {d : Nat} (hd9 : 6 ≤ d) (C : xC Γ lay_X RX10 cX10_event 3 d) (CT : xCT Γ) (e : Int) (w : Int) {r : Nat} {m : xM} (hR : xRt Γ lay_X m (xEx r)) (h : h_X_event_27 e w m = some r) : xW Γ lay_X 3 27 [] [] m := by
  unfold h_X_event_27 at h
  exact x_throwW C CT hR (by omega) xe_2 (is := 264) (text := "no such event or property") (List.mem_of_getElem? (i := 8) rfl) dX10_event_27 dX10_event_30 dX10_event_31 dX10_event_34 dX10_event_37 h
def h_X_event (e : Int) (w : Int) (m : xM) : Option (Nat) :=
     (if xw e < 0 then h_X_event_27 e w m
      else (if xw e < xw (m 39 2) then (if xw w < 0 then h_X_event_27 e w m
      else (if xw w < xw 4 then none
      else h_X_event_27 e w m))
      else h_X_event_27 e w m))
set_option maxRecDepth 1000000 in
set_option maxHeartbeats 4000000 in
theorem t_h_X_event {Γ : xG} {d : Nat} (hd9 : 6 ≤ d) (C : xC Γ lay_X RX10 cX10_event 3 d) (CT : xCT Γ) (e : Int) (w : Int) {r : Nat} {m : xM} (hR : xRt Γ lay_X m (xEx r)) (h : h_X_event e w m = some r) : xW Γ lay_X 3 0 [(0, .inr (.inr (some 0))), (1, .inl e), (2, .inl w)] [] m := by
  unfold h_X_event at h
  refine x_iload_n C dX10_event_0 rfl ?_
  refine x_if_lt C 27 dX10_event_1 (by decide) h (fun h => ?_) (fun h => ?_)
  · refine x_loc [] trivial ?_
    exact t_h_X_event_27 hd9 C CT _ _ hR h
  · refine x_iload_n C dX10_event_4 rfl ?_
    refine x_aload_n C dX10_event_5 rfl ?_
    refine x_getR C dX10_event_6 fF_X10_27 rfl rfl ?_
    refine x_getR C dX10_event_9 fF_X10_69 rfl rfl ?_
    refine x_getI C dX10_event_12 fF_X10_166 rfl rfl ?_
    refine x_icmp_ge C 27 dX10_event_15 (by decide) h (fun h => ?_) (fun h => ?_)
    · refine x_loc [] trivial ?_
      exact t_h_X_event_27 hd9 C CT _ _ hR h
    · refine x_iload_n C dX10_event_18 rfl ?_
      refine x_if_lt C 27 dX10_event_19 (by decide) h (fun h => ?_) (fun h => ?_)
      · refine x_loc [] trivial ?_
        exact t_h_X_event_27 hd9 C CT _ _ hR h
      · refine x_iload_n C dX10_event_22 rfl ?_
        refine x_iconst C dX10_event_23 ?_
        refine x_icmp_lt C 38 dX10_event_24 (by decide) h (fun h => ?_) (fun h => ?_)
        · cases h
        · refine x_loc [] trivial ?_
          exact t_h_X_event_27 hd9 C CT _ _ hR h
theorem ch_X_event (l : Launch) (hl : l.stackTraces = false) (e : Int) (w : Int) (m : xM) (r : Nat) (h : h_X_event e w m = some r) : xMetT l yX10_event cX10_event 3 (some .int) 6 lay_X [.inr (.inr (some 0)), .inl e, .inl w] m (xEx r) :=
  xMet_T hl (by decide +kernel) (Nat.le_of_ble_eq_true rfl) (fun Γ C CT hR hl9 => t_h_X_event (Nat.le_refl _) C CT e w hR h)
/-! ===== yX10_checkQuality ===== -/
theorem dX10_checkQuality_0 : decode cX10_checkQuality 0 = .ok (.iload_n 1, 1) := by decide +kernel
theorem dX10_checkQuality_1 : decode cX10_checkQuality 1 = .ok (.ifCond .lt 9, 3) := by decide +kernel
theorem dX10_checkQuality_4 : decode cX10_checkQuality 4 = .ok (.iload_n 1, 1) := by decide +kernel
theorem dX10_checkQuality_5 : decode cX10_checkQuality 5 = .ok (.bipush 9, 2) := by decide +kernel
theorem dX10_checkQuality_7 : decode cX10_checkQuality 7 = .ok (.if_icmp .le 14, 3) := by decide +kernel
theorem dX10_checkQuality_10 : decode cX10_checkQuality 10 = .ok (.new 126, 3) := by decide +kernel
theorem dX10_checkQuality_13 : decode cX10_checkQuality 13 = .ok (.dup, 1) := by decide +kernel
theorem dX10_checkQuality_14 : decode cX10_checkQuality 14 = .ok (.ldc_w 276, 3) := by decide +kernel
theorem dX10_checkQuality_17 : decode cX10_checkQuality 17 = .ok (.invokespecial 130, 3) := by decide +kernel
theorem dX10_checkQuality_20 : decode cX10_checkQuality 20 = .ok (.athrow, 1) := by decide +kernel
theorem dX10_checkQuality_21 : decode cX10_checkQuality 21 = .ok (.return_, 1) := by decide +kernel
def f_X_checkQuality_10 (q : Int) (m : xM) : Option (Int) :=
     none
set_option maxRecDepth 1000000 in
set_option maxHeartbeats 4000000 in
theorem t_X_checkQuality_10 {Γ : xG} {d : Nat} (hd9 : 1 ≤ d) (C : xC Γ lay_X RX10 cX10_checkQuality 2 d) (q : Int) {r : Int} {m : xM} (hR : xRv Γ lay_X cX10_checkQuality m) (h : f_X_checkQuality_10 q m = some r) : xW Γ lay_X 2 10 [] [] m := by
  unfold f_X_checkQuality_10 at h
  cases h
def f_X_checkQuality (q : Int) (m : xM) : Option (Int) :=
     (if xw q < 0 then f_X_checkQuality_10 q m
      else (if xw 9 < xw q then f_X_checkQuality_10 q m
      else some 0))
set_option maxRecDepth 1000000 in
set_option maxHeartbeats 4000000 in
theorem t_X_checkQuality {Γ : xG} {d : Nat} (hd9 : 1 ≤ d) (C : xC Γ lay_X RX10 cX10_checkQuality 2 d) (q : Int) {r : Int} {m : xM} (hR : xRv Γ lay_X cX10_checkQuality m) (h : f_X_checkQuality q m = some r) : xW Γ lay_X 2 0 [(0, .inr (.inr (some 0))), (1, .inl q)] [] m := by
  unfold f_X_checkQuality at h
  refine x_iload_n C dX10_checkQuality_0 rfl ?_
  refine x_if_lt C 10 dX10_checkQuality_1 (by decide) h (fun h => ?_) (fun h => ?_)
  · refine x_loc [] trivial ?_
    exact t_X_checkQuality_10 hd9 C _ hR h
  · refine x_iload_n C dX10_checkQuality_4 rfl ?_
    refine x_bipush C dX10_checkQuality_5 (by decide) ?_
    refine x_icmp_le C 21 dX10_checkQuality_7 (by decide) h (fun h => ?_) (fun h => ?_)
    · exact x_returnV hR dX10_checkQuality_21 rfl
    · refine x_loc [] trivial ?_
      exact t_X_checkQuality_10 hd9 C _ hR h
theorem c_X_checkQuality (l : Launch) (q : Int) (m : xM) (r : Int) (h : f_X_checkQuality q m = some r) : xMet l yX10_checkQuality cX10_checkQuality 2 none 1 lay_X [.inr (.inr (some 0)), .inl q] m none m :=
  xMet_v (by decide +kernel) (Nat.le_of_ble_eq_true rfl) (fun Γ C hR hl9 => t_X_checkQuality (Nat.le_refl _) C q hR h)
/-! ===== yX10_checkQuality ===== -/
def h_X_checkQuality_10 (q : Int) (m : xM) : Option (Nat) :=
     some 1
set_option maxRecDepth 1000000 in
set_option maxHeartbeats 4000000 in
theorem t_h_X_checkQuality_10 {Γ : xG} {d : Nat} (hd9 : 6 ≤ d) (C : xC Γ lay_X RX10 cX10_checkQuality 2 d) (CT : xCT Γ) (q : Int) {r : Nat} {m : xM} (hR : xRt Γ lay_X m (xEx r)) (h : h_X_checkQuality_10 q m = some r) : xW Γ lay_X 2 10 [] [] m := by
  unfold h_X_checkQuality_10 at h
  exact x_throwW C CT hR (by omega) xe_1 (is := 276) (text := "no such quality") (List.mem_of_getElem? (i := 9) rfl) dX10_checkQuality_10 dX10_checkQuality_13 dX10_checkQuality_14 dX10_checkQuality_17 dX10_checkQuality_20 h
def h_X_checkQuality (q : Int) (m : xM) : Option (Nat) :=
     (if xw q < 0 then h_X_checkQuality_10 q m
      else (if xw 9 < xw q then h_X_checkQuality_10 q m
      else none))
set_option maxRecDepth 1000000 in
set_option maxHeartbeats 4000000 in
theorem t_h_X_checkQuality {Γ : xG} {d : Nat} (hd9 : 6 ≤ d) (C : xC Γ lay_X RX10 cX10_checkQuality 2 d) (CT : xCT Γ) (q : Int) {r : Nat} {m : xM} (hR : xRt Γ lay_X m (xEx r)) (h : h_X_checkQuality q m = some r) : xW Γ lay_X 2 0 [(0, .inr (.inr (some 0))), (1, .inl q)] [] m := by
  unfold h_X_checkQuality at h
  refine x_iload_n C dX10_checkQuality_0 rfl ?_
  refine x_if_lt C 10 dX10_checkQuality_1 (by decide) h (fun h => ?_) (fun h => ?_)
  · refine x_loc [] trivial ?_
    exact t_h_X_checkQuality_10 hd9 C CT _ hR h
  · refine x_iload_n C dX10_checkQuality_4 rfl ?_
    refine x_bipush C dX10_checkQuality_5 (by decide) ?_
    refine x_icmp_le C 21 dX10_checkQuality_7 (by decide) h (fun h => ?_) (fun h => ?_)
    · cases h
    · refine x_loc [] trivial ?_
      exact t_h_X_checkQuality_10 hd9 C CT _ hR h
theorem ch_X_checkQuality (l : Launch) (hl : l.stackTraces = false) (q : Int) (m : xM) (r : Nat) (h : h_X_checkQuality q m = some r) : xMetT l yX10_checkQuality cX10_checkQuality 2 none 6 lay_X [.inr (.inr (some 0)), .inl q] m (xEx r) :=
  xMet_T hl (by decide +kernel) (Nat.le_of_ble_eq_true rfl) (fun Γ C CT hR hl9 => t_h_X_checkQuality (Nat.le_refl _) C CT q hR h)
/-! ===== yX10_rateFor ===== -/
theorem xy_X10_checkQuality : xY yX10_checkQuality cX10_checkQuality 2 none 1 := ⟨(xin_32 _ (List.mem_of_getElem? (i := 13) rfl)), (xin_1 _ (List.mem_of_getElem? (i := 2) rfl)), by decide, by decide, by decide +kernel⟩
theorem xi_X10_checkQuality : Cond.instanceMethod yX10_checkQuality ∈ wsL_law := (xin_32 _ (List.mem_of_getElem? (i := 11) rfl))
theorem xs_X10_checkQuality : Cond.selects yX10_checkQuality.cls yX10_checkQuality yX10_checkQuality ∈ wsL_law := (xin_32 _ (List.mem_of_getElem? (i := 12) rfl))
theorem xv_65 : xview lay_X lay_S [1, 2, 3, 4, 5] := xview_of (by decide +kernel)
theorem dX10_rateFor_0 : decode cX10_rateFor 0 = .ok (.aload_n 0, 1) := by decide +kernel
theorem dX10_rateFor_1 : decode cX10_rateFor 1 = .ok (.iload_n 1, 1) := by decide +kernel
theorem dX10_rateFor_2 : decode cX10_rateFor 2 = .ok (.invokevirtual 270, 3) := by decide +kernel
theorem dX10_rateFor_5 : decode cX10_rateFor 5 = .ok (.aload_n 0, 1) := by decide +kernel
theorem dX10_rateFor_6 : decode cX10_rateFor 6 = .ok (.getfield 10, 3) := by decide +kernel
theorem dX10_rateFor_9 : decode cX10_rateFor 9 = .ok (.iload_n 1, 1) := by decide +kernel
theorem dX10_rateFor_10 : decode cX10_rateFor 10 = .ok (.invokevirtual 273, 3) := by decide +kernel
theorem dX10_rateFor_13 : decode cX10_rateFor 13 = .ok (.ireturn, 1) := by decide +kernel
def f_X_rateFor (q : Int) (m : xM) : Option (Int) :=
     (Option.bind (f_X_checkQuality q m) fun q0 =>
      (Option.bind (f_S_greatest q (xvw [1, 2, 3, 4, 5] m)) fun q1 =>
      some q1))
set_option maxRecDepth 1000000 in
set_option maxHeartbeats 4000000 in
theorem t_X_rateFor {Γ : xG} {d : Nat} (hd9 : 2 ≤ d) (C : xC Γ lay_X RX10 cX10_rateFor 2 d) (q : Int) {r : Int} {m : xM} (hR : xRi Γ lay_X cX10_rateFor r m) (h : f_X_rateFor q m = some r) : xW Γ lay_X 2 0 [(0, .inr (.inr (some 0))), (1, .inl q)] [] m := by
  unfold f_X_rateFor at h
  refine x_aload_n C dX10_rateFor_0 rfl ?_
  refine x_iload_n C dX10_rateFor_1 rfl ?_
  obtain ⟨q0, hq0, h⟩ := x_bind h
  refine x_callVI C dX10_rateFor_2 (xin_32 _ (List.mem_of_getElem? (i := 10) rfl)) xy_X10_checkQuality (xi_X10_checkQuality) (xs_X10_checkQuality) (by omega) (by decide) (b := 0) rfl ⟨_, _, rfl⟩ (av := [.inl q]) rfl (Nat.le_of_ble_eq_true rfl) (c_X_checkQuality _ _ _ _ hq0) rfl ?_
  refine x_aload_n C dX10_rateFor_5 rfl ?_
  refine x_getR C dX10_rateFor_6 fF_X10_10 rfl rfl ?_
  refine x_iload_n C dX10_rateFor_9 rfl ?_
  obtain ⟨q1, hq1, h⟩ := x_bind h
  refine x_callVp C dX10_rateFor_10 (xin_32 _ (List.mem_of_getElem? (i := 14) rfl)) xy_X6_greatestRate (xi_X6_greatestRate) (xs_X6_greatestRate) [1, 2, 3, 4, 5] xv_65 (by omega) (by decide) (b := 0) rfl ⟨_, _, rfl⟩ (av := [.inl q]) rfl (Nat.le_of_ble_eq_true rfl) (c_S_greatest _ _ _ _ hq1) rfl ?_
  exact x_ireturnP hR dX10_rateFor_13 h
theorem c_X_rateFor (l : Launch) (q : Int) (m : xM) (r : Int) (h : f_X_rateFor q m = some r) : xMet l yX10_rateFor cX10_rateFor 2 (some .int) 2 lay_X [.inr (.inr (some 0)), .inl q] m (some (.inl r)) m :=
  xMet_i (by decide +kernel) (Nat.le_of_ble_eq_true rfl) (fun Γ C hR hl9 => t_X_rateFor (Nat.le_refl _) C q hR h)
/-! ===== yX10_rateFor ===== -/
def h_X_rateFor (q : Int) (m : xM) : Option (Nat) :=
     (xthr (h_X_checkQuality q m) none)
set_option maxRecDepth 1000000 in
set_option maxHeartbeats 4000000 in
theorem t_h_X_rateFor {Γ : xG} {d : Nat} (hd9 : 7 ≤ d) (C : xC Γ lay_X RX10 cX10_rateFor 2 d) (CT : xCT Γ) (q : Int) {r : Nat} {m : xM} (hR : xRt Γ lay_X m (xEx r)) (h : h_X_rateFor q m = some r) : xW Γ lay_X 2 0 [(0, .inr (.inr (some 0))), (1, .inl q)] [] m := by
  unfold h_X_rateFor at h
  refine x_aload_n C dX10_rateFor_0 rfl ?_
  refine x_iload_n C dX10_rateFor_1 rfl ?_
  rcases x_thr h with h9 | h
  · exact x_callVIT C CT hR dX10_rateFor_2 (xin_32 _ (List.mem_of_getElem? (i := 10) rfl)) xy_X10_checkQuality (xi_X10_checkQuality) (xs_X10_checkQuality) (by omega) (by decide) (b := 0) rfl ⟨_, _, rfl⟩ (av := [.inl q]) rfl (Nat.le_of_ble_eq_true rfl) (ch_X_checkQuality _ (xCT_l CT) _ _ _ h9) rfl
  cases h
theorem ch_X_rateFor (l : Launch) (hl : l.stackTraces = false) (q : Int) (m : xM) (r : Nat) (h : h_X_rateFor q m = some r) : xMetT l yX10_rateFor cX10_rateFor 2 (some .int) 7 lay_X [.inr (.inr (some 0)), .inl q] m (xEx r) :=
  xMet_T hl (by decide +kernel) (Nat.le_of_ble_eq_true rfl) (fun Γ C CT hR hl9 => t_h_X_rateFor (Nat.le_refl _) C CT q hR h)
/-! ===== yX10_nextCost ===== -/
theorem fF_X10_278 : xF RX10 278 3 0 (.array .int) true := ⟨RX1, TX1, 11, tyX1, rfl, by decide, (xin_33 _ (List.mem_of_getElem? (i := 9) rfl)), rfl, inlX1, tyX1_ok, nmX1, rfl, rfl⟩
theorem xv_66 : xview lay_X lay_co [11, 42, 43, 12, 19, 20, 13, 1, 12, 23, 34, 39, 41, 13, 14, 15, 21] := xview_of (by decide +kernel)
theorem xv_67 : xview lay_X lay_co [11, 42, 43, 23, 30, 31, 24, 1, 12, 23, 34, 39, 41, 24, 25, 26, 32] := xview_of (by decide +kernel)
theorem dX10_nextCost_0 : decode cX10_nextCost 0 = .ok (.aload_n 0, 1) := by decide +kernel
theorem dX10_nextCost_1 : decode cX10_nextCost 1 = .ok (.iload_n 1, 1) := by decide +kernel
theorem dX10_nextCost_2 : decode cX10_nextCost 2 = .ok (.invokevirtual 181, 3) := by decide +kernel
theorem dX10_nextCost_5 : decode cX10_nextCost 5 = .ok (.aload_n 0, 1) := by decide +kernel
theorem dX10_nextCost_6 : decode cX10_nextCost 6 = .ok (.getfield 27, 3) := by decide +kernel
theorem dX10_nextCost_9 : decode cX10_nextCost 9 = .ok (.iload_n 1, 1) := by decide +kernel
theorem dX10_nextCost_10 : decode cX10_nextCost 10 = .ok (.invokevirtual 184, 3) := by decide +kernel
theorem dX10_nextCost_13 : decode cX10_nextCost 13 = .ok (.astore_n 2, 1) := by decide +kernel
theorem dX10_nextCost_14 : decode cX10_nextCost 14 = .ok (.aload_n 0, 1) := by decide +kernel
theorem dX10_nextCost_15 : decode cX10_nextCost 15 = .ok (.getfield 27, 3) := by decide +kernel
theorem dX10_nextCost_18 : decode cX10_nextCost 18 = .ok (.getfield 136, 3) := by decide +kernel
theorem dX10_nextCost_21 : decode cX10_nextCost 21 = .ok (.iconst 2, 1) := by decide +kernel
theorem dX10_nextCost_22 : decode cX10_nextCost 22 = .ok (.if_icmp .ne 10, 3) := by decide +kernel
theorem dX10_nextCost_25 : decode cX10_nextCost 25 = .ok (.aload_n 2, 1) := by decide +kernel
theorem dX10_nextCost_26 : decode cX10_nextCost 26 = .ok (.getfield 188, 3) := by decide +kernel
theorem dX10_nextCost_29 : decode cX10_nextCost 29 = .ok (.ifCond .ne 5, 3) := by decide +kernel
theorem dX10_nextCost_32 : decode cX10_nextCost 32 = .ok (.iconst 0, 1) := by decide +kernel
theorem dX10_nextCost_33 : decode cX10_nextCost 33 = .ok (.ireturn, 1) := by decide +kernel
theorem dX10_nextCost_34 : decode cX10_nextCost 34 = .ok (.aload_n 0, 1) := by decide +kernel
theorem dX10_nextCost_35 : decode cX10_nextCost 35 = .ok (.getfield 27, 3) := by decide +kernel
theorem dX10_nextCost_38 : decode cX10_nextCost 38 = .ok (.aload_n 2, 1) := by decide +kernel
theorem dX10_nextCost_39 : decode cX10_nextCost 39 = .ok (.aload_n 2, 1) := by decide +kernel
theorem dX10_nextCost_40 : decode cX10_nextCost 40 = .ok (.getfield 278, 3) := by decide +kernel
theorem dX10_nextCost_43 : decode cX10_nextCost 43 = .ok (.iconst 0, 1) := by decide +kernel
theorem dX10_nextCost_44 : decode cX10_nextCost 44 = .ok (.aload_n 2, 1) := by decide +kernel
theorem dX10_nextCost_45 : decode cX10_nextCost 45 = .ok (.invokevirtual 281, 3) := by decide +kernel
theorem dX10_nextCost_48 : decode cX10_nextCost 48 = .ok (.invokevirtual 284, 3) := by decide +kernel
theorem dX10_nextCost_51 : decode cX10_nextCost 51 = .ok (.ireturn, 1) := by decide +kernel
def f_X_nextCost (e : Int) (m : xM) : Option (Int × xM) :=
     (Option.bind (f_X_checkEnd e m) fun q0 =>
      (if xw e = 0 then (if xw (m 11 8) = xw 2 then (if xw (m 12 5) = 0 then some (0, m)
      else (Option.bind (f_E_next (xvw [12, 13, 14, 15, 16, 17, 18, 19, 20, 21, 22] m)) fun q3 =>
      (Option.bind (f_L_cost 0 q3 (xvw [11, 42, 43, 12, 19, 20, 13] m)) fun q4 =>
      some (q4.1, (xmg [11, 42, 43, 12, 19, 20, 13] 7 m q4.2)))))
      else some (0, m))
      else (if xw e = 1 then (if xw (m 11 8) = xw 2 then (if xw (m 23 5) = 0 then some (0, m)
      else (Option.bind (f_E_next (xvw [23, 24, 25, 26, 27, 28, 29, 30, 31, 32, 33] m)) fun q6 =>
      (Option.bind (f_L_cost 0 q6 (xvw [11, 42, 43, 23, 30, 31, 24] m)) fun q7 =>
      some (q7.1, (xmg [11, 42, 43, 23, 30, 31, 24] 7 m q7.2)))))
      else some (0, m))
      else none)))
set_option maxRecDepth 1000000 in
set_option maxHeartbeats 4000000 in
theorem t_X_nextCost {Γ : xG} {d : Nat} (hd9 : 3 ≤ d) (C : xC Γ lay_X RX10 cX10_nextCost 3 d) (e : Int) {r : Int} {m9 : xM} (hR : xRi Γ lay_X cX10_nextCost r m9) (m : xM) (h : f_X_nextCost e m = some (r, m9)) : xW Γ lay_X 3 0 [(0, .inr (.inr (some 0))), (1, .inl e)] [] m := by
  unfold f_X_nextCost at h
  refine x_aload_n C dX10_nextCost_0 rfl ?_
  refine x_iload_n C dX10_nextCost_1 rfl ?_
  obtain ⟨q0, hq0, h⟩ := x_bind h
  refine x_callVI C dX10_nextCost_2 (xin_26 _ (List.mem_of_getElem? (i := 23) rfl)) xy_X10_checkEnd (xi_X10_checkEnd) (xs_X10_checkEnd) (by omega) (by decide) (b := 0) rfl ⟨_, _, rfl⟩ (av := [.inl e]) rfl (Nat.le_of_ble_eq_true rfl) (c_X_checkEnd _ _ _ _ hq0) rfl ?_
  refine x_aload_n C dX10_nextCost_5 rfl ?_
  refine x_getR C dX10_nextCost_6 fF_X10_27 rfl rfl ?_
  refine x_iload_n C dX10_nextCost_9 rfl ?_
  refine x_ite h (fun hk92 h => ?_) (fun _ h => ?_)
  · refine x_callVp C dX10_nextCost_10 (xin_27 _ (List.mem_of_getElem? (i := 3) rfl)) xy_X3_endOf (xi_X3_endOf) (xs_X3_endOf) [11, 1, 12, 23, 34, 39, 41, 42] xv_59 (by omega) (by decide) (b := 0) rfl ⟨_, _, rfl⟩ (av := [.inl e]) rfl (Nat.le_of_ble_eq_true rfl) (c_endOf0 _ _ _ (by first | decide | assumption | exact xw_1m0 (by assumption) | exact xw_1m1 (by assumption) | exact xw_ne1 (by assumption) | exact xw_n1m0 (by assumption))) rfl ?_
    refine x_astore_n C dX10_nextCost_13 (by decide) ?_
    refine x_aload_n C dX10_nextCost_14 rfl ?_
    refine x_getR C dX10_nextCost_15 fF_X10_27 rfl rfl ?_
    refine x_getI C dX10_nextCost_18 fF_X10_136 rfl rfl ?_
    refine x_iconst C dX10_nextCost_21 ?_
    refine x_icmp_ne C 32 dX10_nextCost_22 (by decide) h (fun h => ?_) (fun h => ?_)
    · refine x_iconst C dX10_nextCost_32 ?_
      exact x_ireturn hR dX10_nextCost_33 h
    · refine x_aload_n C dX10_nextCost_25 rfl ?_
      refine x_getI C dX10_nextCost_26 fF_X10_188 rfl rfl ?_
      refine x_if_ne C 34 dX10_nextCost_29 (by decide) h (fun h => ?_) (fun h => ?_)
      · refine x_aload_n C dX10_nextCost_34 rfl ?_
        refine x_getR C dX10_nextCost_35 fF_X10_27 rfl rfl ?_
        refine x_aload_n C dX10_nextCost_38 rfl ?_
        refine x_aload_n C dX10_nextCost_39 rfl ?_
        refine x_getR C dX10_nextCost_40 fF_X10_278 rfl rfl ?_
        refine x_iconst C dX10_nextCost_43 ?_
        refine x_aload_n C dX10_nextCost_44 rfl ?_
        obtain ⟨q3, hq3, h⟩ := x_bind h
        refine x_callVp C dX10_nextCost_45 (xin_33 _ (List.mem_of_getElem? (i := 10) rfl)) xy_X1_nextFrameSize (xi_X1_nextFrameSize) (xs_X1_nextFrameSize) [12, 13, 14, 15, 16, 17, 18, 19, 20, 21, 22] xv_62 (by omega) (by decide) (b := 0) rfl ⟨_, _, rfl⟩ (av := []) rfl (Nat.le_of_ble_eq_true rfl) (c_E_next _ _ _ hq3) rfl ?_
        obtain ⟨q4, hq4, h⟩ := x_bind h
        refine x_callV0 C dX10_nextCost_48 (xin_33 _ (List.mem_of_getElem? (i := 14) rfl)) xy_X3_costOf (xi_X3_costOf) (xs_X3_costOf) [11, 42, 43, 12, 19, 20, 13, 1, 12, 23, 34, 39, 41, 13, 14, 15, 21] xv_66 (T0 := [11, 42, 43, 12, 19, 20, 13]) rfl (by omega) (by decide) (b := 0) rfl ⟨_, _, rfl⟩ (av := [.inr (.inr (some 3)), .inr (.inr (some 6)), .inl 0, .inl q3]) rfl (Nat.le_of_ble_eq_true rfl) (c_L_cost _ _ _ _ q4.1 q4.2 hq4) rfl ?_
        exact x_ireturn hR dX10_nextCost_51 h
      · refine x_iconst C dX10_nextCost_32 ?_
        exact x_ireturn hR dX10_nextCost_33 h
  · obtain ⟨hk92, h⟩ := x_some1 h
    refine x_callVp C dX10_nextCost_10 (xin_27 _ (List.mem_of_getElem? (i := 3) rfl)) xy_X3_endOf (xi_X3_endOf) (xs_X3_endOf) [11, 1, 12, 23, 34, 39, 41, 42] xv_59 (by omega) (by decide) (b := 0) rfl ⟨_, _, rfl⟩ (av := [.inl e]) rfl (Nat.le_of_ble_eq_true rfl) (c_endOf1 _ _ _ (by first | decide | assumption | exact xw_1m0 (by assumption) | exact xw_1m1 (by assumption) | exact xw_ne1 (by assumption) | exact xw_n1m0 (by assumption))) rfl ?_
    refine x_astore_n C dX10_nextCost_13 (by decide) ?_
    refine x_aload_n C dX10_nextCost_14 rfl ?_
    refine x_getR C dX10_nextCost_15 fF_X10_27 rfl rfl ?_
    refine x_getI C dX10_nextCost_18 fF_X10_136 rfl rfl ?_
    refine x_iconst C dX10_nextCost_21 ?_
    refine x_icmp_ne C 32 dX10_nextCost_22 (by decide) h (fun h => ?_) (fun h => ?_)
    · refine x_iconst C dX10_nextCost_32 ?_
      exact x_ireturn hR dX10_nextCost_33 h
    · refine x_aload_n C dX10_nextCost_25 rfl ?_
      refine x_getI C dX10_nextCost_26 fF_X10_188 rfl rfl ?_
      refine x_if_ne C 34 dX10_nextCost_29 (by decide) h (fun h => ?_) (fun h => ?_)
      · refine x_aload_n C dX10_nextCost_34 rfl ?_
        refine x_getR C dX10_nextCost_35 fF_X10_27 rfl rfl ?_
        refine x_aload_n C dX10_nextCost_38 rfl ?_
        refine x_aload_n C dX10_nextCost_39 rfl ?_
        refine x_getR C dX10_nextCost_40 fF_X10_278 rfl rfl ?_
        refine x_iconst C dX10_nextCost_43 ?_
        refine x_aload_n C dX10_nextCost_44 rfl ?_
        obtain ⟨q6, hq6, h⟩ := x_bind h
        refine x_callVp C dX10_nextCost_45 (xin_33 _ (List.mem_of_getElem? (i := 10) rfl)) xy_X1_nextFrameSize (xi_X1_nextFrameSize) (xs_X1_nextFrameSize) [23, 24, 25, 26, 27, 28, 29, 30, 31, 32, 33] xv_63 (by omega) (by decide) (b := 0) rfl ⟨_, _, rfl⟩ (av := []) rfl (Nat.le_of_ble_eq_true rfl) (c_E_next _ _ _ hq6) rfl ?_
        obtain ⟨q7, hq7, h⟩ := x_bind h
        refine x_callV0 C dX10_nextCost_48 (xin_33 _ (List.mem_of_getElem? (i := 14) rfl)) xy_X3_costOf (xi_X3_costOf) (xs_X3_costOf) [11, 42, 43, 23, 30, 31, 24, 1, 12, 23, 34, 39, 41, 24, 25, 26, 32] xv_67 (T0 := [11, 42, 43, 23, 30, 31, 24]) rfl (by omega) (by decide) (b := 0) rfl ⟨_, _, rfl⟩ (av := [.inr (.inr (some 3)), .inr (.inr (some 6)), .inl 0, .inl q6]) rfl (Nat.le_of_ble_eq_true rfl) (c_L_cost _ _ _ _ q7.1 q7.2 hq7) rfl ?_
        exact x_ireturn hR dX10_nextCost_51 h
      · refine x_iconst C dX10_nextCost_32 ?_
        exact x_ireturn hR dX10_nextCost_33 h
theorem c_X_nextCost (l : Launch) (e : Int) (m : xM) (r : Int) (m9 : xM) (h : f_X_nextCost e m = some (r, m9)) : xMet l yX10_nextCost cX10_nextCost 3 (some .int) 3 lay_X [.inr (.inr (some 0)), .inl e] m (some (.inl r)) m9 :=
  xMet_i (by decide +kernel) (Nat.le_of_ble_eq_true rfl) (fun Γ C hR hl9 => t_X_nextCost (Nat.le_refl _) C e hR m h)
/-! ===== yX10_nextCost ===== -/
def h_X_nextCost (e : Int) (m : xM) : Option (Nat) :=
     (xthr (h_X_checkEnd e m) none)
set_option maxRecDepth 1000000 in
set_option maxHeartbeats 4000000 in
theorem t_h_X_nextCost {Γ : xG} {d : Nat} (hd9 : 7 ≤ d) (C : xC Γ lay_X RX10 cX10_nextCost 3 d) (CT : xCT Γ) (e : Int) {r : Nat} {m : xM} (hR : xRt Γ lay_X m (xEx r)) (h : h_X_nextCost e m = some r) : xW Γ lay_X 3 0 [(0, .inr (.inr (some 0))), (1, .inl e)] [] m := by
  unfold h_X_nextCost at h
  refine x_aload_n C dX10_nextCost_0 rfl ?_
  refine x_iload_n C dX10_nextCost_1 rfl ?_
  rcases x_thr h with h9 | h
  · exact x_callVIT C CT hR dX10_nextCost_2 (xin_26 _ (List.mem_of_getElem? (i := 23) rfl)) xy_X10_checkEnd (xi_X10_checkEnd) (xs_X10_checkEnd) (by omega) (by decide) (b := 0) rfl ⟨_, _, rfl⟩ (av := [.inl e]) rfl (Nat.le_of_ble_eq_true rfl) (ch_X_checkEnd _ (xCT_l CT) _ _ _ h9) rfl
  cases h
theorem ch_X_nextCost (l : Launch) (hl : l.stackTraces = false) (e : Int) (m : xM) (r : Nat) (h : h_X_nextCost e m = some r) : xMetT l yX10_nextCost cX10_nextCost 3 (some .int) 7 lay_X [.inr (.inr (some 0)), .inl e] m (xEx r) :=
  xMet_T hl (by decide +kernel) (Nat.le_of_ble_eq_true rfl) (fun Γ C CT hR hl9 => t_h_X_nextCost (Nat.le_refl _) C CT e hR h)
/-! ===== yX10_ticksToFinish ===== -/
theorem fF_X10_31 : xF RX10 31 12 3 (.object "ModemLink$Line") true := ⟨RX10, TX10, 16, tyX10, rfl, by decide, (xin_1 _ (List.mem_of_getElem? (i := 22) rfl)), rfl, inlX10, tyX10_ok, nmX10, rfl, rfl⟩
theorem xy_X3_copyFrom : xY yX3_copyFrom cX3_copyFrom 2 none 1 := ⟨(xin_35 _ (List.mem_of_getElem? (i := 12) rfl)), (xin_1 _ (List.mem_of_getElem? (i := 20) rfl)), by decide, by decide, by decide +kernel⟩
theorem xi_X3_copyFrom : Cond.instanceMethod yX3_copyFrom ∈ wsL_law := (xin_35 _ (List.mem_of_getElem? (i := 10) rfl))
theorem xs_X3_copyFrom : Cond.selects yX3_copyFrom.cls yX3_copyFrom yX3_copyFrom ∈ wsL_law := (xin_35 _ (List.mem_of_getElem? (i := 11) rfl))
def xT_2 : List Nat := [44, 45, 46, 47, 48, 49, 50, 51, 52, 53, 54, 55, 56, 57, 58, 59, 60, 61, 62, 63, 64, 65, 66, 67, 68, 69, 70, 71, 72, 73, 74, 75, 76, 11, 12, 13, 14, 15, 16, 17, 18, 19, 20, 21, 22, 23, 24, 25, 26, 27, 28, 29, 30, 31, 32, 33, 34, 35, 36, 37, 38, 39, 40, 41, 42, 43, 1]
theorem xv_68 : xview lay_X lay_LL xT_2 := xview_of (by decide +kernel)
def xT_3 : List Nat := [44, 45, 46, 47, 48, 49, 50, 51, 52, 53, 54, 55, 56, 57, 58, 59, 60, 61, 62, 63, 64, 65, 66, 67, 68, 69, 70, 71, 72, 73, 74, 75, 76, 11, 12, 13, 14, 15, 16, 17, 18, 19, 20, 21, 22, 23, 24, 25, 26, 27, 28, 29, 30, 31, 32, 33, 34, 35, 36, 37, 38, 39, 40, 41, 42, 43]
theorem xy_X3_runToFinish : xY yX3_runToFinish cX3_runToFinish 2 (some .int) 0 := ⟨(xin_36 _ (List.mem_of_getElem? (i := 22) rfl)), (xin_1 _ (List.mem_of_getElem? (i := 20) rfl)), by decide, by decide, by decide +kernel⟩
theorem xi_X3_runToFinish : Cond.instanceMethod yX3_runToFinish ∈ wsL_law := (xin_36 _ (List.mem_of_getElem? (i := 20) rfl))
theorem xs_X3_runToFinish : Cond.selects yX3_runToFinish.cls yX3_runToFinish yX3_runToFinish ∈ wsL_law := (xin_36 _ (List.mem_of_getElem? (i := 21) rfl))
def xT_4 : List Nat := [44, 45, 46, 47, 48, 49, 50, 51, 52, 53, 54, 55, 56, 57, 58, 59, 60, 61, 62, 63, 64, 65, 66, 67, 68, 69, 70, 71, 72, 73, 74, 75, 76, 1, 2, 3, 4, 5]
theorem xv_69 : xview lay_X lay_L0 xT_4 := xview_of (by decide +kernel)
theorem dX10_ticksToFinish_0 : decode cX10_ticksToFinish 0 = .ok (.aload_n 0, 1) := by decide +kernel
theorem dX10_ticksToFinish_1 : decode cX10_ticksToFinish 1 = .ok (.getfield 31, 3) := by decide +kernel
theorem dX10_ticksToFinish_4 : decode cX10_ticksToFinish 4 = .ok (.aload_n 0, 1) := by decide +kernel
theorem dX10_ticksToFinish_5 : decode cX10_ticksToFinish 5 = .ok (.getfield 27, 3) := by decide +kernel
theorem dX10_ticksToFinish_8 : decode cX10_ticksToFinish 8 = .ok (.invokevirtual 288, 3) := by decide +kernel
theorem dX10_ticksToFinish_11 : decode cX10_ticksToFinish 11 = .ok (.aload_n 0, 1) := by decide +kernel
theorem dX10_ticksToFinish_12 : decode cX10_ticksToFinish 12 = .ok (.getfield 31, 3) := by decide +kernel
theorem dX10_ticksToFinish_15 : decode cX10_ticksToFinish 15 = .ok (.invokevirtual 291, 3) := by decide +kernel
theorem dX10_ticksToFinish_18 : decode cX10_ticksToFinish 18 = .ok (.ireturn, 1) := by decide +kernel
def f_X_ticksToFinish (m : xM) : Option (Int × xM) :=
     (Option.bind (f_L_cp (xvw xT_3 m)) fun q0 =>
      (Option.bind (f_L_runToFinish (xvw xT_4 (xmg xT_3 66 m q0))) fun q1 =>
      some (q1.1, (xmg xT_4 38 (xmg xT_3 66 m q0) q1.2))))
set_option maxRecDepth 1000000 in
set_option maxHeartbeats 4000000 in
theorem t_X_ticksToFinish {Γ : xG} {d : Nat} (hd9 : 8 ≤ d) (C : xC Γ lay_X RX10 cX10_ticksToFinish 1 d) {r : Int} {m9 : xM} (hR : xRi Γ lay_X cX10_ticksToFinish r m9) (m : xM) (h : f_X_ticksToFinish m = some (r, m9)) : xW Γ lay_X 1 0 [(0, .inr (.inr (some 0)))] [] m := by
  unfold f_X_ticksToFinish at h
  refine x_aload_n C dX10_ticksToFinish_0 rfl ?_
  refine x_getR C dX10_ticksToFinish_1 fF_X10_31 rfl rfl ?_
  refine x_aload_n C dX10_ticksToFinish_4 rfl ?_
  refine x_getR C dX10_ticksToFinish_5 fF_X10_27 rfl rfl ?_
  obtain ⟨q0, hq0, h⟩ := x_bind h
  refine x_callV0 C dX10_ticksToFinish_8 (xin_35 _ (List.mem_of_getElem? (i := 9) rfl)) xy_X3_copyFrom (xi_X3_copyFrom) (xs_X3_copyFrom) xT_2 xv_68 (T0 := xT_3) rfl (by omega) (by decide) (b := 0) rfl ⟨_, _, rfl⟩ (av := [.inr (.inr (some 33))]) rfl (Nat.le_of_ble_eq_true rfl) (c_L_cp _ _ _ hq0) rfl ?_
  refine x_aload_n C dX10_ticksToFinish_11 rfl ?_
  refine x_getR C dX10_ticksToFinish_12 fF_X10_31 rfl rfl ?_
  obtain ⟨q1, hq1, h⟩ := x_bind h
  refine x_callV C dX10_ticksToFinish_15 (xin_36 _ (List.mem_of_getElem? (i := 19) rfl)) xy_X3_runToFinish (xi_X3_runToFinish) (xs_X3_runToFinish) xT_4 xv_69 (by omega) (by decide) (b := 0) rfl ⟨_, _, rfl⟩ (av := []) rfl (Nat.le_of_ble_eq_true rfl) (c_L_runToFinish _ _ q1.1 q1.2 hq1) rfl ?_
  exact x_ireturn hR dX10_ticksToFinish_18 h
theorem c_X_ticksToFinish (l : Launch) (m : xM) (r : Int) (m9 : xM) (h : f_X_ticksToFinish m = some (r, m9)) : xMet l yX10_ticksToFinish cX10_ticksToFinish 1 (some .int) 8 lay_X [.inr (.inr (some 0))] m (some (.inl r)) m9 :=
  xMet_i (by decide +kernel) (Nat.le_of_ble_eq_true rfl) (fun Γ C hR hl9 => t_X_ticksToFinish (Nat.le_refl _) C hR m h)
/-! ===== yX10_receivedBehind ===== -/
theorem xy_X3_run : xY yX3_run cX3_run 3 none 1 := ⟨(xin_49 _ (List.mem_of_getElem? (i := 13) rfl)), (xin_1 _ (List.mem_of_getElem? (i := 20) rfl)), by decide, by decide, by decide +kernel⟩
theorem xi_X3_run : Cond.instanceMethod yX3_run ∈ wsL_law := (xin_49 _ (List.mem_of_getElem? (i := 11) rfl))
theorem xs_X3_run : Cond.selects yX3_run.cls yX3_run yX3_run ∈ wsL_law := (xin_49 _ (List.mem_of_getElem? (i := 12) rfl))
theorem xv_70 : xview lay_X lay_eo [44, 1, 45, 56, 67, 72, 74, 75] := xview_of (by decide +kernel)
theorem dX10_receivedBehind_0 : decode cX10_receivedBehind 0 = .ok (.aload_n 0, 1) := by decide +kernel
theorem dX10_receivedBehind_1 : decode cX10_receivedBehind 1 = .ok (.iload_n 1, 1) := by decide +kernel
theorem dX10_receivedBehind_2 : decode cX10_receivedBehind 2 = .ok (.invokevirtual 181, 3) := by decide +kernel
theorem dX10_receivedBehind_5 : decode cX10_receivedBehind 5 = .ok (.iload_n 2, 1) := by decide +kernel
theorem dX10_receivedBehind_6 : decode cX10_receivedBehind 6 = .ok (.ifCond .lt 10, 3) := by decide +kernel
theorem dX10_receivedBehind_9 : decode cX10_receivedBehind 9 = .ok (.iload_n 2, 1) := by decide +kernel
theorem dX10_receivedBehind_10 : decode cX10_receivedBehind 10 = .ok (.sipush 400, 3) := by decide +kernel
theorem dX10_receivedBehind_13 : decode cX10_receivedBehind 13 = .ok (.if_icmp .le 14, 3) := by decide +kernel
theorem dX10_receivedBehind_16 : decode cX10_receivedBehind 16 = .ok (.new 126, 3) := by decide +kernel
theorem dX10_receivedBehind_19 : decode cX10_receivedBehind 19 = .ok (.dup, 1) := by decide +kernel
theorem dX10_receivedBehind_20 : decode cX10_receivedBehind 20 = .ok (.ldc_w 294, 3) := by decide +kernel
theorem dX10_receivedBehind_23 : decode cX10_receivedBehind 23 = .ok (.invokespecial 130, 3) := by decide +kernel
theorem dX10_receivedBehind_26 : decode cX10_receivedBehind 26 = .ok (.athrow, 1) := by decide +kernel
theorem dX10_receivedBehind_27 : decode cX10_receivedBehind 27 = .ok (.aload_n 0, 1) := by decide +kernel
theorem dX10_receivedBehind_28 : decode cX10_receivedBehind 28 = .ok (.getfield 31, 3) := by decide +kernel
theorem dX10_receivedBehind_31 : decode cX10_receivedBehind 31 = .ok (.aload_n 0, 1) := by decide +kernel
theorem dX10_receivedBehind_32 : decode cX10_receivedBehind 32 = .ok (.getfield 27, 3) := by decide +kernel
theorem dX10_receivedBehind_35 : decode cX10_receivedBehind 35 = .ok (.invokevirtual 288, 3) := by decide +kernel
theorem dX10_receivedBehind_38 : decode cX10_receivedBehind 38 = .ok (.aload_n 0, 1) := by decide +kernel
theorem dX10_receivedBehind_39 : decode cX10_receivedBehind 39 = .ok (.getfield 31, 3) := by decide +kernel
theorem dX10_receivedBehind_42 : decode cX10_receivedBehind 42 = .ok (.iload_n 2, 1) := by decide +kernel
theorem dX10_receivedBehind_43 : decode cX10_receivedBehind 43 = .ok (.invokevirtual 296, 3) := by decide +kernel
theorem dX10_receivedBehind_46 : decode cX10_receivedBehind 46 = .ok (.aload_n 0, 1) := by decide +kernel
theorem dX10_receivedBehind_47 : decode cX10_receivedBehind 47 = .ok (.getfield 31, 3) := by decide +kernel
theorem dX10_receivedBehind_50 : decode cX10_receivedBehind 50 = .ok (.iload_n 1, 1) := by decide +kernel
theorem dX10_receivedBehind_51 : decode cX10_receivedBehind 51 = .ok (.invokevirtual 184, 3) := by decide +kernel
theorem dX10_receivedBehind_54 : decode cX10_receivedBehind 54 = .ok (.getfield 209, 3) := by decide +kernel
theorem dX10_receivedBehind_57 : decode cX10_receivedBehind 57 = .ok (.ireturn, 1) := by decide +kernel
def f_X_receivedBehind_16 (e : Int) (z : Int) (m : xM) : Option (Int × xM) :=
     none
set_option maxRecDepth 1000000 in
set_option maxHeartbeats 4000000 in
theorem t_X_receivedBehind_16 {Γ : xG} {d : Nat} (hd9 : 8 ≤ d) (C : xC Γ lay_X RX10 cX10_receivedBehind 3 d) (e : Int) (z : Int) {r : Int} {m9 : xM} (hR : xRi Γ lay_X cX10_receivedBehind r m9) (m : xM) (h : f_X_receivedBehind_16 e z m = some (r, m9)) : xW Γ lay_X 3 16 [] [] m := by
  unfold f_X_receivedBehind_16 at h
  cases h
def f_X_receivedBehind (e : Int) (z : Int) (m : xM) : Option (Int × xM) :=
     (Option.bind (f_X_checkEnd e m) fun q0 =>
      (if xw z < 0 then f_X_receivedBehind_16 e z m
      else (if xw 400 < xw z then f_X_receivedBehind_16 e z m
      else (Option.bind (f_L_cp (xvw xT_3 m)) fun q1 =>
      (Option.bind (f_L_run z (xvw xT_4 (xmg xT_3 66 m q1))) fun q2 =>
      (if xw e = 0 then some (((xmg xT_4 38 (xmg xT_3 66 m q1) q2) 45 6), (xmg xT_4 38 (xmg xT_3 66 m q1) q2))
      else (if xw e = 1 then some (((xmg xT_4 38 (xmg xT_3 66 m q1) q2) 56 6), (xmg xT_4 38 (xmg xT_3 66 m q1) q2))
      else none)))))))
set_option maxRecDepth 1000000 in
set_option maxHeartbeats 4000000 in
theorem t_X_receivedBehind {Γ : xG} {d : Nat} (hd9 : 8 ≤ d) (C : xC Γ lay_X RX10 cX10_receivedBehind 3 d) (e : Int) (z : Int) {r : Int} {m9 : xM} (hR : xRi Γ lay_X cX10_receivedBehind r m9) (m : xM) (h : f_X_receivedBehind e z m = some (r, m9)) : xW Γ lay_X 3 0 [(0, .inr (.inr (some 0))), (1, .inl e), (2, .inl z)] [] m := by
  unfold f_X_receivedBehind at h
  refine x_aload_n C dX10_receivedBehind_0 rfl ?_
  refine x_iload_n C dX10_receivedBehind_1 rfl ?_
  obtain ⟨q0, hq0, h⟩ := x_bind h
  refine x_callVI C dX10_receivedBehind_2 (xin_26 _ (List.mem_of_getElem? (i := 23) rfl)) xy_X10_checkEnd (xi_X10_checkEnd) (xs_X10_checkEnd) (by omega) (by decide) (b := 0) rfl ⟨_, _, rfl⟩ (av := [.inl e]) rfl (Nat.le_of_ble_eq_true rfl) (c_X_checkEnd _ _ _ _ hq0) rfl ?_
  refine x_iload_n C dX10_receivedBehind_5 rfl ?_
  refine x_if_lt C 16 dX10_receivedBehind_6 (by decide) h (fun h => ?_) (fun h => ?_)
  · refine x_loc [] trivial ?_
    exact t_X_receivedBehind_16 hd9 C _ _ hR _ h
  · refine x_iload_n C dX10_receivedBehind_9 rfl ?_
    refine x_sipush C dX10_receivedBehind_10 (by decide) ?_
    refine x_icmp_le C 27 dX10_receivedBehind_13 (by decide) h (fun h => ?_) (fun h => ?_)
    · refine x_aload_n C dX10_receivedBehind_27 rfl ?_
      refine x_getR C dX10_receivedBehind_28 fF_X10_31 rfl rfl ?_
      refine x_aload_n C dX10_receivedBehind_31 rfl ?_
      refine x_getR C dX10_receivedBehind_32 fF_X10_27 rfl rfl ?_
      obtain ⟨q1, hq1, h⟩ := x_bind h
      refine x_callV0 C dX10_receivedBehind_35 (xin_35 _ (List.mem_of_getElem? (i := 9) rfl)) xy_X3_copyFrom (xi_X3_copyFrom) (xs_X3_copyFrom) xT_2 xv_68 (T0 := xT_3) rfl (by omega) (by decide) (b := 0) rfl ⟨_, _, rfl⟩ (av := [.inr (.inr (some 33))]) rfl (Nat.le_of_ble_eq_true rfl) (c_L_cp _ _ _ hq1) rfl ?_
      refine x_aload_n C dX10_receivedBehind_38 rfl ?_
      refine x_getR C dX10_receivedBehind_39 fF_X10_31 rfl rfl ?_
      refine x_iload_n C dX10_receivedBehind_42 rfl ?_
      obtain ⟨q2, hq2, h⟩ := x_bind h
      refine x_callV C dX10_receivedBehind_43 (xin_49 _ (List.mem_of_getElem? (i := 10) rfl)) xy_X3_run (xi_X3_run) (xs_X3_run) xT_4 xv_69 (by omega) (by decide) (b := 0) rfl ⟨_, _, rfl⟩ (av := [.inl z]) rfl (Nat.le_of_ble_eq_true rfl) (c_L_run _ _ _ _ hq2) rfl ?_
      refine x_aload_n C dX10_receivedBehind_46 rfl ?_
      refine x_getR C dX10_receivedBehind_47 fF_X10_31 rfl rfl ?_
      refine x_iload_n C dX10_receivedBehind_50 rfl ?_
      refine x_ite h (fun hk94 h => ?_) (fun _ h => ?_)
      · refine x_callVp C dX10_receivedBehind_51 (xin_27 _ (List.mem_of_getElem? (i := 3) rfl)) xy_X3_endOf (xi_X3_endOf) (xs_X3_endOf) [44, 1, 45, 56, 67, 72, 74, 75] xv_70 (by omega) (by decide) (b := 0) rfl ⟨_, _, rfl⟩ (av := [.inl e]) rfl (Nat.le_of_ble_eq_true rfl) (c_endOf0 _ _ _ (by first | decide | assumption | exact xw_1m0 (by assumption) | exact xw_1m1 (by assumption) | exact xw_ne1 (by assumption) | exact xw_n1m0 (by assumption))) rfl ?_
        refine x_getI C dX10_receivedBehind_54 fF_X10_209 rfl rfl ?_
        exact x_ireturn hR dX10_receivedBehind_57 h
      · obtain ⟨hk94, h⟩ := x_some1 h
        refine x_callVp C dX10_receivedBehind_51 (xin_27 _ (List.mem_of_getElem? (i := 3) rfl)) xy_X3_endOf (xi_X3_endOf) (xs_X3_endOf) [44, 1, 45, 56, 67, 72, 74, 75] xv_70 (by omega) (by decide) (b := 0) rfl ⟨_, _, rfl⟩ (av := [.inl e]) rfl (Nat.le_of_ble_eq_true rfl) (c_endOf1 _ _ _ (by first | decide | assumption | exact xw_1m0 (by assumption) | exact xw_1m1 (by assumption) | exact xw_ne1 (by assumption) | exact xw_n1m0 (by assumption))) rfl ?_
        refine x_getI C dX10_receivedBehind_54 fF_X10_209 rfl rfl ?_
        exact x_ireturn hR dX10_receivedBehind_57 h
    · refine x_loc [] trivial ?_
      exact t_X_receivedBehind_16 hd9 C _ _ hR _ h
theorem c_X_receivedBehind (l : Launch) (e : Int) (z : Int) (m : xM) (r : Int) (m9 : xM) (h : f_X_receivedBehind e z m = some (r, m9)) : xMet l yX10_receivedBehind cX10_receivedBehind 3 (some .int) 8 lay_X [.inr (.inr (some 0)), .inl e, .inl z] m (some (.inl r)) m9 :=
  xMet_i (by decide +kernel) (Nat.le_of_ble_eq_true rfl) (fun Γ C hR hl9 => t_X_receivedBehind (Nat.le_refl _) C e z hR m h)

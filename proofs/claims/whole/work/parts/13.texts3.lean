/-! ===== queries ===== -/
theorem fF_X5_15 : xF RX5 15 7 1 (.object "ModemLink$Log") true := ⟨RX5, TX5, 2, tyX5, rfl, by decide, (xin_6 _ (List.mem_of_getElem? (i := 17) rfl)), rfl, inlX5, tyX5_ok, nmX5, rfl, rfl⟩
theorem xy_X4_propertyOf : xY yX4_propertyOf cX4_propertyOf 4 (some .int) 2 := ⟨(xin_31 _ (List.mem_of_getElem? (i := 20) rfl)), (xin_4 _ (List.mem_of_getElem? (i := 9) rfl)), by decide, by decide, by decide +kernel⟩
theorem xi_X4_propertyOf : Cond.instanceMethod yX4_propertyOf ∈ wsL_law := (xin_31 _ (List.mem_of_getElem? (i := 18) rfl))
theorem xs_X4_propertyOf : Cond.selects yX4_propertyOf.cls yX4_propertyOf yX4_propertyOf ∈ wsL_law := (xin_31 _ (List.mem_of_getElem? (i := 19) rfl))
theorem xv_46 : xview lay_Q lay_G [3, 4] := xview_of (by decide +kernel)
theorem dX5_valueOf_0 : decode cX5_valueOf 0 = .ok (.iload_n 1, 1) := by decide +kernel
theorem dX5_valueOf_1 : decode cX5_valueOf 1 = .ok (.tableswitch 81 (-5) (-1) #[69, 57, 47, 37, 35], 35) := by decide +kernel
theorem dX5_valueOf_36 : decode cX5_valueOf 36 = .ok (.iload_n 2, 1) := by decide +kernel
theorem dX5_valueOf_37 : decode cX5_valueOf 37 = .ok (.ireturn, 1) := by decide +kernel
theorem dX5_valueOf_38 : decode cX5_valueOf 38 = .ok (.aload_n 0, 1) := by decide +kernel
theorem dX5_valueOf_39 : decode cX5_valueOf 39 = .ok (.getfield 15, 3) := by decide +kernel
theorem dX5_valueOf_42 : decode cX5_valueOf 42 = .ok (.iload_n 2, 1) := by decide +kernel
theorem dX5_valueOf_43 : decode cX5_valueOf 43 = .ok (.iconst 0, 1) := by decide +kernel
theorem dX5_valueOf_44 : decode cX5_valueOf 44 = .ok (.invokevirtual 109, 3) := by decide +kernel
theorem dX5_valueOf_47 : decode cX5_valueOf 47 = .ok (.ireturn, 1) := by decide +kernel
theorem dX5_valueOf_48 : decode cX5_valueOf 48 = .ok (.aload_n 0, 1) := by decide +kernel
theorem dX5_valueOf_49 : decode cX5_valueOf 49 = .ok (.getfield 15, 3) := by decide +kernel
theorem dX5_valueOf_52 : decode cX5_valueOf 52 = .ok (.iload_n 2, 1) := by decide +kernel
theorem dX5_valueOf_53 : decode cX5_valueOf 53 = .ok (.iconst 1, 1) := by decide +kernel
theorem dX5_valueOf_54 : decode cX5_valueOf 54 = .ok (.invokevirtual 109, 3) := by decide +kernel
theorem dX5_valueOf_57 : decode cX5_valueOf 57 = .ok (.ireturn, 1) := by decide +kernel
theorem dX5_valueOf_58 : decode cX5_valueOf 58 = .ok (.aload_n 0, 1) := by decide +kernel
theorem dX5_valueOf_59 : decode cX5_valueOf 59 = .ok (.getfield 15, 3) := by decide +kernel
theorem dX5_valueOf_62 : decode cX5_valueOf 62 = .ok (.iload_n 2, 1) := by decide +kernel
theorem dX5_valueOf_63 : decode cX5_valueOf 63 = .ok (.iconst 2, 1) := by decide +kernel
theorem dX5_valueOf_64 : decode cX5_valueOf 64 = .ok (.invokevirtual 109, 3) := by decide +kernel
theorem dX5_valueOf_67 : decode cX5_valueOf 67 = .ok (.iconst 1, 1) := by decide +kernel
theorem dX5_valueOf_68 : decode cX5_valueOf 68 = .ok (.iadd, 1) := by decide +kernel
theorem dX5_valueOf_69 : decode cX5_valueOf 69 = .ok (.ireturn, 1) := by decide +kernel
theorem dX5_valueOf_70 : decode cX5_valueOf 70 = .ok (.aload_n 0, 1) := by decide +kernel
theorem dX5_valueOf_71 : decode cX5_valueOf 71 = .ok (.getfield 15, 3) := by decide +kernel
theorem dX5_valueOf_74 : decode cX5_valueOf 74 = .ok (.iload_n 2, 1) := by decide +kernel
theorem dX5_valueOf_75 : decode cX5_valueOf 75 = .ok (.iconst 3, 1) := by decide +kernel
theorem dX5_valueOf_76 : decode cX5_valueOf 76 = .ok (.invokevirtual 109, 3) := by decide +kernel
theorem dX5_valueOf_79 : decode cX5_valueOf 79 = .ok (.iconst 1, 1) := by decide +kernel
theorem dX5_valueOf_80 : decode cX5_valueOf 80 = .ok (.iadd, 1) := by decide +kernel
theorem dX5_valueOf_81 : decode cX5_valueOf 81 = .ok (.ireturn, 1) := by decide +kernel
theorem dX5_valueOf_82 : decode cX5_valueOf 82 = .ok (.iload_n 1, 1) := by decide +kernel
theorem dX5_valueOf_83 : decode cX5_valueOf 83 = .ok (.ireturn, 1) := by decide +kernel
def f_Q_value (v : Int) (e : Int) (m : xM) : Option (Int) :=
     (if xw v = (-5) then (Option.bind (f_G_prop e 3 (xvw [3, 4] m)) fun q0 =>
      some (q0 + 1))
      else (if xw v = (-4) then (Option.bind (f_G_prop e 2 (xvw [3, 4] m)) fun q1 =>
      some (q1 + 1))
      else (if xw v = (-3) then (Option.bind (f_G_prop e 1 (xvw [3, 4] m)) fun q2 =>
      some q2)
      else (if xw v = (-2) then (Option.bind (f_G_prop e 0 (xvw [3, 4] m)) fun q3 =>
      some q3)
      else (if xw v = (-1) then some e
      else some v)))))
set_option maxRecDepth 1000000 in
set_option maxHeartbeats 4000000 in
theorem t_Q_value {Γ : xG} {d : Nat} (hd9 : 3 ≤ d) (C : xC Γ lay_Q RX5 cX5_valueOf 3 d) (v : Int) (e : Int) {r : Int} {m : xM} (hR : xRi Γ lay_Q cX5_valueOf r m) (h : f_Q_value v e m = some r) : xW Γ lay_Q 3 0 [(0, .inr (.inr (some 0))), (1, .inl v), (2, .inl e)] [] m := by
  unfold f_Q_value at h
  refine x_iload_n C dX5_valueOf_0 rfl ?_
  refine x_ite h (fun hc0 h => ?_) (fun hc0 h => ?_)
  · refine x_tabIn C 70 (-5) dX5_valueOf_1 hc0 (by decide) (by decide) rfl (by decide) ?_
    refine x_aload_n C dX5_valueOf_70 rfl ?_
    refine x_getR C dX5_valueOf_71 fF_X5_15 rfl rfl ?_
    refine x_iload_n C dX5_valueOf_74 rfl ?_
    refine x_iconst C dX5_valueOf_75 ?_
    obtain ⟨q0, hq0, h⟩ := x_bind h
    refine x_callVp C dX5_valueOf_76 (xin_68 _ (List.mem_of_getElem? (i := 2) rfl)) xy_X4_propertyOf (xi_X4_propertyOf) (xs_X4_propertyOf) [3, 4] xv_46 (by omega) (by decide) (b := 0) rfl ⟨_, _, rfl⟩ (av := [.inl e, .inl 3]) rfl (Nat.le_of_ble_eq_true rfl) (c_G_prop _ _ _ _ _ hq0) rfl ?_
    refine x_iconst C dX5_valueOf_79 ?_
    refine x_iadd C dX5_valueOf_80 ?_
    exact x_ireturnP hR dX5_valueOf_81 h
  refine x_ite h (fun hc1 h => ?_) (fun hc1 h => ?_)
  · refine x_tabIn C 58 (-4) dX5_valueOf_1 hc1 (by decide) (by decide) rfl (by decide) ?_
    refine x_aload_n C dX5_valueOf_58 rfl ?_
    refine x_getR C dX5_valueOf_59 fF_X5_15 rfl rfl ?_
    refine x_iload_n C dX5_valueOf_62 rfl ?_
    refine x_iconst C dX5_valueOf_63 ?_
    obtain ⟨q1, hq1, h⟩ := x_bind h
    refine x_callVp C dX5_valueOf_64 (xin_68 _ (List.mem_of_getElem? (i := 2) rfl)) xy_X4_propertyOf (xi_X4_propertyOf) (xs_X4_propertyOf) [3, 4] xv_46 (by omega) (by decide) (b := 0) rfl ⟨_, _, rfl⟩ (av := [.inl e, .inl 2]) rfl (Nat.le_of_ble_eq_true rfl) (c_G_prop _ _ _ _ _ hq1) rfl ?_
    refine x_iconst C dX5_valueOf_67 ?_
    refine x_iadd C dX5_valueOf_68 ?_
    exact x_ireturnP hR dX5_valueOf_69 h
  refine x_ite h (fun hc2 h => ?_) (fun hc2 h => ?_)
  · refine x_tabIn C 48 (-3) dX5_valueOf_1 hc2 (by decide) (by decide) rfl (by decide) ?_
    refine x_aload_n C dX5_valueOf_48 rfl ?_
    refine x_getR C dX5_valueOf_49 fF_X5_15 rfl rfl ?_
    refine x_iload_n C dX5_valueOf_52 rfl ?_
    refine x_iconst C dX5_valueOf_53 ?_
    obtain ⟨q2, hq2, h⟩ := x_bind h
    refine x_callVp C dX5_valueOf_54 (xin_68 _ (List.mem_of_getElem? (i := 2) rfl)) xy_X4_propertyOf (xi_X4_propertyOf) (xs_X4_propertyOf) [3, 4] xv_46 (by omega) (by decide) (b := 0) rfl ⟨_, _, rfl⟩ (av := [.inl e, .inl 1]) rfl (Nat.le_of_ble_eq_true rfl) (c_G_prop _ _ _ _ _ hq2) rfl ?_
    exact x_ireturnP hR dX5_valueOf_57 h
  refine x_ite h (fun hc3 h => ?_) (fun hc3 h => ?_)
  · refine x_tabIn C 38 (-2) dX5_valueOf_1 hc3 (by decide) (by decide) rfl (by decide) ?_
    refine x_aload_n C dX5_valueOf_38 rfl ?_
    refine x_getR C dX5_valueOf_39 fF_X5_15 rfl rfl ?_
    refine x_iload_n C dX5_valueOf_42 rfl ?_
    refine x_iconst C dX5_valueOf_43 ?_
    obtain ⟨q3, hq3, h⟩ := x_bind h
    refine x_callVp C dX5_valueOf_44 (xin_68 _ (List.mem_of_getElem? (i := 2) rfl)) xy_X4_propertyOf (xi_X4_propertyOf) (xs_X4_propertyOf) [3, 4] xv_46 (by omega) (by decide) (b := 0) rfl ⟨_, _, rfl⟩ (av := [.inl e, .inl 0]) rfl (Nat.le_of_ble_eq_true rfl) (c_G_prop _ _ _ _ _ hq3) rfl ?_
    exact x_ireturnP hR dX5_valueOf_47 h
  refine x_ite h (fun hc4 h => ?_) (fun hc4 h => ?_)
  · refine x_tabIn C 36 (-1) dX5_valueOf_1 hc4 (by decide) (by decide) rfl (by decide) ?_
    refine x_iload_n C dX5_valueOf_36 rfl ?_
    exact x_ireturnP hR dX5_valueOf_37 h
  refine x_tabOut C 82 (x := v) dX5_valueOf_1 (by omega) (by decide) ?_
  refine x_iload_n C dX5_valueOf_82 rfl ?_
  exact x_ireturnP hR dX5_valueOf_83 h
theorem c_Q_value (l : Launch) (v : Int) (e : Int) (m : xM) (r : Int) (h : f_Q_value v e m = some r) : xMet l yX5_valueOf cX5_valueOf 3 (some .int) 3 lay_Q [.inr (.inr (some 0)), .inl v, .inl e] m (some (.inl r)) m :=
  xMet_i (by decide +kernel) (Nat.le_of_ble_eq_true rfl) (fun Γ C hR hl9 => t_Q_value (Nat.le_refl _) C v e hR h)
theorem fF_X5_9 : xF RX5 9 7 0 (.object "ModemLink$Tokens") true := ⟨RX5, TX5, 2, tyX5, rfl, by decide, (xin_6 _ (List.mem_of_getElem? (i := 16) rfl)), rfl, inlX5, tyX5_ok, nmX5, rfl, rfl⟩
theorem fF_X5_40 : xF RX5 40 10 2 .int false := ⟨RX8, TX8, 7, tyX8, rfl, by decide, (xin_66 _ (List.mem_of_getElem? (i := 17) rfl)), rfl, inlX8, tyX8_ok, nmX8, rfl, rfl⟩
theorem xv_47 : xview lay_Q lay_T [1, 2] := xview_of (by decide +kernel)
theorem dX5_readValue_0 : decode cX5_readValue 0 = .ok (.aload_n 0, 1) := by decide +kernel
theorem dX5_readValue_1 : decode cX5_readValue 1 = .ok (.getfield 9, 3) := by decide +kernel
theorem dX5_readValue_4 : decode cX5_readValue 4 = .ok (.getfield 40, 3) := by decide +kernel
theorem dX5_readValue_7 : decode cX5_readValue 7 = .ok (.iconst 2, 1) := by decide +kernel
theorem dX5_readValue_8 : decode cX5_readValue 8 = .ok (.if_icmp .ne 14, 3) := by decide +kernel
theorem dX5_readValue_11 : decode cX5_readValue 11 = .ok (.aload_n 0, 1) := by decide +kernel
theorem dX5_readValue_12 : decode cX5_readValue 12 = .ok (.getfield 9, 3) := by decide +kernel
theorem dX5_readValue_15 : decode cX5_readValue 15 = .ok (.iconst 0, 1) := by decide +kernel
theorem dX5_readValue_16 : decode cX5_readValue 16 = .ok (.ldc 96, 2) := by decide +kernel
theorem dX5_readValue_18 : decode cX5_readValue 18 = .ok (.invokevirtual 97, 3) := by decide +kernel
theorem dX5_readValue_21 : decode cX5_readValue 21 = .ok (.ireturn, 1) := by decide +kernel
theorem dX5_readValue_22 : decode cX5_readValue 22 = .ok (.aload_n 0, 1) := by decide +kernel
theorem dX5_readValue_23 : decode cX5_readValue 23 = .ok (.getfield 9, 3) := by decide +kernel
theorem dX5_readValue_26 : decode cX5_readValue 26 = .ok (.ldc 100, 2) := by decide +kernel
theorem dX5_readValue_28 : decode cX5_readValue 28 = .ok (.invokevirtual 21, 3) := by decide +kernel
theorem dX5_readValue_31 : decode cX5_readValue 31 = .ok (.ifCond .eq 7, 3) := by decide +kernel
theorem dX5_readValue_34 : decode cX5_readValue 34 = .ok (.iconst (-1), 1) := by decide +kernel
theorem dX5_readValue_35 : decode cX5_readValue 35 = .ok (.goto 72, 3) := by decide +kernel
theorem dX5_readValue_38 : decode cX5_readValue 38 = .ok (.aload_n 0, 1) := by decide +kernel
theorem dX5_readValue_39 : decode cX5_readValue 39 = .ok (.getfield 9, 3) := by decide +kernel
theorem dX5_readValue_42 : decode cX5_readValue 42 = .ok (.ldc 102, 2) := by decide +kernel
theorem dX5_readValue_44 : decode cX5_readValue 44 = .ok (.invokevirtual 21, 3) := by decide +kernel
theorem dX5_readValue_47 : decode cX5_readValue 47 = .ok (.ifCond .eq 8, 3) := by decide +kernel
theorem dX5_readValue_50 : decode cX5_readValue 50 = .ok (.bipush (-2), 2) := by decide +kernel
theorem dX5_readValue_52 : decode cX5_readValue 52 = .ok (.goto 55, 3) := by decide +kernel
theorem dX5_readValue_55 : decode cX5_readValue 55 = .ok (.aload_n 0, 1) := by decide +kernel
theorem dX5_readValue_56 : decode cX5_readValue 56 = .ok (.getfield 9, 3) := by decide +kernel
theorem dX5_readValue_59 : decode cX5_readValue 59 = .ok (.ldc 104, 2) := by decide +kernel
theorem dX5_readValue_61 : decode cX5_readValue 61 = .ok (.invokevirtual 21, 3) := by decide +kernel
theorem dX5_readValue_64 : decode cX5_readValue 64 = .ok (.ifCond .eq 8, 3) := by decide +kernel
theorem dX5_readValue_67 : decode cX5_readValue 67 = .ok (.bipush (-3), 2) := by decide +kernel
theorem dX5_readValue_69 : decode cX5_readValue 69 = .ok (.goto 38, 3) := by decide +kernel
theorem dX5_readValue_72 : decode cX5_readValue 72 = .ok (.aload_n 0, 1) := by decide +kernel
theorem dX5_readValue_73 : decode cX5_readValue 73 = .ok (.getfield 9, 3) := by decide +kernel
theorem dX5_readValue_76 : decode cX5_readValue 76 = .ok (.ldc 105, 2) := by decide +kernel
theorem dX5_readValue_78 : decode cX5_readValue 78 = .ok (.invokevirtual 21, 3) := by decide +kernel
theorem dX5_readValue_81 : decode cX5_readValue 81 = .ok (.ifCond .eq 8, 3) := by decide +kernel
theorem dX5_readValue_84 : decode cX5_readValue 84 = .ok (.bipush (-4), 2) := by decide +kernel
theorem dX5_readValue_86 : decode cX5_readValue 86 = .ok (.goto 21, 3) := by decide +kernel
theorem dX5_readValue_89 : decode cX5_readValue 89 = .ok (.aload_n 0, 1) := by decide +kernel
theorem dX5_readValue_90 : decode cX5_readValue 90 = .ok (.getfield 9, 3) := by decide +kernel
theorem dX5_readValue_93 : decode cX5_readValue 93 = .ok (.ldc 107, 2) := by decide +kernel
theorem dX5_readValue_95 : decode cX5_readValue 95 = .ok (.invokevirtual 21, 3) := by decide +kernel
theorem dX5_readValue_98 : decode cX5_readValue 98 = .ok (.ifCond .eq 8, 3) := by decide +kernel
theorem dX5_readValue_101 : decode cX5_readValue 101 = .ok (.bipush (-5), 2) := by decide +kernel
theorem dX5_readValue_103 : decode cX5_readValue 103 = .ok (.goto 4, 3) := by decide +kernel
theorem dX5_readValue_106 : decode cX5_readValue 106 = .ok (.iconst 0, 1) := by decide +kernel
theorem dX5_readValue_107 : decode cX5_readValue 107 = .ok (.istore_n 1, 1) := by decide +kernel
theorem dX5_readValue_108 : decode cX5_readValue 108 = .ok (.iload_n 1, 1) := by decide +kernel
theorem dX5_readValue_109 : decode cX5_readValue 109 = .ok (.ifCond .ne 12, 3) := by decide +kernel
theorem dX5_readValue_112 : decode cX5_readValue 112 = .ok (.aload_n 0, 1) := by decide +kernel
theorem dX5_readValue_113 : decode cX5_readValue 113 = .ok (.getfield 9, 3) := by decide +kernel
theorem dX5_readValue_116 : decode cX5_readValue 116 = .ok (.iconst 1, 1) := by decide +kernel
theorem dX5_readValue_117 : decode cX5_readValue 117 = .ok (.invokevirtual 29, 3) := by decide +kernel
theorem dX5_readValue_120 : decode cX5_readValue 120 = .ok (.pop, 1) := by decide +kernel
theorem dX5_readValue_121 : decode cX5_readValue 121 = .ok (.aload_n 0, 1) := by decide +kernel
theorem dX5_readValue_122 : decode cX5_readValue 122 = .ok (.getfield 9, 3) := by decide +kernel
theorem dX5_readValue_125 : decode cX5_readValue 125 = .ok (.invokevirtual 33, 3) := by decide +kernel
theorem dX5_readValue_128 : decode cX5_readValue 128 = .ok (.iload_n 1, 1) := by decide +kernel
theorem dX5_readValue_129 : decode cX5_readValue 129 = .ok (.ireturn, 1) := by decide +kernel
def f_Q_readValue_121 (x1 : Int) (m : xM) : Option (Int × xM) :=
     (Option.bind (f_T_next (xvw [1, 2] m)) fun q5 =>
      some (x1, (xmg [1, 2] 2 m q5)))
set_option maxRecDepth 1000000 in
set_option maxHeartbeats 4000000 in
theorem t_Q_readValue_121 {Γ : xG} {d : Nat} (hd9 : 5 ≤ d) (C : xC Γ lay_Q RX5 cX5_readValue 2 d) {r : Int} {m9 : xM} (hR : xRi Γ lay_Q cX5_readValue r m9) (x1 : Int) (m : xM) (h : f_Q_readValue_121 x1 m = some (r, m9)) : xW Γ lay_Q 2 121 [(0, .inr (.inr (some 0))), (1, .inl x1)] [] m := by
  unfold f_Q_readValue_121 at h
  refine x_aload_n C dX5_readValue_121 rfl ?_
  refine x_getR C dX5_readValue_122 fF_X5_9 rfl rfl ?_
  obtain ⟨q5, hq5, h⟩ := x_bind h
  refine x_callV C dX5_readValue_125 (xin_66 _ (List.mem_of_getElem? (i := 20) rfl)) xy_X8_next (xi_X8_next) (xs_X8_next) [1, 2] xv_47 (by omega) (by decide) (b := 0) rfl ⟨_, _, rfl⟩ (av := []) rfl (Nat.le_of_ble_eq_true rfl) (c_T_next _ _ _ hq5) rfl ?_
  refine x_iload_n C dX5_readValue_128 rfl ?_
  exact x_ireturn hR dX5_readValue_129 h
def f_Q_readValue_107 (s0 : Int) (m : xM) : Option (Int × xM) :=
     (if xw s0 = 0 then (Option.bind (f_T_fail 1 (xvw [1, 2] m)) fun q6 =>
      f_Q_readValue_121 s0 (xmg [1, 2] 2 m q6.2))
      else f_Q_readValue_121 s0 m)
set_option maxRecDepth 1000000 in
set_option maxHeartbeats 4000000 in
theorem t_Q_readValue_107 {Γ : xG} {d : Nat} (hd9 : 5 ≤ d) (C : xC Γ lay_Q RX5 cX5_readValue 2 d) {r : Int} {m9 : xM} (hR : xRi Γ lay_Q cX5_readValue r m9) (s0 : Int) (m : xM) (h : f_Q_readValue_107 s0 m = some (r, m9)) : xW Γ lay_Q 2 107 [(0, .inr (.inr (some 0)))] [.inl s0] m := by
  unfold f_Q_readValue_107 at h
  refine x_istore_n C dX5_readValue_107 (by decide) ?_
  refine x_iload_n C dX5_readValue_108 rfl ?_
  refine x_if_ne C 121 dX5_readValue_109 (by decide) h (fun h => ?_) (fun h => ?_)
  · refine x_loc [(0, .inr (.inr (some 0))), (1, .inl s0)] ⟨rfl, rfl, trivial⟩ ?_
    exact t_Q_readValue_121 hd9 C hR _ _ h
  · refine x_aload_n C dX5_readValue_112 rfl ?_
    refine x_getR C dX5_readValue_113 fF_X5_9 rfl rfl ?_
    refine x_iconst C dX5_readValue_116 ?_
    obtain ⟨q6, hq6, h⟩ := x_bind h
    refine x_callV C dX5_readValue_117 (xin_66 _ (List.mem_of_getElem? (i := 19) rfl)) xy_X8_fail (xi_X8_fail) (xs_X8_fail) [1, 2] xv_47 (by omega) (by decide) (b := 0) rfl ⟨_, _, rfl⟩ (av := [.inl 1]) rfl (Nat.le_of_ble_eq_true rfl) (c_T_fail _ _ _ q6.1 q6.2 hq6) rfl ?_
    refine x_pop C dX5_readValue_120 rfl ?_
    refine x_loc [(0, .inr (.inr (some 0))), (1, .inl s0)] ⟨rfl, rfl, trivial⟩ ?_
    exact t_Q_readValue_121 hd9 C hR _ _ h
def f_Q_readValue (m : xM) : Option (Int × xM) :=
     (if xw (m 1 2) = xw 2 then (Option.bind (f_T_takeNumber 0 99999 (xvw [1, 2] m)) fun q7 =>
      some (q7.1, (xmg [1, 2] 2 m q7.2)))
      else (Option.bind (f_T_isWord 0 (xvw [1, 2] m)) fun q0 =>
      (if xw q0 = 0 then (Option.bind (f_T_isWord 1 (xvw [1, 2] m)) fun q1 =>
      (if xw q1 = 0 then (Option.bind (f_T_isWord 2 (xvw [1, 2] m)) fun q2 =>
      (if xw q2 = 0 then (Option.bind (f_T_isWord 3 (xvw [1, 2] m)) fun q3 =>
      (if xw q3 = 0 then (Option.bind (f_T_isWord 4 (xvw [1, 2] m)) fun q4 =>
      (if xw q4 = 0 then f_Q_readValue_107 0 m
      else f_Q_readValue_107 (-5) m))
      else f_Q_readValue_107 (-4) m))
      else f_Q_readValue_107 (-3) m))
      else f_Q_readValue_107 (-2) m))
      else f_Q_readValue_107 (-1) m)))
set_option maxRecDepth 1000000 in
set_option maxHeartbeats 4000000 in
theorem t_Q_readValue {Γ : xG} {d : Nat} (hd9 : 5 ≤ d) (C : xC Γ lay_Q RX5 cX5_readValue 2 d) {r : Int} {m9 : xM} (hR : xRi Γ lay_Q cX5_readValue r m9) (m : xM) (h : f_Q_readValue m = some (r, m9)) : xW Γ lay_Q 2 0 [(0, .inr (.inr (some 0)))] [] m := by
  unfold f_Q_readValue at h
  refine x_aload_n C dX5_readValue_0 rfl ?_
  refine x_getR C dX5_readValue_1 fF_X5_9 rfl rfl ?_
  refine x_getI C dX5_readValue_4 fF_X5_40 rfl rfl ?_
  refine x_iconst C dX5_readValue_7 ?_
  refine x_icmp_ne C 22 dX5_readValue_8 (by decide) h (fun h => ?_) (fun h => ?_)
  · refine x_aload_n C dX5_readValue_22 rfl ?_
    refine x_getR C dX5_readValue_23 fF_X5_9 rfl rfl ?_
    refine x_ldcS C "event" 0 dX5_readValue_26 (List.mem_of_getElem? (i := 17) rfl) ?_
    obtain ⟨q0, hq0, h⟩ := x_bind h
    refine x_callVp C dX5_readValue_28 (xin_66 _ (List.mem_of_getElem? (i := 18) rfl)) xy_X8_isWord (xi_X8_isWord) (xs_X8_isWord) [1, 2] xv_47 (by omega) (by decide) (b := 0) rfl ⟨_, _, rfl⟩ (av := [.inr (.inr (some 1000))]) rfl (Nat.le_of_ble_eq_true rfl) (c_T_isWord _ 0 (by decide) _ _ hq0) rfl ?_
    refine x_if_eq C 38 dX5_readValue_31 (by decide) h (fun h => ?_) (fun h => ?_)
    · refine x_aload_n C dX5_readValue_38 rfl ?_
      refine x_getR C dX5_readValue_39 fF_X5_9 rfl rfl ?_
      refine x_ldcS C "tick" 1 dX5_readValue_42 (List.mem_of_getElem? (i := 18) rfl) ?_
      obtain ⟨q1, hq1, h⟩ := x_bind h
      refine x_callVp C dX5_readValue_44 (xin_66 _ (List.mem_of_getElem? (i := 18) rfl)) xy_X8_isWord (xi_X8_isWord) (xs_X8_isWord) [1, 2] xv_47 (by omega) (by decide) (b := 0) rfl ⟨_, _, rfl⟩ (av := [.inr (.inr (some 1001))]) rfl (Nat.le_of_ble_eq_true rfl) (c_T_isWord _ 1 (by decide) _ _ hq1) rfl ?_
      refine x_if_eq C 55 dX5_readValue_47 (by decide) h (fun h => ?_) (fun h => ?_)
      · refine x_aload_n C dX5_readValue_55 rfl ?_
        refine x_getR C dX5_readValue_56 fF_X5_9 rfl rfl ?_
        refine x_ldcS C "kind" 2 dX5_readValue_59 (List.mem_of_getElem? (i := 19) rfl) ?_
        obtain ⟨q2, hq2, h⟩ := x_bind h
        refine x_callVp C dX5_readValue_61 (xin_66 _ (List.mem_of_getElem? (i := 18) rfl)) xy_X8_isWord (xi_X8_isWord) (xs_X8_isWord) [1, 2] xv_47 (by omega) (by decide) (b := 0) rfl ⟨_, _, rfl⟩ (av := [.inr (.inr (some 1002))]) rfl (Nat.le_of_ble_eq_true rfl) (c_T_isWord _ 2 (by decide) _ _ hq2) rfl ?_
        refine x_if_eq C 72 dX5_readValue_64 (by decide) h (fun h => ?_) (fun h => ?_)
        · refine x_aload_n C dX5_readValue_72 rfl ?_
          refine x_getR C dX5_readValue_73 fF_X5_9 rfl rfl ?_
          refine x_ldcS C "end" 3 dX5_readValue_76 (List.mem_of_getElem? (i := 20) rfl) ?_
          obtain ⟨q3, hq3, h⟩ := x_bind h
          refine x_callVp C dX5_readValue_78 (xin_66 _ (List.mem_of_getElem? (i := 18) rfl)) xy_X8_isWord (xi_X8_isWord) (xs_X8_isWord) [1, 2] xv_47 (by omega) (by decide) (b := 0) rfl ⟨_, _, rfl⟩ (av := [.inr (.inr (some 1003))]) rfl (Nat.le_of_ble_eq_true rfl) (c_T_isWord _ 3 (by decide) _ _ hq3) rfl ?_
          refine x_if_eq C 89 dX5_readValue_81 (by decide) h (fun h => ?_) (fun h => ?_)
          · refine x_aload_n C dX5_readValue_89 rfl ?_
            refine x_getR C dX5_readValue_90 fF_X5_9 rfl rfl ?_
            refine x_ldcS C "rate" 4 dX5_readValue_93 (List.mem_of_getElem? (i := 21) rfl) ?_
            obtain ⟨q4, hq4, h⟩ := x_bind h
            refine x_callVp C dX5_readValue_95 (xin_66 _ (List.mem_of_getElem? (i := 18) rfl)) xy_X8_isWord (xi_X8_isWord) (xs_X8_isWord) [1, 2] xv_47 (by omega) (by decide) (b := 0) rfl ⟨_, _, rfl⟩ (av := [.inr (.inr (some 1004))]) rfl (Nat.le_of_ble_eq_true rfl) (c_T_isWord _ 4 (by decide) _ _ hq4) rfl ?_
            refine x_if_eq C 106 dX5_readValue_98 (by decide) h (fun h => ?_) (fun h => ?_)
            · refine x_iconst C dX5_readValue_106 ?_
              refine x_loc [(0, .inr (.inr (some 0)))] ⟨rfl, trivial⟩ ?_
              exact t_Q_readValue_107 hd9 C hR _ _ h
            · refine x_bipush C dX5_readValue_101 (by decide) ?_
              refine x_goto C 107 dX5_readValue_103 (by decide) ?_
              refine x_loc [(0, .inr (.inr (some 0)))] ⟨rfl, trivial⟩ ?_
              exact t_Q_readValue_107 hd9 C hR _ _ h
          · refine x_bipush C dX5_readValue_84 (by decide) ?_
            refine x_goto C 107 dX5_readValue_86 (by decide) ?_
            refine x_loc [(0, .inr (.inr (some 0)))] ⟨rfl, trivial⟩ ?_
            exact t_Q_readValue_107 hd9 C hR _ _ h
        · refine x_bipush C dX5_readValue_67 (by decide) ?_
          refine x_goto C 107 dX5_readValue_69 (by decide) ?_
          refine x_loc [(0, .inr (.inr (some 0)))] ⟨rfl, trivial⟩ ?_
          exact t_Q_readValue_107 hd9 C hR _ _ h
      · refine x_bipush C dX5_readValue_50 (by decide) ?_
        refine x_goto C 107 dX5_readValue_52 (by decide) ?_
        refine x_loc [(0, .inr (.inr (some 0)))] ⟨rfl, trivial⟩ ?_
        exact t_Q_readValue_107 hd9 C hR _ _ h
    · refine x_iconst C dX5_readValue_34 ?_
      refine x_goto C 107 dX5_readValue_35 (by decide) ?_
      refine x_loc [(0, .inr (.inr (some 0)))] ⟨rfl, trivial⟩ ?_
      exact t_Q_readValue_107 hd9 C hR _ _ h
  · refine x_aload_n C dX5_readValue_11 rfl ?_
    refine x_getR C dX5_readValue_12 fF_X5_9 rfl rfl ?_
    refine x_iconst C dX5_readValue_15 ?_
    refine x_ldc C 99999 dX5_readValue_16 (xin_67 _ (List.mem_of_getElem? (i := 20) rfl)) (by decide) ?_
    obtain ⟨q7, hq7, h⟩ := x_bind h
    refine x_callV C dX5_readValue_18 (xin_67 _ (List.mem_of_getElem? (i := 21) rfl)) xy_X8_takeNumber (xi_X8_takeNumber) (xs_X8_takeNumber) [1, 2] xv_47 (by omega) (by decide) (b := 0) rfl ⟨_, _, rfl⟩ (av := [.inl 0, .inl 99999]) rfl (Nat.le_of_ble_eq_true rfl) (c_T_takeNumber _ _ _ _ q7.1 q7.2 hq7) rfl ?_
    exact x_ireturn hR dX5_readValue_21 h
theorem c_Q_readValue (l : Launch) (m : xM) (r : Int) (m9 : xM) (h : f_Q_readValue m = some (r, m9)) : xMet l yX5_readValue cX5_readValue 2 (some .int) 5 lay_Q [.inr (.inr (some 0))] m (some (.inl r)) m9 :=
  xMet_i (by decide +kernel) (Nat.le_of_ble_eq_true rfl) (fun Γ C hR hl9 => t_Q_readValue (Nat.le_refl _) C hR m h)
theorem xy_X5_readValue : xY yX5_readValue cX5_readValue 2 (some .int) 0 := ⟨(xin_67 _ (List.mem_of_getElem? (i := 19) rfl)), (xin_2 _ (List.mem_of_getElem? (i := 14) rfl)), by decide, by decide, by decide +kernel⟩
theorem xi_X5_readValue : Cond.instanceMethod yX5_readValue ∈ wsL_law := (xin_67 _ (List.mem_of_getElem? (i := 17) rfl))
theorem xs_X5_readValue : Cond.selects yX5_readValue.cls yX5_readValue yX5_readValue ∈ wsL_law := (xin_67 _ (List.mem_of_getElem? (i := 18) rfl))
theorem fF_X5_75 : xF RX5 75 6 2 .int false := ⟨RX4, TX4, 3, tyX4, rfl, by decide, (xin_67 _ (List.mem_of_getElem? (i := 10) rfl)), rfl, inlX4, tyX4_ok, nmX4, rfl, rfl⟩
theorem xy_X5_valueOf : xY yX5_valueOf cX5_valueOf 3 (some .int) 2 := ⟨(xin_68 _ (List.mem_of_getElem? (i := 1) rfl)), (xin_2 _ (List.mem_of_getElem? (i := 14) rfl)), by decide, by decide, by decide +kernel⟩
theorem xi_X5_valueOf : Cond.instanceMethod yX5_valueOf ∈ wsL_law := (xin_67 _ (List.mem_of_getElem? (i := 23) rfl))
theorem xs_X5_valueOf : Cond.selects yX5_valueOf.cls yX5_valueOf yX5_valueOf ∈ wsL_law := (xin_68 _ (List.mem_of_getElem? (i := 0) rfl))
theorem xy_J6_compare_7cf53 : xY yJ6_compare_7cf53 cJ6_compare_7cf53 2 (some .int) 2 := ⟨(xin_68 _ (List.mem_of_getElem? (i := 5) rfl)), (xin_61 _ (List.mem_of_getElem? (i := 16) rfl)), by decide, by decide, by decide +kernel⟩
theorem xt_J6_compare_7cf53 : Cond.static yJ6_compare_7cf53 ∈ wsL_law := (xin_68 _ (List.mem_of_getElem? (i := 4) rfl))
theorem xv_48 : xview lay_Q lay_0 [] := xview_of (by decide +kernel)
theorem dX5_readComparison_0 : decode cX5_readComparison 0 = .ok (.aload_n 0, 1) := by decide +kernel
theorem dX5_readComparison_1 : decode cX5_readComparison 1 = .ok (.invokevirtual 83, 3) := by decide +kernel
theorem dX5_readComparison_4 : decode cX5_readComparison 4 = .ok (.istore_n 1, 1) := by decide +kernel
theorem dX5_readComparison_5 : decode cX5_readComparison 5 = .ok (.aload_n 0, 1) := by decide +kernel
theorem dX5_readComparison_6 : decode cX5_readComparison 6 = .ok (.getfield 9, 3) := by decide +kernel
theorem dX5_readComparison_9 : decode cX5_readComparison 9 = .ok (.bipush 60, 2) := by decide +kernel
theorem dX5_readComparison_11 : decode cX5_readComparison 11 = .ok (.invokevirtual 65, 3) := by decide +kernel
theorem dX5_readComparison_14 : decode cX5_readComparison 14 = .ok (.istore_n 2, 1) := by decide +kernel
theorem dX5_readComparison_15 : decode cX5_readComparison 15 = .ok (.aload_n 0, 1) := by decide +kernel
theorem dX5_readComparison_16 : decode cX5_readComparison 16 = .ok (.getfield 9, 3) := by decide +kernel
theorem dX5_readComparison_19 : decode cX5_readComparison 19 = .ok (.bipush 62, 2) := by decide +kernel
theorem dX5_readComparison_21 : decode cX5_readComparison 21 = .ok (.invokevirtual 65, 3) := by decide +kernel
theorem dX5_readComparison_24 : decode cX5_readComparison 24 = .ok (.istore_n 3, 1) := by decide +kernel
theorem dX5_readComparison_25 : decode cX5_readComparison 25 = .ok (.iload_n 2, 1) := by decide +kernel
theorem dX5_readComparison_26 : decode cX5_readComparison 26 = .ok (.ifCond .ne 30, 3) := by decide +kernel
theorem dX5_readComparison_29 : decode cX5_readComparison 29 = .ok (.iload_n 3, 1) := by decide +kernel
theorem dX5_readComparison_30 : decode cX5_readComparison 30 = .ok (.ifCond .ne 26, 3) := by decide +kernel
theorem dX5_readComparison_33 : decode cX5_readComparison 33 = .ok (.aload_n 0, 1) := by decide +kernel
theorem dX5_readComparison_34 : decode cX5_readComparison 34 = .ok (.getfield 9, 3) := by decide +kernel
theorem dX5_readComparison_37 : decode cX5_readComparison 37 = .ok (.bipush 61, 2) := by decide +kernel
theorem dX5_readComparison_39 : decode cX5_readComparison 39 = .ok (.invokevirtual 65, 3) := by decide +kernel
theorem dX5_readComparison_42 : decode cX5_readComparison 42 = .ok (.ifCond .ne 14, 3) := by decide +kernel
theorem dX5_readComparison_45 : decode cX5_readComparison 45 = .ok (.aload_n 0, 1) := by decide +kernel
theorem dX5_readComparison_46 : decode cX5_readComparison 46 = .ok (.getfield 9, 3) := by decide +kernel
theorem dX5_readComparison_49 : decode cX5_readComparison 49 = .ok (.iconst 1, 1) := by decide +kernel
theorem dX5_readComparison_50 : decode cX5_readComparison 50 = .ok (.invokevirtual 29, 3) := by decide +kernel
theorem dX5_readComparison_53 : decode cX5_readComparison 53 = .ok (.pop, 1) := by decide +kernel
theorem dX5_readComparison_54 : decode cX5_readComparison 54 = .ok (.lconst 0, 1) := by decide +kernel
theorem dX5_readComparison_55 : decode cX5_readComparison 55 = .ok (.lreturn, 1) := by decide +kernel
theorem dX5_readComparison_56 : decode cX5_readComparison 56 = .ok (.aload_n 0, 1) := by decide +kernel
theorem dX5_readComparison_57 : decode cX5_readComparison 57 = .ok (.getfield 9, 3) := by decide +kernel
theorem dX5_readComparison_60 : decode cX5_readComparison 60 = .ok (.invokevirtual 33, 3) := by decide +kernel
theorem dX5_readComparison_63 : decode cX5_readComparison 63 = .ok (.aload_n 0, 1) := by decide +kernel
theorem dX5_readComparison_64 : decode cX5_readComparison 64 = .ok (.invokevirtual 83, 3) := by decide +kernel
theorem dX5_readComparison_67 : decode cX5_readComparison 67 = .ok (.istore 4, 2) := by decide +kernel
theorem dX5_readComparison_69 : decode cX5_readComparison 69 = .ok (.lconst 0, 1) := by decide +kernel
theorem dX5_readComparison_70 : decode cX5_readComparison 70 = .ok (.lstore 5, 2) := by decide +kernel
theorem dX5_readComparison_72 : decode cX5_readComparison 72 = .ok (.iconst 0, 1) := by decide +kernel
theorem dX5_readComparison_73 : decode cX5_readComparison 73 = .ok (.istore 7, 2) := by decide +kernel
theorem dX5_readComparison_75 : decode cX5_readComparison 75 = .ok (.iload 7, 2) := by decide +kernel
theorem dX5_readComparison_77 : decode cX5_readComparison 77 = .ok (.aload_n 0, 1) := by decide +kernel
theorem dX5_readComparison_78 : decode cX5_readComparison 78 = .ok (.getfield 15, 3) := by decide +kernel
theorem dX5_readComparison_81 : decode cX5_readComparison 81 = .ok (.getfield 75, 3) := by decide +kernel
theorem dX5_readComparison_84 : decode cX5_readComparison 84 = .ok (.if_icmp .ge 67, 3) := by decide +kernel
theorem dX5_readComparison_87 : decode cX5_readComparison 87 = .ok (.aload_n 0, 1) := by decide +kernel
theorem dX5_readComparison_88 : decode cX5_readComparison 88 = .ok (.iload_n 1, 1) := by decide +kernel
theorem dX5_readComparison_89 : decode cX5_readComparison 89 = .ok (.iload 7, 2) := by decide +kernel
theorem dX5_readComparison_91 : decode cX5_readComparison 91 = .ok (.invokevirtual 87, 3) := by decide +kernel
theorem dX5_readComparison_94 : decode cX5_readComparison 94 = .ok (.aload_n 0, 1) := by decide +kernel
theorem dX5_readComparison_95 : decode cX5_readComparison 95 = .ok (.iload 4, 2) := by decide +kernel
theorem dX5_readComparison_97 : decode cX5_readComparison 97 = .ok (.iload 7, 2) := by decide +kernel
theorem dX5_readComparison_99 : decode cX5_readComparison 99 = .ok (.invokevirtual 87, 3) := by decide +kernel
theorem dX5_readComparison_102 : decode cX5_readComparison 102 = .ok (.invokestatic 91, 3) := by decide +kernel
theorem dX5_readComparison_105 : decode cX5_readComparison 105 = .ok (.istore 8, 2) := by decide +kernel
theorem dX5_readComparison_107 : decode cX5_readComparison 107 = .ok (.iload_n 2, 1) := by decide +kernel
theorem dX5_readComparison_108 : decode cX5_readComparison 108 = .ok (.ifCond .eq 11, 3) := by decide +kernel
theorem dX5_readComparison_111 : decode cX5_readComparison 111 = .ok (.iload 8, 2) := by decide +kernel
theorem dX5_readComparison_113 : decode cX5_readComparison 113 = .ok (.ifCond .ge 32, 3) := by decide +kernel
theorem dX5_readComparison_116 : decode cX5_readComparison 116 = .ok (.goto 20, 3) := by decide +kernel
theorem dX5_readComparison_119 : decode cX5_readComparison 119 = .ok (.iload_n 3, 1) := by decide +kernel
theorem dX5_readComparison_120 : decode cX5_readComparison 120 = .ok (.ifCond .eq 11, 3) := by decide +kernel
theorem dX5_readComparison_123 : decode cX5_readComparison 123 = .ok (.iload 8, 2) := by decide +kernel
theorem dX5_readComparison_125 : decode cX5_readComparison 125 = .ok (.ifCond .le 20, 3) := by decide +kernel
theorem dX5_readComparison_128 : decode cX5_readComparison 128 = .ok (.goto 8, 3) := by decide +kernel
theorem dX5_readComparison_131 : decode cX5_readComparison 131 = .ok (.iload 8, 2) := by decide +kernel
theorem dX5_readComparison_133 : decode cX5_readComparison 133 = .ok (.ifCond .ne 12, 3) := by decide +kernel
theorem dX5_readComparison_136 : decode cX5_readComparison 136 = .ok (.lload 5, 2) := by decide +kernel
theorem dX5_readComparison_138 : decode cX5_readComparison 138 = .ok (.lconst 1, 1) := by decide +kernel
theorem dX5_readComparison_139 : decode cX5_readComparison 139 = .ok (.iload 7, 2) := by decide +kernel
theorem dX5_readComparison_141 : decode cX5_readComparison 141 = .ok (.lshl, 1) := by decide +kernel
theorem dX5_readComparison_142 : decode cX5_readComparison 142 = .ok (.lor, 1) := by decide +kernel
theorem dX5_readComparison_143 : decode cX5_readComparison 143 = .ok (.lstore 5, 2) := by decide +kernel
theorem dX5_readComparison_145 : decode cX5_readComparison 145 = .ok (.iinc 7 1, 3) := by decide +kernel
theorem dX5_readComparison_148 : decode cX5_readComparison 148 = .ok (.goto (-73), 3) := by decide +kernel
theorem dX5_readComparison_151 : decode cX5_readComparison 151 = .ok (.lload 5, 2) := by decide +kernel
theorem dX5_readComparison_153 : decode cX5_readComparison 153 = .ok (.lreturn, 1) := by decide +kernel
def f_Q_comparison_151 (x5 : Int) (m : xM) : Option (Int × xM) :=
     some (x5, m)
set_option maxRecDepth 1000000 in
set_option maxHeartbeats 4000000 in
theorem t_Q_comparison_151 {Γ : xG} {d : Nat} (hd9 : 6 ≤ d) (C : xC Γ lay_Q RX5 cX5_readComparison 9 d) {r : Int} {m9 : xM} (hR : xRl Γ lay_Q cX5_readComparison r m9) (x5 : Int) (m : xM) (h : f_Q_comparison_151 x5 m = some (r, m9)) : xW Γ lay_Q 9 151 [(5, .inr (.inl x5))] [] m := by
  unfold f_Q_comparison_151 at h
  refine x_lload C dX5_readComparison_151 rfl ?_
  exact x_lreturn hR dX5_readComparison_153 h
def f_Q_comparison_145 (k75 : Int → Int → Int → Int → Int → Int → xM → Option (Int × xM)) (x1 : Int) (x2 : Int) (x3 : Int) (x4 : Int) (x5 : Int) (x7 : Int) (m : xM) : Option (Int × xM) :=
     k75 x1 x2 x3 x4 x5 (x7 + 1) m
set_option maxRecDepth 1000000 in
set_option maxHeartbeats 4000000 in
theorem t_Q_comparison_145 {Γ : xG} {d : Nat} (hd9 : 6 ≤ d) (C : xC Γ lay_Q RX5 cX5_readComparison 9 d) {r : Int} {m9 : xM} (hR : xRl Γ lay_Q cX5_readComparison r m9) {k75 : Int → Int → Int → Int → Int → Int → xM → Option (Int × xM)} (hk75 : ∀ (x1 : Int) (x2 : Int) (x3 : Int) (x4 : Int) (x5 : Int) (x7 : Int) (m : xM), k75 x1 x2 x3 x4 x5 x7 m = some (r, m9) → xW Γ lay_Q 9 75 [(0, .inr (.inr (some 0))), (1, .inl x1), (2, .inl x2), (3, .inl x3), (4, .inl x4), (5, .inr (.inl x5)), (7, .inl x7)] [] m) (x1 : Int) (x2 : Int) (x3 : Int) (x4 : Int) (x5 : Int) (x7 : Int) (m : xM) (h : f_Q_comparison_145 k75 x1 x2 x3 x4 x5 x7 m = some (r, m9)) : xW Γ lay_Q 9 145 [(0, .inr (.inr (some 0))), (1, .inl x1), (2, .inl x2), (3, .inl x3), (4, .inl x4), (5, .inr (.inl x5)), (7, .inl x7)] [] m := by
  unfold f_Q_comparison_145 at h
  refine x_iinc C dX5_readComparison_145 (by decide) rfl ?_
  refine x_goto C 75 dX5_readComparison_148 (by decide) ?_
  refine x_loc [(0, .inr (.inr (some 0))), (1, .inl x1), (2, .inl x2), (3, .inl x3), (4, .inl x4), (5, .inr (.inl x5)), (7, .inl (x7 + 1))] ⟨rfl, rfl, rfl, rfl, rfl, rfl, rfl, trivial⟩ ?_
  exact hk75 _ _ _ _ _ _ _ h
def f_Q_comparison_136 (k75 : Int → Int → Int → Int → Int → Int → xM → Option (Int × xM)) (x1 : Int) (x2 : Int) (x3 : Int) (x4 : Int) (x5 : Int) (x7 : Int) (m : xM) : Option (Int × xM) :=
     f_Q_comparison_145 k75 x1 x2 x3 x4 (xlor x5 (xlshl 1 x7)) x7 m
set_option maxRecDepth 1000000 in
set_option maxHeartbeats 4000000 in
theorem t_Q_comparison_136 {Γ : xG} {d : Nat} (hd9 : 6 ≤ d) (C : xC Γ lay_Q RX5 cX5_readComparison 9 d) {r : Int} {m9 : xM} (hR : xRl Γ lay_Q cX5_readComparison r m9) {k75 : Int → Int → Int → Int → Int → Int → xM → Option (Int × xM)} (hk75 : ∀ (x1 : Int) (x2 : Int) (x3 : Int) (x4 : Int) (x5 : Int) (x7 : Int) (m : xM), k75 x1 x2 x3 x4 x5 x7 m = some (r, m9) → xW Γ lay_Q 9 75 [(0, .inr (.inr (some 0))), (1, .inl x1), (2, .inl x2), (3, .inl x3), (4, .inl x4), (5, .inr (.inl x5)), (7, .inl x7)] [] m) (x1 : Int) (x2 : Int) (x3 : Int) (x4 : Int) (x5 : Int) (x7 : Int) (m : xM) (h : f_Q_comparison_136 k75 x1 x2 x3 x4 x5 x7 m = some (r, m9)) : xW Γ lay_Q 9 136 [(0, .inr (.inr (some 0))), (1, .inl x1), (2, .inl x2), (3, .inl x3), (4, .inl x4), (5, .inr (.inl x5)), (7, .inl x7)] [] m := by
  unfold f_Q_comparison_136 at h
  refine x_lload C dX5_readComparison_136 rfl ?_
  refine x_lconst C dX5_readComparison_138 ?_
  refine x_iload C dX5_readComparison_139 rfl ?_
  refine x_lshl C dX5_readComparison_141 ?_
  refine x_lor C dX5_readComparison_142 ?_
  refine x_lstore C dX5_readComparison_143 (by decide) ?_
  refine x_loc [(0, .inr (.inr (some 0))), (1, .inl x1), (2, .inl x2), (3, .inl x3), (4, .inl x4), (5, .inr (.inl (xlor x5 (xlshl 1 x7)))), (7, .inl x7)] ⟨rfl, rfl, rfl, rfl, rfl, rfl, rfl, trivial⟩ ?_
  exact t_Q_comparison_145 hd9 C hR hk75 _ _ _ _ _ _ _ h
def f_Q_comparison_75 : Nat → Int → Int → Int → Int → Int → Int → xM → Option (Int × xM)
  | 0, _, _, _, _, _, _, _ => none
  | n + 1, x1, x2, x3, x4, x5, x7, m =>
     (if xw x7 < xw (m 3 2) then (Option.bind (f_Q_value x1 x7 m) fun q5 =>
      (Option.bind (f_Q_value x4 x7 m) fun q6 =>
      (Option.bind (f_icompare q5 q6 (xvw [] m)) fun q7 =>
      (if xw x2 = 0 then (if xw x3 = 0 then (if xw q7 = 0 then f_Q_comparison_136 (f_Q_comparison_75 n) x1 x2 x3 x4 x5 x7 m
      else f_Q_comparison_145 (f_Q_comparison_75 n) x1 x2 x3 x4 x5 x7 m)
      else (if 0 < xw q7 then f_Q_comparison_136 (f_Q_comparison_75 n) x1 x2 x3 x4 x5 x7 m
      else f_Q_comparison_145 (f_Q_comparison_75 n) x1 x2 x3 x4 x5 x7 m))
      else (if xw q7 < 0 then f_Q_comparison_136 (f_Q_comparison_75 n) x1 x2 x3 x4 x5 x7 m
      else f_Q_comparison_145 (f_Q_comparison_75 n) x1 x2 x3 x4 x5 x7 m)))))
      else f_Q_comparison_151 x5 m)
set_option maxRecDepth 1000000 in
set_option maxHeartbeats 4000000 in
theorem t_Q_comparison_75 {Γ : xG} {d : Nat} (hd9 : 6 ≤ d) (C : xC Γ lay_Q RX5 cX5_readComparison 9 d) {r : Int} {m9 : xM} (hR : xRl Γ lay_Q cX5_readComparison r m9) : ∀ (n : Nat) (x1 : Int) (x2 : Int) (x3 : Int) (x4 : Int) (x5 : Int) (x7 : Int) (m : xM), f_Q_comparison_75 n x1 x2 x3 x4 x5 x7 m = some (r, m9) → xW Γ lay_Q 9 75 [(0, .inr (.inr (some 0))), (1, .inl x1), (2, .inl x2), (3, .inl x3), (4, .inl x4), (5, .inr (.inl x5)), (7, .inl x7)] [] m := by
  intro n
  induction n with
  | zero => intro _ _ _ _ _ _ _ h; cases h
  | succ n ih =>
    intro x1 x2 x3 x4 x5 x7 m h
    rw [f_Q_comparison_75] at h
    refine x_iload C dX5_readComparison_75 rfl ?_
    refine x_aload_n C dX5_readComparison_77 rfl ?_
    refine x_getR C dX5_readComparison_78 fF_X5_15 rfl rfl ?_
    refine x_getI C dX5_readComparison_81 fF_X5_75 rfl rfl ?_
    refine x_icmp_ge C 151 dX5_readComparison_84 (by decide) h (fun h => ?_) (fun h => ?_)
    · refine x_loc [(5, .inr (.inl x5))] ⟨rfl, trivial⟩ ?_
      exact t_Q_comparison_151 hd9 C hR _ _ h
    · refine x_aload_n C dX5_readComparison_87 rfl ?_
      refine x_iload_n C dX5_readComparison_88 rfl ?_
      refine x_iload C dX5_readComparison_89 rfl ?_
      obtain ⟨q5, hq5, h⟩ := x_bind h
      refine x_callVI C dX5_readComparison_91 (xin_67 _ (List.mem_of_getElem? (i := 22) rfl)) xy_X5_valueOf (xi_X5_valueOf) (xs_X5_valueOf) (by omega) (by decide) (b := 0) rfl ⟨_, _, rfl⟩ (av := [.inl x1, .inl x7]) rfl (Nat.le_of_ble_eq_true rfl) (c_Q_value _ _ _ _ _ hq5) rfl ?_
      refine x_aload_n C dX5_readComparison_94 rfl ?_
      refine x_iload C dX5_readComparison_95 rfl ?_
      refine x_iload C dX5_readComparison_97 rfl ?_
      obtain ⟨q6, hq6, h⟩ := x_bind h
      refine x_callVI C dX5_readComparison_99 (xin_67 _ (List.mem_of_getElem? (i := 22) rfl)) xy_X5_valueOf (xi_X5_valueOf) (xs_X5_valueOf) (by omega) (by decide) (b := 0) rfl ⟨_, _, rfl⟩ (av := [.inl x4, .inl x7]) rfl (Nat.le_of_ble_eq_true rfl) (c_Q_value _ _ _ _ _ hq6) rfl ?_
      obtain ⟨q7, hq7, h⟩ := x_bind h
      refine x_callSp C dX5_readComparison_102 (xin_68 _ (List.mem_of_getElem? (i := 3) rfl)) xy_J6_compare_7cf53 (xt_J6_compare_7cf53) [] xv_48 (by omega) (by decide) (av := [.inl q5, .inl q6]) rfl (Nat.le_of_ble_eq_true rfl) (c_icompare _ _ _ _ _ hq7) rfl ?_
      refine x_istore C dX5_readComparison_105 (by decide) ?_
      refine x_iload_n C dX5_readComparison_107 rfl ?_
      refine x_if_eq C 119 dX5_readComparison_108 (by decide) h (fun h => ?_) (fun h => ?_)
      · refine x_iload_n C dX5_readComparison_119 rfl ?_
        refine x_if_eq C 131 dX5_readComparison_120 (by decide) h (fun h => ?_) (fun h => ?_)
        · refine x_iload C dX5_readComparison_131 rfl ?_
          refine x_if_ne C 145 dX5_readComparison_133 (by decide) h (fun h => ?_) (fun h => ?_)
          · refine x_loc [(0, .inr (.inr (some 0))), (1, .inl x1), (2, .inl x2), (3, .inl x3), (4, .inl x4), (5, .inr (.inl x5)), (7, .inl x7)] ⟨rfl, rfl, rfl, rfl, rfl, rfl, rfl, trivial⟩ ?_
            exact t_Q_comparison_145 hd9 C hR ih _ _ _ _ _ _ _ h
          · refine x_loc [(0, .inr (.inr (some 0))), (1, .inl x1), (2, .inl x2), (3, .inl x3), (4, .inl x4), (5, .inr (.inl x5)), (7, .inl x7)] ⟨rfl, rfl, rfl, rfl, rfl, rfl, rfl, trivial⟩ ?_
            exact t_Q_comparison_136 hd9 C hR ih _ _ _ _ _ _ _ h
        · refine x_iload C dX5_readComparison_123 rfl ?_
          refine x_if_le C 145 dX5_readComparison_125 (by decide) h (fun h => ?_) (fun h => ?_)
          · refine x_loc [(0, .inr (.inr (some 0))), (1, .inl x1), (2, .inl x2), (3, .inl x3), (4, .inl x4), (5, .inr (.inl x5)), (7, .inl x7)] ⟨rfl, rfl, rfl, rfl, rfl, rfl, rfl, trivial⟩ ?_
            exact t_Q_comparison_145 hd9 C hR ih _ _ _ _ _ _ _ h
          · refine x_goto C 136 dX5_readComparison_128 (by decide) ?_
            refine x_loc [(0, .inr (.inr (some 0))), (1, .inl x1), (2, .inl x2), (3, .inl x3), (4, .inl x4), (5, .inr (.inl x5)), (7, .inl x7)] ⟨rfl, rfl, rfl, rfl, rfl, rfl, rfl, trivial⟩ ?_
            exact t_Q_comparison_136 hd9 C hR ih _ _ _ _ _ _ _ h
      · refine x_iload C dX5_readComparison_111 rfl ?_
        refine x_if_ge C 145 dX5_readComparison_113 (by decide) h (fun h => ?_) (fun h => ?_)
        · refine x_loc [(0, .inr (.inr (some 0))), (1, .inl x1), (2, .inl x2), (3, .inl x3), (4, .inl x4), (5, .inr (.inl x5)), (7, .inl x7)] ⟨rfl, rfl, rfl, rfl, rfl, rfl, rfl, trivial⟩ ?_
          exact t_Q_comparison_145 hd9 C hR ih _ _ _ _ _ _ _ h
        · refine x_goto C 136 dX5_readComparison_116 (by decide) ?_
          refine x_loc [(0, .inr (.inr (some 0))), (1, .inl x1), (2, .inl x2), (3, .inl x3), (4, .inl x4), (5, .inr (.inl x5)), (7, .inl x7)] ⟨rfl, rfl, rfl, rfl, rfl, rfl, rfl, trivial⟩ ?_
          exact t_Q_comparison_136 hd9 C hR ih _ _ _ _ _ _ _ h
def f_Q_comparison_56 (x1 : Int) (x2 : Int) (x3 : Int) (m : xM) : Option (Int × xM) :=
     (Option.bind (f_T_next (xvw [1, 2] m)) fun q3 =>
      (Option.bind (f_Q_readValue (xmg [1, 2] 2 m q3)) fun q4 =>
      f_Q_comparison_75 fu x1 x2 x3 q4.1 0 0 q4.2))
set_option maxRecDepth 1000000 in
set_option maxHeartbeats 4000000 in
theorem t_Q_comparison_56 {Γ : xG} {d : Nat} (hd9 : 6 ≤ d) (C : xC Γ lay_Q RX5 cX5_readComparison 9 d) {r : Int} {m9 : xM} (hR : xRl Γ lay_Q cX5_readComparison r m9) (x1 : Int) (x2 : Int) (x3 : Int) (m : xM) (h : f_Q_comparison_56 x1 x2 x3 m = some (r, m9)) : xW Γ lay_Q 9 56 [(0, .inr (.inr (some 0))), (1, .inl x1), (2, .inl x2), (3, .inl x3)] [] m := by
  unfold f_Q_comparison_56 at h
  refine x_aload_n C dX5_readComparison_56 rfl ?_
  refine x_getR C dX5_readComparison_57 fF_X5_9 rfl rfl ?_
  obtain ⟨q3, hq3, h⟩ := x_bind h
  refine x_callV C dX5_readComparison_60 (xin_66 _ (List.mem_of_getElem? (i := 20) rfl)) xy_X8_next (xi_X8_next) (xs_X8_next) [1, 2] xv_47 (by omega) (by decide) (b := 0) rfl ⟨_, _, rfl⟩ (av := []) rfl (Nat.le_of_ble_eq_true rfl) (c_T_next _ _ _ hq3) rfl ?_
  refine x_aload_n C dX5_readComparison_63 rfl ?_
  obtain ⟨q4, hq4, h⟩ := x_bind h
  refine x_callVI C dX5_readComparison_64 (xin_67 _ (List.mem_of_getElem? (i := 16) rfl)) xy_X5_readValue (xi_X5_readValue) (xs_X5_readValue) (by omega) (by decide) (b := 0) rfl ⟨_, _, rfl⟩ (av := []) rfl (Nat.le_of_ble_eq_true rfl) (c_Q_readValue _ _ q4.1 q4.2 hq4) rfl ?_
  refine x_istore C dX5_readComparison_67 (by decide) ?_
  refine x_lconst C dX5_readComparison_69 ?_
  refine x_lstore C dX5_readComparison_70 (by decide) ?_
  refine x_iconst C dX5_readComparison_72 ?_
  refine x_istore C dX5_readComparison_73 (by decide) ?_
  refine x_loc [(0, .inr (.inr (some 0))), (1, .inl x1), (2, .inl x2), (3, .inl x3), (4, .inl q4.1), (5, .inr (.inl 0)), (7, .inl 0)] ⟨rfl, rfl, rfl, rfl, rfl, rfl, rfl, trivial⟩ ?_
  exact t_Q_comparison_75 hd9 C hR fu _ _ _ _ _ _ _ h
def f_Q_comparison (m : xM) : Option (Int × xM) :=
     (Option.bind (f_Q_readValue m) fun q0 =>
      (Option.bind (f_T_isSign 60 (xvw [1, 2] q0.2)) fun q1 =>
      (Option.bind (f_T_isSign 62 (xvw [1, 2] q0.2)) fun q2 =>
      (if xw q1 = 0 then (if xw q2 = 0 then (Option.bind (f_T_isSign 61 (xvw [1, 2] q0.2)) fun q8 =>
      (if xw q8 = 0 then (Option.bind (f_T_fail 1 (xvw [1, 2] q0.2)) fun q9 =>
      some (0, (xmg [1, 2] 2 q0.2 q9.2)))
      else f_Q_comparison_56 q0.1 q1 q2 q0.2))
      else f_Q_comparison_56 q0.1 q1 q2 q0.2)
      else f_Q_comparison_56 q0.1 q1 q2 q0.2))))
set_option maxRecDepth 1000000 in
set_option maxHeartbeats 4000000 in
theorem t_Q_comparison {Γ : xG} {d : Nat} (hd9 : 6 ≤ d) (C : xC Γ lay_Q RX5 cX5_readComparison 9 d) {r : Int} {m9 : xM} (hR : xRl Γ lay_Q cX5_readComparison r m9) (m : xM) (h : f_Q_comparison m = some (r, m9)) : xW Γ lay_Q 9 0 [(0, .inr (.inr (some 0)))] [] m := by
  unfold f_Q_comparison at h
  refine x_aload_n C dX5_readComparison_0 rfl ?_
  obtain ⟨q0, hq0, h⟩ := x_bind h
  refine x_callVI C dX5_readComparison_1 (xin_67 _ (List.mem_of_getElem? (i := 16) rfl)) xy_X5_readValue (xi_X5_readValue) (xs_X5_readValue) (by omega) (by decide) (b := 0) rfl ⟨_, _, rfl⟩ (av := []) rfl (Nat.le_of_ble_eq_true rfl) (c_Q_readValue _ _ q0.1 q0.2 hq0) rfl ?_
  refine x_istore_n C dX5_readComparison_4 (by decide) ?_
  refine x_aload_n C dX5_readComparison_5 rfl ?_
  refine x_getR C dX5_readComparison_6 fF_X5_9 rfl rfl ?_
  refine x_bipush C dX5_readComparison_9 (by decide) ?_
  obtain ⟨q1, hq1, h⟩ := x_bind h
  refine x_callVp C dX5_readComparison_11 (xin_67 _ (List.mem_of_getElem? (i := 11) rfl)) xy_X8_isSign (xi_X8_isSign) (xs_X8_isSign) [1, 2] xv_47 (by omega) (by decide) (b := 0) rfl ⟨_, _, rfl⟩ (av := [.inl 60]) rfl (Nat.le_of_ble_eq_true rfl) (c_T_isSign _ _ _ _ hq1) rfl ?_
  refine x_istore_n C dX5_readComparison_14 (by decide) ?_
  refine x_aload_n C dX5_readComparison_15 rfl ?_
  refine x_getR C dX5_readComparison_16 fF_X5_9 rfl rfl ?_
  refine x_bipush C dX5_readComparison_19 (by decide) ?_
  obtain ⟨q2, hq2, h⟩ := x_bind h
  refine x_callVp C dX5_readComparison_21 (xin_67 _ (List.mem_of_getElem? (i := 11) rfl)) xy_X8_isSign (xi_X8_isSign) (xs_X8_isSign) [1, 2] xv_47 (by omega) (by decide) (b := 0) rfl ⟨_, _, rfl⟩ (av := [.inl 62]) rfl (Nat.le_of_ble_eq_true rfl) (c_T_isSign _ _ _ _ hq2) rfl ?_
  refine x_istore_n C dX5_readComparison_24 (by decide) ?_
  refine x_iload_n C dX5_readComparison_25 rfl ?_
  refine x_if_ne C 56 dX5_readComparison_26 (by decide) h (fun h => ?_) (fun h => ?_)
  · refine x_loc [(0, .inr (.inr (some 0))), (1, .inl q0.1), (2, .inl q1), (3, .inl q2)] ⟨rfl, rfl, rfl, rfl, trivial⟩ ?_
    exact t_Q_comparison_56 hd9 C hR _ _ _ _ h
  · refine x_iload_n C dX5_readComparison_29 rfl ?_
    refine x_if_ne C 56 dX5_readComparison_30 (by decide) h (fun h => ?_) (fun h => ?_)
    · refine x_loc [(0, .inr (.inr (some 0))), (1, .inl q0.1), (2, .inl q1), (3, .inl q2)] ⟨rfl, rfl, rfl, rfl, trivial⟩ ?_
      exact t_Q_comparison_56 hd9 C hR _ _ _ _ h
    · refine x_aload_n C dX5_readComparison_33 rfl ?_
      refine x_getR C dX5_readComparison_34 fF_X5_9 rfl rfl ?_
      refine x_bipush C dX5_readComparison_37 (by decide) ?_
      obtain ⟨q8, hq8, h⟩ := x_bind h
      refine x_callVp C dX5_readComparison_39 (xin_67 _ (List.mem_of_getElem? (i := 11) rfl)) xy_X8_isSign (xi_X8_isSign) (xs_X8_isSign) [1, 2] xv_47 (by omega) (by decide) (b := 0) rfl ⟨_, _, rfl⟩ (av := [.inl 61]) rfl (Nat.le_of_ble_eq_true rfl) (c_T_isSign _ _ _ _ hq8) rfl ?_
      refine x_if_ne C 56 dX5_readComparison_42 (by decide) h (fun h => ?_) (fun h => ?_)
      · refine x_loc [(0, .inr (.inr (some 0))), (1, .inl q0.1), (2, .inl q1), (3, .inl q2)] ⟨rfl, rfl, rfl, rfl, trivial⟩ ?_
        exact t_Q_comparison_56 hd9 C hR _ _ _ _ h
      · refine x_aload_n C dX5_readComparison_45 rfl ?_
        refine x_getR C dX5_readComparison_46 fF_X5_9 rfl rfl ?_
        refine x_iconst C dX5_readComparison_49 ?_
        obtain ⟨q9, hq9, h⟩ := x_bind h
        refine x_callV C dX5_readComparison_50 (xin_66 _ (List.mem_of_getElem? (i := 19) rfl)) xy_X8_fail (xi_X8_fail) (xs_X8_fail) [1, 2] xv_47 (by omega) (by decide) (b := 0) rfl ⟨_, _, rfl⟩ (av := [.inl 1]) rfl (Nat.le_of_ble_eq_true rfl) (c_T_fail _ _ _ q9.1 q9.2 hq9) rfl ?_
        refine x_pop C dX5_readComparison_53 rfl ?_
        refine x_lconst C dX5_readComparison_54 ?_
        exact x_lreturn hR dX5_readComparison_55 h
theorem c_Q_comparison (l : Launch) (m : xM) (r : Int) (m9 : xM) (h : f_Q_comparison m = some (r, m9)) : xMet l yX5_readComparison cX5_readComparison 9 (some .long) 6 lay_Q [.inr (.inr (some 0))] m (some (.inr (.inl r))) m9 :=
  xMet_l (by decide +kernel) (Nat.le_of_ble_eq_true rfl) (fun Γ C hR hl9 => t_Q_comparison (Nat.le_refl _) C hR m h)

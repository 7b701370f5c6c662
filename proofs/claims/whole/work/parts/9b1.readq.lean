/-! ===== the class's readQuery ===== -/
theorem dX5_readQuery_0 : decode cX5_readQuery 0 = .ok (.aload_n 0, 1) := by decide +kernel
theorem dX5_readQuery_1 : decode cX5_readQuery 1 = .ok (.getfield 9, 3) := by decide +kernel
theorem dX5_readQuery_4 : decode cX5_readQuery 4 = .ok (.ldc 19, 2) := by decide +kernel
theorem dX5_readQuery_6 : decode cX5_readQuery 6 = .ok (.invokevirtual 21, 3) := by decide +kernel
theorem dX5_readQuery_9 : decode cX5_readQuery 9 = .ok (.istore_n 1, 1) := by decide +kernel
theorem dX5_readQuery_10 : decode cX5_readQuery 10 = .ok (.iload_n 1, 1) := by decide +kernel
theorem dX5_readQuery_11 : decode cX5_readQuery 11 = .ok (.ifCond .ne 26, 3) := by decide +kernel
theorem dX5_readQuery_14 : decode cX5_readQuery 14 = .ok (.aload_n 0, 1) := by decide +kernel
theorem dX5_readQuery_15 : decode cX5_readQuery 15 = .ok (.getfield 9, 3) := by decide +kernel
theorem dX5_readQuery_18 : decode cX5_readQuery 18 = .ok (.ldc 27, 2) := by decide +kernel
theorem dX5_readQuery_20 : decode cX5_readQuery 20 = .ok (.invokevirtual 21, 3) := by decide +kernel
theorem dX5_readQuery_23 : decode cX5_readQuery 23 = .ok (.ifCond .ne 14, 3) := by decide +kernel
theorem dX5_readQuery_26 : decode cX5_readQuery 26 = .ok (.aload_n 0, 1) := by decide +kernel
theorem dX5_readQuery_27 : decode cX5_readQuery 27 = .ok (.getfield 9, 3) := by decide +kernel
theorem dX5_readQuery_30 : decode cX5_readQuery 30 = .ok (.iconst 1, 1) := by decide +kernel
theorem dX5_readQuery_31 : decode cX5_readQuery 31 = .ok (.invokevirtual 29, 3) := by decide +kernel
theorem dX5_readQuery_34 : decode cX5_readQuery 34 = .ok (.pop, 1) := by decide +kernel
theorem dX5_readQuery_35 : decode cX5_readQuery 35 = .ok (.iconst (-1), 1) := by decide +kernel
theorem dX5_readQuery_36 : decode cX5_readQuery 36 = .ok (.ireturn, 1) := by decide +kernel
theorem dX5_readQuery_37 : decode cX5_readQuery 37 = .ok (.aload_n 0, 1) := by decide +kernel
theorem dX5_readQuery_38 : decode cX5_readQuery 38 = .ok (.getfield 9, 3) := by decide +kernel
theorem dX5_readQuery_41 : decode cX5_readQuery 41 = .ok (.invokevirtual 33, 3) := by decide +kernel
theorem dX5_readQuery_44 : decode cX5_readQuery 44 = .ok (.aload_n 0, 1) := by decide +kernel
theorem dX5_readQuery_45 : decode cX5_readQuery 45 = .ok (.iconst 0, 1) := by decide +kernel
theorem dX5_readQuery_46 : decode cX5_readQuery 46 = .ok (.invokevirtual 36, 3) := by decide +kernel
theorem dX5_readQuery_49 : decode cX5_readQuery 49 = .ok (.lstore_n 2, 1) := by decide +kernel
theorem dX5_readQuery_50 : decode cX5_readQuery 50 = .ok (.aload_n 0, 1) := by decide +kernel
theorem dX5_readQuery_51 : decode cX5_readQuery 51 = .ok (.getfield 9, 3) := by decide +kernel
theorem dX5_readQuery_54 : decode cX5_readQuery 54 = .ok (.getfield 40, 3) := by decide +kernel
theorem dX5_readQuery_57 : decode cX5_readQuery 57 = .ok (.ifCond .eq 14, 3) := by decide +kernel
theorem dX5_readQuery_60 : decode cX5_readQuery 60 = .ok (.aload_n 0, 1) := by decide +kernel
theorem dX5_readQuery_61 : decode cX5_readQuery 61 = .ok (.getfield 9, 3) := by decide +kernel
theorem dX5_readQuery_64 : decode cX5_readQuery 64 = .ok (.iconst 1, 1) := by decide +kernel
theorem dX5_readQuery_65 : decode cX5_readQuery 65 = .ok (.invokevirtual 29, 3) := by decide +kernel
theorem dX5_readQuery_68 : decode cX5_readQuery 68 = .ok (.pop, 1) := by decide +kernel
theorem dX5_readQuery_69 : decode cX5_readQuery 69 = .ok (.iconst (-1), 1) := by decide +kernel
theorem dX5_readQuery_70 : decode cX5_readQuery 70 = .ok (.ireturn, 1) := by decide +kernel
theorem dX5_readQuery_71 : decode cX5_readQuery 71 = .ok (.iload_n 1, 1) := by decide +kernel
theorem dX5_readQuery_72 : decode cX5_readQuery 72 = .ok (.ifCond .eq 8, 3) := by decide +kernel
theorem dX5_readQuery_75 : decode cX5_readQuery 75 = .ok (.lload_n 2, 1) := by decide +kernel
theorem dX5_readQuery_76 : decode cX5_readQuery 76 = .ok (.invokestatic 44, 3) := by decide +kernel
theorem dX5_readQuery_79 : decode cX5_readQuery 79 = .ok (.ireturn, 1) := by decide +kernel
theorem dX5_readQuery_80 : decode cX5_readQuery 80 = .ok (.lload_n 2, 1) := by decide +kernel
theorem dX5_readQuery_81 : decode cX5_readQuery 81 = .ok (.lconst 0, 1) := by decide +kernel
theorem dX5_readQuery_82 : decode cX5_readQuery 82 = .ok (.lcmp, 1) := by decide +kernel
theorem dX5_readQuery_83 : decode cX5_readQuery 83 = .ok (.ifCond .ne 7, 3) := by decide +kernel
theorem dX5_readQuery_86 : decode cX5_readQuery 86 = .ok (.iconst (-1), 1) := by decide +kernel
theorem dX5_readQuery_87 : decode cX5_readQuery 87 = .ok (.goto 7, 3) := by decide +kernel
theorem dX5_readQuery_90 : decode cX5_readQuery 90 = .ok (.lload_n 2, 1) := by decide +kernel
theorem dX5_readQuery_91 : decode cX5_readQuery 91 = .ok (.invokestatic 50, 3) := by decide +kernel
theorem dX5_readQuery_94 : decode cX5_readQuery 94 = .ok (.ireturn, 1) := by decide +kernel
theorem xyJ13_bit : xY yJ13_bitCount_95d88 cJ13_bitCount_95d88 2 (some .int) 1 := ⟨by decide +kernel, by decide +kernel, by decide, by decide, by decide +kernel⟩
theorem xyJ13_ntz : xY yJ13_numberOfTrailingZeros_95d88 cJ13_numberOfTrailingZeros_95d88 3 (some .int) 1 := ⟨by decide +kernel, by decide +kernel, by decide, by decide, by decide +kernel⟩
def f_Q_rqz (w x2 : Int) : Int := if xw w = 0 then (if xw (xlcmp x2 0) = 0 then -1 else f_lntz x2) else f_bit x2
def f_Q_rq_37 (w : Int) (m : xM) : Option (Int × xM) :=
  Option.bind (f_T_next (xvw [1, 2] m)) fun q1 => Option.bind (f_Q_testC 0 (xmg [1, 2] 2 m q1)) fun q2 =>
    if xw (q2.2 1 2) = 0 then some (f_Q_rqz w q2.1, q2.2) else Option.bind (f_T_fail 1 (xvw [1, 2] q2.2)) fun q3 => some (-1, xmg [1, 2] 2 q2.2 q3.2)
def f_Q_readQuery (m : xM) : Option (Int × xM) :=
  Option.bind (f_T_isWord 6 (xvw [1, 2] m)) fun q0 =>
    if xw q0 = 0 then Option.bind (f_T_isWord 5 (xvw [1, 2] m)) fun q1 =>
      if xw q1 = 0 then Option.bind (f_T_fail 1 (xvw [1, 2] m)) fun q2 => some (-1, xmg [1, 2] 2 m q2.2) else f_Q_rq_37 q0 m
    else f_Q_rq_37 q0 m
set_option maxRecDepth 1000000 in
set_option maxHeartbeats 4000000 in
theorem t_Q_rq_37 {Γ : xG} {d : Nat} (hd9 : 63 ≤ d) (C : xC Γ lay_Q RX5 cX5_readQuery 4 d) (w : Int) {r : Int} {m9 : xM} (hR : xRi Γ lay_Q cX5_readQuery r m9) (m : xM) (h : f_Q_rq_37 w m = some (r, m9)) : xW Γ lay_Q 4 37 [(0, .inr (.inr (some 0))), (1, .inl w)] [] m := by
  unfold f_Q_rq_37 at h
  refine x_aload_n C dX5_readQuery_37 rfl ?_
  refine x_getR C dX5_readQuery_38 fF_X5_9 rfl rfl ?_
  obtain ⟨q1, hq1, h⟩ := x_bind h
  refine x_callV C dX5_readQuery_41 (xin_66 _ (List.mem_of_getElem? (i := 20) rfl)) xy_X8_next (xi_X8_next) (xs_X8_next) [1, 2] xv_47 (by omega) (by decide) (b := 0) rfl ⟨_, _, rfl⟩ (av := []) rfl (Nat.le_of_ble_eq_true rfl) (c_T_next _ _ _ hq1) rfl ?_
  refine x_aload_n C dX5_readQuery_44 rfl ?_
  refine x_iconst C dX5_readQuery_45 ?_
  obtain ⟨q2, hq2, h⟩ := x_bind h
  refine x_callVI C dX5_readQuery_46 (xin_66 _ (List.mem_of_getElem? (i := 21) rfl)) xy_X5_readTest (xi_X5_readTest) (xs_X5_readTest) (by omega) (by decide) (b := 0) rfl ⟨_, _, rfl⟩ (av := [.inl 0]) rfl (Nat.le_of_ble_eq_true rfl) (c_Q_testC _ _ _ q2.1 q2.2 hq2) rfl ?_
  refine x_lstore_n C dX5_readQuery_49 (by decide) ?_
  refine x_aload_n C dX5_readQuery_50 rfl ?_
  refine x_getR C dX5_readQuery_51 fF_X5_9 rfl rfl ?_
  refine x_getI C dX5_readQuery_54 fF_X5_40 rfl rfl ?_
  refine x_if_eq C 71 dX5_readQuery_57 (by decide) h (fun h => ?_) (fun h => ?_)
  · refine x_iload_n (x := w) C dX5_readQuery_71 rfl ?_
    by_cases hc : xw w = 0
    · refine x_if_eqT C 80 dX5_readQuery_72 (by decide) hc ?_
      refine x_lload_n (x := q2.1) C dX5_readQuery_80 rfl ?_
      refine x_lconst C dX5_readQuery_81 ?_
      refine x_lcmp C dX5_readQuery_82 ?_
      by_cases hz : xw (xlcmp q2.1 0) = 0
      · refine x_if_neN C 90 dX5_readQuery_83 (by decide) hz ?_
        refine x_iconst C dX5_readQuery_86 ?_
        refine x_goto C 94 dX5_readQuery_87 (by decide) ?_
        rw [show f_Q_rqz w q2.1 = -1 from by unfold f_Q_rqz; rw [if_pos hc, if_pos hz]] at h
        exact x_ireturn hR dX5_readQuery_94 h
      · refine x_if_neT C 90 dX5_readQuery_83 (by decide) hz ?_
        refine x_lload_n (x := q2.1) C dX5_readQuery_90 rfl ?_
        refine x_callSI C (dY := 1) (st := []) (av := [.inr (.inl q2.1)]) dX5_readQuery_91 (xin_68 _ (List.mem_of_getElem? (i := 14) rfl)) xyJ13_ntz (by decide +kernel) (by omega) (by decide) rfl (Nat.le_of_ble_eq_true rfl) (c_J13_ntz _ _ _ _) rfl ?_
        rw [show f_Q_rqz w q2.1 = f_lntz q2.1 from by unfold f_Q_rqz; rw [if_pos hc, if_neg hz]] at h
        exact x_ireturn hR dX5_readQuery_94 h
    · refine x_if_eqN C 80 dX5_readQuery_72 (by decide) hc ?_
      refine x_lload_n (x := q2.1) C dX5_readQuery_75 rfl ?_
      refine x_callSI C (dY := 0) (st := []) (av := [.inr (.inl q2.1)]) dX5_readQuery_76 (xin_68 _ (List.mem_of_getElem? (i := 7) rfl)) xyJ13_bit (by decide +kernel) (by omega) (by decide) rfl (Nat.le_of_ble_eq_true rfl) (c_J13_bit _ _ _ _) rfl ?_
      rw [show f_Q_rqz w q2.1 = f_bit q2.1 from by unfold f_Q_rqz; rw [if_neg hc]] at h
      exact x_ireturn hR dX5_readQuery_79 h
  · skip
    refine x_aload_n C dX5_readQuery_60 rfl ?_
    refine x_getR C dX5_readQuery_61 fF_X5_9 rfl rfl ?_
    refine x_iconst C dX5_readQuery_64 ?_
    obtain ⟨q3, hq3, h⟩ := x_bind h
    refine x_callV C dX5_readQuery_65 (xin_66 _ (List.mem_of_getElem? (i := 19) rfl)) xy_X8_fail (xi_X8_fail) (xs_X8_fail) [1, 2] xv_47 (by omega) (by decide) (b := 0) rfl ⟨_, _, rfl⟩ (av := [.inl 1]) rfl (Nat.le_of_ble_eq_true rfl) (c_T_fail _ _ _ q3.1 q3.2 hq3) rfl ?_
    refine x_pop C dX5_readQuery_68 rfl ?_
    refine x_iconst C dX5_readQuery_69 ?_
    exact x_ireturn hR dX5_readQuery_70 h
set_option maxRecDepth 1000000 in
set_option maxHeartbeats 4000000 in
theorem t_Q_readQuery {Γ : xG} {d : Nat} (hd9 : 63 ≤ d) (C : xC Γ lay_Q RX5 cX5_readQuery 4 d) {r : Int} {m9 : xM} (hR : xRi Γ lay_Q cX5_readQuery r m9) (m : xM) (h : f_Q_readQuery m = some (r, m9)) : xW Γ lay_Q 4 0 [(0, .inr (.inr (some 0)))] [] m := by
  unfold f_Q_readQuery at h
  refine x_aload_n C dX5_readQuery_0 rfl ?_
  refine x_getR C dX5_readQuery_1 fF_X5_9 rfl rfl ?_
  refine x_ldcS C "many" 6 dX5_readQuery_4 (by decide) ?_
  obtain ⟨q0, hq0, h⟩ := x_bind h
  refine x_callVp C dX5_readQuery_6 (xin_66 _ (List.mem_of_getElem? (i := 18) rfl)) xy_X8_isWord (xi_X8_isWord) (xs_X8_isWord) [1, 2] xv_47 (by omega) (by decide) (b := 0) rfl ⟨_, _, rfl⟩ (av := [.inr (.inr (some 1006))]) rfl (Nat.le_of_ble_eq_true rfl) (c_T_isWord _ 6 (by decide) _ _ hq0) rfl ?_
  refine x_istore_n C dX5_readQuery_9 (by decide) ?_
  refine x_iload_n C dX5_readQuery_10 rfl ?_
  refine x_if_ne C 37 dX5_readQuery_11 (by decide) h (fun h => ?_) (fun h => ?_)
  · refine x_loc [(0, .inr (.inr (some 0))), (1, .inl q0)] ⟨rfl, rfl, trivial⟩ ?_
    exact t_Q_rq_37 hd9 C _ hR _ h
  · refine x_aload_n C dX5_readQuery_14 rfl ?_
    refine x_getR C dX5_readQuery_15 fF_X5_9 rfl rfl ?_
    refine x_ldcS C "first" 5 dX5_readQuery_18 (by decide) ?_
    obtain ⟨q1, hq1, h⟩ := x_bind h
    refine x_callVp C dX5_readQuery_20 (xin_66 _ (List.mem_of_getElem? (i := 18) rfl)) xy_X8_isWord (xi_X8_isWord) (xs_X8_isWord) [1, 2] xv_47 (by omega) (by decide) (b := 0) rfl ⟨_, _, rfl⟩ (av := [.inr (.inr (some 1005))]) rfl (Nat.le_of_ble_eq_true rfl) (c_T_isWord _ 5 (by decide) _ _ hq1) rfl ?_
    refine x_if_ne C 37 dX5_readQuery_23 (by decide) h (fun h => ?_) (fun h => ?_)
    · refine x_loc [(0, .inr (.inr (some 0))), (1, .inl q0)] ⟨rfl, rfl, trivial⟩ ?_
      exact t_Q_rq_37 hd9 C _ hR _ h
    · skip
      refine x_aload_n C dX5_readQuery_26 rfl ?_
      refine x_getR C dX5_readQuery_27 fF_X5_9 rfl rfl ?_
      refine x_iconst C dX5_readQuery_30 ?_
      obtain ⟨q2, hq2, h⟩ := x_bind h
      refine x_callV C dX5_readQuery_31 (xin_66 _ (List.mem_of_getElem? (i := 19) rfl)) xy_X8_fail (xi_X8_fail) (xs_X8_fail) [1, 2] xv_47 (by omega) (by decide) (b := 0) rfl ⟨_, _, rfl⟩ (av := [.inl 1]) rfl (Nat.le_of_ble_eq_true rfl) (c_T_fail _ _ _ q2.1 q2.2 hq2) rfl ?_
      refine x_pop C dX5_readQuery_34 rfl ?_
      refine x_iconst C dX5_readQuery_35 ?_
      exact x_ireturn hR dX5_readQuery_36 h
theorem c_Q_readQuery (l : Launch) (m : xM) (r : Int) (m9 : xM) (h : f_Q_readQuery m = some (r, m9)) : xMet l yX5_readQuery cX5_readQuery 4 (some .int) 63 lay_Q [.inr (.inr (some 0))] m (some (.inl r)) m9 :=
  xMet_i (by decide +kernel) (Nat.le_of_ble_eq_true rfl) (fun Γ C hR _ => t_Q_readQuery (Nat.le_refl _) C hR m h)
theorem dX10_query_0 : decode cX10_query 0 = .ok (.aload_n 0, 1) := by decide +kernel
theorem dX10_query_1 : decode cX10_query 1 = .ok (.iload_n 1, 1) := by decide +kernel
theorem dX10_query_2 : decode cX10_query 2 = .ok (.sipush 200, 3) := by decide +kernel
theorem dX10_query_5 : decode cX10_query 5 = .ok (.invokevirtual 97, 3) := by decide +kernel
theorem dX10_query_8 : decode cX10_query 8 = .ok (.aload_n 0, 1) := by decide +kernel
theorem dX10_query_9 : decode cX10_query 9 = .ok (.getfield 54, 3) := by decide +kernel
theorem dX10_query_12 : decode cX10_query 12 = .ok (.iload_n 1, 1) := by decide +kernel
theorem dX10_query_13 : decode cX10_query 13 = .ok (.invokevirtual 101, 3) := by decide +kernel
theorem dX10_query_16 : decode cX10_query 16 = .ok (.aload_n 0, 1) := by decide +kernel
theorem dX10_query_17 : decode cX10_query 17 = .ok (.getfield 76, 3) := by decide +kernel
theorem dX10_query_20 : decode cX10_query 20 = .ok (.invokevirtual 362, 3) := by decide +kernel
theorem dX10_query_23 : decode cX10_query 23 = .ok (.istore_n 2, 1) := by decide +kernel
theorem dX10_query_24 : decode cX10_query 24 = .ok (.aload_n 0, 1) := by decide +kernel
theorem dX10_query_25 : decode cX10_query 25 = .ok (.invokevirtual 107, 3) := by decide +kernel
theorem dX10_query_28 : decode cX10_query 28 = .ok (.aload_n 0, 1) := by decide +kernel
theorem dX10_query_29 : decode cX10_query 29 = .ok (.getfield 54, 3) := by decide +kernel
theorem dX10_query_32 : decode cX10_query 32 = .ok (.getfield 110, 3) := by decide +kernel
theorem dX10_query_35 : decode cX10_query 35 = .ok (.ifCond .ne 7, 3) := by decide +kernel
theorem dX10_query_38 : decode cX10_query 38 = .ok (.iload_n 2, 1) := by decide +kernel
theorem dX10_query_39 : decode cX10_query 39 = .ok (.goto 14, 3) := by decide +kernel
theorem dX10_query_42 : decode cX10_query 42 = .ok (.ldc_w 365, 3) := by decide +kernel
theorem dX10_query_45 : decode cX10_query 45 = .ok (.aload_n 0, 1) := by decide +kernel
theorem dX10_query_46 : decode cX10_query 46 = .ok (.getfield 54, 3) := by decide +kernel
theorem dX10_query_49 : decode cX10_query 49 = .ok (.getfield 110, 3) := by decide +kernel
theorem dX10_query_52 : decode cX10_query 52 = .ok (.isub, 1) := by decide +kernel
theorem dX10_query_53 : decode cX10_query 53 = .ok (.ireturn, 1) := by decide +kernel
theorem fF_X10_76q : xF RX10 76 12 14 (.object "ModemLink$QueryReader") true := ⟨RX10, TX10, 16, tyX10, rfl, by decide, (xin_2 _ (List.mem_of_getElem? (i := 16) rfl)), rfl, inlX10, tyX10_ok, nmX10, rfl, rfl⟩
theorem xy_X5_readQuery : xY yX5_readQuery cX5_readQuery 4 (some .int) 0 := ⟨(xin_66 _ (List.mem_of_getElem? (i := 16) rfl)), (xin_2 _ (List.mem_of_getElem? (i := 14) rfl)), by decide, by decide, by decide +kernel⟩
theorem xi_X5_readQuery : Cond.instanceMethod yX5_readQuery ∈ wsL_law := (xin_66 _ (List.mem_of_getElem? (i := 14) rfl))
theorem xs_X5_readQuery : Cond.selects yX5_readQuery.cls yX5_readQuery yX5_readQuery ∈ wsL_law := (xin_66 _ (List.mem_of_getElem? (i := 15) rfl))
theorem xv_query : xview lay_X lay_Q [444, 442, 441, 39, 40] := xview_of (by decide +kernel)
def f_X_query (z : Int) (m : xM) : Option (Int × xM) :=
  Option.bind (f_X_checkLength z 200 m) fun _ => Option.bind (f_T_open z (xvw [442, 441] m)) fun q1 =>
    Option.bind (f_Q_readQuery (xvw [444, 442, 441, 39, 40] (xmg [442, 441] 2 m q1))) fun q2 =>
      Option.bind (f_X_closeText (xmg [444, 442, 441, 39, 40] 5 (xmg [442, 441] 2 m q1) q2.2)) fun q3 =>
        if xw (q3 442 6) = 0 then some (q2.1, q3) else some ((-1000000000) - q3 442 6, q3)
set_option maxRecDepth 1000000 in
set_option maxHeartbeats 4000000 in
theorem t_X_query {Γ : xG} {d : Nat} (hd9 : 64 ≤ d) (C : xC Γ lay_X RX10 cX10_query 3 d) (z : Int) {r : Int} {m9 : xM} (hR : xRi Γ lay_X cX10_query r m9) (m : xM) (h : f_X_query z m = some (r, m9)) : xW Γ lay_X 3 0 [(0, .inr (.inr (some 0))), (1, .inl z)] [] m := by
  unfold f_X_query at h
  refine x_aload_n C dX10_query_0 rfl ?_
  refine x_iload_n C dX10_query_1 rfl ?_
  refine x_sipush C dX10_query_2 (by decide) ?_
  obtain ⟨q0, hq0, h⟩ := x_bind h
  refine x_callVI C dX10_query_5 (xin_10 _ (List.mem_of_getElem? (i := 23) rfl)) xy_X10_checkLength (xi_X10_checkLength) (xs_X10_checkLength) (by omega) (by decide) (b := 0) rfl ⟨_, _, rfl⟩ (av := [.inl z, .inl 200]) rfl (Nat.le_of_ble_eq_true rfl) (c_X_checkLength _ _ _ _ _ hq0) rfl ?_
  refine x_aload_n C dX10_query_8 rfl ?_
  refine x_getR C dX10_query_9 fF_X10_54 rfl rfl ?_
  refine x_iload_n C dX10_query_12 rfl ?_
  obtain ⟨q1, hq1, h⟩ := x_bind h
  refine x_callV C dX10_query_13 (xin_11 _ (List.mem_of_getElem? (i := 5) rfl)) xy_X8_open (xi_X8_open) (xs_X8_open) [442, 441] xv_96 (by omega) (by decide) (b := 0) rfl ⟨_, _, rfl⟩ (av := [.inl z]) rfl (Nat.le_of_ble_eq_true rfl) (c_T_open _ _ _ _ hq1) rfl ?_
  refine x_aload_n C dX10_query_16 rfl ?_
  refine x_getR C dX10_query_17 fF_X10_76q rfl rfl ?_
  obtain ⟨q2, hq2, h⟩ := x_bind h
  refine x_callV C dX10_query_20 (xin_66 _ (List.mem_of_getElem? (i := 13) rfl)) xy_X5_readQuery (xi_X5_readQuery) (xs_X5_readQuery) [444, 442, 441, 39, 40] xv_query (by omega) (by decide) (b := 0) rfl ⟨_, _, rfl⟩ (av := []) rfl (Nat.le_of_ble_eq_true rfl) (c_Q_readQuery _ _ q2.1 q2.2 hq2) rfl ?_
  refine x_istore_n C dX10_query_23 (by decide) ?_
  refine x_aload_n C dX10_query_24 rfl ?_
  obtain ⟨q3, hq3, h⟩ := x_bind h
  refine x_callVI C dX10_query_25 (xin_17 _ (List.mem_of_getElem? (i := 23) rfl)) xy_X10_closeText (xi_X10_closeText) (xs_X10_closeText) (by omega) (by decide) (b := 0) rfl ⟨_, _, rfl⟩ (av := []) rfl (Nat.le_of_ble_eq_true rfl) (c_X_closeText _ _ _ hq3) rfl ?_
  refine x_aload_n C dX10_query_28 rfl ?_
  refine x_getR C dX10_query_29 fF_X10_54 rfl rfl ?_
  refine x_getI C dX10_query_32 fF_X10_110 rfl rfl ?_
  refine x_if_ne C 42 dX10_query_35 (by decide) h (fun h => ?_) (fun h => ?_)
  · refine x_ldc_w (v := -1000000000) C (-1000000000) dX10_query_42 (by decide +kernel) (by decide) ?_
    refine x_aload_n C dX10_query_45 rfl ?_
    refine x_getR C dX10_query_46 fF_X10_54 rfl rfl ?_
    refine x_getI C dX10_query_49 fF_X10_110 rfl rfl ?_
    refine x_isub C dX10_query_52 ?_
    exact x_ireturn hR dX10_query_53 h
  · refine x_iload_n (x := q2.1) C dX10_query_38 rfl ?_
    refine x_goto C 53 dX10_query_39 (by decide) ?_
    exact x_ireturn hR dX10_query_53 h
theorem c_X_query (l : Launch) (z : Int) (m : xM) (r : Int) (m9 : xM) (h : f_X_query z m = some (r, m9)) : xMet l yX10_query cX10_query 3 (some .int) 64 lay_X [.inr (.inr (some 0)), .inl z] m (some (.inl r)) m9 :=
  xMet_i (by decide +kernel) (Nat.le_of_ble_eq_true rfl) (fun Γ C hR _ => t_X_query (Nat.le_refl _) C z hR m h)
def h_X_query (z : Int) (m : xM) : Option Nat := xthr (h_X_checkLength z 200 m) none
set_option maxRecDepth 1000000 in
set_option maxHeartbeats 4000000 in
theorem t_h_X_query {Γ : xG} {d : Nat} (hd9 : 7 ≤ d) (C : xC Γ lay_X RX10 cX10_query 3 d) (CT : xCT Γ) (z : Int) {r : Nat} {m : xM} (hR : xRt Γ lay_X m (xEx r)) (h : h_X_query z m = some r) : xW Γ lay_X 3 0 [(0, .inr (.inr (some 0))), (1, .inl z)] [] m := by
  unfold h_X_query at h
  refine x_aload_n C dX10_query_0 rfl ?_
  refine x_iload_n C dX10_query_1 rfl ?_
  refine x_sipush C dX10_query_2 (by decide) ?_
  rcases x_thr h with h9 | h
  · exact x_callVIT C CT hR dX10_query_5 (xin_10 _ (List.mem_of_getElem? (i := 23) rfl)) xy_X10_checkLength (xi_X10_checkLength) (xs_X10_checkLength) (by omega) (by decide) (b := 0) rfl ⟨_, _, rfl⟩ (av := [.inl z, .inl 200]) rfl (Nat.le_of_ble_eq_true rfl) (ch_X_checkLength _ (xCT_l CT) _ _ _ _ h9) rfl
  cases h
theorem ch_X_query (l : Launch) (hl : l.stackTraces = false) (z : Int) (m : xM) (r : Nat) (h : h_X_query z m = some r) : xMetT l yX10_query cX10_query 3 (some .int) 7 lay_X [.inr (.inr (some 0)), .inl z] m (xEx r) :=
  xMet_T hl (by decide +kernel) (Nat.le_of_ble_eq_true rfl) (fun Γ C CT hR hl9 => t_h_X_query (Nat.le_refl _) C CT z hR h)

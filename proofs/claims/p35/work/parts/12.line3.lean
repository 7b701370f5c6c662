/-! ===== yX3_arrive ===== -/
theorem fF_X3_199 : xF RX3 199 7 10 .int false := ⟨RX6, TX6, 14, tyX6, rfl, by decide, (xin_24 _ (List.mem_of_getElem? (i := 1) rfl)), rfl, inlX6, tyX6_ok, nmX6, rfl, rfl⟩
theorem xy_X9_hasFrom : xY yX9_hasFrom cX9_hasFrom 2 (some .boolean) 1 := ⟨(xin_24 _ (List.mem_of_getElem? (i := 8) rfl)), (xin_4 _ (List.mem_of_getElem? (i := 2) rfl)), by decide, by decide, by decide +kernel⟩
theorem xi_X9_hasFrom : Cond.instanceMethod yX9_hasFrom ∈ wsL_law := (xin_24 _ (List.mem_of_getElem? (i := 6) rfl))
theorem xs_X9_hasFrom : Cond.selects yX9_hasFrom.cls yX9_hasFrom yX9_hasFrom ∈ wsL_law := (xin_24 _ (List.mem_of_getElem? (i := 7) rfl))
theorem xy_X9_take : xY yX9_take cX9_take 2 (some .int) 0 := ⟨(xin_24 _ (List.mem_of_getElem? (i := 12) rfl)), (xin_4 _ (List.mem_of_getElem? (i := 2) rfl)), by decide, by decide, by decide +kernel⟩
theorem xi_X9_take : Cond.instanceMethod yX9_take ∈ wsL_law := (xin_24 _ (List.mem_of_getElem? (i := 10) rfl))
theorem xs_X9_take : Cond.selects yX9_take.cls yX9_take yX9_take ∈ wsL_law := (xin_24 _ (List.mem_of_getElem? (i := 11) rfl))
theorem fF_X3_210 : xF RX3 210 10 3 (.array .int) true := ⟨RX9, TX9, 6, tyX9, rfl, by decide, (xin_24 _ (List.mem_of_getElem? (i := 2) rfl)), rfl, inlX9, tyX9_ok, nmX9, rfl, rfl⟩
theorem fF_X3_213 : xF RX3 213 10 1 (.array .int) true := ⟨RX9, TX9, 6, tyX9, rfl, by decide, (xin_24 _ (List.mem_of_getElem? (i := 3) rfl)), rfl, inlX9, tyX9_ok, nmX9, rfl, rfl⟩
theorem fF_X3_216 : xF RX3 216 10 2 (.array .int) true := ⟨RX9, TX9, 6, tyX9, rfl, by decide, (xin_24 _ (List.mem_of_getElem? (i := 4) rfl)), rfl, inlX9, tyX9_ok, nmX9, rfl, rfl⟩
theorem xy_X3_acceptFrame : xY yX3_acceptFrame cX3_acceptFrame 11 none 3 := ⟨(xin_25 _ (List.mem_of_getElem? (i := 3) rfl)), (xin_1 _ (List.mem_of_getElem? (i := 18) rfl)), by decide, by decide, by decide +kernel⟩
theorem xi_X3_acceptFrame : Cond.instanceMethod yX3_acceptFrame ∈ wsL_law := (xin_25 _ (List.mem_of_getElem? (i := 1) rfl))
theorem xs_X3_acceptFrame : Cond.selects yX3_acceptFrame.cls yX3_acceptFrame yX3_acceptFrame ∈ wsL_law := (xin_25 _ (List.mem_of_getElem? (i := 2) rfl))
theorem xv_28 : xview lay_L0 lay_L1 xT_1 := xview_of (by decide +kernel)
theorem xy_X3_acceptAcknowledgement : xY yX3_acceptAcknowledgement cX3_acceptAcknowledgement 4 none 2 := ⟨(xin_24 _ (List.mem_of_getElem? (i := 16) rfl)), (xin_1 _ (List.mem_of_getElem? (i := 18) rfl)), by decide, by decide, by decide +kernel⟩
theorem xi_X3_acceptAcknowledgement : Cond.instanceMethod yX3_acceptAcknowledgement ∈ wsL_law := (xin_24 _ (List.mem_of_getElem? (i := 14) rfl))
theorem xs_X3_acceptAcknowledgement : Cond.selects yX3_acceptAcknowledgement.cls yX3_acceptAcknowledgement yX3_acceptAcknowledgement ∈ wsL_law := (xin_24 _ (List.mem_of_getElem? (i := 15) rfl))
theorem dX3_arrive_0 : decode cX3_arrive 0 = .ok (.iconst 0, 1) := by decide +kernel
theorem dX3_arrive_1 : decode cX3_arrive 1 = .ok (.istore_n 1, 1) := by decide +kernel
theorem dX3_arrive_2 : decode cX3_arrive 2 = .ok (.iload_n 1, 1) := by decide +kernel
theorem dX3_arrive_3 : decode cX3_arrive 3 = .ok (.bipush 64, 2) := by decide +kernel
theorem dX3_arrive_5 : decode cX3_arrive 5 = .ok (.if_icmp .ge 111, 3) := by decide +kernel
theorem dX3_arrive_8 : decode cX3_arrive 8 = .ok (.aload_n 0, 1) := by decide +kernel
theorem dX3_arrive_9 : decode cX3_arrive 9 = .ok (.getfield 24, 3) := by decide +kernel
theorem dX3_arrive_12 : decode cX3_arrive 12 = .ok (.aload_n 0, 1) := by decide +kernel
theorem dX3_arrive_13 : decode cX3_arrive 13 = .ok (.getfield 61, 3) := by decide +kernel
theorem dX3_arrive_16 : decode cX3_arrive 16 = .ok (.aload_n 0, 1) := by decide +kernel
theorem dX3_arrive_17 : decode cX3_arrive 17 = .ok (.getfield 46, 3) := by decide +kernel
theorem dX3_arrive_20 : decode cX3_arrive 20 = .ok (.getfield 199, 3) := by decide +kernel
theorem dX3_arrive_23 : decode cX3_arrive 23 = .ok (.isub, 1) := by decide +kernel
theorem dX3_arrive_24 : decode cX3_arrive 24 = .ok (.invokevirtual 202, 3) := by decide +kernel
theorem dX3_arrive_27 : decode cX3_arrive 27 = .ok (.ifCond .eq 89, 3) := by decide +kernel
theorem dX3_arrive_30 : decode cX3_arrive 30 = .ok (.aload_n 0, 1) := by decide +kernel
theorem dX3_arrive_31 : decode cX3_arrive 31 = .ok (.getfield 24, 3) := by decide +kernel
theorem dX3_arrive_34 : decode cX3_arrive 34 = .ok (.invokevirtual 206, 3) := by decide +kernel
theorem dX3_arrive_37 : decode cX3_arrive 37 = .ok (.istore_n 2, 1) := by decide +kernel
theorem dX3_arrive_38 : decode cX3_arrive 38 = .ok (.aload_n 0, 1) := by decide +kernel
theorem dX3_arrive_39 : decode cX3_arrive 39 = .ok (.getfield 24, 3) := by decide +kernel
theorem dX3_arrive_42 : decode cX3_arrive 42 = .ok (.getfield 210, 3) := by decide +kernel
theorem dX3_arrive_45 : decode cX3_arrive 45 = .ok (.iload_n 2, 1) := by decide +kernel
theorem dX3_arrive_46 : decode cX3_arrive 46 = .ok (.iaload, 1) := by decide +kernel
theorem dX3_arrive_47 : decode cX3_arrive 47 = .ok (.iconst 1, 1) := by decide +kernel
theorem dX3_arrive_48 : decode cX3_arrive 48 = .ok (.iand, 1) := by decide +kernel
theorem dX3_arrive_49 : decode cX3_arrive 49 = .ok (.ifCond .eq 30, 3) := by decide +kernel
theorem dX3_arrive_52 : decode cX3_arrive 52 = .ok (.aload_n 0, 1) := by decide +kernel
theorem dX3_arrive_53 : decode cX3_arrive 53 = .ok (.iconst 1, 1) := by decide +kernel
theorem dX3_arrive_54 : decode cX3_arrive 54 = .ok (.aload_n 0, 1) := by decide +kernel
theorem dX3_arrive_55 : decode cX3_arrive 55 = .ok (.getfield 24, 3) := by decide +kernel
theorem dX3_arrive_58 : decode cX3_arrive 58 = .ok (.getfield 213, 3) := by decide +kernel
theorem dX3_arrive_61 : decode cX3_arrive 61 = .ok (.iload_n 2, 1) := by decide +kernel
theorem dX3_arrive_62 : decode cX3_arrive 62 = .ok (.iaload, 1) := by decide +kernel
theorem dX3_arrive_63 : decode cX3_arrive 63 = .ok (.isub, 1) := by decide +kernel
theorem dX3_arrive_64 : decode cX3_arrive 64 = .ok (.aload_n 0, 1) := by decide +kernel
theorem dX3_arrive_65 : decode cX3_arrive 65 = .ok (.getfield 24, 3) := by decide +kernel
theorem dX3_arrive_68 : decode cX3_arrive 68 = .ok (.getfield 216, 3) := by decide +kernel
theorem dX3_arrive_71 : decode cX3_arrive 71 = .ok (.iload_n 2, 1) := by decide +kernel
theorem dX3_arrive_72 : decode cX3_arrive 72 = .ok (.iaload, 1) := by decide +kernel
theorem dX3_arrive_73 : decode cX3_arrive 73 = .ok (.invokevirtual 219, 3) := by decide +kernel
theorem dX3_arrive_76 : decode cX3_arrive 76 = .ok (.goto 34, 3) := by decide +kernel
theorem dX3_arrive_79 : decode cX3_arrive 79 = .ok (.aload_n 0, 1) := by decide +kernel
theorem dX3_arrive_80 : decode cX3_arrive 80 = .ok (.aload_n 0, 1) := by decide +kernel
theorem dX3_arrive_81 : decode cX3_arrive 81 = .ok (.getfield 24, 3) := by decide +kernel
theorem dX3_arrive_84 : decode cX3_arrive 84 = .ok (.getfield 213, 3) := by decide +kernel
theorem dX3_arrive_87 : decode cX3_arrive 87 = .ok (.iload_n 2, 1) := by decide +kernel
theorem dX3_arrive_88 : decode cX3_arrive 88 = .ok (.iaload, 1) := by decide +kernel
theorem dX3_arrive_89 : decode cX3_arrive 89 = .ok (.aload_n 0, 1) := by decide +kernel
theorem dX3_arrive_90 : decode cX3_arrive 90 = .ok (.getfield 24, 3) := by decide +kernel
theorem dX3_arrive_93 : decode cX3_arrive 93 = .ok (.getfield 216, 3) := by decide +kernel
theorem dX3_arrive_96 : decode cX3_arrive 96 = .ok (.iload_n 2, 1) := by decide +kernel
theorem dX3_arrive_97 : decode cX3_arrive 97 = .ok (.iaload, 1) := by decide +kernel
theorem dX3_arrive_98 : decode cX3_arrive 98 = .ok (.aload_n 0, 1) := by decide +kernel
theorem dX3_arrive_99 : decode cX3_arrive 99 = .ok (.getfield 24, 3) := by decide +kernel
theorem dX3_arrive_102 : decode cX3_arrive 102 = .ok (.getfield 210, 3) := by decide +kernel
theorem dX3_arrive_105 : decode cX3_arrive 105 = .ok (.iload_n 2, 1) := by decide +kernel
theorem dX3_arrive_106 : decode cX3_arrive 106 = .ok (.iaload, 1) := by decide +kernel
theorem dX3_arrive_107 : decode cX3_arrive 107 = .ok (.invokevirtual 222, 3) := by decide +kernel
theorem dX3_arrive_110 : decode cX3_arrive 110 = .ok (.iinc 1 1, 3) := by decide +kernel
theorem dX3_arrive_113 : decode cX3_arrive 113 = .ok (.goto (-111), 3) := by decide +kernel
theorem dX3_arrive_116 : decode cX3_arrive 116 = .ok (.return_, 1) := by decide +kernel
def f_L_arrive_110 (k2 : Int → xM → Option (xM)) (x1 : Int) (m : xM) : Option (xM) :=
     k2 (x1 + 1) m
set_option maxRecDepth 1000000 in
set_option maxHeartbeats 4000000 in
theorem t_L_arrive_110 {Γ : xG} {d : Nat} (hd9 : 4 ≤ d) (C : xC Γ lay_L0 RX3 cX3_arrive 3 d) {m9 : xM} (hR : xRv Γ lay_L0 cX3_arrive m9) {k2 : Int → xM → Option (xM)} (hk2 : ∀ (x1 : Int) (m : xM), k2 x1 m = some m9 → xW Γ lay_L0 3 2 [(0, .inr (.inr (some 0))), (1, .inl x1)] [] m) (x1 : Int) (m : xM) (h : f_L_arrive_110 k2 x1 m = some m9) : xW Γ lay_L0 3 110 [(0, .inr (.inr (some 0))), (1, .inl x1)] [] m := by
  unfold f_L_arrive_110 at h
  refine x_iinc C dX3_arrive_110 (by decide) rfl ?_
  refine x_goto C 2 dX3_arrive_113 (by decide) ?_
  refine x_loc [(0, .inr (.inr (some 0))), (1, .inl (x1 + 1))] ⟨rfl, rfl, trivial⟩ ?_
  exact hk2 _ _ h
def f_L_arrive_2 : Nat → Int → xM → Option (xM)
  | 0, _, _ => none
  | n + 1, x1, m =>
     (if xw x1 < xw 64 then (Option.bind (f_W_has ((m 0 7) - (m 33 10)) (xvw [23, 24, 25, 26, 27] m)) fun q0 =>
      (if xw q0 = 0 then some m
      else (Option.bind (f_W_take (xvw [23, 24, 25, 26, 27] m)) fun q1 =>
      (if xib q1.1 64 then (if xw (xiand ((xmg [23, 24, 25, 26, 27] 5 m q1.2) 27 (xix q1.1)) 1) = 0 then (if xib q1.1 64 then (if xib q1.1 64 then (if xib q1.1 64 then (if xw ((xmg [23, 24, 25, 26, 27] 5 m q1.2) 25 (xix q1.1)) = 0 then (Option.bind (f_L_frame ((xmg [23, 24, 25, 26, 27] 5 m q1.2) 25 (xix q1.1)) ((xmg [23, 24, 25, 26, 27] 5 m q1.2) 26 (xix q1.1)) ((xmg [23, 24, 25, 26, 27] 5 m q1.2) 27 (xix q1.1)) (xmg [23, 24, 25, 26, 27] 5 m q1.2)) fun q3 =>
      f_L_arrive_110 (f_L_arrive_2 n) x1 q3)
      else (if xw ((xmg [23, 24, 25, 26, 27] 5 m q1.2) 25 (xix q1.1)) = 1 then (Option.bind (f_L_frame ((xmg [23, 24, 25, 26, 27] 5 m q1.2) 25 (xix q1.1)) ((xmg [23, 24, 25, 26, 27] 5 m q1.2) 26 (xix q1.1)) ((xmg [23, 24, 25, 26, 27] 5 m q1.2) 27 (xix q1.1)) (xvw xT_1 (xmg [23, 24, 25, 26, 27] 5 m q1.2))) fun q4 =>
      f_L_arrive_110 (f_L_arrive_2 n) x1 (xmg xT_1 38 (xmg [23, 24, 25, 26, 27] 5 m q1.2) q4))
      else none))
      else none)
      else none)
      else none)
      else (if xib q1.1 64 then (if xib q1.1 64 then (if xw (1 - ((xmg [23, 24, 25, 26, 27] 5 m q1.2) 25 (xix q1.1))) = 0 then (Option.bind (f_L_ack (1 - ((xmg [23, 24, 25, 26, 27] 5 m q1.2) 25 (xix q1.1))) ((xmg [23, 24, 25, 26, 27] 5 m q1.2) 26 (xix q1.1)) (xmg [23, 24, 25, 26, 27] 5 m q1.2)) fun q6 =>
      f_L_arrive_110 (f_L_arrive_2 n) x1 q6)
      else (if xw (1 - ((xmg [23, 24, 25, 26, 27] 5 m q1.2) 25 (xix q1.1))) = 1 then (Option.bind (f_L_ack (1 - ((xmg [23, 24, 25, 26, 27] 5 m q1.2) 25 (xix q1.1))) ((xmg [23, 24, 25, 26, 27] 5 m q1.2) 26 (xix q1.1)) (xvw xT_1 (xmg [23, 24, 25, 26, 27] 5 m q1.2))) fun q7 =>
      f_L_arrive_110 (f_L_arrive_2 n) x1 (xmg xT_1 38 (xmg [23, 24, 25, 26, 27] 5 m q1.2) q7))
      else none))
      else none)
      else none))
      else none))))
      else some m)
set_option maxRecDepth 1000000 in
set_option maxHeartbeats 4000000 in
theorem t_L_arrive_2 {Γ : xG} {d : Nat} (hd9 : 4 ≤ d) (C : xC Γ lay_L0 RX3 cX3_arrive 3 d) {m9 : xM} (hR : xRv Γ lay_L0 cX3_arrive m9) : ∀ (n : Nat) (x1 : Int) (m : xM), f_L_arrive_2 n x1 m = some m9 → xW Γ lay_L0 3 2 [(0, .inr (.inr (some 0))), (1, .inl x1)] [] m := by
  intro n
  induction n with
  | zero => intro _ _ h; cases h
  | succ n ih =>
    intro x1 m h
    rw [f_L_arrive_2] at h
    refine x_iload_n C dX3_arrive_2 rfl ?_
    refine x_bipush C dX3_arrive_3 (by decide) ?_
    refine x_icmp_ge C 116 dX3_arrive_5 (by decide) h (fun h => ?_) (fun h => ?_)
    · exact x_returnV hR dX3_arrive_116 h
    · refine x_aload_n C dX3_arrive_8 rfl ?_
      refine x_getR C dX3_arrive_9 fF_X3_24 rfl rfl ?_
      refine x_aload_n C dX3_arrive_12 rfl ?_
      refine x_getI C dX3_arrive_13 fF_X3_61 rfl rfl ?_
      refine x_aload_n C dX3_arrive_16 rfl ?_
      refine x_getR C dX3_arrive_17 fF_X3_46 rfl rfl ?_
      refine x_getI C dX3_arrive_20 fF_X3_199 rfl rfl ?_
      refine x_isub C dX3_arrive_23 ?_
      obtain ⟨q0, hq0, h⟩ := x_bind h
      refine x_callVp C dX3_arrive_24 (xin_24 _ (List.mem_of_getElem? (i := 5) rfl)) xy_X9_hasFrom (xi_X9_hasFrom) (xs_X9_hasFrom) [23, 24, 25, 26, 27] xv_25 (by omega) (by decide) (b := 0) rfl ⟨_, _, rfl⟩ (av := [.inl ((m 0 7) - (m 33 10))]) rfl (Nat.le_of_ble_eq_true rfl) (c_W_has _ _ _ _ hq0) rfl ?_
      refine x_if_eq C 116 dX3_arrive_27 (by decide) h (fun h => ?_) (fun h => ?_)
      · exact x_returnV hR dX3_arrive_116 h
      · refine x_aload_n C dX3_arrive_30 rfl ?_
        refine x_getR C dX3_arrive_31 fF_X3_24 rfl rfl ?_
        obtain ⟨q1, hq1, h⟩ := x_bind h
        refine x_callV C dX3_arrive_34 (xin_24 _ (List.mem_of_getElem? (i := 9) rfl)) xy_X9_take (xi_X9_take) (xs_X9_take) [23, 24, 25, 26, 27] xv_25 (by omega) (by decide) (b := 0) rfl ⟨_, _, rfl⟩ (av := []) rfl (Nat.le_of_ble_eq_true rfl) (c_W_take _ _ q1.1 q1.2 hq1) rfl ?_
        refine x_istore_n C dX3_arrive_37 (by decide) ?_
        refine x_aload_n C dX3_arrive_38 rfl ?_
        refine x_getR C dX3_arrive_39 fF_X3_24 rfl rfl ?_
        refine x_getR C dX3_arrive_42 fF_X3_210 rfl rfl ?_
        refine x_iload_n C dX3_arrive_45 rfl ?_
        refine x_iaload C dX3_arrive_46 rfl h (fun h => ?_)
        refine x_iconst C dX3_arrive_47 ?_
        refine x_iand C dX3_arrive_48 ?_
        refine x_if_eq C 79 dX3_arrive_49 (by decide) h (fun h => ?_) (fun h => ?_)
        · refine x_aload_n C dX3_arrive_79 rfl ?_
          refine x_aload_n C dX3_arrive_80 rfl ?_
          refine x_getR C dX3_arrive_81 fF_X3_24 rfl rfl ?_
          refine x_getR C dX3_arrive_84 fF_X3_213 rfl rfl ?_
          refine x_iload_n C dX3_arrive_87 rfl ?_
          refine x_iaload C dX3_arrive_88 rfl h (fun h => ?_)
          refine x_aload_n C dX3_arrive_89 rfl ?_
          refine x_getR C dX3_arrive_90 fF_X3_24 rfl rfl ?_
          refine x_getR C dX3_arrive_93 fF_X3_216 rfl rfl ?_
          refine x_iload_n C dX3_arrive_96 rfl ?_
          refine x_iaload C dX3_arrive_97 rfl h (fun h => ?_)
          refine x_aload_n C dX3_arrive_98 rfl ?_
          refine x_getR C dX3_arrive_99 fF_X3_24 rfl rfl ?_
          refine x_getR C dX3_arrive_102 fF_X3_210 rfl rfl ?_
          refine x_iload_n C dX3_arrive_105 rfl ?_
          refine x_iaload C dX3_arrive_106 rfl h (fun h => ?_)
          refine x_ite h (fun hk93 h => ?_) (fun _ h => ?_)
          · obtain ⟨q3, hq3, h⟩ := x_bind h
            refine x_callVI C dX3_arrive_107 (xin_25 _ (List.mem_of_getElem? (i := 0) rfl)) xy_X3_acceptFrame (xi_X3_acceptFrame) (xs_X3_acceptFrame) (by omega) (by decide) (b := 0) rfl ⟨_, _, rfl⟩ (av := [.inl ((xmg [23, 24, 25, 26, 27] 5 m q1.2) 25 (xix q1.1)), .inl ((xmg [23, 24, 25, 26, 27] 5 m q1.2) 26 (xix q1.1)), .inl ((xmg [23, 24, 25, 26, 27] 5 m q1.2) 27 (xix q1.1))]) rfl (Nat.le_of_ble_eq_true rfl) (c_L_frame _ _ _ _ (by first | decide | assumption | exact xw_1m0 (by assumption) | exact xw_1m1 (by assumption) | exact xw_ne1 (by assumption) | exact xw_n1m0 (by assumption)) _ _ hq3) rfl ?_
            refine x_loc [(0, .inr (.inr (some 0))), (1, .inl x1)] ⟨rfl, rfl, trivial⟩ ?_
            exact t_L_arrive_110 hd9 C hR ih _ _ h
          · obtain ⟨hk93, h⟩ := x_some1 h
            obtain ⟨q4, hq4, h⟩ := x_bind h
            refine x_callV C dX3_arrive_107 (xin_25 _ (List.mem_of_getElem? (i := 0) rfl)) xy_X3_acceptFrame (xi_X3_acceptFrame) (xs_X3_acceptFrame) xT_1 xv_28 (by omega) (by decide) (b := 0) rfl ⟨_, _, rfl⟩ (av := [.inl ((xmg [23, 24, 25, 26, 27] 5 m q1.2) 25 (xix q1.1)), .inl ((xmg [23, 24, 25, 26, 27] 5 m q1.2) 26 (xix q1.1)), .inl ((xmg [23, 24, 25, 26, 27] 5 m q1.2) 27 (xix q1.1))]) rfl (Nat.le_of_ble_eq_true rfl) (c_L_frame_1 _ _ _ _ (by first | decide | assumption | exact xw_1m0 (by assumption) | exact xw_1m1 (by assumption) | exact xw_ne1 (by assumption) | exact xw_n1m0 (by assumption)) _ _ hq4) rfl ?_
            refine x_loc [(0, .inr (.inr (some 0))), (1, .inl x1)] ⟨rfl, rfl, trivial⟩ ?_
            exact t_L_arrive_110 hd9 C hR ih _ _ h
        · refine x_aload_n C dX3_arrive_52 rfl ?_
          refine x_iconst C dX3_arrive_53 ?_
          refine x_aload_n C dX3_arrive_54 rfl ?_
          refine x_getR C dX3_arrive_55 fF_X3_24 rfl rfl ?_
          refine x_getR C dX3_arrive_58 fF_X3_213 rfl rfl ?_
          refine x_iload_n C dX3_arrive_61 rfl ?_
          refine x_iaload C dX3_arrive_62 rfl h (fun h => ?_)
          refine x_isub C dX3_arrive_63 ?_
          refine x_aload_n C dX3_arrive_64 rfl ?_
          refine x_getR C dX3_arrive_65 fF_X3_24 rfl rfl ?_
          refine x_getR C dX3_arrive_68 fF_X3_216 rfl rfl ?_
          refine x_iload_n C dX3_arrive_71 rfl ?_
          refine x_iaload C dX3_arrive_72 rfl h (fun h => ?_)
          refine x_ite h (fun hk96 h => ?_) (fun _ h => ?_)
          · obtain ⟨q6, hq6, h⟩ := x_bind h
            refine x_callVI C dX3_arrive_73 (xin_24 _ (List.mem_of_getElem? (i := 13) rfl)) xy_X3_acceptAcknowledgement (xi_X3_acceptAcknowledgement) (xs_X3_acceptAcknowledgement) (by omega) (by decide) (b := 0) rfl ⟨_, _, rfl⟩ (av := [.inl (1 - ((xmg [23, 24, 25, 26, 27] 5 m q1.2) 25 (xix q1.1))), .inl ((xmg [23, 24, 25, 26, 27] 5 m q1.2) 26 (xix q1.1))]) rfl (Nat.le_of_ble_eq_true rfl) (c_L_ack _ _ _ (by first | decide | assumption | exact xw_1m0 (by assumption) | exact xw_1m1 (by assumption) | exact xw_ne1 (by assumption) | exact xw_n1m0 (by assumption)) _ _ hq6) rfl ?_
            refine x_goto C 110 dX3_arrive_76 (by decide) ?_
            refine x_loc [(0, .inr (.inr (some 0))), (1, .inl x1)] ⟨rfl, rfl, trivial⟩ ?_
            exact t_L_arrive_110 hd9 C hR ih _ _ h
          · obtain ⟨hk96, h⟩ := x_some1 h
            obtain ⟨q7, hq7, h⟩ := x_bind h
            refine x_callV C dX3_arrive_73 (xin_24 _ (List.mem_of_getElem? (i := 13) rfl)) xy_X3_acceptAcknowledgement (xi_X3_acceptAcknowledgement) (xs_X3_acceptAcknowledgement) xT_1 xv_28 (by omega) (by decide) (b := 0) rfl ⟨_, _, rfl⟩ (av := [.inl (1 - ((xmg [23, 24, 25, 26, 27] 5 m q1.2) 25 (xix q1.1))), .inl ((xmg [23, 24, 25, 26, 27] 5 m q1.2) 26 (xix q1.1))]) rfl (Nat.le_of_ble_eq_true rfl) (c_L_ack_1 _ _ _ (by first | decide | assumption | exact xw_1m0 (by assumption) | exact xw_1m1 (by assumption) | exact xw_ne1 (by assumption) | exact xw_n1m0 (by assumption)) _ _ hq7) rfl ?_
            refine x_goto C 110 dX3_arrive_76 (by decide) ?_
            refine x_loc [(0, .inr (.inr (some 0))), (1, .inl x1)] ⟨rfl, rfl, trivial⟩ ?_
            exact t_L_arrive_110 hd9 C hR ih _ _ h
def f_L_arrive (m : xM) : Option (xM) :=
     f_L_arrive_2 fu 0 m
set_option maxRecDepth 1000000 in
set_option maxHeartbeats 4000000 in
theorem t_L_arrive {Γ : xG} {d : Nat} (hd9 : 4 ≤ d) (C : xC Γ lay_L0 RX3 cX3_arrive 3 d) {m9 : xM} (hR : xRv Γ lay_L0 cX3_arrive m9) (m : xM) (h : f_L_arrive m = some m9) : xW Γ lay_L0 3 0 [(0, .inr (.inr (some 0)))] [] m := by
  unfold f_L_arrive at h
  refine x_iconst C dX3_arrive_0 ?_
  refine x_istore_n C dX3_arrive_1 (by decide) ?_
  refine x_loc [(0, .inr (.inr (some 0))), (1, .inl 0)] ⟨rfl, rfl, trivial⟩ ?_
  exact t_L_arrive_2 hd9 C hR fu _ _ h
theorem c_L_arrive (l : Launch) (m m9 : xM) (h : f_L_arrive m = some m9) : xMet l yX3_arrive cX3_arrive 3 none 4 lay_L0 [.inr (.inr (some 0))] m none m9 :=
  xMet_v (by decide +kernel) (Nat.le_of_ble_eq_true rfl) (fun Γ C hR hl9 => t_L_arrive (Nat.le_refl _) C hR m h)
/-! ===== yX3_costOf ===== -/
theorem fF_X3_42 : xF RX3 42 4 6 (.object "ModemLink$Dictionary") true := ⟨RX3, TX3, 17, tyX3, rfl, by decide, (xin_4 _ (List.mem_of_getElem? (i := 12) rfl)), rfl, inlX3, tyX3_ok, nmX3, rfl, rfl⟩
theorem fF_X3_315 : xF RX3 315 2 3 (.object "ModemLink$Dictionary") true := ⟨RX1, TX1, 11, tyX1, rfl, by decide, (xin_27 _ (List.mem_of_getElem? (i := 21) rfl)), rfl, inlX1, tyX1_ok, nmX1, rfl, rfl⟩
theorem xv_29 : xview lay_co lay_D2 [1, 2, 4, 5] := xview_of (by decide +kernel)
theorem xv_30 : xview lay_co lay_D [1, 2] := xview_of (by decide +kernel)
theorem dX3_costOf_0 : decode cX3_costOf 0 = .ok (.aload_n 0, 1) := by decide +kernel
theorem dX3_costOf_1 : decode cX3_costOf 1 = .ok (.getfield 42, 3) := by decide +kernel
theorem dX3_costOf_4 : decode cX3_costOf 4 = .ok (.aload_n 1, 1) := by decide +kernel
theorem dX3_costOf_5 : decode cX3_costOf 5 = .ok (.getfield 315, 3) := by decide +kernel
theorem dX3_costOf_8 : decode cX3_costOf 8 = .ok (.invokevirtual 318, 3) := by decide +kernel
theorem dX3_costOf_11 : decode cX3_costOf 11 = .ok (.iconst 4, 1) := by decide +kernel
theorem dX3_costOf_12 : decode cX3_costOf 12 = .ok (.istore 5, 2) := by decide +kernel
theorem dX3_costOf_14 : decode cX3_costOf 14 = .ok (.aload_n 1, 1) := by decide +kernel
theorem dX3_costOf_15 : decode cX3_costOf 15 = .ok (.getfield 264, 3) := by decide +kernel
theorem dX3_costOf_18 : decode cX3_costOf 18 = .ok (.ifCond .eq 14, 3) := by decide +kernel
theorem dX3_costOf_21 : decode cX3_costOf 21 = .ok (.aload_n 0, 1) := by decide +kernel
theorem dX3_costOf_22 : decode cX3_costOf 22 = .ok (.getfield 42, 3) := by decide +kernel
theorem dX3_costOf_25 : decode cX3_costOf 25 = .ok (.iconst 0, 1) := by decide +kernel
theorem dX3_costOf_26 : decode cX3_costOf 26 = .ok (.putfield 239, 3) := by decide +kernel
theorem dX3_costOf_29 : decode cX3_costOf 29 = .ok (.iinc 5 1, 3) := by decide +kernel
theorem dX3_costOf_32 : decode cX3_costOf 32 = .ok (.iload_n 3, 1) := by decide +kernel
theorem dX3_costOf_33 : decode cX3_costOf 33 = .ok (.istore 6, 2) := by decide +kernel
theorem dX3_costOf_35 : decode cX3_costOf 35 = .ok (.iload 6, 2) := by decide +kernel
theorem dX3_costOf_37 : decode cX3_costOf 37 = .ok (.iload_n 3, 1) := by decide +kernel
theorem dX3_costOf_38 : decode cX3_costOf 38 = .ok (.iload 4, 2) := by decide +kernel
theorem dX3_costOf_40 : decode cX3_costOf 40 = .ok (.iadd, 1) := by decide +kernel
theorem dX3_costOf_41 : decode cX3_costOf 41 = .ok (.if_icmp .ge 32, 3) := by decide +kernel
theorem dX3_costOf_44 : decode cX3_costOf 44 = .ok (.iload 6, 2) := by decide +kernel
theorem dX3_costOf_46 : decode cX3_costOf 46 = .ok (.aload_n 2, 1) := by decide +kernel
theorem dX3_costOf_47 : decode cX3_costOf 47 = .ok (.arraylength, 1) := by decide +kernel
theorem dX3_costOf_48 : decode cX3_costOf 48 = .ok (.if_icmp .ge 25, 3) := by decide +kernel
theorem dX3_costOf_51 : decode cX3_costOf 51 = .ok (.iload 5, 2) := by decide +kernel
theorem dX3_costOf_53 : decode cX3_costOf 53 = .ok (.aload_n 0, 1) := by decide +kernel
theorem dX3_costOf_54 : decode cX3_costOf 54 = .ok (.getfield 42, 3) := by decide +kernel
theorem dX3_costOf_57 : decode cX3_costOf 57 = .ok (.aload_n 2, 1) := by decide +kernel
theorem dX3_costOf_58 : decode cX3_costOf 58 = .ok (.iload 6, 2) := by decide +kernel
theorem dX3_costOf_60 : decode cX3_costOf 60 = .ok (.iaload, 1) := by decide +kernel
theorem dX3_costOf_61 : decode cX3_costOf 61 = .ok (.invokevirtual 324, 3) := by decide +kernel
theorem dX3_costOf_64 : decode cX3_costOf 64 = .ok (.iadd, 1) := by decide +kernel
theorem dX3_costOf_65 : decode cX3_costOf 65 = .ok (.istore 5, 2) := by decide +kernel
theorem dX3_costOf_67 : decode cX3_costOf 67 = .ok (.iinc 6 1, 3) := by decide +kernel
theorem dX3_costOf_70 : decode cX3_costOf 70 = .ok (.goto (-35), 3) := by decide +kernel
theorem dX3_costOf_73 : decode cX3_costOf 73 = .ok (.iload 5, 2) := by decide +kernel
theorem dX3_costOf_75 : decode cX3_costOf 75 = .ok (.ireturn, 1) := by decide +kernel
def f_L_cost_35 (a : Int) (z : Int) : Nat → Int → Int → xM → Option (Int × xM)
  | 0, _, _, _ => none
  | n + 1, x5, x6, m =>
     (if xw x6 < xw (a + z) then (if xw x6 < xw 200 then (if xib x6 200 then (Option.bind (f_D_put (m 6 (xix x6)) (xvw [1, 2] m)) fun q1 =>
      f_L_cost_35 a z n (x5 + q1.1) (x6 + 1) (xmg [1, 2] 2 m q1.2))
      else none)
      else some (x5, m))
      else some (x5, m))
set_option maxRecDepth 1000000 in
set_option maxHeartbeats 4000000 in
theorem t_L_cost_35 {Γ : xG} {d : Nat} (hd9 : 2 ≤ d) (C : xC Γ lay_co RX3 cX3_costOf 7 d) (a : Int) (z : Int) {r : Int} {m9 : xM} (hR : xRi Γ lay_co cX3_costOf r m9) : ∀ (n : Nat) (x5 : Int) (x6 : Int) (m : xM), f_L_cost_35 a z n x5 x6 m = some (r, m9) → xW Γ lay_co 7 35 [(0, .inr (.inr (some 0))), (2, .inr (.inr (some 6))), (3, .inl a), (4, .inl z), (5, .inl x5), (6, .inl x6)] [] m := by
  intro n
  induction n with
  | zero => intro _ _ _ h; cases h
  | succ n ih =>
    intro x5 x6 m h
    rw [f_L_cost_35] at h
    refine x_iload C dX3_costOf_35 rfl ?_
    refine x_iload_n C dX3_costOf_37 rfl ?_
    refine x_iload C dX3_costOf_38 rfl ?_
    refine x_iadd C dX3_costOf_40 ?_
    refine x_icmp_ge C 73 dX3_costOf_41 (by decide) h (fun h => ?_) (fun h => ?_)
    · refine x_iload C dX3_costOf_73 rfl ?_
      exact x_ireturn hR dX3_costOf_75 h
    · refine x_iload C dX3_costOf_44 rfl ?_
      refine x_aload_n C dX3_costOf_46 rfl ?_
      refine x_len C dX3_costOf_47 rfl ?_
      refine x_icmp_ge C 73 dX3_costOf_48 (by decide) h (fun h => ?_) (fun h => ?_)
      · refine x_iload C dX3_costOf_73 rfl ?_
        exact x_ireturn hR dX3_costOf_75 h
      · refine x_iload C dX3_costOf_51 rfl ?_
        refine x_aload_n C dX3_costOf_53 rfl ?_
        refine x_getR C dX3_costOf_54 fF_X3_42 rfl rfl ?_
        refine x_aload_n C dX3_costOf_57 rfl ?_
        refine x_iload C dX3_costOf_58 rfl ?_
        refine x_iaload C dX3_costOf_60 rfl h (fun h => ?_)
        obtain ⟨q1, hq1, h⟩ := x_bind h
        refine x_callV C dX3_costOf_61 (xin_28 _ (List.mem_of_getElem? (i := 7) rfl)) xy_X0_putInFront (xi_X0_putInFront) (xs_X0_putInFront) [1, 2] xv_30 (by omega) (by decide) (b := 0) rfl ⟨_, _, rfl⟩ (av := [.inl (m 6 (xix x6))]) rfl (Nat.le_of_ble_eq_true rfl) (c_D_put _ _ _ q1.1 q1.2 hq1) rfl ?_
        refine x_iadd C dX3_costOf_64 ?_
        refine x_istore C dX3_costOf_65 (by decide) ?_
        refine x_iinc C dX3_costOf_67 (by decide) rfl ?_
        refine x_goto C 35 dX3_costOf_70 (by decide) ?_
        refine x_loc [(0, .inr (.inr (some 0))), (2, .inr (.inr (some 6))), (3, .inl a), (4, .inl z), (5, .inl (x5 + q1.1)), (6, .inl (x6 + 1))] ⟨rfl, rfl, rfl, rfl, rfl, rfl, trivial⟩ ?_
        exact ih _ _ _ h
def f_L_cost_32 (a : Int) (z : Int) (x5 : Int) (m : xM) : Option (Int × xM) :=
     f_L_cost_35 a z fu x5 a m
set_option maxRecDepth 1000000 in
set_option maxHeartbeats 4000000 in
theorem t_L_cost_32 {Γ : xG} {d : Nat} (hd9 : 2 ≤ d) (C : xC Γ lay_co RX3 cX3_costOf 7 d) (a : Int) (z : Int) {r : Int} {m9 : xM} (hR : xRi Γ lay_co cX3_costOf r m9) (x5 : Int) (m : xM) (h : f_L_cost_32 a z x5 m = some (r, m9)) : xW Γ lay_co 7 32 [(0, .inr (.inr (some 0))), (2, .inr (.inr (some 6))), (3, .inl a), (4, .inl z), (5, .inl x5)] [] m := by
  unfold f_L_cost_32 at h
  refine x_iload_n C dX3_costOf_32 rfl ?_
  refine x_istore C dX3_costOf_33 (by decide) ?_
  refine x_loc [(0, .inr (.inr (some 0))), (2, .inr (.inr (some 6))), (3, .inl a), (4, .inl z), (5, .inl x5), (6, .inl a)] ⟨rfl, rfl, rfl, rfl, rfl, rfl, trivial⟩ ?_
  exact t_L_cost_35 hd9 C _ _ hR fu _ _ _ h
def f_L_cost (a : Int) (z : Int) (m : xM) : Option (Int × xM) :=
     (Option.bind (f_D_cp (xvw [1, 2, 4, 5] m)) fun q0 =>
      (if xw ((xmg [1, 2, 4, 5] 4 m q0) 3 10) = 0 then f_L_cost_32 a z 4 (xmg [1, 2, 4, 5] 4 m q0)
      else f_L_cost_32 a z (4 + 1) (xu (xmg [1, 2, 4, 5] 4 m q0) 1 1 0)))
set_option maxRecDepth 1000000 in
set_option maxHeartbeats 4000000 in
theorem t_L_cost {Γ : xG} {d : Nat} (hd9 : 2 ≤ d) (C : xC Γ lay_co RX3 cX3_costOf 7 d) (a : Int) (z : Int) {r : Int} {m9 : xM} (hR : xRi Γ lay_co cX3_costOf r m9) (m : xM) (h : f_L_cost a z m = some (r, m9)) : xW Γ lay_co 7 0 [(0, .inr (.inr (some 0))), (1, .inr (.inr (some 3))), (2, .inr (.inr (some 6))), (3, .inl a), (4, .inl z)] [] m := by
  unfold f_L_cost at h
  refine x_aload_n C dX3_costOf_0 rfl ?_
  refine x_getR C dX3_costOf_1 fF_X3_42 rfl rfl ?_
  refine x_aload_n C dX3_costOf_4 rfl ?_
  refine x_getR C dX3_costOf_5 fF_X3_315 rfl rfl ?_
  obtain ⟨q0, hq0, h⟩ := x_bind h
  refine x_callV C dX3_costOf_8 (xin_28 _ (List.mem_of_getElem? (i := 6) rfl)) xy_X0_copyFrom (xi_X0_copyFrom) (xs_X0_copyFrom) [1, 2, 4, 5] xv_29 (by omega) (by decide) (b := 0) rfl ⟨_, _, rfl⟩ (av := [.inr (.inr (some 2))]) rfl (Nat.le_of_ble_eq_true rfl) (c_D_cp _ _ _ hq0) rfl ?_
  refine x_iconst C dX3_costOf_11 ?_
  refine x_istore C dX3_costOf_12 (by decide) ?_
  refine x_aload_n C dX3_costOf_14 rfl ?_
  refine x_getI C dX3_costOf_15 fF_X3_264 rfl rfl ?_
  refine x_if_eq C 32 dX3_costOf_18 (by decide) h (fun h => ?_) (fun h => ?_)
  · refine x_loc [(0, .inr (.inr (some 0))), (2, .inr (.inr (some 6))), (3, .inl a), (4, .inl z), (5, .inl 4)] ⟨rfl, rfl, rfl, rfl, rfl, trivial⟩ ?_
    exact t_L_cost_32 hd9 C _ _ hR _ _ h
  · refine x_aload_n C dX3_costOf_21 rfl ?_
    refine x_getR C dX3_costOf_22 fF_X3_42 rfl rfl ?_
    refine x_iconst C dX3_costOf_25 ?_
    refine x_putI C dX3_costOf_26 fF_X3_239 rfl rfl ?_
    refine x_iinc C dX3_costOf_29 (by decide) rfl ?_
    refine x_loc [(0, .inr (.inr (some 0))), (2, .inr (.inr (some 6))), (3, .inl a), (4, .inl z), (5, .inl (4 + 1))] ⟨rfl, rfl, rfl, rfl, rfl, trivial⟩ ?_
    exact t_L_cost_32 hd9 C _ _ hR _ _ h
theorem c_L_cost (l : Launch) (a : Int) (z : Int) (m : xM) (r : Int) (m9 : xM) (h : f_L_cost a z m = some (r, m9)) : xMet l yX3_costOf cX3_costOf 7 (some .int) 2 lay_co [.inr (.inr (some 0)), .inr (.inr (some 3)), .inr (.inr (some 6)), .inl a, .inl z] m (some (.inl r)) m9 :=
  xMet_i (by decide +kernel) (Nat.le_of_ble_eq_true rfl) (fun Γ C hR hl9 => t_L_cost (Nat.le_refl _) C a z hR m h)
/-! ===== yX3_costOf ===== -/
theorem xv_31 : xview lay_co56 lay_D2 [1, 2, 4, 5] := xview_of (by decide +kernel)
theorem xv_32 : xview lay_co56 lay_D [1, 2] := xview_of (by decide +kernel)
def f_L_cost56_35 (a : Int) (z : Int) : Nat → Int → Int → xM → Option (Int × xM)
  | 0, _, _, _ => none
  | n + 1, x5, x6, m =>
     (if xw x6 < xw (a + z) then (if xw x6 < xw 56 then (if xib x6 56 then (Option.bind (f_D_put (m 6 (xix x6)) (xvw [1, 2] m)) fun q1 =>
      f_L_cost56_35 a z n (x5 + q1.1) (x6 + 1) (xmg [1, 2] 2 m q1.2))
      else none)
      else some (x5, m))
      else some (x5, m))
set_option maxRecDepth 1000000 in
set_option maxHeartbeats 4000000 in
theorem t_L_cost56_35 {Γ : xG} {d : Nat} (hd9 : 2 ≤ d) (C : xC Γ lay_co56 RX3 cX3_costOf 7 d) (a : Int) (z : Int) {r : Int} {m9 : xM} (hR : xRi Γ lay_co56 cX3_costOf r m9) : ∀ (n : Nat) (x5 : Int) (x6 : Int) (m : xM), f_L_cost56_35 a z n x5 x6 m = some (r, m9) → xW Γ lay_co56 7 35 [(0, .inr (.inr (some 0))), (2, .inr (.inr (some 6))), (3, .inl a), (4, .inl z), (5, .inl x5), (6, .inl x6)] [] m := by
  intro n
  induction n with
  | zero => intro _ _ _ h; cases h
  | succ n ih =>
    intro x5 x6 m h
    rw [f_L_cost56_35] at h
    refine x_iload C dX3_costOf_35 rfl ?_
    refine x_iload_n C dX3_costOf_37 rfl ?_
    refine x_iload C dX3_costOf_38 rfl ?_
    refine x_iadd C dX3_costOf_40 ?_
    refine x_icmp_ge C 73 dX3_costOf_41 (by decide) h (fun h => ?_) (fun h => ?_)
    · refine x_iload C dX3_costOf_73 rfl ?_
      exact x_ireturn hR dX3_costOf_75 h
    · refine x_iload C dX3_costOf_44 rfl ?_
      refine x_aload_n C dX3_costOf_46 rfl ?_
      refine x_len C dX3_costOf_47 rfl ?_
      refine x_icmp_ge C 73 dX3_costOf_48 (by decide) h (fun h => ?_) (fun h => ?_)
      · refine x_iload C dX3_costOf_73 rfl ?_
        exact x_ireturn hR dX3_costOf_75 h
      · refine x_iload C dX3_costOf_51 rfl ?_
        refine x_aload_n C dX3_costOf_53 rfl ?_
        refine x_getR C dX3_costOf_54 fF_X3_42 rfl rfl ?_
        refine x_aload_n C dX3_costOf_57 rfl ?_
        refine x_iload C dX3_costOf_58 rfl ?_
        refine x_iaload C dX3_costOf_60 rfl h (fun h => ?_)
        obtain ⟨q1, hq1, h⟩ := x_bind h
        refine x_callV C dX3_costOf_61 (xin_28 _ (List.mem_of_getElem? (i := 7) rfl)) xy_X0_putInFront (xi_X0_putInFront) (xs_X0_putInFront) [1, 2] xv_32 (by omega) (by decide) (b := 0) rfl ⟨_, _, rfl⟩ (av := [.inl (m 6 (xix x6))]) rfl (Nat.le_of_ble_eq_true rfl) (c_D_put _ _ _ q1.1 q1.2 hq1) rfl ?_
        refine x_iadd C dX3_costOf_64 ?_
        refine x_istore C dX3_costOf_65 (by decide) ?_
        refine x_iinc C dX3_costOf_67 (by decide) rfl ?_
        refine x_goto C 35 dX3_costOf_70 (by decide) ?_
        refine x_loc [(0, .inr (.inr (some 0))), (2, .inr (.inr (some 6))), (3, .inl a), (4, .inl z), (5, .inl (x5 + q1.1)), (6, .inl (x6 + 1))] ⟨rfl, rfl, rfl, rfl, rfl, rfl, trivial⟩ ?_
        exact ih _ _ _ h
def f_L_cost56_32 (a : Int) (z : Int) (x5 : Int) (m : xM) : Option (Int × xM) :=
     f_L_cost56_35 a z fu x5 a m
set_option maxRecDepth 1000000 in
set_option maxHeartbeats 4000000 in
theorem t_L_cost56_32 {Γ : xG} {d : Nat} (hd9 : 2 ≤ d) (C : xC Γ lay_co56 RX3 cX3_costOf 7 d) (a : Int) (z : Int) {r : Int} {m9 : xM} (hR : xRi Γ lay_co56 cX3_costOf r m9) (x5 : Int) (m : xM) (h : f_L_cost56_32 a z x5 m = some (r, m9)) : xW Γ lay_co56 7 32 [(0, .inr (.inr (some 0))), (2, .inr (.inr (some 6))), (3, .inl a), (4, .inl z), (5, .inl x5)] [] m := by
  unfold f_L_cost56_32 at h
  refine x_iload_n C dX3_costOf_32 rfl ?_
  refine x_istore C dX3_costOf_33 (by decide) ?_
  refine x_loc [(0, .inr (.inr (some 0))), (2, .inr (.inr (some 6))), (3, .inl a), (4, .inl z), (5, .inl x5), (6, .inl a)] ⟨rfl, rfl, rfl, rfl, rfl, rfl, trivial⟩ ?_
  exact t_L_cost56_35 hd9 C _ _ hR fu _ _ _ h
def f_L_cost56 (a : Int) (z : Int) (m : xM) : Option (Int × xM) :=
     (Option.bind (f_D_cp (xvw [1, 2, 4, 5] m)) fun q0 =>
      (if xw ((xmg [1, 2, 4, 5] 4 m q0) 3 10) = 0 then f_L_cost56_32 a z 4 (xmg [1, 2, 4, 5] 4 m q0)
      else f_L_cost56_32 a z (4 + 1) (xu (xmg [1, 2, 4, 5] 4 m q0) 1 1 0)))
set_option maxRecDepth 1000000 in
set_option maxHeartbeats 4000000 in
theorem t_L_cost56 {Γ : xG} {d : Nat} (hd9 : 2 ≤ d) (C : xC Γ lay_co56 RX3 cX3_costOf 7 d) (a : Int) (z : Int) {r : Int} {m9 : xM} (hR : xRi Γ lay_co56 cX3_costOf r m9) (m : xM) (h : f_L_cost56 a z m = some (r, m9)) : xW Γ lay_co56 7 0 [(0, .inr (.inr (some 0))), (1, .inr (.inr (some 3))), (2, .inr (.inr (some 6))), (3, .inl a), (4, .inl z)] [] m := by
  unfold f_L_cost56 at h
  refine x_aload_n C dX3_costOf_0 rfl ?_
  refine x_getR C dX3_costOf_1 fF_X3_42 rfl rfl ?_
  refine x_aload_n C dX3_costOf_4 rfl ?_
  refine x_getR C dX3_costOf_5 fF_X3_315 rfl rfl ?_
  obtain ⟨q0, hq0, h⟩ := x_bind h
  refine x_callV C dX3_costOf_8 (xin_28 _ (List.mem_of_getElem? (i := 6) rfl)) xy_X0_copyFrom (xi_X0_copyFrom) (xs_X0_copyFrom) [1, 2, 4, 5] xv_31 (by omega) (by decide) (b := 0) rfl ⟨_, _, rfl⟩ (av := [.inr (.inr (some 2))]) rfl (Nat.le_of_ble_eq_true rfl) (c_D_cp _ _ _ hq0) rfl ?_
  refine x_iconst C dX3_costOf_11 ?_
  refine x_istore C dX3_costOf_12 (by decide) ?_
  refine x_aload_n C dX3_costOf_14 rfl ?_
  refine x_getI C dX3_costOf_15 fF_X3_264 rfl rfl ?_
  refine x_if_eq C 32 dX3_costOf_18 (by decide) h (fun h => ?_) (fun h => ?_)
  · refine x_loc [(0, .inr (.inr (some 0))), (2, .inr (.inr (some 6))), (3, .inl a), (4, .inl z), (5, .inl 4)] ⟨rfl, rfl, rfl, rfl, rfl, trivial⟩ ?_
    exact t_L_cost56_32 hd9 C _ _ hR _ _ h
  · refine x_aload_n C dX3_costOf_21 rfl ?_
    refine x_getR C dX3_costOf_22 fF_X3_42 rfl rfl ?_
    refine x_iconst C dX3_costOf_25 ?_
    refine x_putI C dX3_costOf_26 fF_X3_239 rfl rfl ?_
    refine x_iinc C dX3_costOf_29 (by decide) rfl ?_
    refine x_loc [(0, .inr (.inr (some 0))), (2, .inr (.inr (some 6))), (3, .inl a), (4, .inl z), (5, .inl (4 + 1))] ⟨rfl, rfl, rfl, rfl, rfl, trivial⟩ ?_
    exact t_L_cost56_32 hd9 C _ _ hR _ _ h
theorem c_L_cost56 (l : Launch) (a : Int) (z : Int) (m : xM) (r : Int) (m9 : xM) (h : f_L_cost56 a z m = some (r, m9)) : xMet l yX3_costOf cX3_costOf 7 (some .int) 2 lay_co56 [.inr (.inr (some 0)), .inr (.inr (some 3)), .inr (.inr (some 6)), .inl a, .inl z] m (some (.inl r)) m9 :=
  xMet_i (by decide +kernel) (Nat.le_of_ble_eq_true rfl) (fun Γ C hR hl9 => t_L_cost56 (Nat.le_refl _) C a z hR m h)
/-! ===== yX3_launch ===== -/
theorem xy_X6_noiseOf : xY yX6_noiseOf cX6_noiseOf 3 (some .int) 1 := ⟨(xin_29 _ (List.mem_of_getElem? (i := 0) rfl)), (xin_1 _ (List.mem_of_getElem? (i := 13) rfl)), by decide, by decide, by decide +kernel⟩
theorem xi_X6_noiseOf : Cond.instanceMethod yX6_noiseOf ∈ wsL_law := (xin_28 _ (List.mem_of_getElem? (i := 22) rfl))
theorem xs_X6_noiseOf : Cond.selects yX6_noiseOf.cls yX6_noiseOf yX6_noiseOf ∈ wsL_law := (xin_28 _ (List.mem_of_getElem? (i := 23) rfl))
theorem dX3_launch_0 : decode cX3_launch 0 = .ok (.aload_n 0, 1) := by decide +kernel
theorem dX3_launch_1 : decode cX3_launch 1 = .ok (.iload_n 1, 1) := by decide +kernel
theorem dX3_launch_2 : decode cX3_launch 2 = .ok (.invokevirtual 226, 3) := by decide +kernel
theorem dX3_launch_5 : decode cX3_launch 5 = .ok (.astore_n 2, 1) := by decide +kernel
theorem dX3_launch_6 : decode cX3_launch 6 = .ok (.aload_n 2, 1) := by decide +kernel
theorem dX3_launch_7 : decode cX3_launch 7 = .ok (.getfield 120, 3) := by decide +kernel
theorem dX3_launch_10 : decode cX3_launch 10 = .ok (.astore_n 3, 1) := by decide +kernel
theorem dX3_launch_11 : decode cX3_launch 11 = .ok (.aload_n 2, 1) := by decide +kernel
theorem dX3_launch_12 : decode cX3_launch 12 = .ok (.getfield 264, 3) := by decide +kernel
theorem dX3_launch_15 : decode cX3_launch 15 = .ok (.ifCond .eq 7, 3) := by decide +kernel
theorem dX3_launch_18 : decode cX3_launch 18 = .ok (.iconst 4, 1) := by decide +kernel
theorem dX3_launch_19 : decode cX3_launch 19 = .ok (.goto 4, 3) := by decide +kernel
theorem dX3_launch_22 : decode cX3_launch 22 = .ok (.iconst 0, 1) := by decide +kernel
theorem dX3_launch_23 : decode cX3_launch 23 = .ok (.istore 4, 2) := by decide +kernel
theorem dX3_launch_25 : decode cX3_launch 25 = .ok (.aload_n 0, 1) := by decide +kernel
theorem dX3_launch_26 : decode cX3_launch 26 = .ok (.getfield 46, 3) := by decide +kernel
theorem dX3_launch_29 : decode cX3_launch 29 = .ok (.aload_n 0, 1) := by decide +kernel
theorem dX3_launch_30 : decode cX3_launch 30 = .ok (.getfield 35, 3) := by decide +kernel
theorem dX3_launch_33 : decode cX3_launch 33 = .ok (.iconst 0, 1) := by decide +kernel
theorem dX3_launch_34 : decode cX3_launch 34 = .ok (.iaload, 1) := by decide +kernel
theorem dX3_launch_35 : decode cX3_launch 35 = .ok (.invokevirtual 327, 3) := by decide +kernel
theorem dX3_launch_38 : decode cX3_launch 38 = .ok (.aload_n 0, 1) := by decide +kernel
theorem dX3_launch_39 : decode cX3_launch 39 = .ok (.getfield 73, 3) := by decide +kernel
theorem dX3_launch_42 : decode cX3_launch 42 = .ok (.iadd, 1) := by decide +kernel
theorem dX3_launch_43 : decode cX3_launch 43 = .ok (.aload_n 0, 1) := by decide +kernel
theorem dX3_launch_44 : decode cX3_launch 44 = .ok (.getfield 72, 3) := by decide +kernel
theorem dX3_launch_47 : decode cX3_launch 47 = .ok (.if_icmp .le 19, 3) := by decide +kernel
theorem dX3_launch_50 : decode cX3_launch 50 = .ok (.iload 4, 2) := by decide +kernel
theorem dX3_launch_52 : decode cX3_launch 52 = .ok (.iconst 2, 1) := by decide +kernel
theorem dX3_launch_53 : decode cX3_launch 53 = .ok (.ior, 1) := by decide +kernel
theorem dX3_launch_54 : decode cX3_launch 54 = .ok (.istore 4, 2) := by decide +kernel
theorem dX3_launch_56 : decode cX3_launch 56 = .ok (.aload_n 0, 1) := by decide +kernel
theorem dX3_launch_57 : decode cX3_launch 57 = .ok (.getfield 35, 3) := by decide +kernel
theorem dX3_launch_60 : decode cX3_launch 60 = .ok (.iconst 1, 1) := by decide +kernel
theorem dX3_launch_61 : decode cX3_launch 61 = .ok (.dup2, 1) := by decide +kernel
theorem dX3_launch_62 : decode cX3_launch 62 = .ok (.iaload, 1) := by decide +kernel
theorem dX3_launch_63 : decode cX3_launch 63 = .ok (.iconst 1, 1) := by decide +kernel
theorem dX3_launch_64 : decode cX3_launch 64 = .ok (.iadd, 1) := by decide +kernel
theorem dX3_launch_65 : decode cX3_launch 65 = .ok (.iastore, 1) := by decide +kernel
theorem dX3_launch_66 : decode cX3_launch 66 = .ok (.aload_n 0, 1) := by decide +kernel
theorem dX3_launch_67 : decode cX3_launch 67 = .ok (.getfield 35, 3) := by decide +kernel
theorem dX3_launch_70 : decode cX3_launch 70 = .ok (.iconst 0, 1) := by decide +kernel
theorem dX3_launch_71 : decode cX3_launch 71 = .ok (.dup2, 1) := by decide +kernel
theorem dX3_launch_72 : decode cX3_launch 72 = .ok (.iaload, 1) := by decide +kernel
theorem dX3_launch_73 : decode cX3_launch 73 = .ok (.iconst 1, 1) := by decide +kernel
theorem dX3_launch_74 : decode cX3_launch 74 = .ok (.iadd, 1) := by decide +kernel
theorem dX3_launch_75 : decode cX3_launch 75 = .ok (.iastore, 1) := by decide +kernel
theorem dX3_launch_76 : decode cX3_launch 76 = .ok (.aload_n 0, 1) := by decide +kernel
theorem dX3_launch_77 : decode cX3_launch 77 = .ok (.getfield 24, 3) := by decide +kernel
theorem dX3_launch_80 : decode cX3_launch 80 = .ok (.aload_n 0, 1) := by decide +kernel
theorem dX3_launch_81 : decode cX3_launch 81 = .ok (.getfield 61, 3) := by decide +kernel
theorem dX3_launch_84 : decode cX3_launch 84 = .ok (.iload_n 1, 1) := by decide +kernel
theorem dX3_launch_85 : decode cX3_launch 85 = .ok (.aload_n 3, 1) := by decide +kernel
theorem dX3_launch_86 : decode cX3_launch 86 = .ok (.getfield 230, 3) := by decide +kernel
theorem dX3_launch_89 : decode cX3_launch 89 = .ok (.aload_n 3, 1) := by decide +kernel
theorem dX3_launch_90 : decode cX3_launch 90 = .ok (.getfield 255, 3) := by decide +kernel
theorem dX3_launch_93 : decode cX3_launch 93 = .ok (.iadd, 1) := by decide +kernel
theorem dX3_launch_94 : decode cX3_launch 94 = .ok (.iload 4, 2) := by decide +kernel
theorem dX3_launch_96 : decode cX3_launch 96 = .ok (.invokevirtual 252, 3) := by decide +kernel
theorem dX3_launch_99 : decode cX3_launch 99 = .ok (.aload_n 3, 1) := by decide +kernel
theorem dX3_launch_100 : decode cX3_launch 100 = .ok (.getfield 258, 3) := by decide +kernel
theorem dX3_launch_103 : decode cX3_launch 103 = .ok (.aload_n 3, 1) := by decide +kernel
theorem dX3_launch_104 : decode cX3_launch 104 = .ok (.aload_n 3, 1) := by decide +kernel
theorem dX3_launch_105 : decode cX3_launch 105 = .ok (.getfield 255, 3) := by decide +kernel
theorem dX3_launch_108 : decode cX3_launch 108 = .ok (.invokevirtual 240, 3) := by decide +kernel
theorem dX3_launch_111 : decode cX3_launch 111 = .ok (.aload_n 0, 1) := by decide +kernel
theorem dX3_launch_112 : decode cX3_launch 112 = .ok (.getfield 61, 3) := by decide +kernel
theorem dX3_launch_115 : decode cX3_launch 115 = .ok (.iastore, 1) := by decide +kernel
theorem dX3_launch_116 : decode cX3_launch 116 = .ok (.aload_n 3, 1) := by decide +kernel
theorem dX3_launch_117 : decode cX3_launch 117 = .ok (.dup, 1) := by decide +kernel
theorem dX3_launch_118 : decode cX3_launch 118 = .ok (.getfield 255, 3) := by decide +kernel
theorem dX3_launch_121 : decode cX3_launch 121 = .ok (.iconst 1, 1) := by decide +kernel
theorem dX3_launch_122 : decode cX3_launch 122 = .ok (.iadd, 1) := by decide +kernel
theorem dX3_launch_123 : decode cX3_launch 123 = .ok (.putfield 255, 3) := by decide +kernel
theorem dX3_launch_126 : decode cX3_launch 126 = .ok (.aload_n 2, 1) := by decide +kernel
theorem dX3_launch_127 : decode cX3_launch 127 = .ok (.iconst 0, 1) := by decide +kernel
theorem dX3_launch_128 : decode cX3_launch 128 = .ok (.putfield 264, 3) := by decide +kernel
theorem dX3_launch_131 : decode cX3_launch 131 = .ok (.return_, 1) := by decide +kernel
def f_L_launch_116 (e : Int) (m : xM) : Option (xM) :=
     some (xu (xu m 4 5 ((m 4 5) + 1)) 1 10 0)
set_option maxRecDepth 1000000 in
set_option maxHeartbeats 4000000 in
theorem t_L_launch_116 {Γ : xG} {d : Nat} (hd9 : 3 ≤ d) (C : xC Γ lay_L0 RX3 cX3_launch 5 d) (e : Int) (e_e : xw e = 0) {m9 : xM} (hR : xRv Γ lay_L0 cX3_launch m9) (m : xM) (h : f_L_launch_116 e m = some m9) : xW Γ lay_L0 5 116 [(2, .inr (.inr (some 1))), (3, .inr (.inr (some 4)))] [] m := by
  unfold f_L_launch_116 at h
  refine x_aload_n C dX3_launch_116 rfl ?_
  refine x_dup C dX3_launch_117 rfl ?_
  refine x_getI C dX3_launch_118 fF_X3_255 rfl rfl ?_
  refine x_iconst C dX3_launch_121 ?_
  refine x_iadd C dX3_launch_122 ?_
  refine x_putI C dX3_launch_123 fF_X3_255 rfl rfl ?_
  refine x_aload_n C dX3_launch_126 rfl ?_
  refine x_iconst C dX3_launch_127 ?_
  refine x_putZ C dX3_launch_128 fF_X3_264 rfl rfl (by decide) ?_
  exact x_returnV hR dX3_launch_131 h
def f_L_launch_66 (e : Int) (x4 : Int) (m : xM) : Option (xM) :=
     (if xib 0 11 then (if xib 0 11 then (Option.bind (f_W_put (m 0 7) e ((m 4 3) + (m 4 5)) x4 (xvw [23, 24, 25, 26, 27] (xu m 30 0 ((m 30 0) + 1)))) fun q2 =>
      (Option.bind (f_F_slot ((xmg [23, 24, 25, 26, 27] 5 (xu m 30 0 ((m 30 0) + 1)) q2) 4 5) (xvw [4, 5, 6, 7] (xmg [23, 24, 25, 26, 27] 5 (xu m 30 0 ((m 30 0) + 1)) q2))) fun q3 =>
      (if xib q3 7 then f_L_launch_116 e (xu (xmg [23, 24, 25, 26, 27] 5 (xu m 30 0 ((m 30 0) + 1)) q2) 7 (xix q3) ((xmg [23, 24, 25, 26, 27] 5 (xu m 30 0 ((m 30 0) + 1)) q2) 0 7))
      else none)))
      else none)
      else none)
set_option maxRecDepth 1000000 in
set_option maxHeartbeats 4000000 in
theorem t_L_launch_66 {Γ : xG} {d : Nat} (hd9 : 3 ≤ d) (C : xC Γ lay_L0 RX3 cX3_launch 5 d) (e : Int) (e_e : xw e = 0) {m9 : xM} (hR : xRv Γ lay_L0 cX3_launch m9) (x4 : Int) (m : xM) (h : f_L_launch_66 e x4 m = some m9) : xW Γ lay_L0 5 66 [(0, .inr (.inr (some 0))), (1, .inl e), (2, .inr (.inr (some 1))), (3, .inr (.inr (some 4))), (4, .inl x4)] [] m := by
  unfold f_L_launch_66 at h
  refine x_aload_n C dX3_launch_66 rfl ?_
  refine x_getR C dX3_launch_67 fF_X3_35 rfl rfl ?_
  refine x_iconst C dX3_launch_70 ?_
  refine x_dup2 C dX3_launch_71 rfl rfl ?_
  refine x_iaload C dX3_launch_72 rfl h (fun h => ?_)
  refine x_iconst C dX3_launch_73 ?_
  refine x_iadd C dX3_launch_74 ?_
  refine x_iastore C dX3_launch_75 rfl h (fun h => ?_)
  refine x_aload_n C dX3_launch_76 rfl ?_
  refine x_getR C dX3_launch_77 fF_X3_24 rfl rfl ?_
  refine x_aload_n C dX3_launch_80 rfl ?_
  refine x_getI C dX3_launch_81 fF_X3_61 rfl rfl ?_
  refine x_iload_n C dX3_launch_84 rfl ?_
  refine x_aload_n C dX3_launch_85 rfl ?_
  refine x_getI C dX3_launch_86 fF_X3_230 rfl rfl ?_
  refine x_aload_n C dX3_launch_89 rfl ?_
  refine x_getI C dX3_launch_90 fF_X3_255 rfl rfl ?_
  refine x_iadd C dX3_launch_93 ?_
  refine x_iload C dX3_launch_94 rfl ?_
  obtain ⟨q2, hq2, h⟩ := x_bind h
  refine x_callV C dX3_launch_96 (xin_26 _ (List.mem_of_getElem? (i := 1) rfl)) xy_X9_put (xi_X9_put) (xs_X9_put) [23, 24, 25, 26, 27] xv_25 (by omega) (by decide) (b := 0) rfl ⟨_, _, rfl⟩ (av := [.inl (m 0 7), .inl e, .inl ((m 4 3) + (m 4 5)), .inl x4]) rfl (Nat.le_of_ble_eq_true rfl) (c_W_put _ _ _ _ _ _ _ hq2) rfl ?_
  refine x_aload_n C dX3_launch_99 rfl ?_
  refine x_getR C dX3_launch_100 fF_X3_258 rfl rfl ?_
  refine x_aload_n C dX3_launch_103 rfl ?_
  refine x_aload_n C dX3_launch_104 rfl ?_
  refine x_getI C dX3_launch_105 fF_X3_255 rfl rfl ?_
  obtain ⟨q3, hq3, h⟩ := x_bind h
  refine x_callVp C dX3_launch_108 (xin_25 _ (List.mem_of_getElem? (i := 8) rfl)) xy_X2_slotOf (xi_X2_slotOf) (xs_X2_slotOf) [4, 5, 6, 7] xv_19 (by omega) (by decide) (b := 0) rfl ⟨_, _, rfl⟩ (av := [.inl ((xmg [23, 24, 25, 26, 27] 5 (xu m 30 0 ((m 30 0) + 1)) q2) 4 5)]) rfl (Nat.le_of_ble_eq_true rfl) (c_F_slot _ _ _ _ hq3) rfl ?_
  refine x_aload_n C dX3_launch_111 rfl ?_
  refine x_getI C dX3_launch_112 fF_X3_61 rfl rfl ?_
  refine x_iastore C dX3_launch_115 rfl h (fun h => ?_)
  refine x_loc [(2, .inr (.inr (some 1))), (3, .inr (.inr (some 4)))] ⟨rfl, rfl, trivial⟩ ?_
  exact t_L_launch_116 hd9 C _ e_e hR _ h
def f_L_launch_23 (e : Int) (s0 : Int) (m : xM) : Option (xM) :=
     (if xib 0 11 then (Option.bind (f_S_noise (m 30 0) (xvw [33, 34, 35, 36, 37] m)) fun q1 =>
      (if xw (m 0 9) < xw (q1 + (m 0 10)) then (if xib 1 11 then (if xib 1 11 then f_L_launch_66 e (xior s0 2) (xu m 30 1 ((m 30 1) + 1))
      else none)
      else none)
      else f_L_launch_66 e s0 m))
      else none)
set_option maxRecDepth 1000000 in
set_option maxHeartbeats 4000000 in
theorem t_L_launch_23 {Γ : xG} {d : Nat} (hd9 : 3 ≤ d) (C : xC Γ lay_L0 RX3 cX3_launch 5 d) (e : Int) (e_e : xw e = 0) {m9 : xM} (hR : xRv Γ lay_L0 cX3_launch m9) (s0 : Int) (m : xM) (h : f_L_launch_23 e s0 m = some m9) : xW Γ lay_L0 5 23 [(0, .inr (.inr (some 0))), (1, .inl e), (2, .inr (.inr (some 1))), (3, .inr (.inr (some 4)))] [.inl s0] m := by
  unfold f_L_launch_23 at h
  refine x_istore C dX3_launch_23 (by decide) ?_
  refine x_aload_n C dX3_launch_25 rfl ?_
  refine x_getR C dX3_launch_26 fF_X3_46 rfl rfl ?_
  refine x_aload_n C dX3_launch_29 rfl ?_
  refine x_getR C dX3_launch_30 fF_X3_35 rfl rfl ?_
  refine x_iconst C dX3_launch_33 ?_
  refine x_iaload C dX3_launch_34 rfl h (fun h => ?_)
  obtain ⟨q1, hq1, h⟩ := x_bind h
  refine x_callVp C dX3_launch_35 (xin_28 _ (List.mem_of_getElem? (i := 21) rfl)) xy_X6_noiseOf (xi_X6_noiseOf) (xs_X6_noiseOf) [33, 34, 35, 36, 37] xv_18 (by omega) (by decide) (b := 0) rfl ⟨_, _, rfl⟩ (av := [.inl (m 30 0)]) rfl (Nat.le_of_ble_eq_true rfl) (c_S_noise _ _ _ _ hq1) rfl ?_
  refine x_aload_n C dX3_launch_38 rfl ?_
  refine x_getI C dX3_launch_39 fF_X3_73 rfl rfl ?_
  refine x_iadd C dX3_launch_42 ?_
  refine x_aload_n C dX3_launch_43 rfl ?_
  refine x_getI C dX3_launch_44 fF_X3_72 rfl rfl ?_
  refine x_icmp_le C 66 dX3_launch_47 (by decide) h (fun h => ?_) (fun h => ?_)
  · refine x_loc [(0, .inr (.inr (some 0))), (1, .inl e), (2, .inr (.inr (some 1))), (3, .inr (.inr (some 4))), (4, .inl s0)] ⟨rfl, rfl, rfl, rfl, rfl, trivial⟩ ?_
    exact t_L_launch_66 hd9 C _ e_e hR _ _ h
  · refine x_iload C dX3_launch_50 rfl ?_
    refine x_iconst C dX3_launch_52 ?_
    refine x_ior C dX3_launch_53 ?_
    refine x_istore C dX3_launch_54 (by decide) ?_
    refine x_aload_n C dX3_launch_56 rfl ?_
    refine x_getR C dX3_launch_57 fF_X3_35 rfl rfl ?_
    refine x_iconst C dX3_launch_60 ?_
    refine x_dup2 C dX3_launch_61 rfl rfl ?_
    refine x_iaload C dX3_launch_62 rfl h (fun h => ?_)
    refine x_iconst C dX3_launch_63 ?_
    refine x_iadd C dX3_launch_64 ?_
    refine x_iastore C dX3_launch_65 rfl h (fun h => ?_)
    refine x_loc [(0, .inr (.inr (some 0))), (1, .inl e), (2, .inr (.inr (some 1))), (3, .inr (.inr (some 4))), (4, .inl (xior s0 2))] ⟨rfl, rfl, rfl, rfl, rfl, trivial⟩ ?_
    exact t_L_launch_66 hd9 C _ e_e hR _ _ h
def f_L_launch (e : Int) (m : xM) : Option (xM) :=
     (if xw (m 1 10) = 0 then f_L_launch_23 e 0 m
      else f_L_launch_23 e 4 m)
set_option maxRecDepth 1000000 in
set_option maxHeartbeats 4000000 in
theorem t_L_launch {Γ : xG} {d : Nat} (hd9 : 3 ≤ d) (C : xC Γ lay_L0 RX3 cX3_launch 5 d) (e : Int) (e_e : xw e = 0) {m9 : xM} (hR : xRv Γ lay_L0 cX3_launch m9) (m : xM) (h : f_L_launch e m = some m9) : xW Γ lay_L0 5 0 [(0, .inr (.inr (some 0))), (1, .inl e)] [] m := by
  unfold f_L_launch at h
  refine x_aload_n C dX3_launch_0 rfl ?_
  refine x_iload_n C dX3_launch_1 rfl ?_
  refine x_callVp C dX3_launch_2 (xin_24 _ (List.mem_of_getElem? (i := 19) rfl)) xy_X3_endOf (xi_X3_endOf) (xs_X3_endOf) [0, 33, 1, 12, 23, 28, 30, 31] xv_21 (by omega) (by decide) (b := 0) rfl ⟨_, _, rfl⟩ (av := [.inl e]) rfl (Nat.le_of_ble_eq_true rfl) (c_endOf0 _ _ _ (by first | decide | assumption | exact xw_1m0 (by assumption) | exact xw_1m1 (by assumption) | exact xw_ne1 (by assumption) | exact xw_n1m0 (by assumption))) rfl ?_
  refine x_astore_n C dX3_launch_5 (by decide) ?_
  refine x_aload_n C dX3_launch_6 rfl ?_
  refine x_getR C dX3_launch_7 fF_X3_120 rfl rfl ?_
  refine x_astore_n C dX3_launch_10 (by decide) ?_
  refine x_aload_n C dX3_launch_11 rfl ?_
  refine x_getI C dX3_launch_12 fF_X3_264 rfl rfl ?_
  refine x_if_eq C 22 dX3_launch_15 (by decide) h (fun h => ?_) (fun h => ?_)
  · refine x_iconst C dX3_launch_22 ?_
    refine x_loc [(0, .inr (.inr (some 0))), (1, .inl e), (2, .inr (.inr (some 1))), (3, .inr (.inr (some 4)))] ⟨rfl, rfl, rfl, rfl, trivial⟩ ?_
    exact t_L_launch_23 hd9 C _ e_e hR _ _ h
  · refine x_iconst C dX3_launch_18 ?_
    refine x_goto C 23 dX3_launch_19 (by decide) ?_
    refine x_loc [(0, .inr (.inr (some 0))), (1, .inl e), (2, .inr (.inr (some 1))), (3, .inr (.inr (some 4)))] ⟨rfl, rfl, rfl, rfl, trivial⟩ ?_
    exact t_L_launch_23 hd9 C _ e_e hR _ _ h
theorem c_L_launch (l : Launch) (e : Int) (e_e : xw e = 0) (m m9 : xM) (h : f_L_launch e m = some m9) : xMet l yX3_launch cX3_launch 5 none 3 lay_L0 [.inr (.inr (some 0)), .inl e] m none m9 :=
  xMet_v (by decide +kernel) (Nat.le_of_ble_eq_true rfl) (fun Γ C hR hl9 => t_L_launch (Nat.le_refl _) C e e_e hR m h)
/-! ===== yX3_launch ===== -/
theorem xv_33 : xview lay_L1 lay_S [33, 34, 35, 36, 37] := xview_of (by decide +kernel)
set_option maxRecDepth 1000000 in
set_option maxHeartbeats 4000000 in
theorem t_L_launch_116_1 {Γ : xG} {d : Nat} (hd9 : 3 ≤ d) (C : xC Γ lay_L1 RX3 cX3_launch 5 d) (e : Int) (e_e : xw e = 1) {m9 : xM} (hR : xRv Γ lay_L1 cX3_launch m9) (m : xM) (h : f_L_launch_116 e m = some m9) : xW Γ lay_L1 5 116 [(2, .inr (.inr (some 1))), (3, .inr (.inr (some 4)))] [] m := by
  unfold f_L_launch_116 at h
  refine x_aload_n C dX3_launch_116 rfl ?_
  refine x_dup C dX3_launch_117 rfl ?_
  refine x_getI C dX3_launch_118 fF_X3_255 rfl rfl ?_
  refine x_iconst C dX3_launch_121 ?_
  refine x_iadd C dX3_launch_122 ?_
  refine x_putI C dX3_launch_123 fF_X3_255 rfl rfl ?_
  refine x_aload_n C dX3_launch_126 rfl ?_
  refine x_iconst C dX3_launch_127 ?_
  refine x_putZ C dX3_launch_128 fF_X3_264 rfl rfl (by decide) ?_
  exact x_returnV hR dX3_launch_131 h
set_option maxRecDepth 1000000 in
set_option maxHeartbeats 4000000 in
theorem t_L_launch_66_1 {Γ : xG} {d : Nat} (hd9 : 3 ≤ d) (C : xC Γ lay_L1 RX3 cX3_launch 5 d) (e : Int) (e_e : xw e = 1) {m9 : xM} (hR : xRv Γ lay_L1 cX3_launch m9) (x4 : Int) (m : xM) (h : f_L_launch_66 e x4 m = some m9) : xW Γ lay_L1 5 66 [(0, .inr (.inr (some 0))), (1, .inl e), (2, .inr (.inr (some 1))), (3, .inr (.inr (some 4))), (4, .inl x4)] [] m := by
  unfold f_L_launch_66 at h
  refine x_aload_n C dX3_launch_66 rfl ?_
  refine x_getR C dX3_launch_67 fF_X3_35 rfl rfl ?_
  refine x_iconst C dX3_launch_70 ?_
  refine x_dup2 C dX3_launch_71 rfl rfl ?_
  refine x_iaload C dX3_launch_72 rfl h (fun h => ?_)
  refine x_iconst C dX3_launch_73 ?_
  refine x_iadd C dX3_launch_74 ?_
  refine x_iastore C dX3_launch_75 rfl h (fun h => ?_)
  refine x_aload_n C dX3_launch_76 rfl ?_
  refine x_getR C dX3_launch_77 fF_X3_24 rfl rfl ?_
  refine x_aload_n C dX3_launch_80 rfl ?_
  refine x_getI C dX3_launch_81 fF_X3_61 rfl rfl ?_
  refine x_iload_n C dX3_launch_84 rfl ?_
  refine x_aload_n C dX3_launch_85 rfl ?_
  refine x_getI C dX3_launch_86 fF_X3_230 rfl rfl ?_
  refine x_aload_n C dX3_launch_89 rfl ?_
  refine x_getI C dX3_launch_90 fF_X3_255 rfl rfl ?_
  refine x_iadd C dX3_launch_93 ?_
  refine x_iload C dX3_launch_94 rfl ?_
  obtain ⟨q2, hq2, h⟩ := x_bind h
  refine x_callV C dX3_launch_96 (xin_26 _ (List.mem_of_getElem? (i := 1) rfl)) xy_X9_put (xi_X9_put) (xs_X9_put) [23, 24, 25, 26, 27] xv_26 (by omega) (by decide) (b := 0) rfl ⟨_, _, rfl⟩ (av := [.inl (m 0 7), .inl e, .inl ((m 4 3) + (m 4 5)), .inl x4]) rfl (Nat.le_of_ble_eq_true rfl) (c_W_put _ _ _ _ _ _ _ hq2) rfl ?_
  refine x_aload_n C dX3_launch_99 rfl ?_
  refine x_getR C dX3_launch_100 fF_X3_258 rfl rfl ?_
  refine x_aload_n C dX3_launch_103 rfl ?_
  refine x_aload_n C dX3_launch_104 rfl ?_
  refine x_getI C dX3_launch_105 fF_X3_255 rfl rfl ?_
  obtain ⟨q3, hq3, h⟩ := x_bind h
  refine x_callVp C dX3_launch_108 (xin_25 _ (List.mem_of_getElem? (i := 8) rfl)) xy_X2_slotOf (xi_X2_slotOf) (xs_X2_slotOf) [4, 5, 6, 7] xv_23 (by omega) (by decide) (b := 0) rfl ⟨_, _, rfl⟩ (av := [.inl ((xmg [23, 24, 25, 26, 27] 5 (xu m 30 0 ((m 30 0) + 1)) q2) 4 5)]) rfl (Nat.le_of_ble_eq_true rfl) (c_F_slot _ _ _ _ hq3) rfl ?_
  refine x_aload_n C dX3_launch_111 rfl ?_
  refine x_getI C dX3_launch_112 fF_X3_61 rfl rfl ?_
  refine x_iastore C dX3_launch_115 rfl h (fun h => ?_)
  refine x_loc [(2, .inr (.inr (some 1))), (3, .inr (.inr (some 4)))] ⟨rfl, rfl, trivial⟩ ?_
  exact t_L_launch_116_1 hd9 C _ e_e hR _ h
set_option maxRecDepth 1000000 in
set_option maxHeartbeats 4000000 in
theorem t_L_launch_23_1 {Γ : xG} {d : Nat} (hd9 : 3 ≤ d) (C : xC Γ lay_L1 RX3 cX3_launch 5 d) (e : Int) (e_e : xw e = 1) {m9 : xM} (hR : xRv Γ lay_L1 cX3_launch m9) (s0 : Int) (m : xM) (h : f_L_launch_23 e s0 m = some m9) : xW Γ lay_L1 5 23 [(0, .inr (.inr (some 0))), (1, .inl e), (2, .inr (.inr (some 1))), (3, .inr (.inr (some 4)))] [.inl s0] m := by
  unfold f_L_launch_23 at h
  refine x_istore C dX3_launch_23 (by decide) ?_
  refine x_aload_n C dX3_launch_25 rfl ?_
  refine x_getR C dX3_launch_26 fF_X3_46 rfl rfl ?_
  refine x_aload_n C dX3_launch_29 rfl ?_
  refine x_getR C dX3_launch_30 fF_X3_35 rfl rfl ?_
  refine x_iconst C dX3_launch_33 ?_
  refine x_iaload C dX3_launch_34 rfl h (fun h => ?_)
  obtain ⟨q1, hq1, h⟩ := x_bind h
  refine x_callVp C dX3_launch_35 (xin_28 _ (List.mem_of_getElem? (i := 21) rfl)) xy_X6_noiseOf (xi_X6_noiseOf) (xs_X6_noiseOf) [33, 34, 35, 36, 37] xv_33 (by omega) (by decide) (b := 0) rfl ⟨_, _, rfl⟩ (av := [.inl (m 30 0)]) rfl (Nat.le_of_ble_eq_true rfl) (c_S_noise _ _ _ _ hq1) rfl ?_
  refine x_aload_n C dX3_launch_38 rfl ?_
  refine x_getI C dX3_launch_39 fF_X3_73 rfl rfl ?_
  refine x_iadd C dX3_launch_42 ?_
  refine x_aload_n C dX3_launch_43 rfl ?_
  refine x_getI C dX3_launch_44 fF_X3_72 rfl rfl ?_
  refine x_icmp_le C 66 dX3_launch_47 (by decide) h (fun h => ?_) (fun h => ?_)
  · refine x_loc [(0, .inr (.inr (some 0))), (1, .inl e), (2, .inr (.inr (some 1))), (3, .inr (.inr (some 4))), (4, .inl s0)] ⟨rfl, rfl, rfl, rfl, rfl, trivial⟩ ?_
    exact t_L_launch_66_1 hd9 C _ e_e hR _ _ h
  · refine x_iload C dX3_launch_50 rfl ?_
    refine x_iconst C dX3_launch_52 ?_
    refine x_ior C dX3_launch_53 ?_
    refine x_istore C dX3_launch_54 (by decide) ?_
    refine x_aload_n C dX3_launch_56 rfl ?_
    refine x_getR C dX3_launch_57 fF_X3_35 rfl rfl ?_
    refine x_iconst C dX3_launch_60 ?_
    refine x_dup2 C dX3_launch_61 rfl rfl ?_
    refine x_iaload C dX3_launch_62 rfl h (fun h => ?_)
    refine x_iconst C dX3_launch_63 ?_
    refine x_iadd C dX3_launch_64 ?_
    refine x_iastore C dX3_launch_65 rfl h (fun h => ?_)
    refine x_loc [(0, .inr (.inr (some 0))), (1, .inl e), (2, .inr (.inr (some 1))), (3, .inr (.inr (some 4))), (4, .inl (xior s0 2))] ⟨rfl, rfl, rfl, rfl, rfl, trivial⟩ ?_
    exact t_L_launch_66_1 hd9 C _ e_e hR _ _ h
set_option maxRecDepth 1000000 in
set_option maxHeartbeats 4000000 in
theorem t_L_launch_1 {Γ : xG} {d : Nat} (hd9 : 3 ≤ d) (C : xC Γ lay_L1 RX3 cX3_launch 5 d) (e : Int) (e_e : xw e = 1) {m9 : xM} (hR : xRv Γ lay_L1 cX3_launch m9) (m : xM) (h : f_L_launch e m = some m9) : xW Γ lay_L1 5 0 [(0, .inr (.inr (some 0))), (1, .inl e)] [] m := by
  unfold f_L_launch at h
  refine x_aload_n C dX3_launch_0 rfl ?_
  refine x_iload_n C dX3_launch_1 rfl ?_
  refine x_callVp C dX3_launch_2 (xin_24 _ (List.mem_of_getElem? (i := 19) rfl)) xy_X3_endOf (xi_X3_endOf) (xs_X3_endOf) [0, 33, 12, 1, 23, 28, 30, 31] xv_22 (by omega) (by decide) (b := 0) rfl ⟨_, _, rfl⟩ (av := [.inl e]) rfl (Nat.le_of_ble_eq_true rfl) (c_endOf1 _ _ _ (by first | decide | assumption | exact xw_1m0 (by assumption) | exact xw_1m1 (by assumption) | exact xw_ne1 (by assumption) | exact xw_n1m0 (by assumption))) rfl ?_
  refine x_astore_n C dX3_launch_5 (by decide) ?_
  refine x_aload_n C dX3_launch_6 rfl ?_
  refine x_getR C dX3_launch_7 fF_X3_120 rfl rfl ?_
  refine x_astore_n C dX3_launch_10 (by decide) ?_
  refine x_aload_n C dX3_launch_11 rfl ?_
  refine x_getI C dX3_launch_12 fF_X3_264 rfl rfl ?_
  refine x_if_eq C 22 dX3_launch_15 (by decide) h (fun h => ?_) (fun h => ?_)
  · refine x_iconst C dX3_launch_22 ?_
    refine x_loc [(0, .inr (.inr (some 0))), (1, .inl e), (2, .inr (.inr (some 1))), (3, .inr (.inr (some 4)))] ⟨rfl, rfl, rfl, rfl, trivial⟩ ?_
    exact t_L_launch_23_1 hd9 C _ e_e hR _ _ h
  · refine x_iconst C dX3_launch_18 ?_
    refine x_goto C 23 dX3_launch_19 (by decide) ?_
    refine x_loc [(0, .inr (.inr (some 0))), (1, .inl e), (2, .inr (.inr (some 1))), (3, .inr (.inr (some 4)))] ⟨rfl, rfl, rfl, rfl, trivial⟩ ?_
    exact t_L_launch_23_1 hd9 C _ e_e hR _ _ h
theorem c_L_launch_1 (l : Launch) (e : Int) (e_e : xw e = 1) (m m9 : xM) (h : f_L_launch e m = some m9) : xMet l yX3_launch cX3_launch 5 none 3 lay_L1 [.inr (.inr (some 0)), .inl e] m none m9 :=
  xMet_v (by decide +kernel) (Nat.le_of_ble_eq_true rfl) (fun Γ C hR hl9 => t_L_launch_1 (Nat.le_refl _) C e e_e hR m h)
/-! ===== yX3_sendNext ===== -/
theorem xy_X3_costOf : xY yX3_costOf cX3_costOf 7 (some .int) 4 := ⟨(xin_28 _ (List.mem_of_getElem? (i := 5) rfl)), (xin_1 _ (List.mem_of_getElem? (i := 18) rfl)), by decide, by decide, by decide +kernel⟩
theorem xi_X3_costOf : Cond.instanceMethod yX3_costOf ∈ wsL_law := (xin_28 _ (List.mem_of_getElem? (i := 3) rfl))
theorem xs_X3_costOf : Cond.selects yX3_costOf.cls yX3_costOf yX3_costOf ∈ wsL_law := (xin_28 _ (List.mem_of_getElem? (i := 4) rfl))
theorem xv_34 : xview lay_L0 lay_co56 [0, 31, 32, 1, 8, 9, 5, 33, 1, 12, 23, 28, 30, 2, 3, 4, 10] := xview_of (by decide +kernel)
theorem fF_X3_284 : xF RX3 284 2 8 .int false := ⟨RX1, TX1, 11, tyX1, rfl, by decide, (xin_27 _ (List.mem_of_getElem? (i := 7) rfl)), rfl, inlX1, tyX1_ok, nmX1, rfl, rfl⟩
theorem xv_35 : xview lay_L0 lay_D2 [8, 9, 31, 32] := xview_of (by decide +kernel)
theorem xy_X3_launch : xY yX3_launch cX3_launch 5 none 1 := ⟨(xin_28 _ (List.mem_of_getElem? (i := 20) rfl)), (xin_1 _ (List.mem_of_getElem? (i := 18) rfl)), by decide, by decide, by decide +kernel⟩
theorem xi_X3_launch : Cond.instanceMethod yX3_launch ∈ wsL_law := (xin_28 _ (List.mem_of_getElem? (i := 18) rfl))
theorem xs_X3_launch : Cond.selects yX3_launch.cls yX3_launch yX3_launch ∈ wsL_law := (xin_28 _ (List.mem_of_getElem? (i := 19) rfl))
theorem xy_X1_makeFrame : xY yX1_makeFrame cX1_makeFrame 4 none 1 := ⟨(xin_28 _ (List.mem_of_getElem? (i := 11) rfl)), (xin_3 _ (List.mem_of_getElem? (i := 21) rfl)), by decide, by decide, by decide +kernel⟩
theorem xi_X1_makeFrame : Cond.instanceMethod yX1_makeFrame ∈ wsL_law := (xin_28 _ (List.mem_of_getElem? (i := 9) rfl))
theorem xs_X1_makeFrame : Cond.selects yX1_makeFrame.cls yX1_makeFrame yX1_makeFrame ∈ wsL_law := (xin_28 _ (List.mem_of_getElem? (i := 10) rfl))
theorem fF_X3_302 : xF RX3 302 2 0 (.array .int) true := ⟨RX1, TX1, 11, tyX1, rfl, by decide, (xin_27 _ (List.mem_of_getElem? (i := 20) rfl)), rfl, inlX1, tyX1_ok, nmX1, rfl, rfl⟩
theorem xv_36 : xview lay_L0 lay_co [0, 31, 32, 1, 8, 9, 2, 33, 1, 12, 23, 28, 30, 2, 3, 4, 10] := xview_of (by decide +kernel)
theorem fF_X3_299 : xF RX3 299 7 9 .int false := ⟨RX6, TX6, 14, tyX6, rfl, by decide, (xin_27 _ (List.mem_of_getElem? (i := 18) rfl)), rfl, inlX6, tyX6_ok, nmX6, rfl, rfl⟩
theorem dX3_sendNext_0 : decode cX3_sendNext 0 = .ok (.aload_n 0, 1) := by decide +kernel
theorem dX3_sendNext_1 : decode cX3_sendNext 1 = .ok (.iload_n 1, 1) := by decide +kernel
theorem dX3_sendNext_2 : decode cX3_sendNext 2 = .ok (.invokevirtual 226, 3) := by decide +kernel
theorem dX3_sendNext_5 : decode cX3_sendNext 5 = .ok (.astore_n 2, 1) := by decide +kernel
theorem dX3_sendNext_6 : decode cX3_sendNext 6 = .ok (.aload_n 2, 1) := by decide +kernel
theorem dX3_sendNext_7 : decode cX3_sendNext 7 = .ok (.getfield 120, 3) := by decide +kernel
theorem dX3_sendNext_10 : decode cX3_sendNext 10 = .ok (.astore_n 3, 1) := by decide +kernel
theorem dX3_sendNext_11 : decode cX3_sendNext 11 = .ok (.aload_n 3, 1) := by decide +kernel
theorem dX3_sendNext_12 : decode cX3_sendNext 12 = .ok (.getfield 255, 3) := by decide +kernel
theorem dX3_sendNext_15 : decode cX3_sendNext 15 = .ok (.aload_n 3, 1) := by decide +kernel
theorem dX3_sendNext_16 : decode cX3_sendNext 16 = .ok (.getfield 124, 3) := by decide +kernel
theorem dX3_sendNext_19 : decode cX3_sendNext 19 = .ok (.if_icmp .ne 7, 3) := by decide +kernel
theorem dX3_sendNext_22 : decode cX3_sendNext 22 = .ok (.iconst 1, 1) := by decide +kernel
theorem dX3_sendNext_23 : decode cX3_sendNext 23 = .ok (.goto 4, 3) := by decide +kernel
theorem dX3_sendNext_26 : decode cX3_sendNext 26 = .ok (.iconst 0, 1) := by decide +kernel
theorem dX3_sendNext_27 : decode cX3_sendNext 27 = .ok (.istore 4, 2) := by decide +kernel
theorem dX3_sendNext_29 : decode cX3_sendNext 29 = .ok (.iload 4, 2) := by decide +kernel
theorem dX3_sendNext_31 : decode cX3_sendNext 31 = .ok (.ifCond .eq 26, 3) := by decide +kernel
theorem dX3_sendNext_34 : decode cX3_sendNext 34 = .ok (.aload_n 3, 1) := by decide +kernel
theorem dX3_sendNext_35 : decode cX3_sendNext 35 = .ok (.getfield 124, 3) := by decide +kernel
theorem dX3_sendNext_38 : decode cX3_sendNext 38 = .ok (.aload_n 0, 1) := by decide +kernel
theorem dX3_sendNext_39 : decode cX3_sendNext 39 = .ok (.getfield 46, 3) := by decide +kernel
theorem dX3_sendNext_42 : decode cX3_sendNext 42 = .ok (.getfield 299, 3) := by decide +kernel
theorem dX3_sendNext_45 : decode cX3_sendNext 45 = .ok (.if_icmp .ge 10, 3) := by decide +kernel
theorem dX3_sendNext_48 : decode cX3_sendNext 48 = .ok (.aload_n 2, 1) := by decide +kernel
theorem dX3_sendNext_49 : decode cX3_sendNext 49 = .ok (.getfield 117, 3) := by decide +kernel
theorem dX3_sendNext_52 : decode cX3_sendNext 52 = .ok (.ifCond .ne 5, 3) := by decide +kernel
theorem dX3_sendNext_55 : decode cX3_sendNext 55 = .ok (.iconst 0, 1) := by decide +kernel
theorem dX3_sendNext_56 : decode cX3_sendNext 56 = .ok (.ireturn, 1) := by decide +kernel
theorem dX3_sendNext_57 : decode cX3_sendNext 57 = .ok (.aload_n 3, 1) := by decide +kernel
theorem dX3_sendNext_58 : decode cX3_sendNext 58 = .ok (.aload_n 3, 1) := by decide +kernel
theorem dX3_sendNext_59 : decode cX3_sendNext 59 = .ok (.getfield 255, 3) := by decide +kernel
theorem dX3_sendNext_62 : decode cX3_sendNext 62 = .ok (.invokevirtual 240, 3) := by decide +kernel
theorem dX3_sendNext_65 : decode cX3_sendNext 65 = .ok (.istore 5, 2) := by decide +kernel
theorem dX3_sendNext_67 : decode cX3_sendNext 67 = .ok (.iload 4, 2) := by decide +kernel
theorem dX3_sendNext_69 : decode cX3_sendNext 69 = .ok (.ifCond .eq 20, 3) := by decide +kernel
theorem dX3_sendNext_72 : decode cX3_sendNext 72 = .ok (.aload_n 0, 1) := by decide +kernel
theorem dX3_sendNext_73 : decode cX3_sendNext 73 = .ok (.aload_n 2, 1) := by decide +kernel
theorem dX3_sendNext_74 : decode cX3_sendNext 74 = .ok (.aload_n 2, 1) := by decide +kernel
theorem dX3_sendNext_75 : decode cX3_sendNext 75 = .ok (.getfield 302, 3) := by decide +kernel
theorem dX3_sendNext_78 : decode cX3_sendNext 78 = .ok (.iconst 0, 1) := by decide +kernel
theorem dX3_sendNext_79 : decode cX3_sendNext 79 = .ok (.aload_n 2, 1) := by decide +kernel
theorem dX3_sendNext_80 : decode cX3_sendNext 80 = .ok (.invokevirtual 305, 3) := by decide +kernel
theorem dX3_sendNext_83 : decode cX3_sendNext 83 = .ok (.invokevirtual 308, 3) := by decide +kernel
theorem dX3_sendNext_86 : decode cX3_sendNext 86 = .ok (.goto 24, 3) := by decide +kernel
theorem dX3_sendNext_89 : decode cX3_sendNext 89 = .ok (.aload_n 0, 1) := by decide +kernel
theorem dX3_sendNext_90 : decode cX3_sendNext 90 = .ok (.aload_n 2, 1) := by decide +kernel
theorem dX3_sendNext_91 : decode cX3_sendNext 91 = .ok (.aload_n 3, 1) := by decide +kernel
theorem dX3_sendNext_92 : decode cX3_sendNext 92 = .ok (.getfield 246, 3) := by decide +kernel
theorem dX3_sendNext_95 : decode cX3_sendNext 95 = .ok (.iload 5, 2) := by decide +kernel
theorem dX3_sendNext_97 : decode cX3_sendNext 97 = .ok (.bipush 8, 2) := by decide +kernel
theorem dX3_sendNext_99 : decode cX3_sendNext 99 = .ok (.imul, 1) := by decide +kernel
theorem dX3_sendNext_100 : decode cX3_sendNext 100 = .ok (.aload_n 3, 1) := by decide +kernel
theorem dX3_sendNext_101 : decode cX3_sendNext 101 = .ok (.getfield 243, 3) := by decide +kernel
theorem dX3_sendNext_104 : decode cX3_sendNext 104 = .ok (.iload 5, 2) := by decide +kernel
theorem dX3_sendNext_106 : decode cX3_sendNext 106 = .ok (.iaload, 1) := by decide +kernel
theorem dX3_sendNext_107 : decode cX3_sendNext 107 = .ok (.invokevirtual 308, 3) := by decide +kernel
theorem dX3_sendNext_110 : decode cX3_sendNext 110 = .ok (.istore 6, 2) := by decide +kernel
theorem dX3_sendNext_112 : decode cX3_sendNext 112 = .ok (.iload 6, 2) := by decide +kernel
theorem dX3_sendNext_114 : decode cX3_sendNext 114 = .ok (.aload_n 2, 1) := by decide +kernel
theorem dX3_sendNext_115 : decode cX3_sendNext 115 = .ok (.getfield 284, 3) := by decide +kernel
theorem dX3_sendNext_118 : decode cX3_sendNext 118 = .ok (.if_icmp .le 5, 3) := by decide +kernel
theorem dX3_sendNext_121 : decode cX3_sendNext 121 = .ok (.iconst 0, 1) := by decide +kernel
theorem dX3_sendNext_122 : decode cX3_sendNext 122 = .ok (.ireturn, 1) := by decide +kernel
theorem dX3_sendNext_123 : decode cX3_sendNext 123 = .ok (.iload 4, 2) := by decide +kernel
theorem dX3_sendNext_125 : decode cX3_sendNext 125 = .ok (.ifCond .eq 9, 3) := by decide +kernel
theorem dX3_sendNext_128 : decode cX3_sendNext 128 = .ok (.aload_n 2, 1) := by decide +kernel
theorem dX3_sendNext_129 : decode cX3_sendNext 129 = .ok (.iload 5, 2) := by decide +kernel
theorem dX3_sendNext_131 : decode cX3_sendNext 131 = .ok (.invokevirtual 312, 3) := by decide +kernel
theorem dX3_sendNext_134 : decode cX3_sendNext 134 = .ok (.aload_n 2, 1) := by decide +kernel
theorem dX3_sendNext_135 : decode cX3_sendNext 135 = .ok (.dup, 1) := by decide +kernel
theorem dX3_sendNext_136 : decode cX3_sendNext 136 = .ok (.getfield 284, 3) := by decide +kernel
theorem dX3_sendNext_139 : decode cX3_sendNext 139 = .ok (.iload 6, 2) := by decide +kernel
theorem dX3_sendNext_141 : decode cX3_sendNext 141 = .ok (.isub, 1) := by decide +kernel
theorem dX3_sendNext_142 : decode cX3_sendNext 142 = .ok (.putfield 284, 3) := by decide +kernel
theorem dX3_sendNext_145 : decode cX3_sendNext 145 = .ok (.aload_n 0, 1) := by decide +kernel
theorem dX3_sendNext_146 : decode cX3_sendNext 146 = .ok (.getfield 35, 3) := by decide +kernel
theorem dX3_sendNext_149 : decode cX3_sendNext 149 = .ok (.bipush 9, 2) := by decide +kernel
theorem dX3_sendNext_151 : decode cX3_sendNext 151 = .ok (.dup2, 1) := by decide +kernel
theorem dX3_sendNext_152 : decode cX3_sendNext 152 = .ok (.iaload, 1) := by decide +kernel
theorem dX3_sendNext_153 : decode cX3_sendNext 153 = .ok (.iload 6, 2) := by decide +kernel
theorem dX3_sendNext_155 : decode cX3_sendNext 155 = .ok (.iadd, 1) := by decide +kernel
theorem dX3_sendNext_156 : decode cX3_sendNext 156 = .ok (.iastore, 1) := by decide +kernel
theorem dX3_sendNext_157 : decode cX3_sendNext 157 = .ok (.aload_n 2, 1) := by decide +kernel
theorem dX3_sendNext_158 : decode cX3_sendNext 158 = .ok (.getfield 315, 3) := by decide +kernel
theorem dX3_sendNext_161 : decode cX3_sendNext 161 = .ok (.aload_n 0, 1) := by decide +kernel
theorem dX3_sendNext_162 : decode cX3_sendNext 162 = .ok (.getfield 42, 3) := by decide +kernel
theorem dX3_sendNext_165 : decode cX3_sendNext 165 = .ok (.invokevirtual 318, 3) := by decide +kernel
theorem dX3_sendNext_168 : decode cX3_sendNext 168 = .ok (.aload_n 0, 1) := by decide +kernel
theorem dX3_sendNext_169 : decode cX3_sendNext 169 = .ok (.iload_n 1, 1) := by decide +kernel
theorem dX3_sendNext_170 : decode cX3_sendNext 170 = .ok (.invokevirtual 321, 3) := by decide +kernel
theorem dX3_sendNext_173 : decode cX3_sendNext 173 = .ok (.iconst 1, 1) := by decide +kernel
theorem dX3_sendNext_174 : decode cX3_sendNext 174 = .ok (.ireturn, 1) := by decide +kernel
def f_L_sendNext_168 (e : Int) (m : xM) : Option (Int × xM) :=
     (Option.bind (f_L_launch e m) fun q4 =>
      some (1, q4))
set_option maxRecDepth 1000000 in
set_option maxHeartbeats 4000000 in
theorem t_L_sendNext_168 {Γ : xG} {d : Nat} (hd9 : 4 ≤ d) (C : xC Γ lay_L0 RX3 cX3_sendNext 7 d) (e : Int) (e_e : xw e = 0) {r : Int} {m9 : xM} (hR : xRz Γ lay_L0 cX3_sendNext r m9) (m : xM) (h : f_L_sendNext_168 e m = some (r, m9)) : xW Γ lay_L0 7 168 [(0, .inr (.inr (some 0))), (1, .inl e)] [] m := by
  unfold f_L_sendNext_168 at h
  refine x_aload_n C dX3_sendNext_168 rfl ?_
  refine x_iload_n C dX3_sendNext_169 rfl ?_
  obtain ⟨q4, hq4, h⟩ := x_bind h
  refine x_callVI C dX3_sendNext_170 (xin_28 _ (List.mem_of_getElem? (i := 17) rfl)) xy_X3_launch (xi_X3_launch) (xs_X3_launch) (by omega) (by decide) (b := 0) rfl ⟨_, _, rfl⟩ (av := [.inl e]) rfl (Nat.le_of_ble_eq_true rfl) (c_L_launch _ _ (by first | decide | assumption | exact xw_1m0 (by assumption) | exact xw_1m1 (by assumption) | exact xw_ne1 (by assumption) | exact xw_n1m0 (by assumption)) _ _ hq4) rfl ?_
  refine x_iconst C dX3_sendNext_173 ?_
  exact x_zreturn hR (by decide) dX3_sendNext_174 h
def f_L_sendNext_134 (e : Int) (x6 : Int) (m : xM) : Option (Int × xM) :=
     (if xib 9 11 then (if xib 9 11 then (Option.bind (f_D_cp (xvw [8, 9, 31, 32] (xu (xu m 1 8 ((m 1 8) - x6)) 30 9 ((m 30 9) + x6)))) fun q3 =>
      f_L_sendNext_168 e (xmg [8, 9, 31, 32] 4 (xu (xu m 1 8 ((m 1 8) - x6)) 30 9 ((m 30 9) + x6)) q3))
      else none)
      else none)
set_option maxRecDepth 1000000 in
set_option maxHeartbeats 4000000 in
theorem t_L_sendNext_134 {Γ : xG} {d : Nat} (hd9 : 4 ≤ d) (C : xC Γ lay_L0 RX3 cX3_sendNext 7 d) (e : Int) (e_e : xw e = 0) {r : Int} {m9 : xM} (hR : xRz Γ lay_L0 cX3_sendNext r m9) (x6 : Int) (m : xM) (h : f_L_sendNext_134 e x6 m = some (r, m9)) : xW Γ lay_L0 7 134 [(0, .inr (.inr (some 0))), (1, .inl e), (2, .inr (.inr (some 1))), (6, .inl x6)] [] m := by
  unfold f_L_sendNext_134 at h
  refine x_aload_n C dX3_sendNext_134 rfl ?_
  refine x_dup C dX3_sendNext_135 rfl ?_
  refine x_getI C dX3_sendNext_136 fF_X3_284 rfl rfl ?_
  refine x_iload C dX3_sendNext_139 rfl ?_
  refine x_isub C dX3_sendNext_141 ?_
  refine x_putI C dX3_sendNext_142 fF_X3_284 rfl rfl ?_
  refine x_aload_n C dX3_sendNext_145 rfl ?_
  refine x_getR C dX3_sendNext_146 fF_X3_35 rfl rfl ?_
  refine x_bipush C dX3_sendNext_149 (by decide) ?_
  refine x_dup2 C dX3_sendNext_151 rfl rfl ?_
  refine x_iaload C dX3_sendNext_152 rfl h (fun h => ?_)
  refine x_iload C dX3_sendNext_153 rfl ?_
  refine x_iadd C dX3_sendNext_155 ?_
  refine x_iastore C dX3_sendNext_156 rfl h (fun h => ?_)
  refine x_aload_n C dX3_sendNext_157 rfl ?_
  refine x_getR C dX3_sendNext_158 fF_X3_315 rfl rfl ?_
  refine x_aload_n C dX3_sendNext_161 rfl ?_
  refine x_getR C dX3_sendNext_162 fF_X3_42 rfl rfl ?_
  obtain ⟨q3, hq3, h⟩ := x_bind h
  refine x_callV C dX3_sendNext_165 (xin_28 _ (List.mem_of_getElem? (i := 6) rfl)) xy_X0_copyFrom (xi_X0_copyFrom) (xs_X0_copyFrom) [8, 9, 31, 32] xv_35 (by omega) (by decide) (b := 0) rfl ⟨_, _, rfl⟩ (av := [.inr (.inr (some 2))]) rfl (Nat.le_of_ble_eq_true rfl) (c_D_cp _ _ _ hq3) rfl ?_
  refine x_loc [(0, .inr (.inr (some 0))), (1, .inl e)] ⟨rfl, rfl, trivial⟩ ?_
  exact t_L_sendNext_168 hd9 C _ e_e hR _ h
def f_L_sendNext_110 (e : Int) (x4 : Int) (x5 : Int) (s0 : Int) (m : xM) : Option (Int × xM) :=
     (if xw (m 1 8) < xw s0 then some (0, m)
      else (if xw x4 = 0 then f_L_sendNext_134 e s0 m
      else (Option.bind (f_E_make x5 (xvw [1, 2, 3, 4, 5, 6, 7, 8, 9, 10, 11] m)) fun q5 =>
      f_L_sendNext_134 e s0 (xmg [1, 2, 3, 4, 5, 6, 7, 8, 9, 10, 11] 11 m q5))))
set_option maxRecDepth 1000000 in
set_option maxHeartbeats 4000000 in
theorem t_L_sendNext_110 {Γ : xG} {d : Nat} (hd9 : 4 ≤ d) (C : xC Γ lay_L0 RX3 cX3_sendNext 7 d) (e : Int) (e_e : xw e = 0) {r : Int} {m9 : xM} (hR : xRz Γ lay_L0 cX3_sendNext r m9) (x4 : Int) (x5 : Int) (s0 : Int) (m : xM) (h : f_L_sendNext_110 e x4 x5 s0 m = some (r, m9)) : xW Γ lay_L0 7 110 [(0, .inr (.inr (some 0))), (1, .inl e), (2, .inr (.inr (some 1))), (4, .inl x4), (5, .inl x5)] [.inl s0] m := by
  unfold f_L_sendNext_110 at h
  refine x_istore C dX3_sendNext_110 (by decide) ?_
  refine x_iload C dX3_sendNext_112 rfl ?_
  refine x_aload_n C dX3_sendNext_114 rfl ?_
  refine x_getI C dX3_sendNext_115 fF_X3_284 rfl rfl ?_
  refine x_icmp_le C 123 dX3_sendNext_118 (by decide) h (fun h => ?_) (fun h => ?_)
  · refine x_iload C dX3_sendNext_123 rfl ?_
    refine x_if_eq C 134 dX3_sendNext_125 (by decide) h (fun h => ?_) (fun h => ?_)
    · refine x_loc [(0, .inr (.inr (some 0))), (1, .inl e), (2, .inr (.inr (some 1))), (6, .inl s0)] ⟨rfl, rfl, rfl, rfl, trivial⟩ ?_
      exact t_L_sendNext_134 hd9 C _ e_e hR _ _ h
    · refine x_aload_n C dX3_sendNext_128 rfl ?_
      refine x_iload C dX3_sendNext_129 rfl ?_
      obtain ⟨q5, hq5, h⟩ := x_bind h
      refine x_callV C dX3_sendNext_131 (xin_28 _ (List.mem_of_getElem? (i := 8) rfl)) xy_X1_makeFrame (xi_X1_makeFrame) (xs_X1_makeFrame) [1, 2, 3, 4, 5, 6, 7, 8, 9, 10, 11] xv_14 (by omega) (by decide) (b := 0) rfl ⟨_, _, rfl⟩ (av := [.inl x5]) rfl (Nat.le_of_ble_eq_true rfl) (c_E_make _ _ _ _ hq5) rfl ?_
      refine x_loc [(0, .inr (.inr (some 0))), (1, .inl e), (2, .inr (.inr (some 1))), (6, .inl s0)] ⟨rfl, rfl, rfl, rfl, trivial⟩ ?_
      exact t_L_sendNext_134 hd9 C _ e_e hR _ _ h
  · refine x_iconst C dX3_sendNext_121 ?_
    exact x_zreturn hR (by decide) dX3_sendNext_122 h
def f_L_sendNext_57 (e : Int) (x4 : Int) (m : xM) : Option (Int × xM) :=
     (Option.bind (f_F_slot (m 4 5) (xvw [4, 5, 6, 7] m)) fun q1 =>
      (if xw x4 = 0 then (if xib q1 7 then (Option.bind (f_L_cost56 (q1 * 8) (m 6 (xix q1)) (xvw [0, 31, 32, 1, 8, 9, 5] m)) fun q2 =>
      f_L_sendNext_110 e x4 q1 q2.1 (xmg [0, 31, 32, 1, 8, 9, 5] 7 m q2.2))
      else none)
      else (Option.bind (f_E_next (xvw [1, 2, 3, 4, 5, 6, 7, 8, 9, 10, 11] m)) fun q6 =>
      (Option.bind (f_L_cost 0 q6 (xvw [0, 31, 32, 1, 8, 9, 2] m)) fun q7 =>
      f_L_sendNext_110 e x4 q1 q7.1 (xmg [0, 31, 32, 1, 8, 9, 2] 7 m q7.2)))))
set_option maxRecDepth 1000000 in
set_option maxHeartbeats 4000000 in
theorem t_L_sendNext_57 {Γ : xG} {d : Nat} (hd9 : 4 ≤ d) (C : xC Γ lay_L0 RX3 cX3_sendNext 7 d) (e : Int) (e_e : xw e = 0) {r : Int} {m9 : xM} (hR : xRz Γ lay_L0 cX3_sendNext r m9) (x4 : Int) (m : xM) (h : f_L_sendNext_57 e x4 m = some (r, m9)) : xW Γ lay_L0 7 57 [(0, .inr (.inr (some 0))), (1, .inl e), (2, .inr (.inr (some 1))), (3, .inr (.inr (some 4))), (4, .inl x4)] [] m := by
  unfold f_L_sendNext_57 at h
  refine x_aload_n C dX3_sendNext_57 rfl ?_
  refine x_aload_n C dX3_sendNext_58 rfl ?_
  refine x_getI C dX3_sendNext_59 fF_X3_255 rfl rfl ?_
  obtain ⟨q1, hq1, h⟩ := x_bind h
  refine x_callVp C dX3_sendNext_62 (xin_25 _ (List.mem_of_getElem? (i := 8) rfl)) xy_X2_slotOf (xi_X2_slotOf) (xs_X2_slotOf) [4, 5, 6, 7] xv_19 (by omega) (by decide) (b := 0) rfl ⟨_, _, rfl⟩ (av := [.inl (m 4 5)]) rfl (Nat.le_of_ble_eq_true rfl) (c_F_slot _ _ _ _ hq1) rfl ?_
  refine x_istore C dX3_sendNext_65 (by decide) ?_
  refine x_iload C dX3_sendNext_67 rfl ?_
  refine x_if_eq C 89 dX3_sendNext_69 (by decide) h (fun h => ?_) (fun h => ?_)
  · refine x_aload_n C dX3_sendNext_89 rfl ?_
    refine x_aload_n C dX3_sendNext_90 rfl ?_
    refine x_aload_n C dX3_sendNext_91 rfl ?_
    refine x_getR C dX3_sendNext_92 fF_X3_246 rfl rfl ?_
    refine x_iload C dX3_sendNext_95 rfl ?_
    refine x_bipush C dX3_sendNext_97 (by decide) ?_
    refine x_imul C dX3_sendNext_99 ?_
    refine x_aload_n C dX3_sendNext_100 rfl ?_
    refine x_getR C dX3_sendNext_101 fF_X3_243 rfl rfl ?_
    refine x_iload C dX3_sendNext_104 rfl ?_
    refine x_iaload C dX3_sendNext_106 rfl h (fun h => ?_)
    obtain ⟨q2, hq2, h⟩ := x_bind h
    refine x_callV0 C dX3_sendNext_107 (xin_28 _ (List.mem_of_getElem? (i := 2) rfl)) xy_X3_costOf (xi_X3_costOf) (xs_X3_costOf) [0, 31, 32, 1, 8, 9, 5, 33, 1, 12, 23, 28, 30, 2, 3, 4, 10] xv_34 (T0 := [0, 31, 32, 1, 8, 9, 5]) rfl (by omega) (by decide) (b := 0) rfl ⟨_, _, rfl⟩ (av := [.inr (.inr (some 3)), .inr (.inr (some 6)), .inl (q1 * 8), .inl (m 6 (xix q1))]) rfl (Nat.le_of_ble_eq_true rfl) (c_L_cost56 _ _ _ _ q2.1 q2.2 hq2) rfl ?_
    refine x_loc [(0, .inr (.inr (some 0))), (1, .inl e), (2, .inr (.inr (some 1))), (4, .inl x4), (5, .inl q1)] ⟨rfl, rfl, rfl, rfl, rfl, trivial⟩ ?_
    exact t_L_sendNext_110 hd9 C _ e_e hR _ _ _ _ h
  · refine x_aload_n C dX3_sendNext_72 rfl ?_
    refine x_aload_n C dX3_sendNext_73 rfl ?_
    refine x_aload_n C dX3_sendNext_74 rfl ?_
    refine x_getR C dX3_sendNext_75 fF_X3_302 rfl rfl ?_
    refine x_iconst C dX3_sendNext_78 ?_
    refine x_aload_n C dX3_sendNext_79 rfl ?_
    obtain ⟨q6, hq6, h⟩ := x_bind h
    refine x_callVp C dX3_sendNext_80 (xin_27 _ (List.mem_of_getElem? (i := 22) rfl)) xy_X1_nextFrameSize (xi_X1_nextFrameSize) (xs_X1_nextFrameSize) [1, 2, 3, 4, 5, 6, 7, 8, 9, 10, 11] xv_14 (by omega) (by decide) (b := 0) rfl ⟨_, _, rfl⟩ (av := []) rfl (Nat.le_of_ble_eq_true rfl) (c_E_next _ _ _ hq6) rfl ?_
    obtain ⟨q7, hq7, h⟩ := x_bind h
    refine x_callV0 C dX3_sendNext_83 (xin_28 _ (List.mem_of_getElem? (i := 2) rfl)) xy_X3_costOf (xi_X3_costOf) (xs_X3_costOf) [0, 31, 32, 1, 8, 9, 2, 33, 1, 12, 23, 28, 30, 2, 3, 4, 10] xv_36 (T0 := [0, 31, 32, 1, 8, 9, 2]) rfl (by omega) (by decide) (b := 0) rfl ⟨_, _, rfl⟩ (av := [.inr (.inr (some 3)), .inr (.inr (some 6)), .inl 0, .inl q6]) rfl (Nat.le_of_ble_eq_true rfl) (c_L_cost _ _ _ _ q7.1 q7.2 hq7) rfl ?_
    refine x_goto C 110 dX3_sendNext_86 (by decide) ?_
    refine x_loc [(0, .inr (.inr (some 0))), (1, .inl e), (2, .inr (.inr (some 1))), (4, .inl x4), (5, .inl q1)] ⟨rfl, rfl, rfl, rfl, rfl, trivial⟩ ?_
    exact t_L_sendNext_110 hd9 C _ e_e hR _ _ _ _ h
def f_L_sendNext_27 (e : Int) (s0 : Int) (m : xM) : Option (Int × xM) :=
     (if xw s0 = 0 then f_L_sendNext_57 e s0 m
      else (if xw (m 4 4) < xw (m 33 9) then (if xw (m 1 5) = 0 then some (0, m)
      else f_L_sendNext_57 e s0 m)
      else some (0, m)))
set_option maxRecDepth 1000000 in
set_option maxHeartbeats 4000000 in
theorem t_L_sendNext_27 {Γ : xG} {d : Nat} (hd9 : 4 ≤ d) (C : xC Γ lay_L0 RX3 cX3_sendNext 7 d) (e : Int) (e_e : xw e = 0) {r : Int} {m9 : xM} (hR : xRz Γ lay_L0 cX3_sendNext r m9) (s0 : Int) (m : xM) (h : f_L_sendNext_27 e s0 m = some (r, m9)) : xW Γ lay_L0 7 27 [(0, .inr (.inr (some 0))), (1, .inl e), (2, .inr (.inr (some 1))), (3, .inr (.inr (some 4)))] [.inl s0] m := by
  unfold f_L_sendNext_27 at h
  refine x_istore C dX3_sendNext_27 (by decide) ?_
  refine x_iload C dX3_sendNext_29 rfl ?_
  refine x_if_eq C 57 dX3_sendNext_31 (by decide) h (fun h => ?_) (fun h => ?_)
  · refine x_loc [(0, .inr (.inr (some 0))), (1, .inl e), (2, .inr (.inr (some 1))), (3, .inr (.inr (some 4))), (4, .inl s0)] ⟨rfl, rfl, rfl, rfl, rfl, trivial⟩ ?_
    exact t_L_sendNext_57 hd9 C _ e_e hR _ _ h
  · refine x_aload_n C dX3_sendNext_34 rfl ?_
    refine x_getI C dX3_sendNext_35 fF_X3_124 rfl rfl ?_
    refine x_aload_n C dX3_sendNext_38 rfl ?_
    refine x_getR C dX3_sendNext_39 fF_X3_46 rfl rfl ?_
    refine x_getI C dX3_sendNext_42 fF_X3_299 rfl rfl ?_
    refine x_icmp_ge C 55 dX3_sendNext_45 (by decide) h (fun h => ?_) (fun h => ?_)
    · refine x_iconst C dX3_sendNext_55 ?_
      exact x_zreturn hR (by decide) dX3_sendNext_56 h
    · refine x_aload_n C dX3_sendNext_48 rfl ?_
      refine x_getI C dX3_sendNext_49 fF_X3_117 rfl rfl ?_
      refine x_if_ne C 57 dX3_sendNext_52 (by decide) h (fun h => ?_) (fun h => ?_)
      · refine x_loc [(0, .inr (.inr (some 0))), (1, .inl e), (2, .inr (.inr (some 1))), (3, .inr (.inr (some 4))), (4, .inl s0)] ⟨rfl, rfl, rfl, rfl, rfl, trivial⟩ ?_
        exact t_L_sendNext_57 hd9 C _ e_e hR _ _ h
      · refine x_iconst C dX3_sendNext_55 ?_
        exact x_zreturn hR (by decide) dX3_sendNext_56 h
def f_L_sendNext (e : Int) (m : xM) : Option (Int × xM) :=
     (if xw (m 4 5) = xw (m 4 4) then f_L_sendNext_27 e 1 m
      else f_L_sendNext_27 e 0 m)
set_option maxRecDepth 1000000 in
set_option maxHeartbeats 4000000 in
theorem t_L_sendNext {Γ : xG} {d : Nat} (hd9 : 4 ≤ d) (C : xC Γ lay_L0 RX3 cX3_sendNext 7 d) (e : Int) (e_e : xw e = 0) {r : Int} {m9 : xM} (hR : xRz Γ lay_L0 cX3_sendNext r m9) (m : xM) (h : f_L_sendNext e m = some (r, m9)) : xW Γ lay_L0 7 0 [(0, .inr (.inr (some 0))), (1, .inl e)] [] m := by
  unfold f_L_sendNext at h
  refine x_aload_n C dX3_sendNext_0 rfl ?_
  refine x_iload_n C dX3_sendNext_1 rfl ?_
  refine x_callVp C dX3_sendNext_2 (xin_24 _ (List.mem_of_getElem? (i := 19) rfl)) xy_X3_endOf (xi_X3_endOf) (xs_X3_endOf) [0, 33, 1, 12, 23, 28, 30, 31] xv_21 (by omega) (by decide) (b := 0) rfl ⟨_, _, rfl⟩ (av := [.inl e]) rfl (Nat.le_of_ble_eq_true rfl) (c_endOf0 _ _ _ (by first | decide | assumption | exact xw_1m0 (by assumption) | exact xw_1m1 (by assumption) | exact xw_ne1 (by assumption) | exact xw_n1m0 (by assumption))) rfl ?_
  refine x_astore_n C dX3_sendNext_5 (by decide) ?_
  refine x_aload_n C dX3_sendNext_6 rfl ?_
  refine x_getR C dX3_sendNext_7 fF_X3_120 rfl rfl ?_
  refine x_astore_n C dX3_sendNext_10 (by decide) ?_
  refine x_aload_n C dX3_sendNext_11 rfl ?_
  refine x_getI C dX3_sendNext_12 fF_X3_255 rfl rfl ?_
  refine x_aload_n C dX3_sendNext_15 rfl ?_
  refine x_getI C dX3_sendNext_16 fF_X3_124 rfl rfl ?_
  refine x_icmp_ne C 26 dX3_sendNext_19 (by decide) h (fun h => ?_) (fun h => ?_)
  · refine x_iconst C dX3_sendNext_26 ?_
    refine x_loc [(0, .inr (.inr (some 0))), (1, .inl e), (2, .inr (.inr (some 1))), (3, .inr (.inr (some 4)))] ⟨rfl, rfl, rfl, rfl, trivial⟩ ?_
    exact t_L_sendNext_27 hd9 C _ e_e hR _ _ h
  · refine x_iconst C dX3_sendNext_22 ?_
    refine x_goto C 27 dX3_sendNext_23 (by decide) ?_
    refine x_loc [(0, .inr (.inr (some 0))), (1, .inl e), (2, .inr (.inr (some 1))), (3, .inr (.inr (some 4)))] ⟨rfl, rfl, rfl, rfl, trivial⟩ ?_
    exact t_L_sendNext_27 hd9 C _ e_e hR _ _ h
theorem c_L_sendNext (l : Launch) (e : Int) (e_e : xw e = 0) (m : xM) (r : Int) (m9 : xM) (h : f_L_sendNext e m = some (r, m9)) : xMet l yX3_sendNext cX3_sendNext 7 (some .boolean) 4 lay_L0 [.inr (.inr (some 0)), .inl e] m (some (.inl r)) m9 :=
  xMet_z (by decide +kernel) (Nat.le_of_ble_eq_true rfl) (fun Γ C hR hl9 => t_L_sendNext (Nat.le_refl _) C e e_e hR m h)
/-! ===== yX3_sendNext ===== -/
theorem xv_37 : xview lay_L1 lay_co56 [0, 31, 32, 1, 8, 9, 5, 33, 12, 1, 23, 28, 30, 2, 3, 4, 10] := xview_of (by decide +kernel)
theorem xv_38 : xview lay_L1 lay_D2 [8, 9, 31, 32] := xview_of (by decide +kernel)
theorem xv_39 : xview lay_L1 lay_E [1, 2, 3, 4, 5, 6, 7, 8, 9, 10, 11] := xview_of (by decide +kernel)
theorem xv_40 : xview lay_L1 lay_co [0, 31, 32, 1, 8, 9, 2, 33, 12, 1, 23, 28, 30, 2, 3, 4, 10] := xview_of (by decide +kernel)
set_option maxRecDepth 1000000 in
set_option maxHeartbeats 4000000 in
theorem t_L_sendNext_168_1 {Γ : xG} {d : Nat} (hd9 : 4 ≤ d) (C : xC Γ lay_L1 RX3 cX3_sendNext 7 d) (e : Int) (e_e : xw e = 1) {r : Int} {m9 : xM} (hR : xRz Γ lay_L1 cX3_sendNext r m9) (m : xM) (h : f_L_sendNext_168 e m = some (r, m9)) : xW Γ lay_L1 7 168 [(0, .inr (.inr (some 0))), (1, .inl e)] [] m := by
  unfold f_L_sendNext_168 at h
  refine x_aload_n C dX3_sendNext_168 rfl ?_
  refine x_iload_n C dX3_sendNext_169 rfl ?_
  obtain ⟨q4, hq4, h⟩ := x_bind h
  refine x_callVI C dX3_sendNext_170 (xin_28 _ (List.mem_of_getElem? (i := 17) rfl)) xy_X3_launch (xi_X3_launch) (xs_X3_launch) (by omega) (by decide) (b := 0) rfl ⟨_, _, rfl⟩ (av := [.inl e]) rfl (Nat.le_of_ble_eq_true rfl) (c_L_launch_1 _ _ (by first | decide | assumption | exact xw_1m0 (by assumption) | exact xw_1m1 (by assumption) | exact xw_ne1 (by assumption) | exact xw_n1m0 (by assumption)) _ _ hq4) rfl ?_
  refine x_iconst C dX3_sendNext_173 ?_
  exact x_zreturn hR (by decide) dX3_sendNext_174 h
set_option maxRecDepth 1000000 in
set_option maxHeartbeats 4000000 in
theorem t_L_sendNext_134_1 {Γ : xG} {d : Nat} (hd9 : 4 ≤ d) (C : xC Γ lay_L1 RX3 cX3_sendNext 7 d) (e : Int) (e_e : xw e = 1) {r : Int} {m9 : xM} (hR : xRz Γ lay_L1 cX3_sendNext r m9) (x6 : Int) (m : xM) (h : f_L_sendNext_134 e x6 m = some (r, m9)) : xW Γ lay_L1 7 134 [(0, .inr (.inr (some 0))), (1, .inl e), (2, .inr (.inr (some 1))), (6, .inl x6)] [] m := by
  unfold f_L_sendNext_134 at h
  refine x_aload_n C dX3_sendNext_134 rfl ?_
  refine x_dup C dX3_sendNext_135 rfl ?_
  refine x_getI C dX3_sendNext_136 fF_X3_284 rfl rfl ?_
  refine x_iload C dX3_sendNext_139 rfl ?_
  refine x_isub C dX3_sendNext_141 ?_
  refine x_putI C dX3_sendNext_142 fF_X3_284 rfl rfl ?_
  refine x_aload_n C dX3_sendNext_145 rfl ?_
  refine x_getR C dX3_sendNext_146 fF_X3_35 rfl rfl ?_
  refine x_bipush C dX3_sendNext_149 (by decide) ?_
  refine x_dup2 C dX3_sendNext_151 rfl rfl ?_
  refine x_iaload C dX3_sendNext_152 rfl h (fun h => ?_)
  refine x_iload C dX3_sendNext_153 rfl ?_
  refine x_iadd C dX3_sendNext_155 ?_
  refine x_iastore C dX3_sendNext_156 rfl h (fun h => ?_)
  refine x_aload_n C dX3_sendNext_157 rfl ?_
  refine x_getR C dX3_sendNext_158 fF_X3_315 rfl rfl ?_
  refine x_aload_n C dX3_sendNext_161 rfl ?_
  refine x_getR C dX3_sendNext_162 fF_X3_42 rfl rfl ?_
  obtain ⟨q3, hq3, h⟩ := x_bind h
  refine x_callV C dX3_sendNext_165 (xin_28 _ (List.mem_of_getElem? (i := 6) rfl)) xy_X0_copyFrom (xi_X0_copyFrom) (xs_X0_copyFrom) [8, 9, 31, 32] xv_38 (by omega) (by decide) (b := 0) rfl ⟨_, _, rfl⟩ (av := [.inr (.inr (some 2))]) rfl (Nat.le_of_ble_eq_true rfl) (c_D_cp _ _ _ hq3) rfl ?_
  refine x_loc [(0, .inr (.inr (some 0))), (1, .inl e)] ⟨rfl, rfl, trivial⟩ ?_
  exact t_L_sendNext_168_1 hd9 C _ e_e hR _ h
set_option maxRecDepth 1000000 in
set_option maxHeartbeats 4000000 in
theorem t_L_sendNext_110_1 {Γ : xG} {d : Nat} (hd9 : 4 ≤ d) (C : xC Γ lay_L1 RX3 cX3_sendNext 7 d) (e : Int) (e_e : xw e = 1) {r : Int} {m9 : xM} (hR : xRz Γ lay_L1 cX3_sendNext r m9) (x4 : Int) (x5 : Int) (s0 : Int) (m : xM) (h : f_L_sendNext_110 e x4 x5 s0 m = some (r, m9)) : xW Γ lay_L1 7 110 [(0, .inr (.inr (some 0))), (1, .inl e), (2, .inr (.inr (some 1))), (4, .inl x4), (5, .inl x5)] [.inl s0] m := by
  unfold f_L_sendNext_110 at h
  refine x_istore C dX3_sendNext_110 (by decide) ?_
  refine x_iload C dX3_sendNext_112 rfl ?_
  refine x_aload_n C dX3_sendNext_114 rfl ?_
  refine x_getI C dX3_sendNext_115 fF_X3_284 rfl rfl ?_
  refine x_icmp_le C 123 dX3_sendNext_118 (by decide) h (fun h => ?_) (fun h => ?_)
  · refine x_iload C dX3_sendNext_123 rfl ?_
    refine x_if_eq C 134 dX3_sendNext_125 (by decide) h (fun h => ?_) (fun h => ?_)
    · refine x_loc [(0, .inr (.inr (some 0))), (1, .inl e), (2, .inr (.inr (some 1))), (6, .inl s0)] ⟨rfl, rfl, rfl, rfl, trivial⟩ ?_
      exact t_L_sendNext_134_1 hd9 C _ e_e hR _ _ h
    · refine x_aload_n C dX3_sendNext_128 rfl ?_
      refine x_iload C dX3_sendNext_129 rfl ?_
      obtain ⟨q5, hq5, h⟩ := x_bind h
      refine x_callV C dX3_sendNext_131 (xin_28 _ (List.mem_of_getElem? (i := 8) rfl)) xy_X1_makeFrame (xi_X1_makeFrame) (xs_X1_makeFrame) [1, 2, 3, 4, 5, 6, 7, 8, 9, 10, 11] xv_39 (by omega) (by decide) (b := 0) rfl ⟨_, _, rfl⟩ (av := [.inl x5]) rfl (Nat.le_of_ble_eq_true rfl) (c_E_make _ _ _ _ hq5) rfl ?_
      refine x_loc [(0, .inr (.inr (some 0))), (1, .inl e), (2, .inr (.inr (some 1))), (6, .inl s0)] ⟨rfl, rfl, rfl, rfl, trivial⟩ ?_
      exact t_L_sendNext_134_1 hd9 C _ e_e hR _ _ h
  · refine x_iconst C dX3_sendNext_121 ?_
    exact x_zreturn hR (by decide) dX3_sendNext_122 h
set_option maxRecDepth 1000000 in
set_option maxHeartbeats 4000000 in
theorem t_L_sendNext_57_1 {Γ : xG} {d : Nat} (hd9 : 4 ≤ d) (C : xC Γ lay_L1 RX3 cX3_sendNext 7 d) (e : Int) (e_e : xw e = 1) {r : Int} {m9 : xM} (hR : xRz Γ lay_L1 cX3_sendNext r m9) (x4 : Int) (m : xM) (h : f_L_sendNext_57 e x4 m = some (r, m9)) : xW Γ lay_L1 7 57 [(0, .inr (.inr (some 0))), (1, .inl e), (2, .inr (.inr (some 1))), (3, .inr (.inr (some 4))), (4, .inl x4)] [] m := by
  unfold f_L_sendNext_57 at h
  refine x_aload_n C dX3_sendNext_57 rfl ?_
  refine x_aload_n C dX3_sendNext_58 rfl ?_
  refine x_getI C dX3_sendNext_59 fF_X3_255 rfl rfl ?_
  obtain ⟨q1, hq1, h⟩ := x_bind h
  refine x_callVp C dX3_sendNext_62 (xin_25 _ (List.mem_of_getElem? (i := 8) rfl)) xy_X2_slotOf (xi_X2_slotOf) (xs_X2_slotOf) [4, 5, 6, 7] xv_23 (by omega) (by decide) (b := 0) rfl ⟨_, _, rfl⟩ (av := [.inl (m 4 5)]) rfl (Nat.le_of_ble_eq_true rfl) (c_F_slot _ _ _ _ hq1) rfl ?_
  refine x_istore C dX3_sendNext_65 (by decide) ?_
  refine x_iload C dX3_sendNext_67 rfl ?_
  refine x_if_eq C 89 dX3_sendNext_69 (by decide) h (fun h => ?_) (fun h => ?_)
  · refine x_aload_n C dX3_sendNext_89 rfl ?_
    refine x_aload_n C dX3_sendNext_90 rfl ?_
    refine x_aload_n C dX3_sendNext_91 rfl ?_
    refine x_getR C dX3_sendNext_92 fF_X3_246 rfl rfl ?_
    refine x_iload C dX3_sendNext_95 rfl ?_
    refine x_bipush C dX3_sendNext_97 (by decide) ?_
    refine x_imul C dX3_sendNext_99 ?_
    refine x_aload_n C dX3_sendNext_100 rfl ?_
    refine x_getR C dX3_sendNext_101 fF_X3_243 rfl rfl ?_
    refine x_iload C dX3_sendNext_104 rfl ?_
    refine x_iaload C dX3_sendNext_106 rfl h (fun h => ?_)
    obtain ⟨q2, hq2, h⟩ := x_bind h
    refine x_callV0 C dX3_sendNext_107 (xin_28 _ (List.mem_of_getElem? (i := 2) rfl)) xy_X3_costOf (xi_X3_costOf) (xs_X3_costOf) [0, 31, 32, 1, 8, 9, 5, 33, 12, 1, 23, 28, 30, 2, 3, 4, 10] xv_37 (T0 := [0, 31, 32, 1, 8, 9, 5]) rfl (by omega) (by decide) (b := 0) rfl ⟨_, _, rfl⟩ (av := [.inr (.inr (some 3)), .inr (.inr (some 6)), .inl (q1 * 8), .inl (m 6 (xix q1))]) rfl (Nat.le_of_ble_eq_true rfl) (c_L_cost56 _ _ _ _ q2.1 q2.2 hq2) rfl ?_
    refine x_loc [(0, .inr (.inr (some 0))), (1, .inl e), (2, .inr (.inr (some 1))), (4, .inl x4), (5, .inl q1)] ⟨rfl, rfl, rfl, rfl, rfl, trivial⟩ ?_
    exact t_L_sendNext_110_1 hd9 C _ e_e hR _ _ _ _ h
  · refine x_aload_n C dX3_sendNext_72 rfl ?_
    refine x_aload_n C dX3_sendNext_73 rfl ?_
    refine x_aload_n C dX3_sendNext_74 rfl ?_
    refine x_getR C dX3_sendNext_75 fF_X3_302 rfl rfl ?_
    refine x_iconst C dX3_sendNext_78 ?_
    refine x_aload_n C dX3_sendNext_79 rfl ?_
    obtain ⟨q6, hq6, h⟩ := x_bind h
    refine x_callVp C dX3_sendNext_80 (xin_27 _ (List.mem_of_getElem? (i := 22) rfl)) xy_X1_nextFrameSize (xi_X1_nextFrameSize) (xs_X1_nextFrameSize) [1, 2, 3, 4, 5, 6, 7, 8, 9, 10, 11] xv_39 (by omega) (by decide) (b := 0) rfl ⟨_, _, rfl⟩ (av := []) rfl (Nat.le_of_ble_eq_true rfl) (c_E_next _ _ _ hq6) rfl ?_
    obtain ⟨q7, hq7, h⟩ := x_bind h
    refine x_callV0 C dX3_sendNext_83 (xin_28 _ (List.mem_of_getElem? (i := 2) rfl)) xy_X3_costOf (xi_X3_costOf) (xs_X3_costOf) [0, 31, 32, 1, 8, 9, 2, 33, 12, 1, 23, 28, 30, 2, 3, 4, 10] xv_40 (T0 := [0, 31, 32, 1, 8, 9, 2]) rfl (by omega) (by decide) (b := 0) rfl ⟨_, _, rfl⟩ (av := [.inr (.inr (some 3)), .inr (.inr (some 6)), .inl 0, .inl q6]) rfl (Nat.le_of_ble_eq_true rfl) (c_L_cost _ _ _ _ q7.1 q7.2 hq7) rfl ?_
    refine x_goto C 110 dX3_sendNext_86 (by decide) ?_
    refine x_loc [(0, .inr (.inr (some 0))), (1, .inl e), (2, .inr (.inr (some 1))), (4, .inl x4), (5, .inl q1)] ⟨rfl, rfl, rfl, rfl, rfl, trivial⟩ ?_
    exact t_L_sendNext_110_1 hd9 C _ e_e hR _ _ _ _ h
set_option maxRecDepth 1000000 in
set_option maxHeartbeats 4000000 in
theorem t_L_sendNext_27_1 {Γ : xG} {d : Nat} (hd9 : 4 ≤ d) (C : xC Γ lay_L1 RX3 cX3_sendNext 7 d) (e : Int) (e_e : xw e = 1) {r : Int} {m9 : xM} (hR : xRz Γ lay_L1 cX3_sendNext r m9) (s0 : Int) (m : xM) (h : f_L_sendNext_27 e s0 m = some (r, m9)) : xW Γ lay_L1 7 27 [(0, .inr (.inr (some 0))), (1, .inl e), (2, .inr (.inr (some 1))), (3, .inr (.inr (some 4)))] [.inl s0] m := by
  unfold f_L_sendNext_27 at h
  refine x_istore C dX3_sendNext_27 (by decide) ?_
  refine x_iload C dX3_sendNext_29 rfl ?_
  refine x_if_eq C 57 dX3_sendNext_31 (by decide) h (fun h => ?_) (fun h => ?_)
  · refine x_loc [(0, .inr (.inr (some 0))), (1, .inl e), (2, .inr (.inr (some 1))), (3, .inr (.inr (some 4))), (4, .inl s0)] ⟨rfl, rfl, rfl, rfl, rfl, trivial⟩ ?_
    exact t_L_sendNext_57_1 hd9 C _ e_e hR _ _ h
  · refine x_aload_n C dX3_sendNext_34 rfl ?_
    refine x_getI C dX3_sendNext_35 fF_X3_124 rfl rfl ?_
    refine x_aload_n C dX3_sendNext_38 rfl ?_
    refine x_getR C dX3_sendNext_39 fF_X3_46 rfl rfl ?_
    refine x_getI C dX3_sendNext_42 fF_X3_299 rfl rfl ?_
    refine x_icmp_ge C 55 dX3_sendNext_45 (by decide) h (fun h => ?_) (fun h => ?_)
    · refine x_iconst C dX3_sendNext_55 ?_
      exact x_zreturn hR (by decide) dX3_sendNext_56 h
    · refine x_aload_n C dX3_sendNext_48 rfl ?_
      refine x_getI C dX3_sendNext_49 fF_X3_117 rfl rfl ?_
      refine x_if_ne C 57 dX3_sendNext_52 (by decide) h (fun h => ?_) (fun h => ?_)
      · refine x_loc [(0, .inr (.inr (some 0))), (1, .inl e), (2, .inr (.inr (some 1))), (3, .inr (.inr (some 4))), (4, .inl s0)] ⟨rfl, rfl, rfl, rfl, rfl, trivial⟩ ?_
        exact t_L_sendNext_57_1 hd9 C _ e_e hR _ _ h
      · refine x_iconst C dX3_sendNext_55 ?_
        exact x_zreturn hR (by decide) dX3_sendNext_56 h
set_option maxRecDepth 1000000 in
set_option maxHeartbeats 4000000 in
theorem t_L_sendNext_1 {Γ : xG} {d : Nat} (hd9 : 4 ≤ d) (C : xC Γ lay_L1 RX3 cX3_sendNext 7 d) (e : Int) (e_e : xw e = 1) {r : Int} {m9 : xM} (hR : xRz Γ lay_L1 cX3_sendNext r m9) (m : xM) (h : f_L_sendNext e m = some (r, m9)) : xW Γ lay_L1 7 0 [(0, .inr (.inr (some 0))), (1, .inl e)] [] m := by
  unfold f_L_sendNext at h
  refine x_aload_n C dX3_sendNext_0 rfl ?_
  refine x_iload_n C dX3_sendNext_1 rfl ?_
  refine x_callVp C dX3_sendNext_2 (xin_24 _ (List.mem_of_getElem? (i := 19) rfl)) xy_X3_endOf (xi_X3_endOf) (xs_X3_endOf) [0, 33, 12, 1, 23, 28, 30, 31] xv_22 (by omega) (by decide) (b := 0) rfl ⟨_, _, rfl⟩ (av := [.inl e]) rfl (Nat.le_of_ble_eq_true rfl) (c_endOf1 _ _ _ (by first | decide | assumption | exact xw_1m0 (by assumption) | exact xw_1m1 (by assumption) | exact xw_ne1 (by assumption) | exact xw_n1m0 (by assumption))) rfl ?_
  refine x_astore_n C dX3_sendNext_5 (by decide) ?_
  refine x_aload_n C dX3_sendNext_6 rfl ?_
  refine x_getR C dX3_sendNext_7 fF_X3_120 rfl rfl ?_
  refine x_astore_n C dX3_sendNext_10 (by decide) ?_
  refine x_aload_n C dX3_sendNext_11 rfl ?_
  refine x_getI C dX3_sendNext_12 fF_X3_255 rfl rfl ?_
  refine x_aload_n C dX3_sendNext_15 rfl ?_
  refine x_getI C dX3_sendNext_16 fF_X3_124 rfl rfl ?_
  refine x_icmp_ne C 26 dX3_sendNext_19 (by decide) h (fun h => ?_) (fun h => ?_)
  · refine x_iconst C dX3_sendNext_26 ?_
    refine x_loc [(0, .inr (.inr (some 0))), (1, .inl e), (2, .inr (.inr (some 1))), (3, .inr (.inr (some 4)))] ⟨rfl, rfl, rfl, rfl, trivial⟩ ?_
    exact t_L_sendNext_27_1 hd9 C _ e_e hR _ _ h
  · refine x_iconst C dX3_sendNext_22 ?_
    refine x_goto C 27 dX3_sendNext_23 (by decide) ?_
    refine x_loc [(0, .inr (.inr (some 0))), (1, .inl e), (2, .inr (.inr (some 1))), (3, .inr (.inr (some 4)))] ⟨rfl, rfl, rfl, rfl, trivial⟩ ?_
    exact t_L_sendNext_27_1 hd9 C _ e_e hR _ _ h
theorem c_L_sendNext_1 (l : Launch) (e : Int) (e_e : xw e = 1) (m : xM) (r : Int) (m9 : xM) (h : f_L_sendNext e m = some (r, m9)) : xMet l yX3_sendNext cX3_sendNext 7 (some .boolean) 4 lay_L1 [.inr (.inr (some 0)), .inl e] m (some (.inl r)) m9 :=
  xMet_z (by decide +kernel) (Nat.le_of_ble_eq_true rfl) (fun Γ C hR hl9 => t_L_sendNext_1 (Nat.le_refl _) C e e_e hR m h)

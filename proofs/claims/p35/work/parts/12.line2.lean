/-! ===== yX3_unreceivedBytes ===== -/
theorem fF_X3_117 : xF RX3 117 2 5 .int false := ⟨RX1, TX1, 11, tyX1, rfl, by decide, (xin_27 _ (List.mem_of_getElem? (i := 19) rfl)), rfl, inlX1, tyX1_ok, nmX1, rfl, rfl⟩
theorem fF_X3_120 : xF RX3 120 2 2 (.object "ModemLink$Frames") true := ⟨RX1, TX1, 11, tyX1, rfl, by decide, (xin_20 _ (List.mem_of_getElem? (i := 0) rfl)), rfl, inlX1, tyX1_ok, nmX1, rfl, rfl⟩
theorem xy_X2_bytesFrom : xY yX2_bytesFrom cX2_bytesFrom 4 (some .int) 1 := ⟨(xin_40 _ (List.mem_of_getElem? (i := 16) rfl)), (xin_4 _ (List.mem_of_getElem? (i := 21) rfl)), by decide, by decide, by decide +kernel⟩
theorem xi_X2_bytesFrom : Cond.instanceMethod yX2_bytesFrom ∈ wsL_law := (xin_40 _ (List.mem_of_getElem? (i := 14) rfl))
theorem xs_X2_bytesFrom : Cond.selects yX2_bytesFrom.cls yX2_bytesFrom yX2_bytesFrom ∈ wsL_law := (xin_40 _ (List.mem_of_getElem? (i := 15) rfl))
theorem xv_19 : xview lay_L0 lay_F [4, 5, 6, 7] := xview_of (by decide +kernel)
theorem xv_20 : xview lay_L0 lay_F [15, 16, 17, 18] := xview_of (by decide +kernel)
theorem dX3_unreceivedBytes_0 : decode cX3_unreceivedBytes 0 = .ok (.aload_n 0, 1) := by decide +kernel
theorem dX3_unreceivedBytes_1 : decode cX3_unreceivedBytes 1 = .ok (.getfield 12, 3) := by decide +kernel
theorem dX3_unreceivedBytes_4 : decode cX3_unreceivedBytes 4 = .ok (.getfield 117, 3) := by decide +kernel
theorem dX3_unreceivedBytes_7 : decode cX3_unreceivedBytes 7 = .ok (.aload_n 0, 1) := by decide +kernel
theorem dX3_unreceivedBytes_8 : decode cX3_unreceivedBytes 8 = .ok (.getfield 12, 3) := by decide +kernel
theorem dX3_unreceivedBytes_11 : decode cX3_unreceivedBytes 11 = .ok (.getfield 120, 3) := by decide +kernel
theorem dX3_unreceivedBytes_14 : decode cX3_unreceivedBytes 14 = .ok (.aload_n 0, 1) := by decide +kernel
theorem dX3_unreceivedBytes_15 : decode cX3_unreceivedBytes 15 = .ok (.getfield 18, 3) := by decide +kernel
theorem dX3_unreceivedBytes_18 : decode cX3_unreceivedBytes 18 = .ok (.getfield 152, 3) := by decide +kernel
theorem dX3_unreceivedBytes_21 : decode cX3_unreceivedBytes 21 = .ok (.invokevirtual 192, 3) := by decide +kernel
theorem dX3_unreceivedBytes_24 : decode cX3_unreceivedBytes 24 = .ok (.iadd, 1) := by decide +kernel
theorem dX3_unreceivedBytes_25 : decode cX3_unreceivedBytes 25 = .ok (.aload_n 0, 1) := by decide +kernel
theorem dX3_unreceivedBytes_26 : decode cX3_unreceivedBytes 26 = .ok (.getfield 18, 3) := by decide +kernel
theorem dX3_unreceivedBytes_29 : decode cX3_unreceivedBytes 29 = .ok (.getfield 117, 3) := by decide +kernel
theorem dX3_unreceivedBytes_32 : decode cX3_unreceivedBytes 32 = .ok (.iadd, 1) := by decide +kernel
theorem dX3_unreceivedBytes_33 : decode cX3_unreceivedBytes 33 = .ok (.aload_n 0, 1) := by decide +kernel
theorem dX3_unreceivedBytes_34 : decode cX3_unreceivedBytes 34 = .ok (.getfield 18, 3) := by decide +kernel
theorem dX3_unreceivedBytes_37 : decode cX3_unreceivedBytes 37 = .ok (.getfield 120, 3) := by decide +kernel
theorem dX3_unreceivedBytes_40 : decode cX3_unreceivedBytes 40 = .ok (.aload_n 0, 1) := by decide +kernel
theorem dX3_unreceivedBytes_41 : decode cX3_unreceivedBytes 41 = .ok (.getfield 12, 3) := by decide +kernel
theorem dX3_unreceivedBytes_44 : decode cX3_unreceivedBytes 44 = .ok (.getfield 152, 3) := by decide +kernel
theorem dX3_unreceivedBytes_47 : decode cX3_unreceivedBytes 47 = .ok (.invokevirtual 192, 3) := by decide +kernel
theorem dX3_unreceivedBytes_50 : decode cX3_unreceivedBytes 50 = .ok (.iadd, 1) := by decide +kernel
theorem dX3_unreceivedBytes_51 : decode cX3_unreceivedBytes 51 = .ok (.ireturn, 1) := by decide +kernel
def f_L_unreceived (m : xM) : Option (Int) :=
     (Option.bind (f_F_bytes (m 12 7) (xvw [4, 5, 6, 7] m)) fun q0 =>
      (Option.bind (f_F_bytes (m 1 7) (xvw [15, 16, 17, 18] m)) fun q1 =>
      some ((((m 1 5) + q0) + (m 12 5)) + q1)))
set_option maxRecDepth 1000000 in
set_option maxHeartbeats 4000000 in
theorem t_L_unreceived {Γ : xG} {d : Nat} (hd9 : 4 ≤ d) (C : xC Γ lay_L0 RX3 cX3_unreceivedBytes 1 d) {r : Int} {m : xM} (hR : xRi Γ lay_L0 cX3_unreceivedBytes r m) (h : f_L_unreceived m = some r) : xW Γ lay_L0 1 0 [(0, .inr (.inr (some 0)))] [] m := by
  unfold f_L_unreceived at h
  refine x_aload_n C dX3_unreceivedBytes_0 rfl ?_
  refine x_getR C dX3_unreceivedBytes_1 fF_X3_12 rfl rfl ?_
  refine x_getI C dX3_unreceivedBytes_4 fF_X3_117 rfl rfl ?_
  refine x_aload_n C dX3_unreceivedBytes_7 rfl ?_
  refine x_getR C dX3_unreceivedBytes_8 fF_X3_12 rfl rfl ?_
  refine x_getR C dX3_unreceivedBytes_11 fF_X3_120 rfl rfl ?_
  refine x_aload_n C dX3_unreceivedBytes_14 rfl ?_
  refine x_getR C dX3_unreceivedBytes_15 fF_X3_18 rfl rfl ?_
  refine x_getI C dX3_unreceivedBytes_18 fF_X3_152 rfl rfl ?_
  obtain ⟨q0, hq0, h⟩ := x_bind h
  refine x_callVp C dX3_unreceivedBytes_21 (xin_40 _ (List.mem_of_getElem? (i := 13) rfl)) xy_X2_bytesFrom (xi_X2_bytesFrom) (xs_X2_bytesFrom) [4, 5, 6, 7] xv_19 (by omega) (by decide) (b := 0) rfl ⟨_, _, rfl⟩ (av := [.inl (m 12 7)]) rfl (Nat.le_of_ble_eq_true rfl) (c_F_bytes _ _ _ _ hq0) rfl ?_
  refine x_iadd C dX3_unreceivedBytes_24 ?_
  refine x_aload_n C dX3_unreceivedBytes_25 rfl ?_
  refine x_getR C dX3_unreceivedBytes_26 fF_X3_18 rfl rfl ?_
  refine x_getI C dX3_unreceivedBytes_29 fF_X3_117 rfl rfl ?_
  refine x_iadd C dX3_unreceivedBytes_32 ?_
  refine x_aload_n C dX3_unreceivedBytes_33 rfl ?_
  refine x_getR C dX3_unreceivedBytes_34 fF_X3_18 rfl rfl ?_
  refine x_getR C dX3_unreceivedBytes_37 fF_X3_120 rfl rfl ?_
  refine x_aload_n C dX3_unreceivedBytes_40 rfl ?_
  refine x_getR C dX3_unreceivedBytes_41 fF_X3_12 rfl rfl ?_
  refine x_getI C dX3_unreceivedBytes_44 fF_X3_152 rfl rfl ?_
  obtain ⟨q1, hq1, h⟩ := x_bind h
  refine x_callVp C dX3_unreceivedBytes_47 (xin_40 _ (List.mem_of_getElem? (i := 13) rfl)) xy_X2_bytesFrom (xi_X2_bytesFrom) (xs_X2_bytesFrom) [15, 16, 17, 18] xv_20 (by omega) (by decide) (b := 0) rfl ⟨_, _, rfl⟩ (av := [.inl (m 1 7)]) rfl (Nat.le_of_ble_eq_true rfl) (c_F_bytes _ _ _ _ hq1) rfl ?_
  refine x_iadd C dX3_unreceivedBytes_50 ?_
  exact x_ireturnP hR dX3_unreceivedBytes_51 h
theorem c_L_unreceived (l : Launch) (m : xM) (r : Int) (h : f_L_unreceived m = some r) : xMet l yX3_unreceivedBytes cX3_unreceivedBytes 1 (some .int) 4 lay_L0 [.inr (.inr (some 0))] m (some (.inl r)) m :=
  xMet_i (by decide +kernel) (Nat.le_of_ble_eq_true rfl) (fun Γ C hR hl9 => t_L_unreceived (Nat.le_refl _) C hR h)
/-! ===== yX3_fall ===== -/
theorem dX3_fall_0 : decode cX3_fall 0 = .ok (.aload_n 0, 1) := by decide +kernel
theorem dX3_fall_1 : decode cX3_fall 1 = .ok (.getfield 73, 3) := by decide +kernel
theorem dX3_fall_4 : decode cX3_fall 4 = .ok (.ifCond .gt 8, 3) := by decide +kernel
theorem dX3_fall_7 : decode cX3_fall 7 = .ok (.aload_n 0, 1) := by decide +kernel
theorem dX3_fall_8 : decode cX3_fall 8 = .ok (.invokevirtual 168, 3) := by decide +kernel
theorem dX3_fall_11 : decode cX3_fall 11 = .ok (.return_, 1) := by decide +kernel
theorem dX3_fall_12 : decode cX3_fall 12 = .ok (.aload_n 0, 1) := by decide +kernel
theorem dX3_fall_13 : decode cX3_fall 13 = .ok (.dup, 1) := by decide +kernel
theorem dX3_fall_14 : decode cX3_fall 14 = .ok (.getfield 73, 3) := by decide +kernel
theorem dX3_fall_17 : decode cX3_fall 17 = .ok (.iconst 1, 1) := by decide +kernel
theorem dX3_fall_18 : decode cX3_fall 18 = .ok (.isub, 1) := by decide +kernel
theorem dX3_fall_19 : decode cX3_fall 19 = .ok (.putfield 73, 3) := by decide +kernel
theorem dX3_fall_22 : decode cX3_fall 22 = .ok (.aload_n 0, 1) := by decide +kernel
theorem dX3_fall_23 : decode cX3_fall 23 = .ok (.iconst 0, 1) := by decide +kernel
theorem dX3_fall_24 : decode cX3_fall 24 = .ok (.putfield 76, 3) := by decide +kernel
theorem dX3_fall_27 : decode cX3_fall 27 = .ok (.aload_n 0, 1) := by decide +kernel
theorem dX3_fall_28 : decode cX3_fall 28 = .ok (.iconst 0, 1) := by decide +kernel
theorem dX3_fall_29 : decode cX3_fall 29 = .ok (.putfield 79, 3) := by decide +kernel
theorem dX3_fall_32 : decode cX3_fall 32 = .ok (.aload_n 0, 1) := by decide +kernel
theorem dX3_fall_33 : decode cX3_fall 33 = .ok (.getfield 35, 3) := by decide +kernel
theorem dX3_fall_36 : decode cX3_fall 36 = .ok (.iconst 4, 1) := by decide +kernel
theorem dX3_fall_37 : decode cX3_fall 37 = .ok (.dup2, 1) := by decide +kernel
theorem dX3_fall_38 : decode cX3_fall 38 = .ok (.iaload, 1) := by decide +kernel
theorem dX3_fall_39 : decode cX3_fall 39 = .ok (.iconst 1, 1) := by decide +kernel
theorem dX3_fall_40 : decode cX3_fall 40 = .ok (.iadd, 1) := by decide +kernel
theorem dX3_fall_41 : decode cX3_fall 41 = .ok (.iastore, 1) := by decide +kernel
theorem dX3_fall_42 : decode cX3_fall 42 = .ok (.aload_n 0, 1) := by decide +kernel
theorem dX3_fall_43 : decode cX3_fall 43 = .ok (.iconst 2, 1) := by decide +kernel
theorem dX3_fall_44 : decode cX3_fall 44 = .ok (.iconst (-1), 1) := by decide +kernel
theorem dX3_fall_45 : decode cX3_fall 45 = .ok (.invokevirtual 179, 3) := by decide +kernel
theorem dX3_fall_48 : decode cX3_fall 48 = .ok (.return_, 1) := by decide +kernel
def f_L_fall_42 (m : xM) : Option (xM) :=
     (Option.bind (f_L_note 2 (-1) m) fun q0 =>
      some q0)
set_option maxRecDepth 1000000 in
set_option maxHeartbeats 4000000 in
theorem t_L_fall_42 {Γ : xG} {d : Nat} (hd9 : 4 ≤ d) (C : xC Γ lay_L0 RX3 cX3_fall 1 d) {m9 : xM} (hR : xRv Γ lay_L0 cX3_fall m9) (m : xM) (h : f_L_fall_42 m = some m9) : xW Γ lay_L0 1 42 [(0, .inr (.inr (some 0)))] [] m := by
  unfold f_L_fall_42 at h
  refine x_aload_n C dX3_fall_42 rfl ?_
  refine x_iconst C dX3_fall_43 ?_
  refine x_iconst C dX3_fall_44 ?_
  obtain ⟨q0, hq0, h⟩ := x_bind h
  refine x_callVI C dX3_fall_45 (xin_22 _ (List.mem_of_getElem? (i := 3) rfl)) xy_X3_note (xi_X3_note) (xs_X3_note) (by omega) (by decide) (b := 0) rfl ⟨_, _, rfl⟩ (av := [.inl 2, .inl (-1)]) rfl (Nat.le_of_ble_eq_true rfl) (c_L_note _ _ _ _ _ hq0) rfl ?_
  exact x_returnV hR dX3_fall_48 h
def f_L_fall (m : xM) : Option (xM) :=
     (if 0 < xw (m 0 10) then (if xib 4 11 then (if xib 4 11 then f_L_fall_42 (xu (xu (xu (xu m 0 10 ((m 0 10) - 1)) 0 15 0) 0 16 0) 30 4 ((m 30 4) + 1))
      else none)
      else none)
      else (Option.bind (f_L_cut m) fun q1 =>
      some q1))
set_option maxRecDepth 1000000 in
set_option maxHeartbeats 4000000 in
theorem t_L_fall {Γ : xG} {d : Nat} (hd9 : 4 ≤ d) (C : xC Γ lay_L0 RX3 cX3_fall 1 d) {m9 : xM} (hR : xRv Γ lay_L0 cX3_fall m9) (m : xM) (h : f_L_fall m = some m9) : xW Γ lay_L0 1 0 [(0, .inr (.inr (some 0)))] [] m := by
  unfold f_L_fall at h
  refine x_aload_n C dX3_fall_0 rfl ?_
  refine x_getI C dX3_fall_1 fF_X3_73 rfl rfl ?_
  refine x_if_gt C 12 dX3_fall_4 (by decide) h (fun h => ?_) (fun h => ?_)
  · refine x_aload_n C dX3_fall_12 rfl ?_
    refine x_dup C dX3_fall_13 rfl ?_
    refine x_getI C dX3_fall_14 fF_X3_73 rfl rfl ?_
    refine x_iconst C dX3_fall_17 ?_
    refine x_isub C dX3_fall_18 ?_
    refine x_putI C dX3_fall_19 fF_X3_73 rfl rfl ?_
    refine x_aload_n C dX3_fall_22 rfl ?_
    refine x_iconst C dX3_fall_23 ?_
    refine x_putI C dX3_fall_24 fF_X3_76 rfl rfl ?_
    refine x_aload_n C dX3_fall_27 rfl ?_
    refine x_iconst C dX3_fall_28 ?_
    refine x_putI C dX3_fall_29 fF_X3_79 rfl rfl ?_
    refine x_aload_n C dX3_fall_32 rfl ?_
    refine x_getR C dX3_fall_33 fF_X3_35 rfl rfl ?_
    refine x_iconst C dX3_fall_36 ?_
    refine x_dup2 C dX3_fall_37 rfl rfl ?_
    refine x_iaload C dX3_fall_38 rfl h (fun h => ?_)
    refine x_iconst C dX3_fall_39 ?_
    refine x_iadd C dX3_fall_40 ?_
    refine x_iastore C dX3_fall_41 rfl h (fun h => ?_)
    refine x_loc [(0, .inr (.inr (some 0)))] ⟨rfl, trivial⟩ ?_
    exact t_L_fall_42 hd9 C hR _ h
  · refine x_aload_n C dX3_fall_7 rfl ?_
    obtain ⟨q1, hq1, h⟩ := x_bind h
    refine x_callVI C dX3_fall_8 (xin_21 _ (List.mem_of_getElem? (i := 15) rfl)) xy_X3_cut (xi_X3_cut) (xs_X3_cut) (by omega) (by decide) (b := 0) rfl ⟨_, _, rfl⟩ (av := []) rfl (Nat.le_of_ble_eq_true rfl) (c_L_cut _ _ _ hq1) rfl ?_
    exact x_returnV hR dX3_fall_11 h
theorem c_L_fall (l : Launch) (m m9 : xM) (h : f_L_fall m = some m9) : xMet l yX3_fall cX3_fall 1 none 4 lay_L0 [.inr (.inr (some 0))] m none m9 :=
  xMet_v (by decide +kernel) (Nat.le_of_ble_eq_true rfl) (fun Γ C hR hl9 => t_L_fall (Nat.le_refl _) C hR m h)
/-! ===== yX3_checkTimer ===== -/
theorem xy_X3_endOf : xY yX3_endOf cX3_endOf 2 (some (.object "ModemLink$End")) 1 := ⟨(xin_24 _ (List.mem_of_getElem? (i := 22) rfl)), (xin_1 _ (List.mem_of_getElem? (i := 18) rfl)), by decide, by decide, by decide +kernel⟩
theorem xi_X3_endOf : Cond.instanceMethod yX3_endOf ∈ wsL_law := (xin_24 _ (List.mem_of_getElem? (i := 20) rfl))
theorem xs_X3_endOf : Cond.selects yX3_endOf.cls yX3_endOf yX3_endOf ∈ wsL_law := (xin_24 _ (List.mem_of_getElem? (i := 21) rfl))
theorem xv_21 : xview lay_L0 lay_eo [0, 33, 1, 12, 23, 28, 30, 31] := xview_of (by decide +kernel)
theorem fF_X3_255 : xF RX3 255 3 5 .int false := ⟨RX2, TX2, 6, tyX2, rfl, by decide, (xin_26 _ (List.mem_of_getElem? (i := 9) rfl)), rfl, inlX2, tyX2_ok, nmX2, rfl, rfl⟩
theorem fF_X3_258 : xF RX3 258 3 2 (.array .int) true := ⟨RX2, TX2, 6, tyX2, rfl, by decide, (xin_26 _ (List.mem_of_getElem? (i := 10) rfl)), rfl, inlX2, tyX2_ok, nmX2, rfl, rfl⟩
theorem fF_X3_261 : xF RX3 261 7 11 .int false := ⟨RX6, TX6, 14, tyX6, rfl, by decide, (xin_26 _ (List.mem_of_getElem? (i := 11) rfl)), rfl, inlX6, tyX6_ok, nmX6, rfl, rfl⟩
theorem fF_X3_264 : xF RX3 264 2 10 .boolean false := ⟨RX1, TX1, 11, tyX1, rfl, by decide, (xin_26 _ (List.mem_of_getElem? (i := 12) rfl)), rfl, inlX1, tyX1_ok, nmX1, rfl, rfl⟩
theorem fF_X3_268 : xF RX3 268 7 12 .int false := ⟨RX6, TX6, 14, tyX6, rfl, by decide, (xin_26 _ (List.mem_of_getElem? (i := 13) rfl)), rfl, inlX6, tyX6_ok, nmX6, rfl, rfl⟩
theorem xy_X3_fall : xY yX3_fall cX3_fall 1 none 0 := ⟨(xin_26 _ (List.mem_of_getElem? (i := 17) rfl)), (xin_1 _ (List.mem_of_getElem? (i := 18) rfl)), by decide, by decide, by decide +kernel⟩
theorem xi_X3_fall : Cond.instanceMethod yX3_fall ∈ wsL_law := (xin_26 _ (List.mem_of_getElem? (i := 15) rfl))
theorem xs_X3_fall : Cond.selects yX3_fall.cls yX3_fall yX3_fall ∈ wsL_law := (xin_26 _ (List.mem_of_getElem? (i := 16) rfl))
theorem dX3_checkTimer_0 : decode cX3_checkTimer 0 = .ok (.aload_n 0, 1) := by decide +kernel
theorem dX3_checkTimer_1 : decode cX3_checkTimer 1 = .ok (.iload_n 1, 1) := by decide +kernel
theorem dX3_checkTimer_2 : decode cX3_checkTimer 2 = .ok (.invokevirtual 226, 3) := by decide +kernel
theorem dX3_checkTimer_5 : decode cX3_checkTimer 5 = .ok (.astore_n 2, 1) := by decide +kernel
theorem dX3_checkTimer_6 : decode cX3_checkTimer 6 = .ok (.aload_n 2, 1) := by decide +kernel
theorem dX3_checkTimer_7 : decode cX3_checkTimer 7 = .ok (.getfield 120, 3) := by decide +kernel
theorem dX3_checkTimer_10 : decode cX3_checkTimer 10 = .ok (.astore_n 3, 1) := by decide +kernel
theorem dX3_checkTimer_11 : decode cX3_checkTimer 11 = .ok (.aload_n 3, 1) := by decide +kernel
theorem dX3_checkTimer_12 : decode cX3_checkTimer 12 = .ok (.getfield 255, 3) := by decide +kernel
theorem dX3_checkTimer_15 : decode cX3_checkTimer 15 = .ok (.ifCond .eq 28, 3) := by decide +kernel
theorem dX3_checkTimer_18 : decode cX3_checkTimer 18 = .ok (.aload_n 0, 1) := by decide +kernel
theorem dX3_checkTimer_19 : decode cX3_checkTimer 19 = .ok (.getfield 61, 3) := by decide +kernel
theorem dX3_checkTimer_22 : decode cX3_checkTimer 22 = .ok (.aload_n 3, 1) := by decide +kernel
theorem dX3_checkTimer_23 : decode cX3_checkTimer 23 = .ok (.getfield 258, 3) := by decide +kernel
theorem dX3_checkTimer_26 : decode cX3_checkTimer 26 = .ok (.aload_n 3, 1) := by decide +kernel
theorem dX3_checkTimer_27 : decode cX3_checkTimer 27 = .ok (.iconst 0, 1) := by decide +kernel
theorem dX3_checkTimer_28 : decode cX3_checkTimer 28 = .ok (.invokevirtual 240, 3) := by decide +kernel
theorem dX3_checkTimer_31 : decode cX3_checkTimer 31 = .ok (.iaload, 1) := by decide +kernel
theorem dX3_checkTimer_32 : decode cX3_checkTimer 32 = .ok (.isub, 1) := by decide +kernel
theorem dX3_checkTimer_33 : decode cX3_checkTimer 33 = .ok (.aload_n 0, 1) := by decide +kernel
theorem dX3_checkTimer_34 : decode cX3_checkTimer 34 = .ok (.getfield 46, 3) := by decide +kernel
theorem dX3_checkTimer_37 : decode cX3_checkTimer 37 = .ok (.getfield 261, 3) := by decide +kernel
theorem dX3_checkTimer_40 : decode cX3_checkTimer 40 = .ok (.if_icmp .ge 4, 3) := by decide +kernel
theorem dX3_checkTimer_43 : decode cX3_checkTimer 43 = .ok (.return_, 1) := by decide +kernel
theorem dX3_checkTimer_44 : decode cX3_checkTimer 44 = .ok (.aload_n 3, 1) := by decide +kernel
theorem dX3_checkTimer_45 : decode cX3_checkTimer 45 = .ok (.iconst 0, 1) := by decide +kernel
theorem dX3_checkTimer_46 : decode cX3_checkTimer 46 = .ok (.putfield 255, 3) := by decide +kernel
theorem dX3_checkTimer_49 : decode cX3_checkTimer 49 = .ok (.aload_n 2, 1) := by decide +kernel
theorem dX3_checkTimer_50 : decode cX3_checkTimer 50 = .ok (.iconst 1, 1) := by decide +kernel
theorem dX3_checkTimer_51 : decode cX3_checkTimer 51 = .ok (.putfield 264, 3) := by decide +kernel
theorem dX3_checkTimer_54 : decode cX3_checkTimer 54 = .ok (.aload_n 0, 1) := by decide +kernel
theorem dX3_checkTimer_55 : decode cX3_checkTimer 55 = .ok (.dup, 1) := by decide +kernel
theorem dX3_checkTimer_56 : decode cX3_checkTimer 56 = .ok (.getfield 76, 3) := by decide +kernel
theorem dX3_checkTimer_59 : decode cX3_checkTimer 59 = .ok (.iconst 1, 1) := by decide +kernel
theorem dX3_checkTimer_60 : decode cX3_checkTimer 60 = .ok (.iadd, 1) := by decide +kernel
theorem dX3_checkTimer_61 : decode cX3_checkTimer 61 = .ok (.putfield 76, 3) := by decide +kernel
theorem dX3_checkTimer_64 : decode cX3_checkTimer 64 = .ok (.aload_n 0, 1) := by decide +kernel
theorem dX3_checkTimer_65 : decode cX3_checkTimer 65 = .ok (.iconst 0, 1) := by decide +kernel
theorem dX3_checkTimer_66 : decode cX3_checkTimer 66 = .ok (.putfield 79, 3) := by decide +kernel
theorem dX3_checkTimer_69 : decode cX3_checkTimer 69 = .ok (.aload_n 0, 1) := by decide +kernel
theorem dX3_checkTimer_70 : decode cX3_checkTimer 70 = .ok (.getfield 35, 3) := by decide +kernel
theorem dX3_checkTimer_73 : decode cX3_checkTimer 73 = .ok (.iconst 3, 1) := by decide +kernel
theorem dX3_checkTimer_74 : decode cX3_checkTimer 74 = .ok (.dup2, 1) := by decide +kernel
theorem dX3_checkTimer_75 : decode cX3_checkTimer 75 = .ok (.iaload, 1) := by decide +kernel
theorem dX3_checkTimer_76 : decode cX3_checkTimer 76 = .ok (.iconst 1, 1) := by decide +kernel
theorem dX3_checkTimer_77 : decode cX3_checkTimer 77 = .ok (.iadd, 1) := by decide +kernel
theorem dX3_checkTimer_78 : decode cX3_checkTimer 78 = .ok (.iastore, 1) := by decide +kernel
theorem dX3_checkTimer_79 : decode cX3_checkTimer 79 = .ok (.aload_n 0, 1) := by decide +kernel
theorem dX3_checkTimer_80 : decode cX3_checkTimer 80 = .ok (.bipush 6, 2) := by decide +kernel
theorem dX3_checkTimer_82 : decode cX3_checkTimer 82 = .ok (.iload_n 1, 1) := by decide +kernel
theorem dX3_checkTimer_83 : decode cX3_checkTimer 83 = .ok (.invokevirtual 179, 3) := by decide +kernel
theorem dX3_checkTimer_86 : decode cX3_checkTimer 86 = .ok (.aload_n 0, 1) := by decide +kernel
theorem dX3_checkTimer_87 : decode cX3_checkTimer 87 = .ok (.getfield 76, 3) := by decide +kernel
theorem dX3_checkTimer_90 : decode cX3_checkTimer 90 = .ok (.aload_n 0, 1) := by decide +kernel
theorem dX3_checkTimer_91 : decode cX3_checkTimer 91 = .ok (.getfield 46, 3) := by decide +kernel
theorem dX3_checkTimer_94 : decode cX3_checkTimer 94 = .ok (.getfield 268, 3) := by decide +kernel
theorem dX3_checkTimer_97 : decode cX3_checkTimer 97 = .ok (.if_icmp .lt 7, 3) := by decide +kernel
theorem dX3_checkTimer_100 : decode cX3_checkTimer 100 = .ok (.aload_n 0, 1) := by decide +kernel
theorem dX3_checkTimer_101 : decode cX3_checkTimer 101 = .ok (.invokevirtual 271, 3) := by decide +kernel
theorem dX3_checkTimer_104 : decode cX3_checkTimer 104 = .ok (.return_, 1) := by decide +kernel
def f_L_timer0_69 (e : Int) (m : xM) : Option (xM) :=
     (if xib 3 11 then (if xib 3 11 then (Option.bind (f_L_note 6 e (xu m 30 3 ((m 30 3) + 1))) fun q2 =>
      (if xw (q2 0 15) < xw (q2 33 12) then some q2
      else (Option.bind (f_L_fall q2) fun q3 =>
      some q3)))
      else none)
      else none)
set_option maxRecDepth 1000000 in
set_option maxHeartbeats 4000000 in
theorem t_L_timer0_69 {Γ : xG} {d : Nat} (hd9 : 5 ≤ d) (C : xC Γ lay_L0 RX3 cX3_checkTimer 4 d) (e : Int) (e_e : xw e = 0) {m9 : xM} (hR : xRv Γ lay_L0 cX3_checkTimer m9) (m : xM) (h : f_L_timer0_69 e m = some m9) : xW Γ lay_L0 4 69 [(0, .inr (.inr (some 0))), (1, .inl e)] [] m := by
  unfold f_L_timer0_69 at h
  refine x_aload_n C dX3_checkTimer_69 rfl ?_
  refine x_getR C dX3_checkTimer_70 fF_X3_35 rfl rfl ?_
  refine x_iconst C dX3_checkTimer_73 ?_
  refine x_dup2 C dX3_checkTimer_74 rfl rfl ?_
  refine x_iaload C dX3_checkTimer_75 rfl h (fun h => ?_)
  refine x_iconst C dX3_checkTimer_76 ?_
  refine x_iadd C dX3_checkTimer_77 ?_
  refine x_iastore C dX3_checkTimer_78 rfl h (fun h => ?_)
  refine x_aload_n C dX3_checkTimer_79 rfl ?_
  refine x_bipush C dX3_checkTimer_80 (by decide) ?_
  refine x_iload_n C dX3_checkTimer_82 rfl ?_
  obtain ⟨q2, hq2, h⟩ := x_bind h
  refine x_callVI C dX3_checkTimer_83 (xin_22 _ (List.mem_of_getElem? (i := 3) rfl)) xy_X3_note (xi_X3_note) (xs_X3_note) (by omega) (by decide) (b := 0) rfl ⟨_, _, rfl⟩ (av := [.inl 6, .inl e]) rfl (Nat.le_of_ble_eq_true rfl) (c_L_note _ _ _ _ _ hq2) rfl ?_
  refine x_aload_n C dX3_checkTimer_86 rfl ?_
  refine x_getI C dX3_checkTimer_87 fF_X3_76 rfl rfl ?_
  refine x_aload_n C dX3_checkTimer_90 rfl ?_
  refine x_getR C dX3_checkTimer_91 fF_X3_46 rfl rfl ?_
  refine x_getI C dX3_checkTimer_94 fF_X3_268 rfl rfl ?_
  refine x_icmp_lt C 104 dX3_checkTimer_97 (by decide) h (fun h => ?_) (fun h => ?_)
  · exact x_returnV hR dX3_checkTimer_104 h
  · refine x_aload_n C dX3_checkTimer_100 rfl ?_
    obtain ⟨q3, hq3, h⟩ := x_bind h
    refine x_callVI C dX3_checkTimer_101 (xin_26 _ (List.mem_of_getElem? (i := 14) rfl)) xy_X3_fall (xi_X3_fall) (xs_X3_fall) (by omega) (by decide) (b := 0) rfl ⟨_, _, rfl⟩ (av := []) rfl (Nat.le_of_ble_eq_true rfl) (c_L_fall _ _ _ hq3) rfl ?_
    exact x_returnV hR dX3_checkTimer_104 h
def f_L_timer0 (e : Int) (m : xM) : Option (xM) :=
     (if xw (m 4 5) = 0 then some m
      else (Option.bind (f_F_slot 0 (xvw [4, 5, 6, 7] m)) fun q1 =>
      (if xib q1 7 then (if xw ((m 0 7) - (m 7 (xix q1))) < xw (m 33 11) then some m
      else f_L_timer0_69 e (xu (xu (xu (xu m 4 5 0) 1 10 1) 0 15 ((m 0 15) + 1)) 0 16 0))
      else none)))
set_option maxRecDepth 1000000 in
set_option maxHeartbeats 4000000 in
theorem t_L_timer0 {Γ : xG} {d : Nat} (hd9 : 5 ≤ d) (C : xC Γ lay_L0 RX3 cX3_checkTimer 4 d) (e : Int) (e_e : xw e = 0) {m9 : xM} (hR : xRv Γ lay_L0 cX3_checkTimer m9) (m : xM) (h : f_L_timer0 e m = some m9) : xW Γ lay_L0 4 0 [(0, .inr (.inr (some 0))), (1, .inl e)] [] m := by
  unfold f_L_timer0 at h
  refine x_aload_n C dX3_checkTimer_0 rfl ?_
  refine x_iload_n C dX3_checkTimer_1 rfl ?_
  refine x_callVp C dX3_checkTimer_2 (xin_24 _ (List.mem_of_getElem? (i := 19) rfl)) xy_X3_endOf (xi_X3_endOf) (xs_X3_endOf) [0, 33, 1, 12, 23, 28, 30, 31] xv_21 (by omega) (by decide) (b := 0) rfl ⟨_, _, rfl⟩ (av := [.inl e]) rfl (Nat.le_of_ble_eq_true rfl) (c_endOf0 _ _ _ (by first | decide | assumption | exact xw_1m0 (by assumption) | exact xw_1m1 (by assumption) | exact xw_ne1 (by assumption) | exact xw_n1m0 (by assumption))) rfl ?_
  refine x_astore_n C dX3_checkTimer_5 (by decide) ?_
  refine x_aload_n C dX3_checkTimer_6 rfl ?_
  refine x_getR C dX3_checkTimer_7 fF_X3_120 rfl rfl ?_
  refine x_astore_n C dX3_checkTimer_10 (by decide) ?_
  refine x_aload_n C dX3_checkTimer_11 rfl ?_
  refine x_getI C dX3_checkTimer_12 fF_X3_255 rfl rfl ?_
  refine x_if_eq C 43 dX3_checkTimer_15 (by decide) h (fun h => ?_) (fun h => ?_)
  · exact x_returnV hR dX3_checkTimer_43 h
  · refine x_aload_n C dX3_checkTimer_18 rfl ?_
    refine x_getI C dX3_checkTimer_19 fF_X3_61 rfl rfl ?_
    refine x_aload_n C dX3_checkTimer_22 rfl ?_
    refine x_getR C dX3_checkTimer_23 fF_X3_258 rfl rfl ?_
    refine x_aload_n C dX3_checkTimer_26 rfl ?_
    refine x_iconst C dX3_checkTimer_27 ?_
    obtain ⟨q1, hq1, h⟩ := x_bind h
    refine x_callVp C dX3_checkTimer_28 (xin_25 _ (List.mem_of_getElem? (i := 8) rfl)) xy_X2_slotOf (xi_X2_slotOf) (xs_X2_slotOf) [4, 5, 6, 7] xv_19 (by omega) (by decide) (b := 0) rfl ⟨_, _, rfl⟩ (av := [.inl 0]) rfl (Nat.le_of_ble_eq_true rfl) (c_F_slot _ _ _ _ hq1) rfl ?_
    refine x_iaload C dX3_checkTimer_31 rfl h (fun h => ?_)
    refine x_isub C dX3_checkTimer_32 ?_
    refine x_aload_n C dX3_checkTimer_33 rfl ?_
    refine x_getR C dX3_checkTimer_34 fF_X3_46 rfl rfl ?_
    refine x_getI C dX3_checkTimer_37 fF_X3_261 rfl rfl ?_
    refine x_icmp_ge C 44 dX3_checkTimer_40 (by decide) h (fun h => ?_) (fun h => ?_)
    · refine x_aload_n C dX3_checkTimer_44 rfl ?_
      refine x_iconst C dX3_checkTimer_45 ?_
      refine x_putI C dX3_checkTimer_46 fF_X3_255 rfl rfl ?_
      refine x_aload_n C dX3_checkTimer_49 rfl ?_
      refine x_iconst C dX3_checkTimer_50 ?_
      refine x_putZ C dX3_checkTimer_51 fF_X3_264 rfl rfl (by decide) ?_
      refine x_aload_n C dX3_checkTimer_54 rfl ?_
      refine x_dup C dX3_checkTimer_55 rfl ?_
      refine x_getI C dX3_checkTimer_56 fF_X3_76 rfl rfl ?_
      refine x_iconst C dX3_checkTimer_59 ?_
      refine x_iadd C dX3_checkTimer_60 ?_
      refine x_putI C dX3_checkTimer_61 fF_X3_76 rfl rfl ?_
      refine x_aload_n C dX3_checkTimer_64 rfl ?_
      refine x_iconst C dX3_checkTimer_65 ?_
      refine x_putI C dX3_checkTimer_66 fF_X3_79 rfl rfl ?_
      refine x_loc [(0, .inr (.inr (some 0))), (1, .inl e)] ⟨rfl, rfl, trivial⟩ ?_
      exact t_L_timer0_69 hd9 C _ e_e hR _ h
    · exact x_returnV hR dX3_checkTimer_43 h
theorem c_L_timer0 (l : Launch) (e : Int) (e_e : xw e = 0) (m m9 : xM) (h : f_L_timer0 e m = some m9) : xMet l yX3_checkTimer cX3_checkTimer 4 none 5 lay_L0 [.inr (.inr (some 0)), .inl e] m none m9 :=
  xMet_v (by decide +kernel) (Nat.le_of_ble_eq_true rfl) (fun Γ C hR hl9 => t_L_timer0 (Nat.le_refl _) C e e_e hR m h)
/-! ===== yX3_checkTimer ===== -/
theorem xv_22 : xview lay_L1 lay_eo [0, 33, 12, 1, 23, 28, 30, 31] := xview_of (by decide +kernel)
theorem xv_23 : xview lay_L1 lay_F [4, 5, 6, 7] := xview_of (by decide +kernel)
def xT_1 : List Nat := [0, 12, 13, 14, 15, 16, 17, 18, 19, 20, 21, 22, 1, 2, 3, 4, 5, 6, 7, 8, 9, 10, 11, 23, 24, 25, 26, 27, 28, 29, 30, 31, 32, 33, 34, 35, 36, 37]
theorem xv_24 : xview lay_L1 lay_L0 xT_1 := xview_of (by decide +kernel)
def f_L_timer1_69 (e : Int) (m : xM) : Option (xM) :=
     (if xib 3 11 then (if xib 3 11 then (Option.bind (f_L_note 6 e (xu m 30 3 ((m 30 3) + 1))) fun q2 =>
      (if xw (q2 0 15) < xw (q2 33 12) then some q2
      else (Option.bind (f_L_fall (xvw xT_1 q2)) fun q3 =>
      some (xmg xT_1 38 q2 q3))))
      else none)
      else none)
set_option maxRecDepth 1000000 in
set_option maxHeartbeats 4000000 in
theorem t_L_timer1_69 {Γ : xG} {d : Nat} (hd9 : 5 ≤ d) (C : xC Γ lay_L1 RX3 cX3_checkTimer 4 d) (e : Int) (e_e : xw e = 1) {m9 : xM} (hR : xRv Γ lay_L1 cX3_checkTimer m9) (m : xM) (h : f_L_timer1_69 e m = some m9) : xW Γ lay_L1 4 69 [(0, .inr (.inr (some 0))), (1, .inl e)] [] m := by
  unfold f_L_timer1_69 at h
  refine x_aload_n C dX3_checkTimer_69 rfl ?_
  refine x_getR C dX3_checkTimer_70 fF_X3_35 rfl rfl ?_
  refine x_iconst C dX3_checkTimer_73 ?_
  refine x_dup2 C dX3_checkTimer_74 rfl rfl ?_
  refine x_iaload C dX3_checkTimer_75 rfl h (fun h => ?_)
  refine x_iconst C dX3_checkTimer_76 ?_
  refine x_iadd C dX3_checkTimer_77 ?_
  refine x_iastore C dX3_checkTimer_78 rfl h (fun h => ?_)
  refine x_aload_n C dX3_checkTimer_79 rfl ?_
  refine x_bipush C dX3_checkTimer_80 (by decide) ?_
  refine x_iload_n C dX3_checkTimer_82 rfl ?_
  obtain ⟨q2, hq2, h⟩ := x_bind h
  refine x_callVI C dX3_checkTimer_83 (xin_22 _ (List.mem_of_getElem? (i := 3) rfl)) xy_X3_note (xi_X3_note) (xs_X3_note) (by omega) (by decide) (b := 0) rfl ⟨_, _, rfl⟩ (av := [.inl 6, .inl e]) rfl (Nat.le_of_ble_eq_true rfl) (c_L_note_1 _ _ _ _ _ hq2) rfl ?_
  refine x_aload_n C dX3_checkTimer_86 rfl ?_
  refine x_getI C dX3_checkTimer_87 fF_X3_76 rfl rfl ?_
  refine x_aload_n C dX3_checkTimer_90 rfl ?_
  refine x_getR C dX3_checkTimer_91 fF_X3_46 rfl rfl ?_
  refine x_getI C dX3_checkTimer_94 fF_X3_268 rfl rfl ?_
  refine x_icmp_lt C 104 dX3_checkTimer_97 (by decide) h (fun h => ?_) (fun h => ?_)
  · exact x_returnV hR dX3_checkTimer_104 h
  · refine x_aload_n C dX3_checkTimer_100 rfl ?_
    obtain ⟨q3, hq3, h⟩ := x_bind h
    refine x_callV C dX3_checkTimer_101 (xin_26 _ (List.mem_of_getElem? (i := 14) rfl)) xy_X3_fall (xi_X3_fall) (xs_X3_fall) xT_1 xv_24 (by omega) (by decide) (b := 0) rfl ⟨_, _, rfl⟩ (av := []) rfl (Nat.le_of_ble_eq_true rfl) (c_L_fall _ _ _ hq3) rfl ?_
    exact x_returnV hR dX3_checkTimer_104 h
def f_L_timer1 (e : Int) (m : xM) : Option (xM) :=
     (if xw (m 4 5) = 0 then some m
      else (Option.bind (f_F_slot 0 (xvw [4, 5, 6, 7] m)) fun q1 =>
      (if xib q1 7 then (if xw ((m 0 7) - (m 7 (xix q1))) < xw (m 33 11) then some m
      else f_L_timer1_69 e (xu (xu (xu (xu m 4 5 0) 1 10 1) 0 15 ((m 0 15) + 1)) 0 16 0))
      else none)))
set_option maxRecDepth 1000000 in
set_option maxHeartbeats 4000000 in
theorem t_L_timer1 {Γ : xG} {d : Nat} (hd9 : 5 ≤ d) (C : xC Γ lay_L1 RX3 cX3_checkTimer 4 d) (e : Int) (e_e : xw e = 1) {m9 : xM} (hR : xRv Γ lay_L1 cX3_checkTimer m9) (m : xM) (h : f_L_timer1 e m = some m9) : xW Γ lay_L1 4 0 [(0, .inr (.inr (some 0))), (1, .inl e)] [] m := by
  unfold f_L_timer1 at h
  refine x_aload_n C dX3_checkTimer_0 rfl ?_
  refine x_iload_n C dX3_checkTimer_1 rfl ?_
  refine x_callVp C dX3_checkTimer_2 (xin_24 _ (List.mem_of_getElem? (i := 19) rfl)) xy_X3_endOf (xi_X3_endOf) (xs_X3_endOf) [0, 33, 12, 1, 23, 28, 30, 31] xv_22 (by omega) (by decide) (b := 0) rfl ⟨_, _, rfl⟩ (av := [.inl e]) rfl (Nat.le_of_ble_eq_true rfl) (c_endOf1 _ _ _ (by first | decide | assumption | exact xw_1m0 (by assumption) | exact xw_1m1 (by assumption) | exact xw_ne1 (by assumption) | exact xw_n1m0 (by assumption))) rfl ?_
  refine x_astore_n C dX3_checkTimer_5 (by decide) ?_
  refine x_aload_n C dX3_checkTimer_6 rfl ?_
  refine x_getR C dX3_checkTimer_7 fF_X3_120 rfl rfl ?_
  refine x_astore_n C dX3_checkTimer_10 (by decide) ?_
  refine x_aload_n C dX3_checkTimer_11 rfl ?_
  refine x_getI C dX3_checkTimer_12 fF_X3_255 rfl rfl ?_
  refine x_if_eq C 43 dX3_checkTimer_15 (by decide) h (fun h => ?_) (fun h => ?_)
  · exact x_returnV hR dX3_checkTimer_43 h
  · refine x_aload_n C dX3_checkTimer_18 rfl ?_
    refine x_getI C dX3_checkTimer_19 fF_X3_61 rfl rfl ?_
    refine x_aload_n C dX3_checkTimer_22 rfl ?_
    refine x_getR C dX3_checkTimer_23 fF_X3_258 rfl rfl ?_
    refine x_aload_n C dX3_checkTimer_26 rfl ?_
    refine x_iconst C dX3_checkTimer_27 ?_
    obtain ⟨q1, hq1, h⟩ := x_bind h
    refine x_callVp C dX3_checkTimer_28 (xin_25 _ (List.mem_of_getElem? (i := 8) rfl)) xy_X2_slotOf (xi_X2_slotOf) (xs_X2_slotOf) [4, 5, 6, 7] xv_23 (by omega) (by decide) (b := 0) rfl ⟨_, _, rfl⟩ (av := [.inl 0]) rfl (Nat.le_of_ble_eq_true rfl) (c_F_slot _ _ _ _ hq1) rfl ?_
    refine x_iaload C dX3_checkTimer_31 rfl h (fun h => ?_)
    refine x_isub C dX3_checkTimer_32 ?_
    refine x_aload_n C dX3_checkTimer_33 rfl ?_
    refine x_getR C dX3_checkTimer_34 fF_X3_46 rfl rfl ?_
    refine x_getI C dX3_checkTimer_37 fF_X3_261 rfl rfl ?_
    refine x_icmp_ge C 44 dX3_checkTimer_40 (by decide) h (fun h => ?_) (fun h => ?_)
    · refine x_aload_n C dX3_checkTimer_44 rfl ?_
      refine x_iconst C dX3_checkTimer_45 ?_
      refine x_putI C dX3_checkTimer_46 fF_X3_255 rfl rfl ?_
      refine x_aload_n C dX3_checkTimer_49 rfl ?_
      refine x_iconst C dX3_checkTimer_50 ?_
      refine x_putZ C dX3_checkTimer_51 fF_X3_264 rfl rfl (by decide) ?_
      refine x_aload_n C dX3_checkTimer_54 rfl ?_
      refine x_dup C dX3_checkTimer_55 rfl ?_
      refine x_getI C dX3_checkTimer_56 fF_X3_76 rfl rfl ?_
      refine x_iconst C dX3_checkTimer_59 ?_
      refine x_iadd C dX3_checkTimer_60 ?_
      refine x_putI C dX3_checkTimer_61 fF_X3_76 rfl rfl ?_
      refine x_aload_n C dX3_checkTimer_64 rfl ?_
      refine x_iconst C dX3_checkTimer_65 ?_
      refine x_putI C dX3_checkTimer_66 fF_X3_79 rfl rfl ?_
      refine x_loc [(0, .inr (.inr (some 0))), (1, .inl e)] ⟨rfl, rfl, trivial⟩ ?_
      exact t_L_timer1_69 hd9 C _ e_e hR _ h
    · exact x_returnV hR dX3_checkTimer_43 h
theorem c_L_timer1 (l : Launch) (e : Int) (e_e : xw e = 1) (m m9 : xM) (h : f_L_timer1 e m = some m9) : xMet l yX3_checkTimer cX3_checkTimer 4 none 5 lay_L1 [.inr (.inr (some 0)), .inl e] m none m9 :=
  xMet_v (by decide +kernel) (Nat.le_of_ble_eq_true rfl) (fun Γ C hR hl9 => t_L_timer1 (Nat.le_refl _) C e e_e hR m h)
/-! ===== yX3_rise ===== -/
theorem fF_X3_274 : xF RX3 274 7 13 .int false := ⟨RX6, TX6, 14, tyX6, rfl, by decide, (xin_26 _ (List.mem_of_getElem? (i := 22) rfl)), rfl, inlX6, tyX6_ok, nmX6, rfl, rfl⟩
theorem xy_X6_canRiseFrom : xY yX6_canRiseFrom cX6_canRiseFrom 4 (some .boolean) 2 := ⟨(xin_27 _ (List.mem_of_getElem? (i := 2) rfl)), (xin_1 _ (List.mem_of_getElem? (i := 13) rfl)), by decide, by decide, by decide +kernel⟩
theorem xi_X6_canRiseFrom : Cond.instanceMethod yX6_canRiseFrom ∈ wsL_law := (xin_27 _ (List.mem_of_getElem? (i := 0) rfl))
theorem xs_X6_canRiseFrom : Cond.selects yX6_canRiseFrom.cls yX6_canRiseFrom yX6_canRiseFrom ∈ wsL_law := (xin_27 _ (List.mem_of_getElem? (i := 1) rfl))
theorem dX3_rise_0 : decode cX3_rise 0 = .ok (.aload_n 0, 1) := by decide +kernel
theorem dX3_rise_1 : decode cX3_rise 1 = .ok (.getfield 79, 3) := by decide +kernel
theorem dX3_rise_4 : decode cX3_rise 4 = .ok (.aload_n 0, 1) := by decide +kernel
theorem dX3_rise_5 : decode cX3_rise 5 = .ok (.getfield 46, 3) := by decide +kernel
theorem dX3_rise_8 : decode cX3_rise 8 = .ok (.getfield 274, 3) := by decide +kernel
theorem dX3_rise_11 : decode cX3_rise 11 = .ok (.if_icmp .lt 21, 3) := by decide +kernel
theorem dX3_rise_14 : decode cX3_rise 14 = .ok (.aload_n 0, 1) := by decide +kernel
theorem dX3_rise_15 : decode cX3_rise 15 = .ok (.getfield 46, 3) := by decide +kernel
theorem dX3_rise_18 : decode cX3_rise 18 = .ok (.aload_n 0, 1) := by decide +kernel
theorem dX3_rise_19 : decode cX3_rise 19 = .ok (.getfield 73, 3) := by decide +kernel
theorem dX3_rise_22 : decode cX3_rise 22 = .ok (.aload_n 0, 1) := by decide +kernel
theorem dX3_rise_23 : decode cX3_rise 23 = .ok (.getfield 72, 3) := by decide +kernel
theorem dX3_rise_26 : decode cX3_rise 26 = .ok (.invokevirtual 277, 3) := by decide +kernel
theorem dX3_rise_29 : decode cX3_rise 29 = .ok (.ifCond .ne 4, 3) := by decide +kernel
theorem dX3_rise_32 : decode cX3_rise 32 = .ok (.return_, 1) := by decide +kernel
theorem dX3_rise_33 : decode cX3_rise 33 = .ok (.aload_n 0, 1) := by decide +kernel
theorem dX3_rise_34 : decode cX3_rise 34 = .ok (.dup, 1) := by decide +kernel
theorem dX3_rise_35 : decode cX3_rise 35 = .ok (.getfield 73, 3) := by decide +kernel
theorem dX3_rise_38 : decode cX3_rise 38 = .ok (.iconst 1, 1) := by decide +kernel
theorem dX3_rise_39 : decode cX3_rise 39 = .ok (.iadd, 1) := by decide +kernel
theorem dX3_rise_40 : decode cX3_rise 40 = .ok (.putfield 73, 3) := by decide +kernel
theorem dX3_rise_43 : decode cX3_rise 43 = .ok (.aload_n 0, 1) := by decide +kernel
theorem dX3_rise_44 : decode cX3_rise 44 = .ok (.iconst 0, 1) := by decide +kernel
theorem dX3_rise_45 : decode cX3_rise 45 = .ok (.putfield 79, 3) := by decide +kernel
theorem dX3_rise_48 : decode cX3_rise 48 = .ok (.aload_n 0, 1) := by decide +kernel
theorem dX3_rise_49 : decode cX3_rise 49 = .ok (.getfield 35, 3) := by decide +kernel
theorem dX3_rise_52 : decode cX3_rise 52 = .ok (.iconst 5, 1) := by decide +kernel
theorem dX3_rise_53 : decode cX3_rise 53 = .ok (.dup2, 1) := by decide +kernel
theorem dX3_rise_54 : decode cX3_rise 54 = .ok (.iaload, 1) := by decide +kernel
theorem dX3_rise_55 : decode cX3_rise 55 = .ok (.iconst 1, 1) := by decide +kernel
theorem dX3_rise_56 : decode cX3_rise 56 = .ok (.iadd, 1) := by decide +kernel
theorem dX3_rise_57 : decode cX3_rise 57 = .ok (.iastore, 1) := by decide +kernel
theorem dX3_rise_58 : decode cX3_rise 58 = .ok (.aload_n 0, 1) := by decide +kernel
theorem dX3_rise_59 : decode cX3_rise 59 = .ok (.iconst 3, 1) := by decide +kernel
theorem dX3_rise_60 : decode cX3_rise 60 = .ok (.iconst (-1), 1) := by decide +kernel
theorem dX3_rise_61 : decode cX3_rise 61 = .ok (.invokevirtual 179, 3) := by decide +kernel
theorem dX3_rise_64 : decode cX3_rise 64 = .ok (.return_, 1) := by decide +kernel
def f_L_rise_58 (m : xM) : Option (xM) :=
     (Option.bind (f_L_note 3 (-1) m) fun q1 =>
      some q1)
set_option maxRecDepth 1000000 in
set_option maxHeartbeats 4000000 in
theorem t_L_rise_58 {Γ : xG} {d : Nat} (hd9 : 3 ≤ d) (C : xC Γ lay_L0 RX3 cX3_rise 1 d) {m9 : xM} (hR : xRv Γ lay_L0 cX3_rise m9) (m : xM) (h : f_L_rise_58 m = some m9) : xW Γ lay_L0 1 58 [(0, .inr (.inr (some 0)))] [] m := by
  unfold f_L_rise_58 at h
  refine x_aload_n C dX3_rise_58 rfl ?_
  refine x_iconst C dX3_rise_59 ?_
  refine x_iconst C dX3_rise_60 ?_
  obtain ⟨q1, hq1, h⟩ := x_bind h
  refine x_callVI C dX3_rise_61 (xin_22 _ (List.mem_of_getElem? (i := 3) rfl)) xy_X3_note (xi_X3_note) (xs_X3_note) (by omega) (by decide) (b := 0) rfl ⟨_, _, rfl⟩ (av := [.inl 3, .inl (-1)]) rfl (Nat.le_of_ble_eq_true rfl) (c_L_note _ _ _ _ _ hq1) rfl ?_
  exact x_returnV hR dX3_rise_64 h
def f_L_rise (m : xM) : Option (xM) :=
     (if xw (m 0 16) < xw (m 33 13) then some m
      else (Option.bind (f_S_rise (m 0 10) (m 0 9) (xvw [33, 34, 35, 36, 37] m)) fun q0 =>
      (if xw q0 = 0 then some m
      else (if xib 5 11 then (if xib 5 11 then f_L_rise_58 (xu (xu (xu m 0 10 ((m 0 10) + 1)) 0 16 0) 30 5 ((m 30 5) + 1))
      else none)
      else none))))
set_option maxRecDepth 1000000 in
set_option maxHeartbeats 4000000 in
theorem t_L_rise {Γ : xG} {d : Nat} (hd9 : 3 ≤ d) (C : xC Γ lay_L0 RX3 cX3_rise 1 d) {m9 : xM} (hR : xRv Γ lay_L0 cX3_rise m9) (m : xM) (h : f_L_rise m = some m9) : xW Γ lay_L0 1 0 [(0, .inr (.inr (some 0)))] [] m := by
  unfold f_L_rise at h
  refine x_aload_n C dX3_rise_0 rfl ?_
  refine x_getI C dX3_rise_1 fF_X3_79 rfl rfl ?_
  refine x_aload_n C dX3_rise_4 rfl ?_
  refine x_getR C dX3_rise_5 fF_X3_46 rfl rfl ?_
  refine x_getI C dX3_rise_8 fF_X3_274 rfl rfl ?_
  refine x_icmp_lt C 32 dX3_rise_11 (by decide) h (fun h => ?_) (fun h => ?_)
  · exact x_returnV hR dX3_rise_32 h
  · refine x_aload_n C dX3_rise_14 rfl ?_
    refine x_getR C dX3_rise_15 fF_X3_46 rfl rfl ?_
    refine x_aload_n C dX3_rise_18 rfl ?_
    refine x_getI C dX3_rise_19 fF_X3_73 rfl rfl ?_
    refine x_aload_n C dX3_rise_22 rfl ?_
    refine x_getI C dX3_rise_23 fF_X3_72 rfl rfl ?_
    obtain ⟨q0, hq0, h⟩ := x_bind h
    refine x_callVp C dX3_rise_26 (xin_26 _ (List.mem_of_getElem? (i := 23) rfl)) xy_X6_canRiseFrom (xi_X6_canRiseFrom) (xs_X6_canRiseFrom) [33, 34, 35, 36, 37] xv_18 (by omega) (by decide) (b := 0) rfl ⟨_, _, rfl⟩ (av := [.inl (m 0 10), .inl (m 0 9)]) rfl (Nat.le_of_ble_eq_true rfl) (c_S_rise _ _ _ _ _ hq0) rfl ?_
    refine x_if_ne C 33 dX3_rise_29 (by decide) h (fun h => ?_) (fun h => ?_)
    · refine x_aload_n C dX3_rise_33 rfl ?_
      refine x_dup C dX3_rise_34 rfl ?_
      refine x_getI C dX3_rise_35 fF_X3_73 rfl rfl ?_
      refine x_iconst C dX3_rise_38 ?_
      refine x_iadd C dX3_rise_39 ?_
      refine x_putI C dX3_rise_40 fF_X3_73 rfl rfl ?_
      refine x_aload_n C dX3_rise_43 rfl ?_
      refine x_iconst C dX3_rise_44 ?_
      refine x_putI C dX3_rise_45 fF_X3_79 rfl rfl ?_
      refine x_aload_n C dX3_rise_48 rfl ?_
      refine x_getR C dX3_rise_49 fF_X3_35 rfl rfl ?_
      refine x_iconst C dX3_rise_52 ?_
      refine x_dup2 C dX3_rise_53 rfl rfl ?_
      refine x_iaload C dX3_rise_54 rfl h (fun h => ?_)
      refine x_iconst C dX3_rise_55 ?_
      refine x_iadd C dX3_rise_56 ?_
      refine x_iastore C dX3_rise_57 rfl h (fun h => ?_)
      refine x_loc [(0, .inr (.inr (some 0)))] ⟨rfl, trivial⟩ ?_
      exact t_L_rise_58 hd9 C hR _ h
    · exact x_returnV hR dX3_rise_32 h
theorem c_L_rise (l : Launch) (m m9 : xM) (h : f_L_rise m = some m9) : xMet l yX3_rise cX3_rise 1 none 3 lay_L0 [.inr (.inr (some 0))] m none m9 :=
  xMet_v (by decide +kernel) (Nat.le_of_ble_eq_true rfl) (fun Γ C hR hl9 => t_L_rise (Nat.le_refl _) C hR m h)
/-! ===== yX3_acceptAcknowledgement ===== -/
theorem fF_X3_124 : xF RX3 124 3 4 .int false := ⟨RX2, TX2, 6, tyX2, rfl, by decide, (xin_24 _ (List.mem_of_getElem? (i := 17) rfl)), rfl, inlX2, tyX2_ok, nmX2, rfl, rfl⟩
theorem fF_X3_230 : xF RX3 230 3 3 .int false := ⟨RX2, TX2, 6, tyX2, rfl, by decide, (xin_24 _ (List.mem_of_getElem? (i := 18) rfl)), rfl, inlX2, tyX2_ok, nmX2, rfl, rfl⟩
theorem dX3_acceptAcknowledgement_0 : decode cX3_acceptAcknowledgement 0 = .ok (.aload_n 0, 1) := by decide +kernel
theorem dX3_acceptAcknowledgement_1 : decode cX3_acceptAcknowledgement 1 = .ok (.iload_n 1, 1) := by decide +kernel
theorem dX3_acceptAcknowledgement_2 : decode cX3_acceptAcknowledgement 2 = .ok (.invokevirtual 226, 3) := by decide +kernel
theorem dX3_acceptAcknowledgement_5 : decode cX3_acceptAcknowledgement 5 = .ok (.getfield 120, 3) := by decide +kernel
theorem dX3_acceptAcknowledgement_8 : decode cX3_acceptAcknowledgement 8 = .ok (.astore_n 3, 1) := by decide +kernel
theorem dX3_acceptAcknowledgement_9 : decode cX3_acceptAcknowledgement 9 = .ok (.aload_n 3, 1) := by decide +kernel
theorem dX3_acceptAcknowledgement_10 : decode cX3_acceptAcknowledgement 10 = .ok (.getfield 124, 3) := by decide +kernel
theorem dX3_acceptAcknowledgement_13 : decode cX3_acceptAcknowledgement 13 = .ok (.ifCond .le 30, 3) := by decide +kernel
theorem dX3_acceptAcknowledgement_16 : decode cX3_acceptAcknowledgement 16 = .ok (.aload_n 3, 1) := by decide +kernel
theorem dX3_acceptAcknowledgement_17 : decode cX3_acceptAcknowledgement 17 = .ok (.getfield 230, 3) := by decide +kernel
theorem dX3_acceptAcknowledgement_20 : decode cX3_acceptAcknowledgement 20 = .ok (.iload_n 2, 1) := by decide +kernel
theorem dX3_acceptAcknowledgement_21 : decode cX3_acceptAcknowledgement 21 = .ok (.if_icmp .ne 22, 3) := by decide +kernel
theorem dX3_acceptAcknowledgement_24 : decode cX3_acceptAcknowledgement 24 = .ok (.aload_n 3, 1) := by decide +kernel
theorem dX3_acceptAcknowledgement_25 : decode cX3_acceptAcknowledgement 25 = .ok (.invokevirtual 233, 3) := by decide +kernel
theorem dX3_acceptAcknowledgement_28 : decode cX3_acceptAcknowledgement 28 = .ok (.aload_n 0, 1) := by decide +kernel
theorem dX3_acceptAcknowledgement_29 : decode cX3_acceptAcknowledgement 29 = .ok (.iconst 0, 1) := by decide +kernel
theorem dX3_acceptAcknowledgement_30 : decode cX3_acceptAcknowledgement 30 = .ok (.putfield 76, 3) := by decide +kernel
theorem dX3_acceptAcknowledgement_33 : decode cX3_acceptAcknowledgement 33 = .ok (.aload_n 0, 1) := by decide +kernel
theorem dX3_acceptAcknowledgement_34 : decode cX3_acceptAcknowledgement 34 = .ok (.dup, 1) := by decide +kernel
theorem dX3_acceptAcknowledgement_35 : decode cX3_acceptAcknowledgement 35 = .ok (.getfield 79, 3) := by decide +kernel
theorem dX3_acceptAcknowledgement_38 : decode cX3_acceptAcknowledgement 38 = .ok (.iconst 1, 1) := by decide +kernel
theorem dX3_acceptAcknowledgement_39 : decode cX3_acceptAcknowledgement 39 = .ok (.iadd, 1) := by decide +kernel
theorem dX3_acceptAcknowledgement_40 : decode cX3_acceptAcknowledgement 40 = .ok (.putfield 79, 3) := by decide +kernel
theorem dX3_acceptAcknowledgement_43 : decode cX3_acceptAcknowledgement 43 = .ok (.return_, 1) := by decide +kernel
def f_L_ack (e : Int) (b : Int) (m : xM) : Option (xM) :=
     (if 0 < xw (m 4 4) then (if xw (m 4 3) = xw b then (Option.bind (f_F_forget1 (xvw [4, 5, 6, 7] m)) fun q1 =>
      some (xu (xu (xmg [4, 5, 6, 7] 4 m q1) 0 15 0) 0 16 (((xmg [4, 5, 6, 7] 4 m q1) 0 16) + 1)))
      else some m)
      else some m)
set_option maxRecDepth 1000000 in
set_option maxHeartbeats 4000000 in
theorem t_L_ack {Γ : xG} {d : Nat} (hd9 : 2 ≤ d) (C : xC Γ lay_L0 RX3 cX3_acceptAcknowledgement 4 d) (e : Int) (b : Int) (e_e : xw e = 0) {m9 : xM} (hR : xRv Γ lay_L0 cX3_acceptAcknowledgement m9) (m : xM) (h : f_L_ack e b m = some m9) : xW Γ lay_L0 4 0 [(0, .inr (.inr (some 0))), (1, .inl e), (2, .inl b)] [] m := by
  unfold f_L_ack at h
  refine x_aload_n C dX3_acceptAcknowledgement_0 rfl ?_
  refine x_iload_n C dX3_acceptAcknowledgement_1 rfl ?_
  refine x_callVp C dX3_acceptAcknowledgement_2 (xin_24 _ (List.mem_of_getElem? (i := 19) rfl)) xy_X3_endOf (xi_X3_endOf) (xs_X3_endOf) [0, 33, 1, 12, 23, 28, 30, 31] xv_21 (by omega) (by decide) (b := 0) rfl ⟨_, _, rfl⟩ (av := [.inl e]) rfl (Nat.le_of_ble_eq_true rfl) (c_endOf0 _ _ _ (by first | decide | assumption | exact xw_1m0 (by assumption) | exact xw_1m1 (by assumption) | exact xw_ne1 (by assumption) | exact xw_n1m0 (by assumption))) rfl ?_
  refine x_getR C dX3_acceptAcknowledgement_5 fF_X3_120 rfl rfl ?_
  refine x_astore_n C dX3_acceptAcknowledgement_8 (by decide) ?_
  refine x_aload_n C dX3_acceptAcknowledgement_9 rfl ?_
  refine x_getI C dX3_acceptAcknowledgement_10 fF_X3_124 rfl rfl ?_
  refine x_if_le C 43 dX3_acceptAcknowledgement_13 (by decide) h (fun h => ?_) (fun h => ?_)
  · exact x_returnV hR dX3_acceptAcknowledgement_43 h
  · refine x_aload_n C dX3_acceptAcknowledgement_16 rfl ?_
    refine x_getI C dX3_acceptAcknowledgement_17 fF_X3_230 rfl rfl ?_
    refine x_iload_n C dX3_acceptAcknowledgement_20 rfl ?_
    refine x_icmp_ne C 43 dX3_acceptAcknowledgement_21 (by decide) h (fun h => ?_) (fun h => ?_)
    · exact x_returnV hR dX3_acceptAcknowledgement_43 h
    · refine x_aload_n C dX3_acceptAcknowledgement_24 rfl ?_
      obtain ⟨q1, hq1, h⟩ := x_bind h
      refine x_callV C dX3_acceptAcknowledgement_25 (xin_24 _ (List.mem_of_getElem? (i := 23) rfl)) xy_X2_forgetFirst (xi_X2_forgetFirst) (xs_X2_forgetFirst) [4, 5, 6, 7] xv_19 (by omega) (by decide) (b := 0) rfl ⟨_, _, rfl⟩ (av := []) rfl (Nat.le_of_ble_eq_true rfl) (c_F_forget1 _ _ _ hq1) rfl ?_
      refine x_aload_n C dX3_acceptAcknowledgement_28 rfl ?_
      refine x_iconst C dX3_acceptAcknowledgement_29 ?_
      refine x_putI C dX3_acceptAcknowledgement_30 fF_X3_76 rfl rfl ?_
      refine x_aload_n C dX3_acceptAcknowledgement_33 rfl ?_
      refine x_dup C dX3_acceptAcknowledgement_34 rfl ?_
      refine x_getI C dX3_acceptAcknowledgement_35 fF_X3_79 rfl rfl ?_
      refine x_iconst C dX3_acceptAcknowledgement_38 ?_
      refine x_iadd C dX3_acceptAcknowledgement_39 ?_
      refine x_putI C dX3_acceptAcknowledgement_40 fF_X3_79 rfl rfl ?_
      exact x_returnV hR dX3_acceptAcknowledgement_43 h
theorem c_L_ack (l : Launch) (e : Int) (b : Int) (e_e : xw e = 0) (m m9 : xM) (h : f_L_ack e b m = some m9) : xMet l yX3_acceptAcknowledgement cX3_acceptAcknowledgement 4 none 2 lay_L0 [.inr (.inr (some 0)), .inl e, .inl b] m none m9 :=
  xMet_v (by decide +kernel) (Nat.le_of_ble_eq_true rfl) (fun Γ C hR hl9 => t_L_ack (Nat.le_refl _) C e b e_e hR m h)
/-! ===== yX3_acceptAcknowledgement ===== -/
set_option maxRecDepth 1000000 in
set_option maxHeartbeats 4000000 in
theorem t_L_ack_1 {Γ : xG} {d : Nat} (hd9 : 2 ≤ d) (C : xC Γ lay_L1 RX3 cX3_acceptAcknowledgement 4 d) (e : Int) (b : Int) (e_e : xw e = 1) {m9 : xM} (hR : xRv Γ lay_L1 cX3_acceptAcknowledgement m9) (m : xM) (h : f_L_ack e b m = some m9) : xW Γ lay_L1 4 0 [(0, .inr (.inr (some 0))), (1, .inl e), (2, .inl b)] [] m := by
  unfold f_L_ack at h
  refine x_aload_n C dX3_acceptAcknowledgement_0 rfl ?_
  refine x_iload_n C dX3_acceptAcknowledgement_1 rfl ?_
  refine x_callVp C dX3_acceptAcknowledgement_2 (xin_24 _ (List.mem_of_getElem? (i := 19) rfl)) xy_X3_endOf (xi_X3_endOf) (xs_X3_endOf) [0, 33, 12, 1, 23, 28, 30, 31] xv_22 (by omega) (by decide) (b := 0) rfl ⟨_, _, rfl⟩ (av := [.inl e]) rfl (Nat.le_of_ble_eq_true rfl) (c_endOf1 _ _ _ (by first | decide | assumption | exact xw_1m0 (by assumption) | exact xw_1m1 (by assumption) | exact xw_ne1 (by assumption) | exact xw_n1m0 (by assumption))) rfl ?_
  refine x_getR C dX3_acceptAcknowledgement_5 fF_X3_120 rfl rfl ?_
  refine x_astore_n C dX3_acceptAcknowledgement_8 (by decide) ?_
  refine x_aload_n C dX3_acceptAcknowledgement_9 rfl ?_
  refine x_getI C dX3_acceptAcknowledgement_10 fF_X3_124 rfl rfl ?_
  refine x_if_le C 43 dX3_acceptAcknowledgement_13 (by decide) h (fun h => ?_) (fun h => ?_)
  · exact x_returnV hR dX3_acceptAcknowledgement_43 h
  · refine x_aload_n C dX3_acceptAcknowledgement_16 rfl ?_
    refine x_getI C dX3_acceptAcknowledgement_17 fF_X3_230 rfl rfl ?_
    refine x_iload_n C dX3_acceptAcknowledgement_20 rfl ?_
    refine x_icmp_ne C 43 dX3_acceptAcknowledgement_21 (by decide) h (fun h => ?_) (fun h => ?_)
    · exact x_returnV hR dX3_acceptAcknowledgement_43 h
    · refine x_aload_n C dX3_acceptAcknowledgement_24 rfl ?_
      obtain ⟨q1, hq1, h⟩ := x_bind h
      refine x_callV C dX3_acceptAcknowledgement_25 (xin_24 _ (List.mem_of_getElem? (i := 23) rfl)) xy_X2_forgetFirst (xi_X2_forgetFirst) (xs_X2_forgetFirst) [4, 5, 6, 7] xv_23 (by omega) (by decide) (b := 0) rfl ⟨_, _, rfl⟩ (av := []) rfl (Nat.le_of_ble_eq_true rfl) (c_F_forget1 _ _ _ hq1) rfl ?_
      refine x_aload_n C dX3_acceptAcknowledgement_28 rfl ?_
      refine x_iconst C dX3_acceptAcknowledgement_29 ?_
      refine x_putI C dX3_acceptAcknowledgement_30 fF_X3_76 rfl rfl ?_
      refine x_aload_n C dX3_acceptAcknowledgement_33 rfl ?_
      refine x_dup C dX3_acceptAcknowledgement_34 rfl ?_
      refine x_getI C dX3_acceptAcknowledgement_35 fF_X3_79 rfl rfl ?_
      refine x_iconst C dX3_acceptAcknowledgement_38 ?_
      refine x_iadd C dX3_acceptAcknowledgement_39 ?_
      refine x_putI C dX3_acceptAcknowledgement_40 fF_X3_79 rfl rfl ?_
      exact x_returnV hR dX3_acceptAcknowledgement_43 h
theorem c_L_ack_1 (l : Launch) (e : Int) (b : Int) (e_e : xw e = 1) (m m9 : xM) (h : f_L_ack e b m = some m9) : xMet l yX3_acceptAcknowledgement cX3_acceptAcknowledgement 4 none 2 lay_L1 [.inr (.inr (some 0)), .inl e, .inl b] m none m9 :=
  xMet_v (by decide +kernel) (Nat.le_of_ble_eq_true rfl) (fun Γ C hR hl9 => t_L_ack_1 (Nat.le_refl _) C e b e_e hR m h)
/-! ===== yX3_acceptFrame ===== -/
theorem fF_X3_243 : xF RX3 243 3 1 (.array .int) true := ⟨RX2, TX2, 6, tyX2, rfl, by decide, (xin_25 _ (List.mem_of_getElem? (i := 6) rfl)), rfl, inlX2, tyX2_ok, nmX2, rfl, rfl⟩
theorem xy_X9_put : xY yX9_put cX9_put 6 none 4 := ⟨(xin_26 _ (List.mem_of_getElem? (i := 4) rfl)), (xin_4 _ (List.mem_of_getElem? (i := 2) rfl)), by decide, by decide, by decide +kernel⟩
theorem xi_X9_put : Cond.instanceMethod yX9_put ∈ wsL_law := (xin_26 _ (List.mem_of_getElem? (i := 2) rfl))
theorem xs_X9_put : Cond.selects yX9_put.cls yX9_put yX9_put ∈ wsL_law := (xin_26 _ (List.mem_of_getElem? (i := 3) rfl))
theorem xv_25 : xview lay_L0 lay_Wi [23, 24, 25, 26, 27] := xview_of (by decide +kernel)
theorem fF_X3_246 : xF RX3 246 3 0 (.array .int) true := ⟨RX2, TX2, 6, tyX2, rfl, by decide, (xin_25 _ (List.mem_of_getElem? (i := 7) rfl)), rfl, inlX2, tyX2_ok, nmX2, rfl, rfl⟩
theorem xy_X1_read : xY yX1_read cX1_read 2 none 1 := ⟨(xin_25 _ (List.mem_of_getElem? (i := 19) rfl)), (xin_3 _ (List.mem_of_getElem? (i := 21) rfl)), by decide, by decide, by decide +kernel⟩
theorem xi_X1_read : Cond.instanceMethod yX1_read ∈ wsL_law := (xin_25 _ (List.mem_of_getElem? (i := 17) rfl))
theorem xs_X1_read : Cond.selects yX1_read.cls yX1_read yX1_read ∈ wsL_law := (xin_25 _ (List.mem_of_getElem? (i := 18) rfl))
theorem fF_X3_236 : xF RX3 236 2 4 (.object "ModemLink$Dictionary") true := ⟨RX1, TX1, 11, tyX1, rfl, by decide, (xin_25 _ (List.mem_of_getElem? (i := 4) rfl)), rfl, inlX1, tyX1_ok, nmX1, rfl, rfl⟩
theorem fF_X3_239 : xF RX3 239 1 1 .int false := ⟨RX0, TX0, 2, tyX0, rfl, by decide, (xin_25 _ (List.mem_of_getElem? (i := 5) rfl)), rfl, inlX0, tyX0_ok, nmX0, rfl, rfl⟩
theorem dX3_acceptFrame_0 : decode cX3_acceptFrame 0 = .ok (.aload_n 0, 1) := by decide +kernel
theorem dX3_acceptFrame_1 : decode cX3_acceptFrame 1 = .ok (.iload_n 1, 1) := by decide +kernel
theorem dX3_acceptFrame_2 : decode cX3_acceptFrame 2 = .ok (.invokevirtual 226, 3) := by decide +kernel
theorem dX3_acceptFrame_5 : decode cX3_acceptFrame 5 = .ok (.getfield 120, 3) := by decide +kernel
theorem dX3_acceptFrame_8 : decode cX3_acceptFrame 8 = .ok (.astore 4, 2) := by decide +kernel
theorem dX3_acceptFrame_10 : decode cX3_acceptFrame 10 = .ok (.aload_n 0, 1) := by decide +kernel
theorem dX3_acceptFrame_11 : decode cX3_acceptFrame 11 = .ok (.iconst 1, 1) := by decide +kernel
theorem dX3_acceptFrame_12 : decode cX3_acceptFrame 12 = .ok (.iload_n 1, 1) := by decide +kernel
theorem dX3_acceptFrame_13 : decode cX3_acceptFrame 13 = .ok (.isub, 1) := by decide +kernel
theorem dX3_acceptFrame_14 : decode cX3_acceptFrame 14 = .ok (.invokevirtual 226, 3) := by decide +kernel
theorem dX3_acceptFrame_17 : decode cX3_acceptFrame 17 = .ok (.astore 5, 2) := by decide +kernel
theorem dX3_acceptFrame_19 : decode cX3_acceptFrame 19 = .ok (.iload_n 2, 1) := by decide +kernel
theorem dX3_acceptFrame_20 : decode cX3_acceptFrame 20 = .ok (.aload 4, 2) := by decide +kernel
theorem dX3_acceptFrame_22 : decode cX3_acceptFrame 22 = .ok (.getfield 230, 3) := by decide +kernel
theorem dX3_acceptFrame_25 : decode cX3_acceptFrame 25 = .ok (.isub, 1) := by decide +kernel
theorem dX3_acceptFrame_26 : decode cX3_acceptFrame 26 = .ok (.istore 6, 2) := by decide +kernel
theorem dX3_acceptFrame_28 : decode cX3_acceptFrame 28 = .ok (.iload 6, 2) := by decide +kernel
theorem dX3_acceptFrame_30 : decode cX3_acceptFrame 30 = .ok (.ifCond .lt 17, 3) := by decide +kernel
theorem dX3_acceptFrame_33 : decode cX3_acceptFrame 33 = .ok (.iload 6, 2) := by decide +kernel
theorem dX3_acceptFrame_35 : decode cX3_acceptFrame 35 = .ok (.aload 4, 2) := by decide +kernel
theorem dX3_acceptFrame_37 : decode cX3_acceptFrame 37 = .ok (.getfield 124, 3) := by decide +kernel
theorem dX3_acceptFrame_40 : decode cX3_acceptFrame 40 = .ok (.if_icmp .ge 7, 3) := by decide +kernel
theorem dX3_acceptFrame_43 : decode cX3_acceptFrame 43 = .ok (.iconst 1, 1) := by decide +kernel
theorem dX3_acceptFrame_44 : decode cX3_acceptFrame 44 = .ok (.goto 4, 3) := by decide +kernel
theorem dX3_acceptFrame_47 : decode cX3_acceptFrame 47 = .ok (.iconst 0, 1) := by decide +kernel
theorem dX3_acceptFrame_48 : decode cX3_acceptFrame 48 = .ok (.istore 7, 2) := by decide +kernel
theorem dX3_acceptFrame_50 : decode cX3_acceptFrame 50 = .ok (.iload_n 3, 1) := by decide +kernel
theorem dX3_acceptFrame_51 : decode cX3_acceptFrame 51 = .ok (.iconst 2, 1) := by decide +kernel
theorem dX3_acceptFrame_52 : decode cX3_acceptFrame 52 = .ok (.iand, 1) := by decide +kernel
theorem dX3_acceptFrame_53 : decode cX3_acceptFrame 53 = .ok (.ifCond .ne 17, 3) := by decide +kernel
theorem dX3_acceptFrame_56 : decode cX3_acceptFrame 56 = .ok (.iload_n 2, 1) := by decide +kernel
theorem dX3_acceptFrame_57 : decode cX3_acceptFrame 57 = .ok (.aload 5, 2) := by decide +kernel
theorem dX3_acceptFrame_59 : decode cX3_acceptFrame 59 = .ok (.getfield 152, 3) := by decide +kernel
theorem dX3_acceptFrame_62 : decode cX3_acceptFrame 62 = .ok (.if_icmp .ne 8, 3) := by decide +kernel
theorem dX3_acceptFrame_65 : decode cX3_acceptFrame 65 = .ok (.iload 7, 2) := by decide +kernel
theorem dX3_acceptFrame_67 : decode cX3_acceptFrame 67 = .ok (.ifCond .ne 14, 3) := by decide +kernel
theorem dX3_acceptFrame_70 : decode cX3_acceptFrame 70 = .ok (.aload_n 0, 1) := by decide +kernel
theorem dX3_acceptFrame_71 : decode cX3_acceptFrame 71 = .ok (.getfield 35, 3) := by decide +kernel
theorem dX3_acceptFrame_74 : decode cX3_acceptFrame 74 = .ok (.iconst 2, 1) := by decide +kernel
theorem dX3_acceptFrame_75 : decode cX3_acceptFrame 75 = .ok (.dup2, 1) := by decide +kernel
theorem dX3_acceptFrame_76 : decode cX3_acceptFrame 76 = .ok (.iaload, 1) := by decide +kernel
theorem dX3_acceptFrame_77 : decode cX3_acceptFrame 77 = .ok (.iconst 1, 1) := by decide +kernel
theorem dX3_acceptFrame_78 : decode cX3_acceptFrame 78 = .ok (.iadd, 1) := by decide +kernel
theorem dX3_acceptFrame_79 : decode cX3_acceptFrame 79 = .ok (.iastore, 1) := by decide +kernel
theorem dX3_acceptFrame_80 : decode cX3_acceptFrame 80 = .ok (.return_, 1) := by decide +kernel
theorem dX3_acceptFrame_81 : decode cX3_acceptFrame 81 = .ok (.iload_n 3, 1) := by decide +kernel
theorem dX3_acceptFrame_82 : decode cX3_acceptFrame 82 = .ok (.iconst 4, 1) := by decide +kernel
theorem dX3_acceptFrame_83 : decode cX3_acceptFrame 83 = .ok (.iand, 1) := by decide +kernel
theorem dX3_acceptFrame_84 : decode cX3_acceptFrame 84 = .ok (.ifCond .eq 7, 3) := by decide +kernel
theorem dX3_acceptFrame_87 : decode cX3_acceptFrame 87 = .ok (.iconst 1, 1) := by decide +kernel
theorem dX3_acceptFrame_88 : decode cX3_acceptFrame 88 = .ok (.goto 4, 3) := by decide +kernel
theorem dX3_acceptFrame_91 : decode cX3_acceptFrame 91 = .ok (.iconst 0, 1) := by decide +kernel
theorem dX3_acceptFrame_92 : decode cX3_acceptFrame 92 = .ok (.istore 8, 2) := by decide +kernel
theorem dX3_acceptFrame_94 : decode cX3_acceptFrame 94 = .ok (.iload 8, 2) := by decide +kernel
theorem dX3_acceptFrame_96 : decode cX3_acceptFrame 96 = .ok (.ifCond .eq 12, 3) := by decide +kernel
theorem dX3_acceptFrame_99 : decode cX3_acceptFrame 99 = .ok (.aload 5, 2) := by decide +kernel
theorem dX3_acceptFrame_101 : decode cX3_acceptFrame 101 = .ok (.getfield 236, 3) := by decide +kernel
theorem dX3_acceptFrame_104 : decode cX3_acceptFrame 104 = .ok (.iconst 0, 1) := by decide +kernel
theorem dX3_acceptFrame_105 : decode cX3_acceptFrame 105 = .ok (.putfield 239, 3) := by decide +kernel
theorem dX3_acceptFrame_108 : decode cX3_acceptFrame 108 = .ok (.aload 4, 2) := by decide +kernel
theorem dX3_acceptFrame_110 : decode cX3_acceptFrame 110 = .ok (.iload 6, 2) := by decide +kernel
theorem dX3_acceptFrame_112 : decode cX3_acceptFrame 112 = .ok (.invokevirtual 240, 3) := by decide +kernel
theorem dX3_acceptFrame_115 : decode cX3_acceptFrame 115 = .ok (.istore 9, 2) := by decide +kernel
theorem dX3_acceptFrame_117 : decode cX3_acceptFrame 117 = .ok (.iconst 0, 1) := by decide +kernel
theorem dX3_acceptFrame_118 : decode cX3_acceptFrame 118 = .ok (.istore 10, 2) := by decide +kernel
theorem dX3_acceptFrame_120 : decode cX3_acceptFrame 120 = .ok (.iload 10, 2) := by decide +kernel
theorem dX3_acceptFrame_122 : decode cX3_acceptFrame 122 = .ok (.aload 4, 2) := by decide +kernel
theorem dX3_acceptFrame_124 : decode cX3_acceptFrame 124 = .ok (.getfield 243, 3) := by decide +kernel
theorem dX3_acceptFrame_127 : decode cX3_acceptFrame 127 = .ok (.iload 9, 2) := by decide +kernel
theorem dX3_acceptFrame_129 : decode cX3_acceptFrame 129 = .ok (.iaload, 1) := by decide +kernel
theorem dX3_acceptFrame_130 : decode cX3_acceptFrame 130 = .ok (.if_icmp .ge 35, 3) := by decide +kernel
theorem dX3_acceptFrame_133 : decode cX3_acceptFrame 133 = .ok (.iload 10, 2) := by decide +kernel
theorem dX3_acceptFrame_135 : decode cX3_acceptFrame 135 = .ok (.bipush 8, 2) := by decide +kernel
theorem dX3_acceptFrame_137 : decode cX3_acceptFrame 137 = .ok (.if_icmp .ge 28, 3) := by decide +kernel
theorem dX3_acceptFrame_140 : decode cX3_acceptFrame 140 = .ok (.aload 5, 2) := by decide +kernel
theorem dX3_acceptFrame_142 : decode cX3_acceptFrame 142 = .ok (.aload 4, 2) := by decide +kernel
theorem dX3_acceptFrame_144 : decode cX3_acceptFrame 144 = .ok (.getfield 246, 3) := by decide +kernel
theorem dX3_acceptFrame_147 : decode cX3_acceptFrame 147 = .ok (.iload 9, 2) := by decide +kernel
theorem dX3_acceptFrame_149 : decode cX3_acceptFrame 149 = .ok (.bipush 8, 2) := by decide +kernel
theorem dX3_acceptFrame_151 : decode cX3_acceptFrame 151 = .ok (.imul, 1) := by decide +kernel
theorem dX3_acceptFrame_152 : decode cX3_acceptFrame 152 = .ok (.iload 10, 2) := by decide +kernel
theorem dX3_acceptFrame_154 : decode cX3_acceptFrame 154 = .ok (.iadd, 1) := by decide +kernel
theorem dX3_acceptFrame_155 : decode cX3_acceptFrame 155 = .ok (.iaload, 1) := by decide +kernel
theorem dX3_acceptFrame_156 : decode cX3_acceptFrame 156 = .ok (.invokevirtual 249, 3) := by decide +kernel
theorem dX3_acceptFrame_159 : decode cX3_acceptFrame 159 = .ok (.iinc 10 1, 3) := by decide +kernel
theorem dX3_acceptFrame_162 : decode cX3_acceptFrame 162 = .ok (.goto (-42), 3) := by decide +kernel
theorem dX3_acceptFrame_165 : decode cX3_acceptFrame 165 = .ok (.aload_n 0, 1) := by decide +kernel
theorem dX3_acceptFrame_166 : decode cX3_acceptFrame 166 = .ok (.getfield 35, 3) := by decide +kernel
theorem dX3_acceptFrame_169 : decode cX3_acceptFrame 169 = .ok (.bipush 10, 2) := by decide +kernel
theorem dX3_acceptFrame_171 : decode cX3_acceptFrame 171 = .ok (.dup2, 1) := by decide +kernel
theorem dX3_acceptFrame_172 : decode cX3_acceptFrame 172 = .ok (.iaload, 1) := by decide +kernel
theorem dX3_acceptFrame_173 : decode cX3_acceptFrame 173 = .ok (.aload 4, 2) := by decide +kernel
theorem dX3_acceptFrame_175 : decode cX3_acceptFrame 175 = .ok (.getfield 243, 3) := by decide +kernel
theorem dX3_acceptFrame_178 : decode cX3_acceptFrame 178 = .ok (.iload 9, 2) := by decide +kernel
theorem dX3_acceptFrame_180 : decode cX3_acceptFrame 180 = .ok (.iaload, 1) := by decide +kernel
theorem dX3_acceptFrame_181 : decode cX3_acceptFrame 181 = .ok (.iadd, 1) := by decide +kernel
theorem dX3_acceptFrame_182 : decode cX3_acceptFrame 182 = .ok (.iastore, 1) := by decide +kernel
theorem dX3_acceptFrame_183 : decode cX3_acceptFrame 183 = .ok (.aload 5, 2) := by decide +kernel
theorem dX3_acceptFrame_185 : decode cX3_acceptFrame 185 = .ok (.dup, 1) := by decide +kernel
theorem dX3_acceptFrame_186 : decode cX3_acceptFrame 186 = .ok (.getfield 152, 3) := by decide +kernel
theorem dX3_acceptFrame_189 : decode cX3_acceptFrame 189 = .ok (.iconst 1, 1) := by decide +kernel
theorem dX3_acceptFrame_190 : decode cX3_acceptFrame 190 = .ok (.iadd, 1) := by decide +kernel
theorem dX3_acceptFrame_191 : decode cX3_acceptFrame 191 = .ok (.putfield 152, 3) := by decide +kernel
theorem dX3_acceptFrame_194 : decode cX3_acceptFrame 194 = .ok (.aload_n 0, 1) := by decide +kernel
theorem dX3_acceptFrame_195 : decode cX3_acceptFrame 195 = .ok (.getfield 24, 3) := by decide +kernel
theorem dX3_acceptFrame_198 : decode cX3_acceptFrame 198 = .ok (.aload_n 0, 1) := by decide +kernel
theorem dX3_acceptFrame_199 : decode cX3_acceptFrame 199 = .ok (.getfield 61, 3) := by decide +kernel
theorem dX3_acceptFrame_202 : decode cX3_acceptFrame 202 = .ok (.iconst 1, 1) := by decide +kernel
theorem dX3_acceptFrame_203 : decode cX3_acceptFrame 203 = .ok (.iload_n 1, 1) := by decide +kernel
theorem dX3_acceptFrame_204 : decode cX3_acceptFrame 204 = .ok (.isub, 1) := by decide +kernel
theorem dX3_acceptFrame_205 : decode cX3_acceptFrame 205 = .ok (.iload_n 2, 1) := by decide +kernel
theorem dX3_acceptFrame_206 : decode cX3_acceptFrame 206 = .ok (.iconst 1, 1) := by decide +kernel
theorem dX3_acceptFrame_207 : decode cX3_acceptFrame 207 = .ok (.invokevirtual 252, 3) := by decide +kernel
theorem dX3_acceptFrame_210 : decode cX3_acceptFrame 210 = .ok (.iload 8, 2) := by decide +kernel
theorem dX3_acceptFrame_212 : decode cX3_acceptFrame 212 = .ok (.ifCond .eq 12, 3) := by decide +kernel
theorem dX3_acceptFrame_215 : decode cX3_acceptFrame 215 = .ok (.aload_n 0, 1) := by decide +kernel
theorem dX3_acceptFrame_216 : decode cX3_acceptFrame 216 = .ok (.bipush 7, 2) := by decide +kernel
theorem dX3_acceptFrame_218 : decode cX3_acceptFrame 218 = .ok (.iconst 1, 1) := by decide +kernel
theorem dX3_acceptFrame_219 : decode cX3_acceptFrame 219 = .ok (.iload_n 1, 1) := by decide +kernel
theorem dX3_acceptFrame_220 : decode cX3_acceptFrame 220 = .ok (.isub, 1) := by decide +kernel
theorem dX3_acceptFrame_221 : decode cX3_acceptFrame 221 = .ok (.invokevirtual 179, 3) := by decide +kernel
theorem dX3_acceptFrame_224 : decode cX3_acceptFrame 224 = .ok (.return_, 1) := by decide +kernel
def f_L_frame_70 (e : Int) (b : Int) (z : Int) (m : xM) : Option (xM) :=
     (if xib 2 11 then (if xib 2 11 then some (xu m 30 2 ((m 30 2) + 1))
      else none)
      else none)
set_option maxRecDepth 1000000 in
set_option maxHeartbeats 4000000 in
theorem t_L_frame_70 {Γ : xG} {d : Nat} (hd9 : 3 ≤ d) (C : xC Γ lay_L0 RX3 cX3_acceptFrame 11 d) (e : Int) (b : Int) (z : Int) (e_e : xw e = 0) {m9 : xM} (hR : xRv Γ lay_L0 cX3_acceptFrame m9) (m : xM) (h : f_L_frame_70 e b z m = some m9) : xW Γ lay_L0 11 70 [(0, .inr (.inr (some 0)))] [] m := by
  unfold f_L_frame_70 at h
  refine x_aload_n C dX3_acceptFrame_70 rfl ?_
  refine x_getR C dX3_acceptFrame_71 fF_X3_35 rfl rfl ?_
  refine x_iconst C dX3_acceptFrame_74 ?_
  refine x_dup2 C dX3_acceptFrame_75 rfl rfl ?_
  refine x_iaload C dX3_acceptFrame_76 rfl h (fun h => ?_)
  refine x_iconst C dX3_acceptFrame_77 ?_
  refine x_iadd C dX3_acceptFrame_78 ?_
  refine x_iastore C dX3_acceptFrame_79 rfl h (fun h => ?_)
  exact x_returnV hR dX3_acceptFrame_80 h
def f_L_frame_194 (e : Int) (b : Int) (z : Int) (x8 : Int) (m : xM) : Option (xM) :=
     (Option.bind (f_W_put (m 0 7) (1 - e) b 1 (xvw [23, 24, 25, 26, 27] m)) fun q3 =>
      (if xw x8 = 0 then some (xmg [23, 24, 25, 26, 27] 5 m q3)
      else (Option.bind (f_L_note 7 (1 - e) (xmg [23, 24, 25, 26, 27] 5 m q3)) fun q4 =>
      some q4)))
set_option maxRecDepth 1000000 in
set_option maxHeartbeats 4000000 in
theorem t_L_frame_194 {Γ : xG} {d : Nat} (hd9 : 3 ≤ d) (C : xC Γ lay_L0 RX3 cX3_acceptFrame 11 d) (e : Int) (b : Int) (z : Int) (e_e : xw e = 0) {m9 : xM} (hR : xRv Γ lay_L0 cX3_acceptFrame m9) (x8 : Int) (m : xM) (h : f_L_frame_194 e b z x8 m = some m9) : xW Γ lay_L0 11 194 [(0, .inr (.inr (some 0))), (1, .inl e), (2, .inl b), (8, .inl x8)] [] m := by
  unfold f_L_frame_194 at h
  refine x_aload_n C dX3_acceptFrame_194 rfl ?_
  refine x_getR C dX3_acceptFrame_195 fF_X3_24 rfl rfl ?_
  refine x_aload_n C dX3_acceptFrame_198 rfl ?_
  refine x_getI C dX3_acceptFrame_199 fF_X3_61 rfl rfl ?_
  refine x_iconst C dX3_acceptFrame_202 ?_
  refine x_iload_n C dX3_acceptFrame_203 rfl ?_
  refine x_isub C dX3_acceptFrame_204 ?_
  refine x_iload_n C dX3_acceptFrame_205 rfl ?_
  refine x_iconst C dX3_acceptFrame_206 ?_
  obtain ⟨q3, hq3, h⟩ := x_bind h
  refine x_callV C dX3_acceptFrame_207 (xin_26 _ (List.mem_of_getElem? (i := 1) rfl)) xy_X9_put (xi_X9_put) (xs_X9_put) [23, 24, 25, 26, 27] xv_25 (by omega) (by decide) (b := 0) rfl ⟨_, _, rfl⟩ (av := [.inl (m 0 7), .inl (1 - e), .inl b, .inl 1]) rfl (Nat.le_of_ble_eq_true rfl) (c_W_put _ _ _ _ _ _ _ hq3) rfl ?_
  refine x_iload C dX3_acceptFrame_210 rfl ?_
  refine x_if_eq C 224 dX3_acceptFrame_212 (by decide) h (fun h => ?_) (fun h => ?_)
  · exact x_returnV hR dX3_acceptFrame_224 h
  · refine x_aload_n C dX3_acceptFrame_215 rfl ?_
    refine x_bipush C dX3_acceptFrame_216 (by decide) ?_
    refine x_iconst C dX3_acceptFrame_218 ?_
    refine x_iload_n C dX3_acceptFrame_219 rfl ?_
    refine x_isub C dX3_acceptFrame_220 ?_
    obtain ⟨q4, hq4, h⟩ := x_bind h
    refine x_callVI C dX3_acceptFrame_221 (xin_22 _ (List.mem_of_getElem? (i := 3) rfl)) xy_X3_note (xi_X3_note) (xs_X3_note) (by omega) (by decide) (b := 0) rfl ⟨_, _, rfl⟩ (av := [.inl 7, .inl (1 - e)]) rfl (Nat.le_of_ble_eq_true rfl) (c_L_note _ _ _ _ _ hq4) rfl ?_
    exact x_returnV hR dX3_acceptFrame_224 h
def f_L_frame_165 (e : Int) (b : Int) (z : Int) (x8 : Int) (x9 : Int) (m : xM) : Option (xM) :=
     (if xib 10 11 then (if xib x9 7 then (if xib 10 11 then f_L_frame_194 e b z x8 (xu (xu m 30 10 ((m 30 10) + (m 6 (xix x9)))) 12 7 ((m 12 7) + 1))
      else none)
      else none)
      else none)
set_option maxRecDepth 1000000 in
set_option maxHeartbeats 4000000 in
theorem t_L_frame_165 {Γ : xG} {d : Nat} (hd9 : 3 ≤ d) (C : xC Γ lay_L0 RX3 cX3_acceptFrame 11 d) (e : Int) (b : Int) (z : Int) (e_e : xw e = 0) {m9 : xM} (hR : xRv Γ lay_L0 cX3_acceptFrame m9) (x8 : Int) (x9 : Int) (m : xM) (h : f_L_frame_165 e b z x8 x9 m = some m9) : xW Γ lay_L0 11 165 [(0, .inr (.inr (some 0))), (1, .inl e), (2, .inl b), (4, .inr (.inr (some 4))), (5, .inr (.inr (some 12))), (8, .inl x8), (9, .inl x9)] [] m := by
  unfold f_L_frame_165 at h
  refine x_aload_n C dX3_acceptFrame_165 rfl ?_
  refine x_getR C dX3_acceptFrame_166 fF_X3_35 rfl rfl ?_
  refine x_bipush C dX3_acceptFrame_169 (by decide) ?_
  refine x_dup2 C dX3_acceptFrame_171 rfl rfl ?_
  refine x_iaload C dX3_acceptFrame_172 rfl h (fun h => ?_)
  refine x_aload C dX3_acceptFrame_173 rfl ?_
  refine x_getR C dX3_acceptFrame_175 fF_X3_243 rfl rfl ?_
  refine x_iload C dX3_acceptFrame_178 rfl ?_
  refine x_iaload C dX3_acceptFrame_180 rfl h (fun h => ?_)
  refine x_iadd C dX3_acceptFrame_181 ?_
  refine x_iastore C dX3_acceptFrame_182 rfl h (fun h => ?_)
  refine x_aload C dX3_acceptFrame_183 rfl ?_
  refine x_dup C dX3_acceptFrame_185 rfl ?_
  refine x_getI C dX3_acceptFrame_186 fF_X3_152 rfl rfl ?_
  refine x_iconst C dX3_acceptFrame_189 ?_
  refine x_iadd C dX3_acceptFrame_190 ?_
  refine x_putI C dX3_acceptFrame_191 fF_X3_152 rfl rfl ?_
  refine x_loc [(0, .inr (.inr (some 0))), (1, .inl e), (2, .inl b), (8, .inl x8)] ⟨rfl, rfl, rfl, rfl, trivial⟩ ?_
  exact t_L_frame_194 hd9 C _ _ _ e_e hR _ _ h
def f_L_frame_120 (e : Int) (b : Int) (z : Int) : Nat → Int → Int → Int → xM → Option (xM)
  | 0, _, _, _, _ => none
  | n + 1, x8, x9, x10, m =>
     (if xib x9 7 then (if xw x10 < xw (m 6 (xix x9)) then (if xw x10 < xw 8 then (if xib ((x9 * 8) + x10) 56 then (Option.bind (f_E_read (m 5 (xix ((x9 * 8) + x10))) (xvw [12, 13, 14, 15, 16, 17, 18, 19, 20, 21, 22] m)) fun q5 =>
      f_L_frame_120 e b z n x8 x9 (x10 + 1) (xmg [12, 13, 14, 15, 16, 17, 18, 19, 20, 21, 22] 11 m q5))
      else none)
      else f_L_frame_165 e b z x8 x9 m)
      else f_L_frame_165 e b z x8 x9 m)
      else none)
set_option maxRecDepth 1000000 in
set_option maxHeartbeats 4000000 in
theorem t_L_frame_120 {Γ : xG} {d : Nat} (hd9 : 3 ≤ d) (C : xC Γ lay_L0 RX3 cX3_acceptFrame 11 d) (e : Int) (b : Int) (z : Int) (e_e : xw e = 0) {m9 : xM} (hR : xRv Γ lay_L0 cX3_acceptFrame m9) : ∀ (n : Nat) (x8 : Int) (x9 : Int) (x10 : Int) (m : xM), f_L_frame_120 e b z n x8 x9 x10 m = some m9 → xW Γ lay_L0 11 120 [(0, .inr (.inr (some 0))), (1, .inl e), (2, .inl b), (4, .inr (.inr (some 4))), (5, .inr (.inr (some 12))), (8, .inl x8), (9, .inl x9), (10, .inl x10)] [] m := by
  intro n
  induction n with
  | zero => intro _ _ _ _ h; cases h
  | succ n ih =>
    intro x8 x9 x10 m h
    rw [f_L_frame_120] at h
    refine x_iload C dX3_acceptFrame_120 rfl ?_
    refine x_aload C dX3_acceptFrame_122 rfl ?_
    refine x_getR C dX3_acceptFrame_124 fF_X3_243 rfl rfl ?_
    refine x_iload C dX3_acceptFrame_127 rfl ?_
    refine x_iaload C dX3_acceptFrame_129 rfl h (fun h => ?_)
    refine x_icmp_ge C 165 dX3_acceptFrame_130 (by decide) h (fun h => ?_) (fun h => ?_)
    · refine x_loc [(0, .inr (.inr (some 0))), (1, .inl e), (2, .inl b), (4, .inr (.inr (some 4))), (5, .inr (.inr (some 12))), (8, .inl x8), (9, .inl x9)] ⟨rfl, rfl, rfl, rfl, rfl, rfl, rfl, trivial⟩ ?_
      exact t_L_frame_165 hd9 C _ _ _ e_e hR _ _ _ h
    · refine x_iload C dX3_acceptFrame_133 rfl ?_
      refine x_bipush C dX3_acceptFrame_135 (by decide) ?_
      refine x_icmp_ge C 165 dX3_acceptFrame_137 (by decide) h (fun h => ?_) (fun h => ?_)
      · refine x_loc [(0, .inr (.inr (some 0))), (1, .inl e), (2, .inl b), (4, .inr (.inr (some 4))), (5, .inr (.inr (some 12))), (8, .inl x8), (9, .inl x9)] ⟨rfl, rfl, rfl, rfl, rfl, rfl, rfl, trivial⟩ ?_
        exact t_L_frame_165 hd9 C _ _ _ e_e hR _ _ _ h
      · refine x_aload C dX3_acceptFrame_140 rfl ?_
        refine x_aload C dX3_acceptFrame_142 rfl ?_
        refine x_getR C dX3_acceptFrame_144 fF_X3_246 rfl rfl ?_
        refine x_iload C dX3_acceptFrame_147 rfl ?_
        refine x_bipush C dX3_acceptFrame_149 (by decide) ?_
        refine x_imul C dX3_acceptFrame_151 ?_
        refine x_iload C dX3_acceptFrame_152 rfl ?_
        refine x_iadd C dX3_acceptFrame_154 ?_
        refine x_iaload C dX3_acceptFrame_155 rfl h (fun h => ?_)
        obtain ⟨q5, hq5, h⟩ := x_bind h
        refine x_callV C dX3_acceptFrame_156 (xin_25 _ (List.mem_of_getElem? (i := 16) rfl)) xy_X1_read (xi_X1_read) (xs_X1_read) [12, 13, 14, 15, 16, 17, 18, 19, 20, 21, 22] xv_15 (by omega) (by decide) (b := 0) rfl ⟨_, _, rfl⟩ (av := [.inl (m 5 (xix ((x9 * 8) + x10)))]) rfl (Nat.le_of_ble_eq_true rfl) (c_E_read _ _ _ _ hq5) rfl ?_
        refine x_iinc C dX3_acceptFrame_159 (by decide) rfl ?_
        refine x_goto C 120 dX3_acceptFrame_162 (by decide) ?_
        refine x_loc [(0, .inr (.inr (some 0))), (1, .inl e), (2, .inl b), (4, .inr (.inr (some 4))), (5, .inr (.inr (some 12))), (8, .inl x8), (9, .inl x9), (10, .inl (x10 + 1))] ⟨rfl, rfl, rfl, rfl, rfl, rfl, rfl, rfl, trivial⟩ ?_
        exact ih _ _ _ _ h
def f_L_frame_108 (e : Int) (b : Int) (z : Int) (x6 : Int) (x8 : Int) (m : xM) : Option (xM) :=
     (Option.bind (f_F_slot x6 (xvw [4, 5, 6, 7] m)) fun q2 =>
      f_L_frame_120 e b z fu x8 q2 0 m)
set_option maxRecDepth 1000000 in
set_option maxHeartbeats 4000000 in
theorem t_L_frame_108 {Γ : xG} {d : Nat} (hd9 : 3 ≤ d) (C : xC Γ lay_L0 RX3 cX3_acceptFrame 11 d) (e : Int) (b : Int) (z : Int) (e_e : xw e = 0) {m9 : xM} (hR : xRv Γ lay_L0 cX3_acceptFrame m9) (x6 : Int) (x8 : Int) (m : xM) (h : f_L_frame_108 e b z x6 x8 m = some m9) : xW Γ lay_L0 11 108 [(0, .inr (.inr (some 0))), (1, .inl e), (2, .inl b), (4, .inr (.inr (some 4))), (5, .inr (.inr (some 12))), (6, .inl x6), (8, .inl x8)] [] m := by
  unfold f_L_frame_108 at h
  refine x_aload C dX3_acceptFrame_108 rfl ?_
  refine x_iload C dX3_acceptFrame_110 rfl ?_
  obtain ⟨q2, hq2, h⟩ := x_bind h
  refine x_callVp C dX3_acceptFrame_112 (xin_25 _ (List.mem_of_getElem? (i := 8) rfl)) xy_X2_slotOf (xi_X2_slotOf) (xs_X2_slotOf) [4, 5, 6, 7] xv_19 (by omega) (by decide) (b := 0) rfl ⟨_, _, rfl⟩ (av := [.inl x6]) rfl (Nat.le_of_ble_eq_true rfl) (c_F_slot _ _ _ _ hq2) rfl ?_
  refine x_istore C dX3_acceptFrame_115 (by decide) ?_
  refine x_iconst C dX3_acceptFrame_117 ?_
  refine x_istore C dX3_acceptFrame_118 (by decide) ?_
  refine x_loc [(0, .inr (.inr (some 0))), (1, .inl e), (2, .inl b), (4, .inr (.inr (some 4))), (5, .inr (.inr (some 12))), (8, .inl x8), (9, .inl q2), (10, .inl 0)] ⟨rfl, rfl, rfl, rfl, rfl, rfl, rfl, rfl, trivial⟩ ?_
  exact t_L_frame_120 hd9 C _ _ _ e_e hR fu _ _ _ _ h
def f_L_frame_92 (e : Int) (b : Int) (z : Int) (x6 : Int) (s0 : Int) (m : xM) : Option (xM) :=
     (if xw s0 = 0 then f_L_frame_108 e b z x6 s0 m
      else f_L_frame_108 e b z x6 s0 (xu m 21 1 0))
set_option maxRecDepth 1000000 in
set_option maxHeartbeats 4000000 in
theorem t_L_frame_92 {Γ : xG} {d : Nat} (hd9 : 3 ≤ d) (C : xC Γ lay_L0 RX3 cX3_acceptFrame 11 d) (e : Int) (b : Int) (z : Int) (e_e : xw e = 0) {m9 : xM} (hR : xRv Γ lay_L0 cX3_acceptFrame m9) (x6 : Int) (s0 : Int) (m : xM) (h : f_L_frame_92 e b z x6 s0 m = some m9) : xW Γ lay_L0 11 92 [(0, .inr (.inr (some 0))), (1, .inl e), (2, .inl b), (4, .inr (.inr (some 4))), (5, .inr (.inr (some 12))), (6, .inl x6)] [.inl s0] m := by
  unfold f_L_frame_92 at h
  refine x_istore C dX3_acceptFrame_92 (by decide) ?_
  refine x_iload C dX3_acceptFrame_94 rfl ?_
  refine x_if_eq C 108 dX3_acceptFrame_96 (by decide) h (fun h => ?_) (fun h => ?_)
  · refine x_loc [(0, .inr (.inr (some 0))), (1, .inl e), (2, .inl b), (4, .inr (.inr (some 4))), (5, .inr (.inr (some 12))), (6, .inl x6), (8, .inl s0)] ⟨rfl, rfl, rfl, rfl, rfl, rfl, rfl, trivial⟩ ?_
    exact t_L_frame_108 hd9 C _ _ _ e_e hR _ _ _ h
  · refine x_aload C dX3_acceptFrame_99 rfl ?_
    refine x_getR C dX3_acceptFrame_101 fF_X3_236 rfl rfl ?_
    refine x_iconst C dX3_acceptFrame_104 ?_
    refine x_putI C dX3_acceptFrame_105 fF_X3_239 rfl rfl ?_
    refine x_loc [(0, .inr (.inr (some 0))), (1, .inl e), (2, .inl b), (4, .inr (.inr (some 4))), (5, .inr (.inr (some 12))), (6, .inl x6), (8, .inl s0)] ⟨rfl, rfl, rfl, rfl, rfl, rfl, rfl, trivial⟩ ?_
    exact t_L_frame_108 hd9 C _ _ _ e_e hR _ _ _ h
def f_L_frame_48 (e : Int) (b : Int) (z : Int) (x6 : Int) (s0 : Int) (m : xM) : Option (xM) :=
     (if xw (xiand z 2) = 0 then (if xw b = xw (m 12 7) then (if xw s0 = 0 then f_L_frame_70 e b z m
      else (if xw (xiand z 4) = 0 then f_L_frame_92 e b z x6 0 m
      else f_L_frame_92 e b z x6 1 m))
      else f_L_frame_70 e b z m)
      else f_L_frame_70 e b z m)
set_option maxRecDepth 1000000 in
set_option maxHeartbeats 4000000 in
theorem t_L_frame_48 {Γ : xG} {d : Nat} (hd9 : 3 ≤ d) (C : xC Γ lay_L0 RX3 cX3_acceptFrame 11 d) (e : Int) (b : Int) (z : Int) (e_e : xw e = 0) {m9 : xM} (hR : xRv Γ lay_L0 cX3_acceptFrame m9) (x6 : Int) (s0 : Int) (m : xM) (h : f_L_frame_48 e b z x6 s0 m = some m9) : xW Γ lay_L0 11 48 [(0, .inr (.inr (some 0))), (1, .inl e), (2, .inl b), (3, .inl z), (4, .inr (.inr (some 4))), (5, .inr (.inr (some 12))), (6, .inl x6)] [.inl s0] m := by
  unfold f_L_frame_48 at h
  refine x_istore C dX3_acceptFrame_48 (by decide) ?_
  refine x_iload_n C dX3_acceptFrame_50 rfl ?_
  refine x_iconst C dX3_acceptFrame_51 ?_
  refine x_iand C dX3_acceptFrame_52 ?_
  refine x_if_ne C 70 dX3_acceptFrame_53 (by decide) h (fun h => ?_) (fun h => ?_)
  · refine x_loc [(0, .inr (.inr (some 0)))] ⟨rfl, trivial⟩ ?_
    exact t_L_frame_70 hd9 C _ _ _ e_e hR _ h
  · refine x_iload_n C dX3_acceptFrame_56 rfl ?_
    refine x_aload C dX3_acceptFrame_57 rfl ?_
    refine x_getI C dX3_acceptFrame_59 fF_X3_152 rfl rfl ?_
    refine x_icmp_ne C 70 dX3_acceptFrame_62 (by decide) h (fun h => ?_) (fun h => ?_)
    · refine x_loc [(0, .inr (.inr (some 0)))] ⟨rfl, trivial⟩ ?_
      exact t_L_frame_70 hd9 C _ _ _ e_e hR _ h
    · refine x_iload C dX3_acceptFrame_65 rfl ?_
      refine x_if_ne C 81 dX3_acceptFrame_67 (by decide) h (fun h => ?_) (fun h => ?_)
      · refine x_iload_n C dX3_acceptFrame_81 rfl ?_
        refine x_iconst C dX3_acceptFrame_82 ?_
        refine x_iand C dX3_acceptFrame_83 ?_
        refine x_if_eq C 91 dX3_acceptFrame_84 (by decide) h (fun h => ?_) (fun h => ?_)
        · refine x_iconst C dX3_acceptFrame_91 ?_
          refine x_loc [(0, .inr (.inr (some 0))), (1, .inl e), (2, .inl b), (4, .inr (.inr (some 4))), (5, .inr (.inr (some 12))), (6, .inl x6)] ⟨rfl, rfl, rfl, rfl, rfl, rfl, trivial⟩ ?_
          exact t_L_frame_92 hd9 C _ _ _ e_e hR _ _ _ h
        · refine x_iconst C dX3_acceptFrame_87 ?_
          refine x_goto C 92 dX3_acceptFrame_88 (by decide) ?_
          refine x_loc [(0, .inr (.inr (some 0))), (1, .inl e), (2, .inl b), (4, .inr (.inr (some 4))), (5, .inr (.inr (some 12))), (6, .inl x6)] ⟨rfl, rfl, rfl, rfl, rfl, rfl, trivial⟩ ?_
          exact t_L_frame_92 hd9 C _ _ _ e_e hR _ _ _ h
      · refine x_loc [(0, .inr (.inr (some 0)))] ⟨rfl, trivial⟩ ?_
        exact t_L_frame_70 hd9 C _ _ _ e_e hR _ h
def f_L_frame_47 (e : Int) (b : Int) (z : Int) (x6 : Int) (m : xM) : Option (xM) :=
     f_L_frame_48 e b z x6 0 m
set_option maxRecDepth 1000000 in
set_option maxHeartbeats 4000000 in
theorem t_L_frame_47 {Γ : xG} {d : Nat} (hd9 : 3 ≤ d) (C : xC Γ lay_L0 RX3 cX3_acceptFrame 11 d) (e : Int) (b : Int) (z : Int) (e_e : xw e = 0) {m9 : xM} (hR : xRv Γ lay_L0 cX3_acceptFrame m9) (x6 : Int) (m : xM) (h : f_L_frame_47 e b z x6 m = some m9) : xW Γ lay_L0 11 47 [(0, .inr (.inr (some 0))), (1, .inl e), (2, .inl b), (3, .inl z), (4, .inr (.inr (some 4))), (5, .inr (.inr (some 12))), (6, .inl x6)] [] m := by
  unfold f_L_frame_47 at h
  refine x_iconst C dX3_acceptFrame_47 ?_
  refine x_loc [(0, .inr (.inr (some 0))), (1, .inl e), (2, .inl b), (3, .inl z), (4, .inr (.inr (some 4))), (5, .inr (.inr (some 12))), (6, .inl x6)] ⟨rfl, rfl, rfl, rfl, rfl, rfl, rfl, trivial⟩ ?_
  exact t_L_frame_48 hd9 C _ _ _ e_e hR _ _ _ h
def f_L_frame (e : Int) (b : Int) (z : Int) (m : xM) : Option (xM) :=
     (if xw (b - (m 4 3)) < 0 then f_L_frame_47 e b z (b - (m 4 3)) m
      else (if xw (b - (m 4 3)) < xw (m 4 4) then f_L_frame_48 e b z (b - (m 4 3)) 1 m
      else f_L_frame_47 e b z (b - (m 4 3)) m))
set_option maxRecDepth 1000000 in
set_option maxHeartbeats 4000000 in
theorem t_L_frame {Γ : xG} {d : Nat} (hd9 : 3 ≤ d) (C : xC Γ lay_L0 RX3 cX3_acceptFrame 11 d) (e : Int) (b : Int) (z : Int) (e_e : xw e = 0) {m9 : xM} (hR : xRv Γ lay_L0 cX3_acceptFrame m9) (m : xM) (h : f_L_frame e b z m = some m9) : xW Γ lay_L0 11 0 [(0, .inr (.inr (some 0))), (1, .inl e), (2, .inl b), (3, .inl z)] [] m := by
  unfold f_L_frame at h
  refine x_aload_n C dX3_acceptFrame_0 rfl ?_
  refine x_iload_n C dX3_acceptFrame_1 rfl ?_
  refine x_callVp C dX3_acceptFrame_2 (xin_24 _ (List.mem_of_getElem? (i := 19) rfl)) xy_X3_endOf (xi_X3_endOf) (xs_X3_endOf) [0, 33, 1, 12, 23, 28, 30, 31] xv_21 (by omega) (by decide) (b := 0) rfl ⟨_, _, rfl⟩ (av := [.inl e]) rfl (Nat.le_of_ble_eq_true rfl) (c_endOf0 _ _ _ (by first | decide | assumption | exact xw_1m0 (by assumption) | exact xw_1m1 (by assumption) | exact xw_ne1 (by assumption) | exact xw_n1m0 (by assumption))) rfl ?_
  refine x_getR C dX3_acceptFrame_5 fF_X3_120 rfl rfl ?_
  refine x_astore C dX3_acceptFrame_8 (by decide) ?_
  refine x_aload_n C dX3_acceptFrame_10 rfl ?_
  refine x_iconst C dX3_acceptFrame_11 ?_
  refine x_iload_n C dX3_acceptFrame_12 rfl ?_
  refine x_isub C dX3_acceptFrame_13 ?_
  refine x_callVp C dX3_acceptFrame_14 (xin_24 _ (List.mem_of_getElem? (i := 19) rfl)) xy_X3_endOf (xi_X3_endOf) (xs_X3_endOf) [0, 33, 1, 12, 23, 28, 30, 31] xv_21 (by omega) (by decide) (b := 0) rfl ⟨_, _, rfl⟩ (av := [.inl (1 - e)]) rfl (Nat.le_of_ble_eq_true rfl) (c_endOf1 _ _ _ (by first | decide | assumption | exact xw_1m0 (by assumption) | exact xw_1m1 (by assumption) | exact xw_ne1 (by assumption) | exact xw_n1m0 (by assumption))) rfl ?_
  refine x_astore C dX3_acceptFrame_17 (by decide) ?_
  refine x_iload_n C dX3_acceptFrame_19 rfl ?_
  refine x_aload C dX3_acceptFrame_20 rfl ?_
  refine x_getI C dX3_acceptFrame_22 fF_X3_230 rfl rfl ?_
  refine x_isub C dX3_acceptFrame_25 ?_
  refine x_istore C dX3_acceptFrame_26 (by decide) ?_
  refine x_iload C dX3_acceptFrame_28 rfl ?_
  refine x_if_lt C 47 dX3_acceptFrame_30 (by decide) h (fun h => ?_) (fun h => ?_)
  · refine x_loc [(0, .inr (.inr (some 0))), (1, .inl e), (2, .inl b), (3, .inl z), (4, .inr (.inr (some 4))), (5, .inr (.inr (some 12))), (6, .inl (b - (m 4 3)))] ⟨rfl, rfl, rfl, rfl, rfl, rfl, rfl, trivial⟩ ?_
    exact t_L_frame_47 hd9 C _ _ _ e_e hR _ _ h
  · refine x_iload C dX3_acceptFrame_33 rfl ?_
    refine x_aload C dX3_acceptFrame_35 rfl ?_
    refine x_getI C dX3_acceptFrame_37 fF_X3_124 rfl rfl ?_
    refine x_icmp_ge C 47 dX3_acceptFrame_40 (by decide) h (fun h => ?_) (fun h => ?_)
    · refine x_loc [(0, .inr (.inr (some 0))), (1, .inl e), (2, .inl b), (3, .inl z), (4, .inr (.inr (some 4))), (5, .inr (.inr (some 12))), (6, .inl (b - (m 4 3)))] ⟨rfl, rfl, rfl, rfl, rfl, rfl, rfl, trivial⟩ ?_
      exact t_L_frame_47 hd9 C _ _ _ e_e hR _ _ h
    · refine x_iconst C dX3_acceptFrame_43 ?_
      refine x_goto C 48 dX3_acceptFrame_44 (by decide) ?_
      refine x_loc [(0, .inr (.inr (some 0))), (1, .inl e), (2, .inl b), (3, .inl z), (4, .inr (.inr (some 4))), (5, .inr (.inr (some 12))), (6, .inl (b - (m 4 3)))] ⟨rfl, rfl, rfl, rfl, rfl, rfl, rfl, trivial⟩ ?_
      exact t_L_frame_48 hd9 C _ _ _ e_e hR _ _ _ h
theorem c_L_frame (l : Launch) (e : Int) (b : Int) (z : Int) (e_e : xw e = 0) (m m9 : xM) (h : f_L_frame e b z m = some m9) : xMet l yX3_acceptFrame cX3_acceptFrame 11 none 3 lay_L0 [.inr (.inr (some 0)), .inl e, .inl b, .inl z] m none m9 :=
  xMet_v (by decide +kernel) (Nat.le_of_ble_eq_true rfl) (fun Γ C hR hl9 => t_L_frame (Nat.le_refl _) C e b z e_e hR m h)
/-! ===== yX3_acceptFrame ===== -/
theorem xv_26 : xview lay_L1 lay_Wi [23, 24, 25, 26, 27] := xview_of (by decide +kernel)
theorem xv_27 : xview lay_L1 lay_E [12, 13, 14, 15, 16, 17, 18, 19, 20, 21, 22] := xview_of (by decide +kernel)
set_option maxRecDepth 1000000 in
set_option maxHeartbeats 4000000 in
theorem t_L_frame_70_1 {Γ : xG} {d : Nat} (hd9 : 3 ≤ d) (C : xC Γ lay_L1 RX3 cX3_acceptFrame 11 d) (e : Int) (b : Int) (z : Int) (e_e : xw e = 1) {m9 : xM} (hR : xRv Γ lay_L1 cX3_acceptFrame m9) (m : xM) (h : f_L_frame_70 e b z m = some m9) : xW Γ lay_L1 11 70 [(0, .inr (.inr (some 0)))] [] m := by
  unfold f_L_frame_70 at h
  refine x_aload_n C dX3_acceptFrame_70 rfl ?_
  refine x_getR C dX3_acceptFrame_71 fF_X3_35 rfl rfl ?_
  refine x_iconst C dX3_acceptFrame_74 ?_
  refine x_dup2 C dX3_acceptFrame_75 rfl rfl ?_
  refine x_iaload C dX3_acceptFrame_76 rfl h (fun h => ?_)
  refine x_iconst C dX3_acceptFrame_77 ?_
  refine x_iadd C dX3_acceptFrame_78 ?_
  refine x_iastore C dX3_acceptFrame_79 rfl h (fun h => ?_)
  exact x_returnV hR dX3_acceptFrame_80 h
set_option maxRecDepth 1000000 in
set_option maxHeartbeats 4000000 in
theorem t_L_frame_194_1 {Γ : xG} {d : Nat} (hd9 : 3 ≤ d) (C : xC Γ lay_L1 RX3 cX3_acceptFrame 11 d) (e : Int) (b : Int) (z : Int) (e_e : xw e = 1) {m9 : xM} (hR : xRv Γ lay_L1 cX3_acceptFrame m9) (x8 : Int) (m : xM) (h : f_L_frame_194 e b z x8 m = some m9) : xW Γ lay_L1 11 194 [(0, .inr (.inr (some 0))), (1, .inl e), (2, .inl b), (8, .inl x8)] [] m := by
  unfold f_L_frame_194 at h
  refine x_aload_n C dX3_acceptFrame_194 rfl ?_
  refine x_getR C dX3_acceptFrame_195 fF_X3_24 rfl rfl ?_
  refine x_aload_n C dX3_acceptFrame_198 rfl ?_
  refine x_getI C dX3_acceptFrame_199 fF_X3_61 rfl rfl ?_
  refine x_iconst C dX3_acceptFrame_202 ?_
  refine x_iload_n C dX3_acceptFrame_203 rfl ?_
  refine x_isub C dX3_acceptFrame_204 ?_
  refine x_iload_n C dX3_acceptFrame_205 rfl ?_
  refine x_iconst C dX3_acceptFrame_206 ?_
  obtain ⟨q3, hq3, h⟩ := x_bind h
  refine x_callV C dX3_acceptFrame_207 (xin_26 _ (List.mem_of_getElem? (i := 1) rfl)) xy_X9_put (xi_X9_put) (xs_X9_put) [23, 24, 25, 26, 27] xv_26 (by omega) (by decide) (b := 0) rfl ⟨_, _, rfl⟩ (av := [.inl (m 0 7), .inl (1 - e), .inl b, .inl 1]) rfl (Nat.le_of_ble_eq_true rfl) (c_W_put _ _ _ _ _ _ _ hq3) rfl ?_
  refine x_iload C dX3_acceptFrame_210 rfl ?_
  refine x_if_eq C 224 dX3_acceptFrame_212 (by decide) h (fun h => ?_) (fun h => ?_)
  · exact x_returnV hR dX3_acceptFrame_224 h
  · refine x_aload_n C dX3_acceptFrame_215 rfl ?_
    refine x_bipush C dX3_acceptFrame_216 (by decide) ?_
    refine x_iconst C dX3_acceptFrame_218 ?_
    refine x_iload_n C dX3_acceptFrame_219 rfl ?_
    refine x_isub C dX3_acceptFrame_220 ?_
    obtain ⟨q4, hq4, h⟩ := x_bind h
    refine x_callVI C dX3_acceptFrame_221 (xin_22 _ (List.mem_of_getElem? (i := 3) rfl)) xy_X3_note (xi_X3_note) (xs_X3_note) (by omega) (by decide) (b := 0) rfl ⟨_, _, rfl⟩ (av := [.inl 7, .inl (1 - e)]) rfl (Nat.le_of_ble_eq_true rfl) (c_L_note_1 _ _ _ _ _ hq4) rfl ?_
    exact x_returnV hR dX3_acceptFrame_224 h
set_option maxRecDepth 1000000 in
set_option maxHeartbeats 4000000 in
theorem t_L_frame_165_1 {Γ : xG} {d : Nat} (hd9 : 3 ≤ d) (C : xC Γ lay_L1 RX3 cX3_acceptFrame 11 d) (e : Int) (b : Int) (z : Int) (e_e : xw e = 1) {m9 : xM} (hR : xRv Γ lay_L1 cX3_acceptFrame m9) (x8 : Int) (x9 : Int) (m : xM) (h : f_L_frame_165 e b z x8 x9 m = some m9) : xW Γ lay_L1 11 165 [(0, .inr (.inr (some 0))), (1, .inl e), (2, .inl b), (4, .inr (.inr (some 4))), (5, .inr (.inr (some 12))), (8, .inl x8), (9, .inl x9)] [] m := by
  unfold f_L_frame_165 at h
  refine x_aload_n C dX3_acceptFrame_165 rfl ?_
  refine x_getR C dX3_acceptFrame_166 fF_X3_35 rfl rfl ?_
  refine x_bipush C dX3_acceptFrame_169 (by decide) ?_
  refine x_dup2 C dX3_acceptFrame_171 rfl rfl ?_
  refine x_iaload C dX3_acceptFrame_172 rfl h (fun h => ?_)
  refine x_aload C dX3_acceptFrame_173 rfl ?_
  refine x_getR C dX3_acceptFrame_175 fF_X3_243 rfl rfl ?_
  refine x_iload C dX3_acceptFrame_178 rfl ?_
  refine x_iaload C dX3_acceptFrame_180 rfl h (fun h => ?_)
  refine x_iadd C dX3_acceptFrame_181 ?_
  refine x_iastore C dX3_acceptFrame_182 rfl h (fun h => ?_)
  refine x_aload C dX3_acceptFrame_183 rfl ?_
  refine x_dup C dX3_acceptFrame_185 rfl ?_
  refine x_getI C dX3_acceptFrame_186 fF_X3_152 rfl rfl ?_
  refine x_iconst C dX3_acceptFrame_189 ?_
  refine x_iadd C dX3_acceptFrame_190 ?_
  refine x_putI C dX3_acceptFrame_191 fF_X3_152 rfl rfl ?_
  refine x_loc [(0, .inr (.inr (some 0))), (1, .inl e), (2, .inl b), (8, .inl x8)] ⟨rfl, rfl, rfl, rfl, trivial⟩ ?_
  exact t_L_frame_194_1 hd9 C _ _ _ e_e hR _ _ h
set_option maxRecDepth 1000000 in
set_option maxHeartbeats 4000000 in
theorem t_L_frame_120_1 {Γ : xG} {d : Nat} (hd9 : 3 ≤ d) (C : xC Γ lay_L1 RX3 cX3_acceptFrame 11 d) (e : Int) (b : Int) (z : Int) (e_e : xw e = 1) {m9 : xM} (hR : xRv Γ lay_L1 cX3_acceptFrame m9) : ∀ (n : Nat) (x8 : Int) (x9 : Int) (x10 : Int) (m : xM), f_L_frame_120 e b z n x8 x9 x10 m = some m9 → xW Γ lay_L1 11 120 [(0, .inr (.inr (some 0))), (1, .inl e), (2, .inl b), (4, .inr (.inr (some 4))), (5, .inr (.inr (some 12))), (8, .inl x8), (9, .inl x9), (10, .inl x10)] [] m := by
  intro n
  induction n with
  | zero => intro _ _ _ _ h; cases h
  | succ n ih =>
    intro x8 x9 x10 m h
    rw [f_L_frame_120] at h
    refine x_iload C dX3_acceptFrame_120 rfl ?_
    refine x_aload C dX3_acceptFrame_122 rfl ?_
    refine x_getR C dX3_acceptFrame_124 fF_X3_243 rfl rfl ?_
    refine x_iload C dX3_acceptFrame_127 rfl ?_
    refine x_iaload C dX3_acceptFrame_129 rfl h (fun h => ?_)
    refine x_icmp_ge C 165 dX3_acceptFrame_130 (by decide) h (fun h => ?_) (fun h => ?_)
    · refine x_loc [(0, .inr (.inr (some 0))), (1, .inl e), (2, .inl b), (4, .inr (.inr (some 4))), (5, .inr (.inr (some 12))), (8, .inl x8), (9, .inl x9)] ⟨rfl, rfl, rfl, rfl, rfl, rfl, rfl, trivial⟩ ?_
      exact t_L_frame_165_1 hd9 C _ _ _ e_e hR _ _ _ h
    · refine x_iload C dX3_acceptFrame_133 rfl ?_
      refine x_bipush C dX3_acceptFrame_135 (by decide) ?_
      refine x_icmp_ge C 165 dX3_acceptFrame_137 (by decide) h (fun h => ?_) (fun h => ?_)
      · refine x_loc [(0, .inr (.inr (some 0))), (1, .inl e), (2, .inl b), (4, .inr (.inr (some 4))), (5, .inr (.inr (some 12))), (8, .inl x8), (9, .inl x9)] ⟨rfl, rfl, rfl, rfl, rfl, rfl, rfl, trivial⟩ ?_
        exact t_L_frame_165_1 hd9 C _ _ _ e_e hR _ _ _ h
      · refine x_aload C dX3_acceptFrame_140 rfl ?_
        refine x_aload C dX3_acceptFrame_142 rfl ?_
        refine x_getR C dX3_acceptFrame_144 fF_X3_246 rfl rfl ?_
        refine x_iload C dX3_acceptFrame_147 rfl ?_
        refine x_bipush C dX3_acceptFrame_149 (by decide) ?_
        refine x_imul C dX3_acceptFrame_151 ?_
        refine x_iload C dX3_acceptFrame_152 rfl ?_
        refine x_iadd C dX3_acceptFrame_154 ?_
        refine x_iaload C dX3_acceptFrame_155 rfl h (fun h => ?_)
        obtain ⟨q5, hq5, h⟩ := x_bind h
        refine x_callV C dX3_acceptFrame_156 (xin_25 _ (List.mem_of_getElem? (i := 16) rfl)) xy_X1_read (xi_X1_read) (xs_X1_read) [12, 13, 14, 15, 16, 17, 18, 19, 20, 21, 22] xv_27 (by omega) (by decide) (b := 0) rfl ⟨_, _, rfl⟩ (av := [.inl (m 5 (xix ((x9 * 8) + x10)))]) rfl (Nat.le_of_ble_eq_true rfl) (c_E_read _ _ _ _ hq5) rfl ?_
        refine x_iinc C dX3_acceptFrame_159 (by decide) rfl ?_
        refine x_goto C 120 dX3_acceptFrame_162 (by decide) ?_
        refine x_loc [(0, .inr (.inr (some 0))), (1, .inl e), (2, .inl b), (4, .inr (.inr (some 4))), (5, .inr (.inr (some 12))), (8, .inl x8), (9, .inl x9), (10, .inl (x10 + 1))] ⟨rfl, rfl, rfl, rfl, rfl, rfl, rfl, rfl, trivial⟩ ?_
        exact ih _ _ _ _ h
set_option maxRecDepth 1000000 in
set_option maxHeartbeats 4000000 in
theorem t_L_frame_108_1 {Γ : xG} {d : Nat} (hd9 : 3 ≤ d) (C : xC Γ lay_L1 RX3 cX3_acceptFrame 11 d) (e : Int) (b : Int) (z : Int) (e_e : xw e = 1) {m9 : xM} (hR : xRv Γ lay_L1 cX3_acceptFrame m9) (x6 : Int) (x8 : Int) (m : xM) (h : f_L_frame_108 e b z x6 x8 m = some m9) : xW Γ lay_L1 11 108 [(0, .inr (.inr (some 0))), (1, .inl e), (2, .inl b), (4, .inr (.inr (some 4))), (5, .inr (.inr (some 12))), (6, .inl x6), (8, .inl x8)] [] m := by
  unfold f_L_frame_108 at h
  refine x_aload C dX3_acceptFrame_108 rfl ?_
  refine x_iload C dX3_acceptFrame_110 rfl ?_
  obtain ⟨q2, hq2, h⟩ := x_bind h
  refine x_callVp C dX3_acceptFrame_112 (xin_25 _ (List.mem_of_getElem? (i := 8) rfl)) xy_X2_slotOf (xi_X2_slotOf) (xs_X2_slotOf) [4, 5, 6, 7] xv_23 (by omega) (by decide) (b := 0) rfl ⟨_, _, rfl⟩ (av := [.inl x6]) rfl (Nat.le_of_ble_eq_true rfl) (c_F_slot _ _ _ _ hq2) rfl ?_
  refine x_istore C dX3_acceptFrame_115 (by decide) ?_
  refine x_iconst C dX3_acceptFrame_117 ?_
  refine x_istore C dX3_acceptFrame_118 (by decide) ?_
  refine x_loc [(0, .inr (.inr (some 0))), (1, .inl e), (2, .inl b), (4, .inr (.inr (some 4))), (5, .inr (.inr (some 12))), (8, .inl x8), (9, .inl q2), (10, .inl 0)] ⟨rfl, rfl, rfl, rfl, rfl, rfl, rfl, rfl, trivial⟩ ?_
  exact t_L_frame_120_1 hd9 C _ _ _ e_e hR fu _ _ _ _ h
set_option maxRecDepth 1000000 in
set_option maxHeartbeats 4000000 in
theorem t_L_frame_92_1 {Γ : xG} {d : Nat} (hd9 : 3 ≤ d) (C : xC Γ lay_L1 RX3 cX3_acceptFrame 11 d) (e : Int) (b : Int) (z : Int) (e_e : xw e = 1) {m9 : xM} (hR : xRv Γ lay_L1 cX3_acceptFrame m9) (x6 : Int) (s0 : Int) (m : xM) (h : f_L_frame_92 e b z x6 s0 m = some m9) : xW Γ lay_L1 11 92 [(0, .inr (.inr (some 0))), (1, .inl e), (2, .inl b), (4, .inr (.inr (some 4))), (5, .inr (.inr (some 12))), (6, .inl x6)] [.inl s0] m := by
  unfold f_L_frame_92 at h
  refine x_istore C dX3_acceptFrame_92 (by decide) ?_
  refine x_iload C dX3_acceptFrame_94 rfl ?_
  refine x_if_eq C 108 dX3_acceptFrame_96 (by decide) h (fun h => ?_) (fun h => ?_)
  · refine x_loc [(0, .inr (.inr (some 0))), (1, .inl e), (2, .inl b), (4, .inr (.inr (some 4))), (5, .inr (.inr (some 12))), (6, .inl x6), (8, .inl s0)] ⟨rfl, rfl, rfl, rfl, rfl, rfl, rfl, trivial⟩ ?_
    exact t_L_frame_108_1 hd9 C _ _ _ e_e hR _ _ _ h
  · refine x_aload C dX3_acceptFrame_99 rfl ?_
    refine x_getR C dX3_acceptFrame_101 fF_X3_236 rfl rfl ?_
    refine x_iconst C dX3_acceptFrame_104 ?_
    refine x_putI C dX3_acceptFrame_105 fF_X3_239 rfl rfl ?_
    refine x_loc [(0, .inr (.inr (some 0))), (1, .inl e), (2, .inl b), (4, .inr (.inr (some 4))), (5, .inr (.inr (some 12))), (6, .inl x6), (8, .inl s0)] ⟨rfl, rfl, rfl, rfl, rfl, rfl, rfl, trivial⟩ ?_
    exact t_L_frame_108_1 hd9 C _ _ _ e_e hR _ _ _ h
set_option maxRecDepth 1000000 in
set_option maxHeartbeats 4000000 in
theorem t_L_frame_48_1 {Γ : xG} {d : Nat} (hd9 : 3 ≤ d) (C : xC Γ lay_L1 RX3 cX3_acceptFrame 11 d) (e : Int) (b : Int) (z : Int) (e_e : xw e = 1) {m9 : xM} (hR : xRv Γ lay_L1 cX3_acceptFrame m9) (x6 : Int) (s0 : Int) (m : xM) (h : f_L_frame_48 e b z x6 s0 m = some m9) : xW Γ lay_L1 11 48 [(0, .inr (.inr (some 0))), (1, .inl e), (2, .inl b), (3, .inl z), (4, .inr (.inr (some 4))), (5, .inr (.inr (some 12))), (6, .inl x6)] [.inl s0] m := by
  unfold f_L_frame_48 at h
  refine x_istore C dX3_acceptFrame_48 (by decide) ?_
  refine x_iload_n C dX3_acceptFrame_50 rfl ?_
  refine x_iconst C dX3_acceptFrame_51 ?_
  refine x_iand C dX3_acceptFrame_52 ?_
  refine x_if_ne C 70 dX3_acceptFrame_53 (by decide) h (fun h => ?_) (fun h => ?_)
  · refine x_loc [(0, .inr (.inr (some 0)))] ⟨rfl, trivial⟩ ?_
    exact t_L_frame_70_1 hd9 C _ _ _ e_e hR _ h
  · refine x_iload_n C dX3_acceptFrame_56 rfl ?_
    refine x_aload C dX3_acceptFrame_57 rfl ?_
    refine x_getI C dX3_acceptFrame_59 fF_X3_152 rfl rfl ?_
    refine x_icmp_ne C 70 dX3_acceptFrame_62 (by decide) h (fun h => ?_) (fun h => ?_)
    · refine x_loc [(0, .inr (.inr (some 0)))] ⟨rfl, trivial⟩ ?_
      exact t_L_frame_70_1 hd9 C _ _ _ e_e hR _ h
    · refine x_iload C dX3_acceptFrame_65 rfl ?_
      refine x_if_ne C 81 dX3_acceptFrame_67 (by decide) h (fun h => ?_) (fun h => ?_)
      · refine x_iload_n C dX3_acceptFrame_81 rfl ?_
        refine x_iconst C dX3_acceptFrame_82 ?_
        refine x_iand C dX3_acceptFrame_83 ?_
        refine x_if_eq C 91 dX3_acceptFrame_84 (by decide) h (fun h => ?_) (fun h => ?_)
        · refine x_iconst C dX3_acceptFrame_91 ?_
          refine x_loc [(0, .inr (.inr (some 0))), (1, .inl e), (2, .inl b), (4, .inr (.inr (some 4))), (5, .inr (.inr (some 12))), (6, .inl x6)] ⟨rfl, rfl, rfl, rfl, rfl, rfl, trivial⟩ ?_
          exact t_L_frame_92_1 hd9 C _ _ _ e_e hR _ _ _ h
        · refine x_iconst C dX3_acceptFrame_87 ?_
          refine x_goto C 92 dX3_acceptFrame_88 (by decide) ?_
          refine x_loc [(0, .inr (.inr (some 0))), (1, .inl e), (2, .inl b), (4, .inr (.inr (some 4))), (5, .inr (.inr (some 12))), (6, .inl x6)] ⟨rfl, rfl, rfl, rfl, rfl, rfl, trivial⟩ ?_
          exact t_L_frame_92_1 hd9 C _ _ _ e_e hR _ _ _ h
      · refine x_loc [(0, .inr (.inr (some 0)))] ⟨rfl, trivial⟩ ?_
        exact t_L_frame_70_1 hd9 C _ _ _ e_e hR _ h
set_option maxRecDepth 1000000 in
set_option maxHeartbeats 4000000 in
theorem t_L_frame_47_1 {Γ : xG} {d : Nat} (hd9 : 3 ≤ d) (C : xC Γ lay_L1 RX3 cX3_acceptFrame 11 d) (e : Int) (b : Int) (z : Int) (e_e : xw e = 1) {m9 : xM} (hR : xRv Γ lay_L1 cX3_acceptFrame m9) (x6 : Int) (m : xM) (h : f_L_frame_47 e b z x6 m = some m9) : xW Γ lay_L1 11 47 [(0, .inr (.inr (some 0))), (1, .inl e), (2, .inl b), (3, .inl z), (4, .inr (.inr (some 4))), (5, .inr (.inr (some 12))), (6, .inl x6)] [] m := by
  unfold f_L_frame_47 at h
  refine x_iconst C dX3_acceptFrame_47 ?_
  refine x_loc [(0, .inr (.inr (some 0))), (1, .inl e), (2, .inl b), (3, .inl z), (4, .inr (.inr (some 4))), (5, .inr (.inr (some 12))), (6, .inl x6)] ⟨rfl, rfl, rfl, rfl, rfl, rfl, rfl, trivial⟩ ?_
  exact t_L_frame_48_1 hd9 C _ _ _ e_e hR _ _ _ h
set_option maxRecDepth 1000000 in
set_option maxHeartbeats 4000000 in
theorem t_L_frame_1 {Γ : xG} {d : Nat} (hd9 : 3 ≤ d) (C : xC Γ lay_L1 RX3 cX3_acceptFrame 11 d) (e : Int) (b : Int) (z : Int) (e_e : xw e = 1) {m9 : xM} (hR : xRv Γ lay_L1 cX3_acceptFrame m9) (m : xM) (h : f_L_frame e b z m = some m9) : xW Γ lay_L1 11 0 [(0, .inr (.inr (some 0))), (1, .inl e), (2, .inl b), (3, .inl z)] [] m := by
  unfold f_L_frame at h
  refine x_aload_n C dX3_acceptFrame_0 rfl ?_
  refine x_iload_n C dX3_acceptFrame_1 rfl ?_
  refine x_callVp C dX3_acceptFrame_2 (xin_24 _ (List.mem_of_getElem? (i := 19) rfl)) xy_X3_endOf (xi_X3_endOf) (xs_X3_endOf) [0, 33, 12, 1, 23, 28, 30, 31] xv_22 (by omega) (by decide) (b := 0) rfl ⟨_, _, rfl⟩ (av := [.inl e]) rfl (Nat.le_of_ble_eq_true rfl) (c_endOf1 _ _ _ (by first | decide | assumption | exact xw_1m0 (by assumption) | exact xw_1m1 (by assumption) | exact xw_ne1 (by assumption) | exact xw_n1m0 (by assumption))) rfl ?_
  refine x_getR C dX3_acceptFrame_5 fF_X3_120 rfl rfl ?_
  refine x_astore C dX3_acceptFrame_8 (by decide) ?_
  refine x_aload_n C dX3_acceptFrame_10 rfl ?_
  refine x_iconst C dX3_acceptFrame_11 ?_
  refine x_iload_n C dX3_acceptFrame_12 rfl ?_
  refine x_isub C dX3_acceptFrame_13 ?_
  refine x_callVp C dX3_acceptFrame_14 (xin_24 _ (List.mem_of_getElem? (i := 19) rfl)) xy_X3_endOf (xi_X3_endOf) (xs_X3_endOf) [0, 33, 12, 1, 23, 28, 30, 31] xv_22 (by omega) (by decide) (b := 0) rfl ⟨_, _, rfl⟩ (av := [.inl (1 - e)]) rfl (Nat.le_of_ble_eq_true rfl) (c_endOf0 _ _ _ (by first | decide | assumption | exact xw_1m0 (by assumption) | exact xw_1m1 (by assumption) | exact xw_ne1 (by assumption) | exact xw_n1m0 (by assumption))) rfl ?_
  refine x_astore C dX3_acceptFrame_17 (by decide) ?_
  refine x_iload_n C dX3_acceptFrame_19 rfl ?_
  refine x_aload C dX3_acceptFrame_20 rfl ?_
  refine x_getI C dX3_acceptFrame_22 fF_X3_230 rfl rfl ?_
  refine x_isub C dX3_acceptFrame_25 ?_
  refine x_istore C dX3_acceptFrame_26 (by decide) ?_
  refine x_iload C dX3_acceptFrame_28 rfl ?_
  refine x_if_lt C 47 dX3_acceptFrame_30 (by decide) h (fun h => ?_) (fun h => ?_)
  · refine x_loc [(0, .inr (.inr (some 0))), (1, .inl e), (2, .inl b), (3, .inl z), (4, .inr (.inr (some 4))), (5, .inr (.inr (some 12))), (6, .inl (b - (m 4 3)))] ⟨rfl, rfl, rfl, rfl, rfl, rfl, rfl, trivial⟩ ?_
    exact t_L_frame_47_1 hd9 C _ _ _ e_e hR _ _ h
  · refine x_iload C dX3_acceptFrame_33 rfl ?_
    refine x_aload C dX3_acceptFrame_35 rfl ?_
    refine x_getI C dX3_acceptFrame_37 fF_X3_124 rfl rfl ?_
    refine x_icmp_ge C 47 dX3_acceptFrame_40 (by decide) h (fun h => ?_) (fun h => ?_)
    · refine x_loc [(0, .inr (.inr (some 0))), (1, .inl e), (2, .inl b), (3, .inl z), (4, .inr (.inr (some 4))), (5, .inr (.inr (some 12))), (6, .inl (b - (m 4 3)))] ⟨rfl, rfl, rfl, rfl, rfl, rfl, rfl, trivial⟩ ?_
      exact t_L_frame_47_1 hd9 C _ _ _ e_e hR _ _ h
    · refine x_iconst C dX3_acceptFrame_43 ?_
      refine x_goto C 48 dX3_acceptFrame_44 (by decide) ?_
      refine x_loc [(0, .inr (.inr (some 0))), (1, .inl e), (2, .inl b), (3, .inl z), (4, .inr (.inr (some 4))), (5, .inr (.inr (some 12))), (6, .inl (b - (m 4 3)))] ⟨rfl, rfl, rfl, rfl, rfl, rfl, rfl, trivial⟩ ?_
      exact t_L_frame_48_1 hd9 C _ _ _ e_e hR _ _ _ h
theorem c_L_frame_1 (l : Launch) (e : Int) (b : Int) (z : Int) (e_e : xw e = 1) (m m9 : xM) (h : f_L_frame e b z m = some m9) : xMet l yX3_acceptFrame cX3_acceptFrame 11 none 3 lay_L1 [.inr (.inr (some 0)), .inl e, .inl b, .inl z] m none m9 :=
  xMet_v (by decide +kernel) (Nat.le_of_ble_eq_true rfl) (fun Γ C hR hl9 => t_L_frame_1 (Nat.le_refl _) C e b z e_e hR m h)

/-! ===== yX10_dial ===== -/
theorem xy_X3_call : xY yX3_call cX3_call 1 none 0 := ⟨(xin_19 _ (List.mem_of_getElem? (i := 23) rfl)), (xin_1 _ (List.mem_of_getElem? (i := 18) rfl)), by decide, by decide, by decide +kernel⟩
theorem xi_X3_call : Cond.instanceMethod yX3_call ∈ wsL_law := (xin_19 _ (List.mem_of_getElem? (i := 21) rfl))
theorem xs_X3_call : Cond.selects yX3_call.cls yX3_call yX3_call ∈ wsL_law := (xin_19 _ (List.mem_of_getElem? (i := 22) rfl))
theorem fF_X10_10 : xF RX10 10 11 0 (.object "ModemLink$Setup") true := ⟨RX10, TX10, 16, tyX10, rfl, by decide, (xin_1 _ (List.mem_of_getElem? (i := 14) rfl)), rfl, inlX10, tyX10_ok, nmX10, rfl, rfl⟩
theorem xy_X6_trainingTicks : xY yX6_trainingTicks cX6_trainingTicks 1 (some .int) 0 := ⟨(xin_20 _ (List.mem_of_getElem? (i := 18) rfl)), (xin_1 _ (List.mem_of_getElem? (i := 13) rfl)), by decide, by decide, by decide +kernel⟩
theorem xi_X6_trainingTicks : Cond.instanceMethod yX6_trainingTicks ∈ wsL_law := (xin_20 _ (List.mem_of_getElem? (i := 16) rfl))
theorem xs_X6_trainingTicks : Cond.selects yX6_trainingTicks.cls yX6_trainingTicks yX6_trainingTicks ∈ wsL_law := (xin_20 _ (List.mem_of_getElem? (i := 17) rfl))
theorem xv_68 : xview lay_X lay_S [1, 2, 3, 4, 5] := xview_of (by decide +kernel)
theorem dX10_dial_0 : decode cX10_dial 0 = .ok (.aload_n 0, 1) := by decide +kernel
theorem dX10_dial_1 : decode cX10_dial 1 = .ok (.getfield 27, 3) := by decide +kernel
theorem dX10_dial_4 : decode cX10_dial 4 = .ok (.getfield 136, 3) := by decide +kernel
theorem dX10_dial_7 : decode cX10_dial 7 = .ok (.ifCond .eq 6, 3) := by decide +kernel
theorem dX10_dial_10 : decode cX10_dial 10 = .ok (.bipush (-2), 2) := by decide +kernel
theorem dX10_dial_12 : decode cX10_dial 12 = .ok (.ireturn, 1) := by decide +kernel
theorem dX10_dial_13 : decode cX10_dial 13 = .ok (.aload_n 0, 1) := by decide +kernel
theorem dX10_dial_14 : decode cX10_dial 14 = .ok (.invokevirtual 300, 3) := by decide +kernel
theorem dX10_dial_17 : decode cX10_dial 17 = .ok (.aload_n 0, 1) := by decide +kernel
theorem dX10_dial_18 : decode cX10_dial 18 = .ok (.getfield 27, 3) := by decide +kernel
theorem dX10_dial_21 : decode cX10_dial 21 = .ok (.invokevirtual 311, 3) := by decide +kernel
theorem dX10_dial_24 : decode cX10_dial 24 = .ok (.aload_n 0, 1) := by decide +kernel
theorem dX10_dial_25 : decode cX10_dial 25 = .ok (.getfield 10, 3) := by decide +kernel
theorem dX10_dial_28 : decode cX10_dial 28 = .ok (.invokevirtual 314, 3) := by decide +kernel
theorem dX10_dial_31 : decode cX10_dial 31 = .ok (.ireturn, 1) := by decide +kernel
def f_X_dial (m : xM) : Option (Int × xM) :=
     (if xw (m 11 8) = 0 then (Option.bind (f_X_remember m) fun q0 =>
      (Option.bind (f_L_call (xvw xT_25 q0)) fun q1 =>
      (Option.bind (f_S_ticks (xvw [1, 2, 3, 4, 5] (xmg xT_25 38 q0 q1))) fun q2 =>
      some (q2, (xmg xT_25 38 q0 q1)))))
      else some ((-2), m))
set_option maxRecDepth 1000000 in
set_option maxHeartbeats 4000000 in
theorem t_X_dial {Γ : xG} {d : Nat} (hd9 : 5 ≤ d) (C : xC Γ lay_X RX10 cX10_dial 1 d) {r : Int} {m9 : xM} (hR : xRi Γ lay_X cX10_dial r m9) (m : xM) (h : f_X_dial m = some (r, m9)) : xW Γ lay_X 1 0 [(0, .inr (.inr (some 0)))] [] m := by
  unfold f_X_dial at h
  refine x_aload_n C dX10_dial_0 rfl ?_
  refine x_getR C dX10_dial_1 fF_X10_27 rfl rfl ?_
  refine x_getI C dX10_dial_4 fF_X10_136 rfl rfl ?_
  refine x_if_eq C 13 dX10_dial_7 (by decide) h (fun h => ?_) (fun h => ?_)
  · refine x_aload_n C dX10_dial_13 rfl ?_
    obtain ⟨q0, hq0, h⟩ := x_bind h
    refine x_callVI C dX10_dial_14 (xin_17 _ (List.mem_of_getElem? (i := 18) rfl)) xy_X10_remember (xi_X10_remember) (xs_X10_remember) (by omega) (by decide) (b := 0) rfl ⟨_, _, rfl⟩ (av := []) rfl (Nat.le_of_ble_eq_true rfl) (c_X_remember _ _ _ hq0) rfl ?_
    refine x_aload_n C dX10_dial_17 rfl ?_
    refine x_getR C dX10_dial_18 fF_X10_27 rfl rfl ?_
    obtain ⟨q1, hq1, h⟩ := x_bind h
    refine x_callV C dX10_dial_21 (xin_19 _ (List.mem_of_getElem? (i := 20) rfl)) xy_X3_call (xi_X3_call) (xs_X3_call) xT_25 xv_67 (by omega) (by decide) (b := 0) rfl ⟨_, _, rfl⟩ (av := []) rfl (Nat.le_of_ble_eq_true rfl) (c_L_call _ _ _ hq1) rfl ?_
    refine x_aload_n C dX10_dial_24 rfl ?_
    refine x_getR C dX10_dial_25 fF_X10_10 rfl rfl ?_
    obtain ⟨q2, hq2, h⟩ := x_bind h
    refine x_callVp C dX10_dial_28 (xin_20 _ (List.mem_of_getElem? (i := 15) rfl)) xy_X6_trainingTicks (xi_X6_trainingTicks) (xs_X6_trainingTicks) [1, 2, 3, 4, 5] xv_68 (by omega) (by decide) (b := 0) rfl ⟨_, _, rfl⟩ (av := []) rfl (Nat.le_of_ble_eq_true rfl) (c_S_ticks _ _ _ hq2) rfl ?_
    exact x_ireturn hR dX10_dial_31 h
  · refine x_bipush C dX10_dial_10 (by decide) ?_
    exact x_ireturn hR dX10_dial_12 h
theorem c_X_dial (l : Launch) (m : xM) (r : Int) (m9 : xM) (h : f_X_dial m = some (r, m9)) : xMet l yX10_dial cX10_dial 1 (some .int) 5 lay_X [.inr (.inr (some 0))] m (some (.inl r)) m9 :=
  xMet_i (by decide +kernel) (Nat.le_of_ble_eq_true rfl) (fun Γ C hR hl9 => t_X_dial (Nat.le_refl _) C hR m h)
/-! ===== yX10_hangUp ===== -/
theorem xy_X3_unreceivedBytes : xY yX3_unreceivedBytes cX3_unreceivedBytes 1 (some .int) 0 := ⟨(xin_40 _ (List.mem_of_getElem? (i := 12) rfl)), (xin_1 _ (List.mem_of_getElem? (i := 18) rfl)), by decide, by decide, by decide +kernel⟩
theorem xi_X3_unreceivedBytes : Cond.instanceMethod yX3_unreceivedBytes ∈ wsL_law := (xin_40 _ (List.mem_of_getElem? (i := 10) rfl))
theorem xs_X3_unreceivedBytes : Cond.selects yX3_unreceivedBytes.cls yX3_unreceivedBytes yX3_unreceivedBytes ∈ wsL_law := (xin_40 _ (List.mem_of_getElem? (i := 11) rfl))
theorem dX10_hangUp_0 : decode cX10_hangUp 0 = .ok (.aload_n 0, 1) := by decide +kernel
theorem dX10_hangUp_1 : decode cX10_hangUp 1 = .ok (.getfield 27, 3) := by decide +kernel
theorem dX10_hangUp_4 : decode cX10_hangUp 4 = .ok (.getfield 136, 3) := by decide +kernel
theorem dX10_hangUp_7 : decode cX10_hangUp 7 = .ok (.ifCond .ne 6, 3) := by decide +kernel
theorem dX10_hangUp_10 : decode cX10_hangUp 10 = .ok (.bipush (-2), 2) := by decide +kernel
theorem dX10_hangUp_12 : decode cX10_hangUp 12 = .ok (.ireturn, 1) := by decide +kernel
theorem dX10_hangUp_13 : decode cX10_hangUp 13 = .ok (.aload_n 0, 1) := by decide +kernel
theorem dX10_hangUp_14 : decode cX10_hangUp 14 = .ok (.invokevirtual 300, 3) := by decide +kernel
theorem dX10_hangUp_17 : decode cX10_hangUp 17 = .ok (.aload_n 0, 1) := by decide +kernel
theorem dX10_hangUp_18 : decode cX10_hangUp 18 = .ok (.getfield 27, 3) := by decide +kernel
theorem dX10_hangUp_21 : decode cX10_hangUp 21 = .ok (.invokevirtual 317, 3) := by decide +kernel
theorem dX10_hangUp_24 : decode cX10_hangUp 24 = .ok (.istore_n 1, 1) := by decide +kernel
theorem dX10_hangUp_25 : decode cX10_hangUp 25 = .ok (.aload_n 0, 1) := by decide +kernel
theorem dX10_hangUp_26 : decode cX10_hangUp 26 = .ok (.getfield 27, 3) := by decide +kernel
theorem dX10_hangUp_29 : decode cX10_hangUp 29 = .ok (.invokevirtual 320, 3) := by decide +kernel
theorem dX10_hangUp_32 : decode cX10_hangUp 32 = .ok (.iload_n 1, 1) := by decide +kernel
theorem dX10_hangUp_33 : decode cX10_hangUp 33 = .ok (.ireturn, 1) := by decide +kernel
def f_X_hangUp (m : xM) : Option (Int × xM) :=
     (if xw (m 11 8) = 0 then some ((-2), m)
      else (Option.bind (f_X_remember m) fun q0 =>
      (Option.bind (f_L_unreceived (xvw xT_25 q0)) fun q1 =>
      (Option.bind (f_L_cut (xvw xT_25 q0)) fun q2 =>
      some (q1, (xmg xT_25 38 q0 q2))))))
set_option maxRecDepth 1000000 in
set_option maxHeartbeats 4000000 in
theorem t_X_hangUp {Γ : xG} {d : Nat} (hd9 : 5 ≤ d) (C : xC Γ lay_X RX10 cX10_hangUp 2 d) {r : Int} {m9 : xM} (hR : xRi Γ lay_X cX10_hangUp r m9) (m : xM) (h : f_X_hangUp m = some (r, m9)) : xW Γ lay_X 2 0 [(0, .inr (.inr (some 0)))] [] m := by
  unfold f_X_hangUp at h
  refine x_aload_n C dX10_hangUp_0 rfl ?_
  refine x_getR C dX10_hangUp_1 fF_X10_27 rfl rfl ?_
  refine x_getI C dX10_hangUp_4 fF_X10_136 rfl rfl ?_
  refine x_if_ne C 13 dX10_hangUp_7 (by decide) h (fun h => ?_) (fun h => ?_)
  · refine x_aload_n C dX10_hangUp_13 rfl ?_
    obtain ⟨q0, hq0, h⟩ := x_bind h
    refine x_callVI C dX10_hangUp_14 (xin_17 _ (List.mem_of_getElem? (i := 18) rfl)) xy_X10_remember (xi_X10_remember) (xs_X10_remember) (by omega) (by decide) (b := 0) rfl ⟨_, _, rfl⟩ (av := []) rfl (Nat.le_of_ble_eq_true rfl) (c_X_remember _ _ _ hq0) rfl ?_
    refine x_aload_n C dX10_hangUp_17 rfl ?_
    refine x_getR C dX10_hangUp_18 fF_X10_27 rfl rfl ?_
    obtain ⟨q1, hq1, h⟩ := x_bind h
    refine x_callVp C dX10_hangUp_21 (xin_40 _ (List.mem_of_getElem? (i := 9) rfl)) xy_X3_unreceivedBytes (xi_X3_unreceivedBytes) (xs_X3_unreceivedBytes) xT_25 xv_67 (by omega) (by decide) (b := 0) rfl ⟨_, _, rfl⟩ (av := []) rfl (Nat.le_of_ble_eq_true rfl) (c_L_unreceived _ _ _ hq1) rfl ?_
    refine x_istore_n C dX10_hangUp_24 (by decide) ?_
    refine x_aload_n C dX10_hangUp_25 rfl ?_
    refine x_getR C dX10_hangUp_26 fF_X10_27 rfl rfl ?_
    obtain ⟨q2, hq2, h⟩ := x_bind h
    refine x_callV C dX10_hangUp_29 (xin_40 _ (List.mem_of_getElem? (i := 18) rfl)) xy_X3_cut (xi_X3_cut) (xs_X3_cut) xT_25 xv_67 (by omega) (by decide) (b := 0) rfl ⟨_, _, rfl⟩ (av := []) rfl (Nat.le_of_ble_eq_true rfl) (c_L_cut _ _ _ hq2) rfl ?_
    refine x_iload_n C dX10_hangUp_32 rfl ?_
    exact x_ireturn hR dX10_hangUp_33 h
  · refine x_bipush C dX10_hangUp_10 (by decide) ?_
    exact x_ireturn hR dX10_hangUp_12 h
theorem c_X_hangUp (l : Launch) (m : xM) (r : Int) (m9 : xM) (h : f_X_hangUp m = some (r, m9)) : xMet l yX10_hangUp cX10_hangUp 2 (some .int) 5 lay_X [.inr (.inr (some 0))] m (some (.inl r)) m9 :=
  xMet_i (by decide +kernel) (Nat.le_of_ble_eq_true rfl) (fun Γ C hR hl9 => t_X_hangUp (Nat.le_refl _) C hR m h)
/-! ===== yX10_setEscaped ===== -/
theorem dX10_setEscaped_0 : decode cX10_setEscaped 0 = .ok (.aload_n 0, 1) := by decide +kernel
theorem dX10_setEscaped_1 : decode cX10_setEscaped 1 = .ok (.iload_n 1, 1) := by decide +kernel
theorem dX10_setEscaped_2 : decode cX10_setEscaped 2 = .ok (.invokevirtual 181, 3) := by decide +kernel
theorem dX10_setEscaped_5 : decode cX10_setEscaped 5 = .ok (.aload_n 0, 1) := by decide +kernel
theorem dX10_setEscaped_6 : decode cX10_setEscaped 6 = .ok (.getfield 27, 3) := by decide +kernel
theorem dX10_setEscaped_9 : decode cX10_setEscaped 9 = .ok (.iload_n 1, 1) := by decide +kernel
theorem dX10_setEscaped_10 : decode cX10_setEscaped 10 = .ok (.invokevirtual 184, 3) := by decide +kernel
theorem dX10_setEscaped_13 : decode cX10_setEscaped 13 = .ok (.astore_n 3, 1) := by decide +kernel
theorem dX10_setEscaped_14 : decode cX10_setEscaped 14 = .ok (.aload_n 0, 1) := by decide +kernel
theorem dX10_setEscaped_15 : decode cX10_setEscaped 15 = .ok (.getfield 27, 3) := by decide +kernel
theorem dX10_setEscaped_18 : decode cX10_setEscaped 18 = .ok (.getfield 136, 3) := by decide +kernel
theorem dX10_setEscaped_21 : decode cX10_setEscaped 21 = .ok (.iconst 2, 1) := by decide +kernel
theorem dX10_setEscaped_22 : decode cX10_setEscaped 22 = .ok (.if_icmp .eq 6, 3) := by decide +kernel
theorem dX10_setEscaped_25 : decode cX10_setEscaped 25 = .ok (.bipush (-2), 2) := by decide +kernel
theorem dX10_setEscaped_27 : decode cX10_setEscaped 27 = .ok (.ireturn, 1) := by decide +kernel
theorem dX10_setEscaped_28 : decode cX10_setEscaped 28 = .ok (.aload_n 3, 1) := by decide +kernel
theorem dX10_setEscaped_29 : decode cX10_setEscaped 29 = .ok (.getfield 215, 3) := by decide +kernel
theorem dX10_setEscaped_32 : decode cX10_setEscaped 32 = .ok (.iload_n 2, 1) := by decide +kernel
theorem dX10_setEscaped_33 : decode cX10_setEscaped 33 = .ok (.if_icmp .ne 6, 3) := by decide +kernel
theorem dX10_setEscaped_36 : decode cX10_setEscaped 36 = .ok (.bipush (-3), 2) := by decide +kernel
theorem dX10_setEscaped_38 : decode cX10_setEscaped 38 = .ok (.ireturn, 1) := by decide +kernel
theorem dX10_setEscaped_39 : decode cX10_setEscaped 39 = .ok (.aload_n 0, 1) := by decide +kernel
theorem dX10_setEscaped_40 : decode cX10_setEscaped 40 = .ok (.invokevirtual 300, 3) := by decide +kernel
theorem dX10_setEscaped_43 : decode cX10_setEscaped 43 = .ok (.aload_n 3, 1) := by decide +kernel
theorem dX10_setEscaped_44 : decode cX10_setEscaped 44 = .ok (.iload_n 2, 1) := by decide +kernel
theorem dX10_setEscaped_45 : decode cX10_setEscaped 45 = .ok (.putfield 215, 3) := by decide +kernel
theorem dX10_setEscaped_48 : decode cX10_setEscaped 48 = .ok (.aload_n 3, 1) := by decide +kernel
theorem dX10_setEscaped_49 : decode cX10_setEscaped 49 = .ok (.getfield 188, 3) := by decide +kernel
theorem dX10_setEscaped_52 : decode cX10_setEscaped 52 = .ok (.ireturn, 1) := by decide +kernel
def f_X_setEscaped (e : Int) (b : Int) (m : xM) : Option (Int × xM) :=
     (Option.bind (f_X_checkEnd e m) fun q0 =>
      (if xw e = 0 then (if xw (m 11 8) = xw 2 then (if xw (m 12 9) = xw b then some ((-3), m)
      else (Option.bind (f_X_remember m) fun q3 =>
      (if xbz b then some ((q3 12 5), (xu q3 12 9 b))
      else none)))
      else some ((-2), m))
      else (if xw e = 1 then (if xw (m 11 8) = xw 2 then (if xw (m 23 9) = xw b then some ((-3), m)
      else (Option.bind (f_X_remember m) fun q5 =>
      (if xbz b then some ((q5 23 5), (xu q5 23 9 b))
      else none)))
      else some ((-2), m))
      else none)))
set_option maxRecDepth 1000000 in
set_option maxHeartbeats 4000000 in
theorem t_X_setEscaped {Γ : xG} {d : Nat} (hd9 : 5 ≤ d) (C : xC Γ lay_X RX10 cX10_setEscaped 4 d) (e : Int) (b : Int) {r : Int} {m9 : xM} (hR : xRi Γ lay_X cX10_setEscaped r m9) (m : xM) (h : f_X_setEscaped e b m = some (r, m9)) : xW Γ lay_X 4 0 [(0, .inr (.inr (some 0))), (1, .inl e), (2, .inl b)] [] m := by
  unfold f_X_setEscaped at h
  refine x_aload_n C dX10_setEscaped_0 rfl ?_
  refine x_iload_n C dX10_setEscaped_1 rfl ?_
  obtain ⟨q0, hq0, h⟩ := x_bind h
  refine x_callVI C dX10_setEscaped_2 (xin_29 _ (List.mem_of_getElem? (i := 21) rfl)) xy_X10_checkEnd (xi_X10_checkEnd) (xs_X10_checkEnd) (by omega) (by decide) (b := 0) rfl ⟨_, _, rfl⟩ (av := [.inl e]) rfl (Nat.le_of_ble_eq_true rfl) (c_X_checkEnd _ _ _ _ hq0) rfl ?_
  refine x_aload_n C dX10_setEscaped_5 rfl ?_
  refine x_getR C dX10_setEscaped_6 fF_X10_27 rfl rfl ?_
  refine x_iload_n C dX10_setEscaped_9 rfl ?_
  refine x_ite h (fun hk92 h => ?_) (fun _ h => ?_)
  · refine x_callVp C dX10_setEscaped_10 (xin_30 _ (List.mem_of_getElem? (i := 1) rfl)) xy_X3_endOf (xi_X3_endOf) (xs_X3_endOf) [11, 1, 12, 23, 34, 39, 41, 42] xv_46 (by omega) (by decide) (b := 0) rfl ⟨_, _, rfl⟩ (av := [.inl e]) rfl (Nat.le_of_ble_eq_true rfl) (c_endOf0 _ _ _ (by first | decide | assumption | exact xw_1m0 (by assumption) | exact xw_1m1 (by assumption) | exact xw_ne1 (by assumption) | exact xw_n1m0 (by assumption))) rfl ?_
    refine x_astore_n C dX10_setEscaped_13 (by decide) ?_
    refine x_aload_n C dX10_setEscaped_14 rfl ?_
    refine x_getR C dX10_setEscaped_15 fF_X10_27 rfl rfl ?_
    refine x_getI C dX10_setEscaped_18 fF_X10_136 rfl rfl ?_
    refine x_iconst C dX10_setEscaped_21 ?_
    refine x_icmp_eq C 28 dX10_setEscaped_22 (by decide) h (fun h => ?_) (fun h => ?_)
    · refine x_aload_n C dX10_setEscaped_28 rfl ?_
      refine x_getI C dX10_setEscaped_29 fF_X10_215 rfl rfl ?_
      refine x_iload_n C dX10_setEscaped_32 rfl ?_
      refine x_icmp_ne C 39 dX10_setEscaped_33 (by decide) h (fun h => ?_) (fun h => ?_)
      · refine x_aload_n C dX10_setEscaped_39 rfl ?_
        obtain ⟨q3, hq3, h⟩ := x_bind h
        refine x_callVI C dX10_setEscaped_40 (xin_17 _ (List.mem_of_getElem? (i := 18) rfl)) xy_X10_remember (xi_X10_remember) (xs_X10_remember) (by omega) (by decide) (b := 0) rfl ⟨_, _, rfl⟩ (av := []) rfl (Nat.le_of_ble_eq_true rfl) (c_X_remember _ _ _ hq3) rfl ?_
        refine x_aload_n C dX10_setEscaped_43 rfl ?_
        refine x_iload_n C dX10_setEscaped_44 rfl ?_
        refine x_putZc C dX10_setEscaped_45 fF_X10_215 rfl rfl h (fun h => ?_)
        refine x_aload_n C dX10_setEscaped_48 rfl ?_
        refine x_getI C dX10_setEscaped_49 fF_X10_188 rfl rfl ?_
        exact x_ireturn hR dX10_setEscaped_52 h
      · refine x_bipush C dX10_setEscaped_36 (by decide) ?_
        exact x_ireturn hR dX10_setEscaped_38 h
    · refine x_bipush C dX10_setEscaped_25 (by decide) ?_
      exact x_ireturn hR dX10_setEscaped_27 h
  · obtain ⟨hk92, h⟩ := x_some1 h
    refine x_callVp C dX10_setEscaped_10 (xin_30 _ (List.mem_of_getElem? (i := 1) rfl)) xy_X3_endOf (xi_X3_endOf) (xs_X3_endOf) [11, 1, 12, 23, 34, 39, 41, 42] xv_46 (by omega) (by decide) (b := 0) rfl ⟨_, _, rfl⟩ (av := [.inl e]) rfl (Nat.le_of_ble_eq_true rfl) (c_endOf1 _ _ _ (by first | decide | assumption | exact xw_1m0 (by assumption) | exact xw_1m1 (by assumption) | exact xw_ne1 (by assumption) | exact xw_n1m0 (by assumption))) rfl ?_
    refine x_astore_n C dX10_setEscaped_13 (by decide) ?_
    refine x_aload_n C dX10_setEscaped_14 rfl ?_
    refine x_getR C dX10_setEscaped_15 fF_X10_27 rfl rfl ?_
    refine x_getI C dX10_setEscaped_18 fF_X10_136 rfl rfl ?_
    refine x_iconst C dX10_setEscaped_21 ?_
    refine x_icmp_eq C 28 dX10_setEscaped_22 (by decide) h (fun h => ?_) (fun h => ?_)
    · refine x_aload_n C dX10_setEscaped_28 rfl ?_
      refine x_getI C dX10_setEscaped_29 fF_X10_215 rfl rfl ?_
      refine x_iload_n C dX10_setEscaped_32 rfl ?_
      refine x_icmp_ne C 39 dX10_setEscaped_33 (by decide) h (fun h => ?_) (fun h => ?_)
      · refine x_aload_n C dX10_setEscaped_39 rfl ?_
        obtain ⟨q5, hq5, h⟩ := x_bind h
        refine x_callVI C dX10_setEscaped_40 (xin_17 _ (List.mem_of_getElem? (i := 18) rfl)) xy_X10_remember (xi_X10_remember) (xs_X10_remember) (by omega) (by decide) (b := 0) rfl ⟨_, _, rfl⟩ (av := []) rfl (Nat.le_of_ble_eq_true rfl) (c_X_remember _ _ _ hq5) rfl ?_
        refine x_aload_n C dX10_setEscaped_43 rfl ?_
        refine x_iload_n C dX10_setEscaped_44 rfl ?_
        refine x_putZc C dX10_setEscaped_45 fF_X10_215 rfl rfl h (fun h => ?_)
        refine x_aload_n C dX10_setEscaped_48 rfl ?_
        refine x_getI C dX10_setEscaped_49 fF_X10_188 rfl rfl ?_
        exact x_ireturn hR dX10_setEscaped_52 h
      · refine x_bipush C dX10_setEscaped_36 (by decide) ?_
        exact x_ireturn hR dX10_setEscaped_38 h
    · refine x_bipush C dX10_setEscaped_25 (by decide) ?_
      exact x_ireturn hR dX10_setEscaped_27 h
theorem c_X_setEscaped (l : Launch) (e : Int) (b : Int) (m : xM) (r : Int) (m9 : xM) (h : f_X_setEscaped e b m = some (r, m9)) : xMet l yX10_setEscaped cX10_setEscaped 4 (some .int) 5 lay_X [.inr (.inr (some 0)), .inl e, .inl b] m (some (.inl r)) m9 :=
  xMet_i (by decide +kernel) (Nat.le_of_ble_eq_true rfl) (fun Γ C hR hl9 => t_X_setEscaped (Nat.le_refl _) C e b hR m h)
/-! ===== yX10_escape ===== -/
theorem xy_X10_setEscaped : xY yX10_setEscaped cX10_setEscaped 4 (some .int) 2 := ⟨(xin_39 _ (List.mem_of_getElem? (i := 21) rfl)), (xin_1 _ (List.mem_of_getElem? (i := 2) rfl)), by decide, by decide, by decide +kernel⟩
theorem xi_X10_setEscaped : Cond.instanceMethod yX10_setEscaped ∈ wsL_law := (xin_39 _ (List.mem_of_getElem? (i := 19) rfl))
theorem xs_X10_setEscaped : Cond.selects yX10_setEscaped.cls yX10_setEscaped yX10_setEscaped ∈ wsL_law := (xin_39 _ (List.mem_of_getElem? (i := 20) rfl))
theorem dX10_escape_0 : decode cX10_escape 0 = .ok (.aload_n 0, 1) := by decide +kernel
theorem dX10_escape_1 : decode cX10_escape 1 = .ok (.iload_n 1, 1) := by decide +kernel
theorem dX10_escape_2 : decode cX10_escape 2 = .ok (.iconst 1, 1) := by decide +kernel
theorem dX10_escape_3 : decode cX10_escape 3 = .ok (.invokevirtual 323, 3) := by decide +kernel
theorem dX10_escape_6 : decode cX10_escape 6 = .ok (.ireturn, 1) := by decide +kernel
def f_X_escape (e : Int) (m : xM) : Option (Int × xM) :=
     (Option.bind (f_X_setEscaped e 1 m) fun q0 =>
      some (q0.1, q0.2))
set_option maxRecDepth 1000000 in
set_option maxHeartbeats 4000000 in
theorem t_X_escape {Γ : xG} {d : Nat} (hd9 : 6 ≤ d) (C : xC Γ lay_X RX10 cX10_escape 2 d) (e : Int) {r : Int} {m9 : xM} (hR : xRi Γ lay_X cX10_escape r m9) (m : xM) (h : f_X_escape e m = some (r, m9)) : xW Γ lay_X 2 0 [(0, .inr (.inr (some 0))), (1, .inl e)] [] m := by
  unfold f_X_escape at h
  refine x_aload_n C dX10_escape_0 rfl ?_
  refine x_iload_n C dX10_escape_1 rfl ?_
  refine x_iconst C dX10_escape_2 ?_
  obtain ⟨q0, hq0, h⟩ := x_bind h
  refine x_callVI C dX10_escape_3 (xin_39 _ (List.mem_of_getElem? (i := 18) rfl)) xy_X10_setEscaped (xi_X10_setEscaped) (xs_X10_setEscaped) (by omega) (by decide) (b := 0) rfl ⟨_, _, rfl⟩ (av := [.inl e, .inl 1]) rfl (Nat.le_of_ble_eq_true rfl) (c_X_setEscaped _ _ _ _ q0.1 q0.2 hq0) rfl ?_
  exact x_ireturn hR dX10_escape_6 h
theorem c_X_escape (l : Launch) (e : Int) (m : xM) (r : Int) (m9 : xM) (h : f_X_escape e m = some (r, m9)) : xMet l yX10_escape cX10_escape 2 (some .int) 6 lay_X [.inr (.inr (some 0)), .inl e] m (some (.inl r)) m9 :=
  xMet_i (by decide +kernel) (Nat.le_of_ble_eq_true rfl) (fun Γ C hR hl9 => t_X_escape (Nat.le_refl _) C e hR m h)
/-! ===== yX10_resume ===== -/
theorem dX10_resume_0 : decode cX10_resume 0 = .ok (.aload_n 0, 1) := by decide +kernel
theorem dX10_resume_1 : decode cX10_resume 1 = .ok (.iload_n 1, 1) := by decide +kernel
theorem dX10_resume_2 : decode cX10_resume 2 = .ok (.iconst 0, 1) := by decide +kernel
theorem dX10_resume_3 : decode cX10_resume 3 = .ok (.invokevirtual 323, 3) := by decide +kernel
theorem dX10_resume_6 : decode cX10_resume 6 = .ok (.ireturn, 1) := by decide +kernel
def f_X_resume (e : Int) (m : xM) : Option (Int × xM) :=
     (Option.bind (f_X_setEscaped e 0 m) fun q0 =>
      some (q0.1, q0.2))
set_option maxRecDepth 1000000 in
set_option maxHeartbeats 4000000 in
theorem t_X_resume {Γ : xG} {d : Nat} (hd9 : 6 ≤ d) (C : xC Γ lay_X RX10 cX10_resume 2 d) (e : Int) {r : Int} {m9 : xM} (hR : xRi Γ lay_X cX10_resume r m9) (m : xM) (h : f_X_resume e m = some (r, m9)) : xW Γ lay_X 2 0 [(0, .inr (.inr (some 0))), (1, .inl e)] [] m := by
  unfold f_X_resume at h
  refine x_aload_n C dX10_resume_0 rfl ?_
  refine x_iload_n C dX10_resume_1 rfl ?_
  refine x_iconst C dX10_resume_2 ?_
  obtain ⟨q0, hq0, h⟩ := x_bind h
  refine x_callVI C dX10_resume_3 (xin_39 _ (List.mem_of_getElem? (i := 18) rfl)) xy_X10_setEscaped (xi_X10_setEscaped) (xs_X10_setEscaped) (by omega) (by decide) (b := 0) rfl ⟨_, _, rfl⟩ (av := [.inl e, .inl 0]) rfl (Nat.le_of_ble_eq_true rfl) (c_X_setEscaped _ _ _ _ q0.1 q0.2 hq0) rfl ?_
  exact x_ireturn hR dX10_resume_6 h
theorem c_X_resume (l : Launch) (e : Int) (m : xM) (r : Int) (m9 : xM) (h : f_X_resume e m = some (r, m9)) : xMet l yX10_resume cX10_resume 2 (some .int) 6 lay_X [.inr (.inr (some 0)), .inl e] m (some (.inl r)) m9 :=
  xMet_i (by decide +kernel) (Nat.le_of_ble_eq_true rfl) (fun Γ C hR hl9 => t_X_resume (Nat.le_refl _) C e hR m h)
/-! ===== yX10_send ===== -/
theorem xy_X10_checkLength : xY yX10_checkLength cX10_checkLength 3 none 2 := ⟨(xin_12 _ (List.mem_of_getElem? (i := 1) rfl)), (xin_1 _ (List.mem_of_getElem? (i := 2) rfl)), by decide, by decide, by decide +kernel⟩
theorem xi_X10_checkLength : Cond.instanceMethod yX10_checkLength ∈ wsL_law := (xin_11 _ (List.mem_of_getElem? (i := 23) rfl))
theorem xs_X10_checkLength : Cond.selects yX10_checkLength.cls yX10_checkLength yX10_checkLength ∈ wsL_law := (xin_12 _ (List.mem_of_getElem? (i := 0) rfl))
theorem xy_X1_enqueue : xY yX1_enqueue cX1_enqueue 3 none 2 := ⟨(xin_30 _ (List.mem_of_getElem? (i := 5) rfl)), (xin_3 _ (List.mem_of_getElem? (i := 21) rfl)), by decide, by decide, by decide +kernel⟩
theorem xi_X1_enqueue : Cond.instanceMethod yX1_enqueue ∈ wsL_law := (xin_30 _ (List.mem_of_getElem? (i := 3) rfl))
theorem xs_X1_enqueue : Cond.selects yX1_enqueue.cls yX1_enqueue yX1_enqueue ∈ wsL_law := (xin_30 _ (List.mem_of_getElem? (i := 4) rfl))
theorem xv_69 : xview lay_X lay_ES [12, 13, 14, 15, 16, 17, 18, 19, 20, 21, 22, 441] := xview_of (by decide +kernel)
theorem xv_70 : xview lay_X lay_ES [23, 24, 25, 26, 27, 28, 29, 30, 31, 32, 33, 441] := xview_of (by decide +kernel)
theorem dX10_send_0 : decode cX10_send 0 = .ok (.aload_n 0, 1) := by decide +kernel
theorem dX10_send_1 : decode cX10_send 1 = .ok (.iload_n 1, 1) := by decide +kernel
theorem dX10_send_2 : decode cX10_send 2 = .ok (.invokevirtual 181, 3) := by decide +kernel
theorem dX10_send_5 : decode cX10_send 5 = .ok (.aload_n 0, 1) := by decide +kernel
theorem dX10_send_6 : decode cX10_send 6 = .ok (.iload_n 2, 1) := by decide +kernel
theorem dX10_send_7 : decode cX10_send 7 = .ok (.sipush 600, 3) := by decide +kernel
theorem dX10_send_10 : decode cX10_send 10 = .ok (.invokevirtual 97, 3) := by decide +kernel
theorem dX10_send_13 : decode cX10_send 13 = .ok (.aload_n 0, 1) := by decide +kernel
theorem dX10_send_14 : decode cX10_send 14 = .ok (.iconst 0, 1) := by decide +kernel
theorem dX10_send_15 : decode cX10_send 15 = .ok (.putfield 90, 3) := by decide +kernel
theorem dX10_send_18 : decode cX10_send 18 = .ok (.aload_n 0, 1) := by decide +kernel
theorem dX10_send_19 : decode cX10_send 19 = .ok (.getfield 27, 3) := by decide +kernel
theorem dX10_send_22 : decode cX10_send 22 = .ok (.iload_n 1, 1) := by decide +kernel
theorem dX10_send_23 : decode cX10_send 23 = .ok (.invokevirtual 184, 3) := by decide +kernel
theorem dX10_send_26 : decode cX10_send 26 = .ok (.astore_n 3, 1) := by decide +kernel
theorem dX10_send_27 : decode cX10_send 27 = .ok (.aload_n 0, 1) := by decide +kernel
theorem dX10_send_28 : decode cX10_send 28 = .ok (.getfield 27, 3) := by decide +kernel
theorem dX10_send_31 : decode cX10_send 31 = .ok (.getfield 136, 3) := by decide +kernel
theorem dX10_send_34 : decode cX10_send 34 = .ok (.ifCond .ne 6, 3) := by decide +kernel
theorem dX10_send_37 : decode cX10_send 37 = .ok (.bipush (-2), 2) := by decide +kernel
theorem dX10_send_39 : decode cX10_send 39 = .ok (.ireturn, 1) := by decide +kernel
theorem dX10_send_40 : decode cX10_send 40 = .ok (.aload_n 3, 1) := by decide +kernel
theorem dX10_send_41 : decode cX10_send 41 = .ok (.getfield 188, 3) := by decide +kernel
theorem dX10_send_44 : decode cX10_send 44 = .ok (.iload_n 2, 1) := by decide +kernel
theorem dX10_send_45 : decode cX10_send 45 = .ok (.iadd, 1) := by decide +kernel
theorem dX10_send_46 : decode cX10_send 46 = .ok (.sipush 200, 3) := by decide +kernel
theorem dX10_send_49 : decode cX10_send 49 = .ok (.if_icmp .le 6, 3) := by decide +kernel
theorem dX10_send_52 : decode cX10_send 52 = .ok (.bipush (-3), 2) := by decide +kernel
theorem dX10_send_54 : decode cX10_send 54 = .ok (.ireturn, 1) := by decide +kernel
theorem dX10_send_55 : decode cX10_send 55 = .ok (.aload_n 0, 1) := by decide +kernel
theorem dX10_send_56 : decode cX10_send 56 = .ok (.invokevirtual 300, 3) := by decide +kernel
theorem dX10_send_59 : decode cX10_send 59 = .ok (.aload_n 3, 1) := by decide +kernel
theorem dX10_send_60 : decode cX10_send 60 = .ok (.aload_n 0, 1) := by decide +kernel
theorem dX10_send_61 : decode cX10_send 61 = .ok (.getfield 41, 3) := by decide +kernel
theorem dX10_send_64 : decode cX10_send 64 = .ok (.iload_n 2, 1) := by decide +kernel
theorem dX10_send_65 : decode cX10_send 65 = .ok (.invokevirtual 327, 3) := by decide +kernel
theorem dX10_send_68 : decode cX10_send 68 = .ok (.aload_n 3, 1) := by decide +kernel
theorem dX10_send_69 : decode cX10_send 69 = .ok (.getfield 188, 3) := by decide +kernel
theorem dX10_send_72 : decode cX10_send 72 = .ok (.ireturn, 1) := by decide +kernel
def f_X_send_68 (e : Int) (z : Int) (m : xM) : Option (Int × xM) :=
     some ((m 12 5), m)
set_option maxRecDepth 1000000 in
set_option maxHeartbeats 4000000 in
theorem t_X_send_68 {Γ : xG} {d : Nat} (hd9 : 5 ≤ d) (C : xC Γ lay_X RX10 cX10_send 4 d) (e : Int) (z : Int) {r : Int} {m9 : xM} (hR : xRi Γ lay_X cX10_send r m9) (m : xM) (h : f_X_send_68 e z m = some (r, m9)) : xW Γ lay_X 4 68 [(3, .inr (.inr (some 12)))] [] m := by
  unfold f_X_send_68 at h
  refine x_aload_n C dX10_send_68 rfl ?_
  refine x_getI C dX10_send_69 fF_X10_188 rfl rfl ?_
  exact x_ireturn hR dX10_send_72 h
def f_X_send_68_23 (e : Int) (z : Int) (m : xM) : Option (Int × xM) :=
     some ((m 23 5), m)
set_option maxRecDepth 1000000 in
set_option maxHeartbeats 4000000 in
theorem t_X_send_68_23 {Γ : xG} {d : Nat} (hd9 : 5 ≤ d) (C : xC Γ lay_X RX10 cX10_send 4 d) (e : Int) (z : Int) {r : Int} {m9 : xM} (hR : xRi Γ lay_X cX10_send r m9) (m : xM) (h : f_X_send_68_23 e z m = some (r, m9)) : xW Γ lay_X 4 68 [(3, .inr (.inr (some 23)))] [] m := by
  unfold f_X_send_68_23 at h
  refine x_aload_n C dX10_send_68 rfl ?_
  refine x_getI C dX10_send_69 fF_X10_188 rfl rfl ?_
  exact x_ireturn hR dX10_send_72 h
def f_X_send (e : Int) (z : Int) (m : xM) : Option (Int × xM) :=
     (Option.bind (f_X_checkEnd e m) fun q0 =>
      (Option.bind (f_X_checkLength z 600 m) fun q1 =>
      (if xw e = 0 then (if xw (m 11 8) = 0 then some ((-2), (xu m 0 10 0))
      else (if xw 200 < xw ((m 12 5) + z) then some ((-3), (xu m 0 10 0))
      else (Option.bind (f_X_remember (xu m 0 10 0)) fun q4 =>
      (Option.bind (f_E_enq z (xvw [12, 13, 14, 15, 16, 17, 18, 19, 20, 21, 22, 441] q4)) fun q5 =>
      f_X_send_68 e z (xmg [12, 13, 14, 15, 16, 17, 18, 19, 20, 21, 22, 441] 12 q4 q5)))))
      else (if xw e = 1 then (if xw (m 11 8) = 0 then some ((-2), (xu m 0 10 0))
      else (if xw 200 < xw ((m 23 5) + z) then some ((-3), (xu m 0 10 0))
      else (Option.bind (f_X_remember (xu m 0 10 0)) fun q7 =>
      (Option.bind (f_E_enq z (xvw [23, 24, 25, 26, 27, 28, 29, 30, 31, 32, 33, 441] q7)) fun q8 =>
      f_X_send_68_23 e z (xmg [23, 24, 25, 26, 27, 28, 29, 30, 31, 32, 33, 441] 12 q7 q8)))))
      else none))))
set_option maxRecDepth 1000000 in
set_option maxHeartbeats 4000000 in
theorem t_X_send {Γ : xG} {d : Nat} (hd9 : 5 ≤ d) (C : xC Γ lay_X RX10 cX10_send 4 d) (e : Int) (z : Int) {r : Int} {m9 : xM} (hR : xRi Γ lay_X cX10_send r m9) (m : xM) (h : f_X_send e z m = some (r, m9)) : xW Γ lay_X 4 0 [(0, .inr (.inr (some 0))), (1, .inl e), (2, .inl z)] [] m := by
  unfold f_X_send at h
  refine x_aload_n C dX10_send_0 rfl ?_
  refine x_iload_n C dX10_send_1 rfl ?_
  obtain ⟨q0, hq0, h⟩ := x_bind h
  refine x_callVI C dX10_send_2 (xin_29 _ (List.mem_of_getElem? (i := 21) rfl)) xy_X10_checkEnd (xi_X10_checkEnd) (xs_X10_checkEnd) (by omega) (by decide) (b := 0) rfl ⟨_, _, rfl⟩ (av := [.inl e]) rfl (Nat.le_of_ble_eq_true rfl) (c_X_checkEnd _ _ _ _ hq0) rfl ?_
  refine x_aload_n C dX10_send_5 rfl ?_
  refine x_iload_n C dX10_send_6 rfl ?_
  refine x_sipush C dX10_send_7 (by decide) ?_
  obtain ⟨q1, hq1, h⟩ := x_bind h
  refine x_callVI C dX10_send_10 (xin_11 _ (List.mem_of_getElem? (i := 22) rfl)) xy_X10_checkLength (xi_X10_checkLength) (xs_X10_checkLength) (by omega) (by decide) (b := 0) rfl ⟨_, _, rfl⟩ (av := [.inl z, .inl 600]) rfl (Nat.le_of_ble_eq_true rfl) (c_X_checkLength _ _ _ _ _ hq1) rfl ?_
  refine x_aload_n C dX10_send_13 rfl ?_
  refine x_iconst C dX10_send_14 ?_
  refine x_putI C dX10_send_15 fF_X10_90 rfl rfl ?_
  refine x_aload_n C dX10_send_18 rfl ?_
  refine x_getR C dX10_send_19 fF_X10_27 rfl rfl ?_
  refine x_iload_n C dX10_send_22 rfl ?_
  refine x_ite h (fun hk93 h => ?_) (fun _ h => ?_)
  · refine x_callVp C dX10_send_23 (xin_30 _ (List.mem_of_getElem? (i := 1) rfl)) xy_X3_endOf (xi_X3_endOf) (xs_X3_endOf) [11, 1, 12, 23, 34, 39, 41, 42] xv_46 (by omega) (by decide) (b := 0) rfl ⟨_, _, rfl⟩ (av := [.inl e]) rfl (Nat.le_of_ble_eq_true rfl) (c_endOf0 _ _ _ (by first | decide | assumption | exact xw_1m0 (by assumption) | exact xw_1m1 (by assumption) | exact xw_ne1 (by assumption) | exact xw_n1m0 (by assumption))) rfl ?_
    refine x_astore_n C dX10_send_26 (by decide) ?_
    refine x_aload_n C dX10_send_27 rfl ?_
    refine x_getR C dX10_send_28 fF_X10_27 rfl rfl ?_
    refine x_getI C dX10_send_31 fF_X10_136 rfl rfl ?_
    refine x_if_ne C 40 dX10_send_34 (by decide) h (fun h => ?_) (fun h => ?_)
    · refine x_aload_n C dX10_send_40 rfl ?_
      refine x_getI C dX10_send_41 fF_X10_188 rfl rfl ?_
      refine x_iload_n C dX10_send_44 rfl ?_
      refine x_iadd C dX10_send_45 ?_
      refine x_sipush C dX10_send_46 (by decide) ?_
      refine x_icmp_le C 55 dX10_send_49 (by decide) h (fun h => ?_) (fun h => ?_)
      · refine x_aload_n C dX10_send_55 rfl ?_
        obtain ⟨q4, hq4, h⟩ := x_bind h
        refine x_callVI C dX10_send_56 (xin_17 _ (List.mem_of_getElem? (i := 18) rfl)) xy_X10_remember (xi_X10_remember) (xs_X10_remember) (by omega) (by decide) (b := 0) rfl ⟨_, _, rfl⟩ (av := []) rfl (Nat.le_of_ble_eq_true rfl) (c_X_remember _ _ _ hq4) rfl ?_
        refine x_aload_n C dX10_send_59 rfl ?_
        refine x_aload_n C dX10_send_60 rfl ?_
        refine x_getR C dX10_send_61 fF_X10_41 rfl rfl ?_
        refine x_iload_n C dX10_send_64 rfl ?_
        obtain ⟨q5, hq5, h⟩ := x_bind h
        refine x_callV C dX10_send_65 (xin_30 _ (List.mem_of_getElem? (i := 2) rfl)) xy_X1_enqueue (xi_X1_enqueue) (xs_X1_enqueue) [12, 13, 14, 15, 16, 17, 18, 19, 20, 21, 22, 441] xv_69 (by omega) (by decide) (b := 0) rfl ⟨_, _, rfl⟩ (av := [.inr (.inr (some 11)), .inl z]) rfl (Nat.le_of_ble_eq_true rfl) (c_E_enq _ _ _ _ hq5) rfl ?_
        refine x_loc [(3, .inr (.inr (some 12)))] ⟨rfl, trivial⟩ ?_
        exact t_X_send_68 hd9 C _ _ hR _ h
      · refine x_bipush C dX10_send_52 (by decide) ?_
        exact x_ireturn hR dX10_send_54 h
    · refine x_bipush C dX10_send_37 (by decide) ?_
      exact x_ireturn hR dX10_send_39 h
  · obtain ⟨hk93, h⟩ := x_some1 h
    refine x_callVp C dX10_send_23 (xin_30 _ (List.mem_of_getElem? (i := 1) rfl)) xy_X3_endOf (xi_X3_endOf) (xs_X3_endOf) [11, 1, 12, 23, 34, 39, 41, 42] xv_46 (by omega) (by decide) (b := 0) rfl ⟨_, _, rfl⟩ (av := [.inl e]) rfl (Nat.le_of_ble_eq_true rfl) (c_endOf1 _ _ _ (by first | decide | assumption | exact xw_1m0 (by assumption) | exact xw_1m1 (by assumption) | exact xw_ne1 (by assumption) | exact xw_n1m0 (by assumption))) rfl ?_
    refine x_astore_n C dX10_send_26 (by decide) ?_
    refine x_aload_n C dX10_send_27 rfl ?_
    refine x_getR C dX10_send_28 fF_X10_27 rfl rfl ?_
    refine x_getI C dX10_send_31 fF_X10_136 rfl rfl ?_
    refine x_if_ne C 40 dX10_send_34 (by decide) h (fun h => ?_) (fun h => ?_)
    · refine x_aload_n C dX10_send_40 rfl ?_
      refine x_getI C dX10_send_41 fF_X10_188 rfl rfl ?_
      refine x_iload_n C dX10_send_44 rfl ?_
      refine x_iadd C dX10_send_45 ?_
      refine x_sipush C dX10_send_46 (by decide) ?_
      refine x_icmp_le C 55 dX10_send_49 (by decide) h (fun h => ?_) (fun h => ?_)
      · refine x_aload_n C dX10_send_55 rfl ?_
        obtain ⟨q7, hq7, h⟩ := x_bind h
        refine x_callVI C dX10_send_56 (xin_17 _ (List.mem_of_getElem? (i := 18) rfl)) xy_X10_remember (xi_X10_remember) (xs_X10_remember) (by omega) (by decide) (b := 0) rfl ⟨_, _, rfl⟩ (av := []) rfl (Nat.le_of_ble_eq_true rfl) (c_X_remember _ _ _ hq7) rfl ?_
        refine x_aload_n C dX10_send_59 rfl ?_
        refine x_aload_n C dX10_send_60 rfl ?_
        refine x_getR C dX10_send_61 fF_X10_41 rfl rfl ?_
        refine x_iload_n C dX10_send_64 rfl ?_
        obtain ⟨q8, hq8, h⟩ := x_bind h
        refine x_callV C dX10_send_65 (xin_30 _ (List.mem_of_getElem? (i := 2) rfl)) xy_X1_enqueue (xi_X1_enqueue) (xs_X1_enqueue) [23, 24, 25, 26, 27, 28, 29, 30, 31, 32, 33, 441] xv_70 (by omega) (by decide) (b := 0) rfl ⟨_, _, rfl⟩ (av := [.inr (.inr (some 11)), .inl z]) rfl (Nat.le_of_ble_eq_true rfl) (c_E_enq _ _ _ _ hq8) rfl ?_
        refine x_loc [(3, .inr (.inr (some 23)))] ⟨rfl, trivial⟩ ?_
        exact t_X_send_68_23 hd9 C _ _ hR _ h
      · refine x_bipush C dX10_send_52 (by decide) ?_
        exact x_ireturn hR dX10_send_54 h
    · refine x_bipush C dX10_send_37 (by decide) ?_
      exact x_ireturn hR dX10_send_39 h
theorem c_X_send (l : Launch) (e : Int) (z : Int) (m : xM) (r : Int) (m9 : xM) (h : f_X_send e z m = some (r, m9)) : xMet l yX10_send cX10_send 4 (some .int) 5 lay_X [.inr (.inr (some 0)), .inl e, .inl z] m (some (.inl r)) m9 :=
  xMet_i (by decide +kernel) (Nat.le_of_ble_eq_true rfl) (fun Γ C hR hl9 => t_X_send (Nat.le_refl _) C e z hR m h)
/-! ===== yX10_setQuality ===== -/
theorem xy_X10_checkQuality : xY yX10_checkQuality cX10_checkQuality 2 none 1 := ⟨(xin_32 _ (List.mem_of_getElem? (i := 19) rfl)), (xin_1 _ (List.mem_of_getElem? (i := 2) rfl)), by decide, by decide, by decide +kernel⟩
theorem xi_X10_checkQuality : Cond.instanceMethod yX10_checkQuality ∈ wsL_law := (xin_32 _ (List.mem_of_getElem? (i := 17) rfl))
theorem xs_X10_checkQuality : Cond.selects yX10_checkQuality.cls yX10_checkQuality yX10_checkQuality ∈ wsL_law := (xin_32 _ (List.mem_of_getElem? (i := 18) rfl))
theorem dX10_setQuality_0 : decode cX10_setQuality 0 = .ok (.aload_n 0, 1) := by decide +kernel
theorem dX10_setQuality_1 : decode cX10_setQuality 1 = .ok (.iload_n 1, 1) := by decide +kernel
theorem dX10_setQuality_2 : decode cX10_setQuality 2 = .ok (.invokevirtual 270, 3) := by decide +kernel
theorem dX10_setQuality_5 : decode cX10_setQuality 5 = .ok (.aload_n 0, 1) := by decide +kernel
theorem dX10_setQuality_6 : decode cX10_setQuality 6 = .ok (.invokevirtual 300, 3) := by decide +kernel
theorem dX10_setQuality_9 : decode cX10_setQuality 9 = .ok (.aload_n 0, 1) := by decide +kernel
theorem dX10_setQuality_10 : decode cX10_setQuality 10 = .ok (.getfield 27, 3) := by decide +kernel
theorem dX10_setQuality_13 : decode cX10_setQuality 13 = .ok (.getfield 142, 3) := by decide +kernel
theorem dX10_setQuality_16 : decode cX10_setQuality 16 = .ok (.istore_n 2, 1) := by decide +kernel
theorem dX10_setQuality_17 : decode cX10_setQuality 17 = .ok (.aload_n 0, 1) := by decide +kernel
theorem dX10_setQuality_18 : decode cX10_setQuality 18 = .ok (.getfield 27, 3) := by decide +kernel
theorem dX10_setQuality_21 : decode cX10_setQuality 21 = .ok (.iload_n 1, 1) := by decide +kernel
theorem dX10_setQuality_22 : decode cX10_setQuality 22 = .ok (.putfield 142, 3) := by decide +kernel
theorem dX10_setQuality_25 : decode cX10_setQuality 25 = .ok (.iload_n 2, 1) := by decide +kernel
theorem dX10_setQuality_26 : decode cX10_setQuality 26 = .ok (.ireturn, 1) := by decide +kernel
def f_X_setQuality (q : Int) (m : xM) : Option (Int × xM) :=
     (Option.bind (f_X_checkQuality q m) fun q0 =>
      (Option.bind (f_X_remember m) fun q1 =>
      some ((q1 11 9), (xu q1 11 9 q))))
set_option maxRecDepth 1000000 in
set_option maxHeartbeats 4000000 in
theorem t_X_setQuality {Γ : xG} {d : Nat} (hd9 : 5 ≤ d) (C : xC Γ lay_X RX10 cX10_setQuality 3 d) (q : Int) {r : Int} {m9 : xM} (hR : xRi Γ lay_X cX10_setQuality r m9) (m : xM) (h : f_X_setQuality q m = some (r, m9)) : xW Γ lay_X 3 0 [(0, .inr (.inr (some 0))), (1, .inl q)] [] m := by
  unfold f_X_setQuality at h
  refine x_aload_n C dX10_setQuality_0 rfl ?_
  refine x_iload_n C dX10_setQuality_1 rfl ?_
  obtain ⟨q0, hq0, h⟩ := x_bind h
  refine x_callVI C dX10_setQuality_2 (xin_32 _ (List.mem_of_getElem? (i := 16) rfl)) xy_X10_checkQuality (xi_X10_checkQuality) (xs_X10_checkQuality) (by omega) (by decide) (b := 0) rfl ⟨_, _, rfl⟩ (av := [.inl q]) rfl (Nat.le_of_ble_eq_true rfl) (c_X_checkQuality _ _ _ _ hq0) rfl ?_
  refine x_aload_n C dX10_setQuality_5 rfl ?_
  obtain ⟨q1, hq1, h⟩ := x_bind h
  refine x_callVI C dX10_setQuality_6 (xin_17 _ (List.mem_of_getElem? (i := 18) rfl)) xy_X10_remember (xi_X10_remember) (xs_X10_remember) (by omega) (by decide) (b := 0) rfl ⟨_, _, rfl⟩ (av := []) rfl (Nat.le_of_ble_eq_true rfl) (c_X_remember _ _ _ hq1) rfl ?_
  refine x_aload_n C dX10_setQuality_9 rfl ?_
  refine x_getR C dX10_setQuality_10 fF_X10_27 rfl rfl ?_
  refine x_getI C dX10_setQuality_13 fF_X10_142 rfl rfl ?_
  refine x_istore_n C dX10_setQuality_16 (by decide) ?_
  refine x_aload_n C dX10_setQuality_17 rfl ?_
  refine x_getR C dX10_setQuality_18 fF_X10_27 rfl rfl ?_
  refine x_iload_n C dX10_setQuality_21 rfl ?_
  refine x_putI C dX10_setQuality_22 fF_X10_142 rfl rfl ?_
  refine x_iload_n C dX10_setQuality_25 rfl ?_
  exact x_ireturn hR dX10_setQuality_26 h
theorem c_X_setQuality (l : Launch) (q : Int) (m : xM) (r : Int) (m9 : xM) (h : f_X_setQuality q m = some (r, m9)) : xMet l yX10_setQuality cX10_setQuality 3 (some .int) 5 lay_X [.inr (.inr (some 0)), .inl q] m (some (.inl r)) m9 :=
  xMet_i (by decide +kernel) (Nat.le_of_ble_eq_true rfl) (fun Γ C hR hl9 => t_X_setQuality (Nat.le_refl _) C q hR m h)
/-! ===== yX10_undoCount ===== -/
theorem dX10_undoCount_0 : decode cX10_undoCount 0 = .ok (.aload_n 0, 1) := by decide +kernel
theorem dX10_undoCount_1 : decode cX10_undoCount 1 = .ok (.getfield 120, 3) := by decide +kernel
theorem dX10_undoCount_4 : decode cX10_undoCount 4 = .ok (.ireturn, 1) := by decide +kernel
def f_X_undoCount (m : xM) : Option (Int) :=
     some (m 0 7)
set_option maxRecDepth 1000000 in
set_option maxHeartbeats 4000000 in
theorem t_X_undoCount {Γ : xG} {d : Nat} (hd9 : 1 ≤ d) (C : xC Γ lay_X RX10 cX10_undoCount 1 d) {r : Int} {m : xM} (hR : xRi Γ lay_X cX10_undoCount r m) (h : f_X_undoCount m = some r) : xW Γ lay_X 1 0 [(0, .inr (.inr (some 0)))] [] m := by
  unfold f_X_undoCount at h
  refine x_aload_n C dX10_undoCount_0 rfl ?_
  refine x_getI C dX10_undoCount_1 fF_X10_120 rfl rfl ?_
  exact x_ireturnP hR dX10_undoCount_4 h
theorem c_X_undoCount (l : Launch) (m : xM) (r : Int) (h : f_X_undoCount m = some r) : xMet l yX10_undoCount cX10_undoCount 1 (some .int) 1 lay_X [.inr (.inr (some 0))] m (some (.inl r)) m :=
  xMet_i (by decide +kernel) (Nat.le_of_ble_eq_true rfl) (fun Γ C hR hl9 => t_X_undoCount (Nat.le_refl _) C hR h)
/-! ===== yX10_undo ===== -/
def xT_26 : List Nat := [11, 12, 13, 14, 15, 16, 17, 18, 19, 20, 21, 22, 23, 24, 25, 26, 27, 28, 29, 30, 31, 32, 33, 34, 35, 36, 37, 38, 39, 40, 41, 42, 43, 110, 111, 112, 113, 114, 115, 116, 117, 118, 119, 120, 121, 122, 123, 124, 125, 126, 127, 128, 129, 130, 131, 132, 133, 134, 135, 136, 137, 138, 139, 140, 141, 142, 1]
theorem xv_71 : xview lay_X lay_LL xT_26 := xview_of (by decide +kernel)
def xT_27 : List Nat := [11, 12, 13, 14, 15, 16, 17, 18, 19, 20, 21, 22, 23, 24, 25, 26, 27, 28, 29, 30, 31, 32, 33, 34, 35, 36, 37, 38, 39, 40, 41, 42, 43, 110, 111, 112, 113, 114, 115, 116, 117, 118, 119, 120, 121, 122, 123, 124, 125, 126, 127, 128, 129, 130, 131, 132, 133, 134, 135, 136, 137, 138, 139, 140, 141, 142]
def xT_28 : List Nat := [11, 12, 13, 14, 15, 16, 17, 18, 19, 20, 21, 22, 23, 24, 25, 26, 27, 28, 29, 30, 31, 32, 33, 34, 35, 36, 37, 38, 39, 40, 41, 42, 43, 143, 144, 145, 146, 147, 148, 149, 150, 151, 152, 153, 154, 155, 156, 157, 158, 159, 160, 161, 162, 163, 164, 165, 166, 167, 168, 169, 170, 171, 172, 173, 174, 175, 1]
theorem xv_72 : xview lay_X lay_LL xT_28 := xview_of (by decide +kernel)
def xT_29 : List Nat := [11, 12, 13, 14, 15, 16, 17, 18, 19, 20, 21, 22, 23, 24, 25, 26, 27, 28, 29, 30, 31, 32, 33, 34, 35, 36, 37, 38, 39, 40, 41, 42, 43, 143, 144, 145, 146, 147, 148, 149, 150, 151, 152, 153, 154, 155, 156, 157, 158, 159, 160, 161, 162, 163, 164, 165, 166, 167, 168, 169, 170, 171, 172, 173, 174, 175]
def xT_30 : List Nat := [11, 12, 13, 14, 15, 16, 17, 18, 19, 20, 21, 22, 23, 24, 25, 26, 27, 28, 29, 30, 31, 32, 33, 34, 35, 36, 37, 38, 39, 40, 41, 42, 43, 176, 177, 178, 179, 180, 181, 182, 183, 184, 185, 186, 187, 188, 189, 190, 191, 192, 193, 194, 195, 196, 197, 198, 199, 200, 201, 202, 203, 204, 205, 206, 207, 208, 1]
theorem xv_73 : xview lay_X lay_LL xT_30 := xview_of (by decide +kernel)
def xT_31 : List Nat := [11, 12, 13, 14, 15, 16, 17, 18, 19, 20, 21, 22, 23, 24, 25, 26, 27, 28, 29, 30, 31, 32, 33, 34, 35, 36, 37, 38, 39, 40, 41, 42, 43, 176, 177, 178, 179, 180, 181, 182, 183, 184, 185, 186, 187, 188, 189, 190, 191, 192, 193, 194, 195, 196, 197, 198, 199, 200, 201, 202, 203, 204, 205, 206, 207, 208]
def xT_32 : List Nat := [11, 12, 13, 14, 15, 16, 17, 18, 19, 20, 21, 22, 23, 24, 25, 26, 27, 28, 29, 30, 31, 32, 33, 34, 35, 36, 37, 38, 39, 40, 41, 42, 43, 209, 210, 211, 212, 213, 214, 215, 216, 217, 218, 219, 220, 221, 222, 223, 224, 225, 226, 227, 228, 229, 230, 231, 232, 233, 234, 235, 236, 237, 238, 239, 240, 241, 1]
theorem xv_74 : xview lay_X lay_LL xT_32 := xview_of (by decide +kernel)
def xT_33 : List Nat := [11, 12, 13, 14, 15, 16, 17, 18, 19, 20, 21, 22, 23, 24, 25, 26, 27, 28, 29, 30, 31, 32, 33, 34, 35, 36, 37, 38, 39, 40, 41, 42, 43, 209, 210, 211, 212, 213, 214, 215, 216, 217, 218, 219, 220, 221, 222, 223, 224, 225, 226, 227, 228, 229, 230, 231, 232, 233, 234, 235, 236, 237, 238, 239, 240, 241]
def xT_34 : List Nat := [11, 12, 13, 14, 15, 16, 17, 18, 19, 20, 21, 22, 23, 24, 25, 26, 27, 28, 29, 30, 31, 32, 33, 34, 35, 36, 37, 38, 39, 40, 41, 42, 43, 242, 243, 244, 245, 246, 247, 248, 249, 250, 251, 252, 253, 254, 255, 256, 257, 258, 259, 260, 261, 262, 263, 264, 265, 266, 267, 268, 269, 270, 271, 272, 273, 274, 1]
theorem xv_75 : xview lay_X lay_LL xT_34 := xview_of (by decide +kernel)
def xT_35 : List Nat := [11, 12, 13, 14, 15, 16, 17, 18, 19, 20, 21, 22, 23, 24, 25, 26, 27, 28, 29, 30, 31, 32, 33, 34, 35, 36, 37, 38, 39, 40, 41, 42, 43, 242, 243, 244, 245, 246, 247, 248, 249, 250, 251, 252, 253, 254, 255, 256, 257, 258, 259, 260, 261, 262, 263, 264, 265, 266, 267, 268, 269, 270, 271, 272, 273, 274]
def xT_36 : List Nat := [11, 12, 13, 14, 15, 16, 17, 18, 19, 20, 21, 22, 23, 24, 25, 26, 27, 28, 29, 30, 31, 32, 33, 34, 35, 36, 37, 38, 39, 40, 41, 42, 43, 275, 276, 277, 278, 279, 280, 281, 282, 283, 284, 285, 286, 287, 288, 289, 290, 291, 292, 293, 294, 295, 296, 297, 298, 299, 300, 301, 302, 303, 304, 305, 306, 307, 1]
theorem xv_76 : xview lay_X lay_LL xT_36 := xview_of (by decide +kernel)
def xT_37 : List Nat := [11, 12, 13, 14, 15, 16, 17, 18, 19, 20, 21, 22, 23, 24, 25, 26, 27, 28, 29, 30, 31, 32, 33, 34, 35, 36, 37, 38, 39, 40, 41, 42, 43, 275, 276, 277, 278, 279, 280, 281, 282, 283, 284, 285, 286, 287, 288, 289, 290, 291, 292, 293, 294, 295, 296, 297, 298, 299, 300, 301, 302, 303, 304, 305, 306, 307]
def xT_38 : List Nat := [11, 12, 13, 14, 15, 16, 17, 18, 19, 20, 21, 22, 23, 24, 25, 26, 27, 28, 29, 30, 31, 32, 33, 34, 35, 36, 37, 38, 39, 40, 41, 42, 43, 308, 309, 310, 311, 312, 313, 314, 315, 316, 317, 318, 319, 320, 321, 322, 323, 324, 325, 326, 327, 328, 329, 330, 331, 332, 333, 334, 335, 336, 337, 338, 339, 340, 1]
theorem xv_77 : xview lay_X lay_LL xT_38 := xview_of (by decide +kernel)
def xT_39 : List Nat := [11, 12, 13, 14, 15, 16, 17, 18, 19, 20, 21, 22, 23, 24, 25, 26, 27, 28, 29, 30, 31, 32, 33, 34, 35, 36, 37, 38, 39, 40, 41, 42, 43, 308, 309, 310, 311, 312, 313, 314, 315, 316, 317, 318, 319, 320, 321, 322, 323, 324, 325, 326, 327, 328, 329, 330, 331, 332, 333, 334, 335, 336, 337, 338, 339, 340]
def xT_40 : List Nat := [11, 12, 13, 14, 15, 16, 17, 18, 19, 20, 21, 22, 23, 24, 25, 26, 27, 28, 29, 30, 31, 32, 33, 34, 35, 36, 37, 38, 39, 40, 41, 42, 43, 341, 342, 343, 344, 345, 346, 347, 348, 349, 350, 351, 352, 353, 354, 355, 356, 357, 358, 359, 360, 361, 362, 363, 364, 365, 366, 367, 368, 369, 370, 371, 372, 373, 1]
theorem xv_78 : xview lay_X lay_LL xT_40 := xview_of (by decide +kernel)
def xT_41 : List Nat := [11, 12, 13, 14, 15, 16, 17, 18, 19, 20, 21, 22, 23, 24, 25, 26, 27, 28, 29, 30, 31, 32, 33, 34, 35, 36, 37, 38, 39, 40, 41, 42, 43, 341, 342, 343, 344, 345, 346, 347, 348, 349, 350, 351, 352, 353, 354, 355, 356, 357, 358, 359, 360, 361, 362, 363, 364, 365, 366, 367, 368, 369, 370, 371, 372, 373]
def xT_42 : List Nat := [11, 12, 13, 14, 15, 16, 17, 18, 19, 20, 21, 22, 23, 24, 25, 26, 27, 28, 29, 30, 31, 32, 33, 34, 35, 36, 37, 38, 39, 40, 41, 42, 43, 374, 375, 376, 377, 378, 379, 380, 381, 382, 383, 384, 385, 386, 387, 388, 389, 390, 391, 392, 393, 394, 395, 396, 397, 398, 399, 400, 401, 402, 403, 404, 405, 406, 1]
theorem xv_79 : xview lay_X lay_LL xT_42 := xview_of (by decide +kernel)
def xT_43 : List Nat := [11, 12, 13, 14, 15, 16, 17, 18, 19, 20, 21, 22, 23, 24, 25, 26, 27, 28, 29, 30, 31, 32, 33, 34, 35, 36, 37, 38, 39, 40, 41, 42, 43, 374, 375, 376, 377, 378, 379, 380, 381, 382, 383, 384, 385, 386, 387, 388, 389, 390, 391, 392, 393, 394, 395, 396, 397, 398, 399, 400, 401, 402, 403, 404, 405, 406]
def xT_44 : List Nat := [11, 12, 13, 14, 15, 16, 17, 18, 19, 20, 21, 22, 23, 24, 25, 26, 27, 28, 29, 30, 31, 32, 33, 34, 35, 36, 37, 38, 39, 40, 41, 42, 43, 407, 408, 409, 410, 411, 412, 413, 414, 415, 416, 417, 418, 419, 420, 421, 422, 423, 424, 425, 426, 427, 428, 429, 430, 431, 432, 433, 434, 435, 436, 437, 438, 439, 1]
theorem xv_80 : xview lay_X lay_LL xT_44 := xview_of (by decide +kernel)
def xT_45 : List Nat := [11, 12, 13, 14, 15, 16, 17, 18, 19, 20, 21, 22, 23, 24, 25, 26, 27, 28, 29, 30, 31, 32, 33, 34, 35, 36, 37, 38, 39, 40, 41, 42, 43, 407, 408, 409, 410, 411, 412, 413, 414, 415, 416, 417, 418, 419, 420, 421, 422, 423, 424, 425, 426, 427, 428, 429, 430, 431, 432, 433, 434, 435, 436, 437, 438, 439]
theorem dX10_undo_0 : decode cX10_undo 0 = .ok (.aload_n 0, 1) := by decide +kernel
theorem dX10_undo_1 : decode cX10_undo 1 = .ok (.getfield 120, 3) := by decide +kernel
theorem dX10_undo_4 : decode cX10_undo 4 = .ok (.ifCond .ne 5, 3) := by decide +kernel
theorem dX10_undo_7 : decode cX10_undo 7 = .ok (.iconst (-1), 1) := by decide +kernel
theorem dX10_undo_8 : decode cX10_undo 8 = .ok (.ireturn, 1) := by decide +kernel
theorem dX10_undo_9 : decode cX10_undo 9 = .ok (.aload_n 0, 1) := by decide +kernel
theorem dX10_undo_10 : decode cX10_undo 10 = .ok (.aload_n 0, 1) := by decide +kernel
theorem dX10_undo_11 : decode cX10_undo 11 = .ok (.getfield 303, 3) := by decide +kernel
theorem dX10_undo_14 : decode cX10_undo 14 = .ok (.ifCond .le 12, 3) := by decide +kernel
theorem dX10_undo_17 : decode cX10_undo 17 = .ok (.aload_n 0, 1) := by decide +kernel
theorem dX10_undo_18 : decode cX10_undo 18 = .ok (.getfield 303, 3) := by decide +kernel
theorem dX10_undo_21 : decode cX10_undo 21 = .ok (.iconst 1, 1) := by decide +kernel
theorem dX10_undo_22 : decode cX10_undo 22 = .ok (.isub, 1) := by decide +kernel
theorem dX10_undo_23 : decode cX10_undo 23 = .ok (.goto 5, 3) := by decide +kernel
theorem dX10_undo_26 : decode cX10_undo 26 = .ok (.bipush 9, 2) := by decide +kernel
theorem dX10_undo_28 : decode cX10_undo 28 = .ok (.putfield 303, 3) := by decide +kernel
theorem dX10_undo_31 : decode cX10_undo 31 = .ok (.aload_n 0, 1) := by decide +kernel
theorem dX10_undo_32 : decode cX10_undo 32 = .ok (.dup, 1) := by decide +kernel
theorem dX10_undo_33 : decode cX10_undo 33 = .ok (.getfield 120, 3) := by decide +kernel
theorem dX10_undo_36 : decode cX10_undo 36 = .ok (.iconst 1, 1) := by decide +kernel
theorem dX10_undo_37 : decode cX10_undo 37 = .ok (.isub, 1) := by decide +kernel
theorem dX10_undo_38 : decode cX10_undo 38 = .ok (.putfield 120, 3) := by decide +kernel
theorem dX10_undo_41 : decode cX10_undo 41 = .ok (.aload_n 0, 1) := by decide +kernel
theorem dX10_undo_42 : decode cX10_undo 42 = .ok (.getfield 27, 3) := by decide +kernel
theorem dX10_undo_45 : decode cX10_undo 45 = .ok (.aload_n 0, 1) := by decide +kernel
theorem dX10_undo_46 : decode cX10_undo 46 = .ok (.getfield 37, 3) := by decide +kernel
theorem dX10_undo_49 : decode cX10_undo 49 = .ok (.aload_n 0, 1) := by decide +kernel
theorem dX10_undo_50 : decode cX10_undo 50 = .ok (.getfield 303, 3) := by decide +kernel
theorem dX10_undo_53 : decode cX10_undo 53 = .ok (.aaload, 1) := by decide +kernel
theorem dX10_undo_54 : decode cX10_undo 54 = .ok (.invokevirtual 288, 3) := by decide +kernel
theorem dX10_undo_57 : decode cX10_undo 57 = .ok (.aload_n 0, 1) := by decide +kernel
theorem dX10_undo_58 : decode cX10_undo 58 = .ok (.getfield 120, 3) := by decide +kernel
theorem dX10_undo_61 : decode cX10_undo 61 = .ok (.ireturn, 1) := by decide +kernel
def f_X_undo_28 (s0 : Int) (m : xM) : Option (Int × xM) :=
     (if xw s0 = 0 then (Option.bind (f_L_cp (xvw xT_27 (xu (xu m 0 8 s0) 0 7 ((m 0 7) - 1)))) fun q0 =>
      some (((xmg xT_27 66 (xu (xu m 0 8 s0) 0 7 ((m 0 7) - 1)) q0) 0 7), (xmg xT_27 66 (xu (xu m 0 8 s0) 0 7 ((m 0 7) - 1)) q0)))
      else (if xw s0 = 1 then (Option.bind (f_L_cp (xvw xT_29 (xu (xu m 0 8 s0) 0 7 ((m 0 7) - 1)))) fun q1 =>
      some (((xmg xT_29 66 (xu (xu m 0 8 s0) 0 7 ((m 0 7) - 1)) q1) 0 7), (xmg xT_29 66 (xu (xu m 0 8 s0) 0 7 ((m 0 7) - 1)) q1)))
      else (if xw s0 = 2 then (Option.bind (f_L_cp (xvw xT_31 (xu (xu m 0 8 s0) 0 7 ((m 0 7) - 1)))) fun q2 =>
      some (((xmg xT_31 66 (xu (xu m 0 8 s0) 0 7 ((m 0 7) - 1)) q2) 0 7), (xmg xT_31 66 (xu (xu m 0 8 s0) 0 7 ((m 0 7) - 1)) q2)))
      else (if xw s0 = 3 then (Option.bind (f_L_cp (xvw xT_33 (xu (xu m 0 8 s0) 0 7 ((m 0 7) - 1)))) fun q3 =>
      some (((xmg xT_33 66 (xu (xu m 0 8 s0) 0 7 ((m 0 7) - 1)) q3) 0 7), (xmg xT_33 66 (xu (xu m 0 8 s0) 0 7 ((m 0 7) - 1)) q3)))
      else (if xw s0 = 4 then (Option.bind (f_L_cp (xvw xT_35 (xu (xu m 0 8 s0) 0 7 ((m 0 7) - 1)))) fun q4 =>
      some (((xmg xT_35 66 (xu (xu m 0 8 s0) 0 7 ((m 0 7) - 1)) q4) 0 7), (xmg xT_35 66 (xu (xu m 0 8 s0) 0 7 ((m 0 7) - 1)) q4)))
      else (if xw s0 = 5 then (Option.bind (f_L_cp (xvw xT_37 (xu (xu m 0 8 s0) 0 7 ((m 0 7) - 1)))) fun q5 =>
      some (((xmg xT_37 66 (xu (xu m 0 8 s0) 0 7 ((m 0 7) - 1)) q5) 0 7), (xmg xT_37 66 (xu (xu m 0 8 s0) 0 7 ((m 0 7) - 1)) q5)))
      else (if xw s0 = 6 then (Option.bind (f_L_cp (xvw xT_39 (xu (xu m 0 8 s0) 0 7 ((m 0 7) - 1)))) fun q6 =>
      some (((xmg xT_39 66 (xu (xu m 0 8 s0) 0 7 ((m 0 7) - 1)) q6) 0 7), (xmg xT_39 66 (xu (xu m 0 8 s0) 0 7 ((m 0 7) - 1)) q6)))
      else (if xw s0 = 7 then (Option.bind (f_L_cp (xvw xT_41 (xu (xu m 0 8 s0) 0 7 ((m 0 7) - 1)))) fun q7 =>
      some (((xmg xT_41 66 (xu (xu m 0 8 s0) 0 7 ((m 0 7) - 1)) q7) 0 7), (xmg xT_41 66 (xu (xu m 0 8 s0) 0 7 ((m 0 7) - 1)) q7)))
      else (if xw s0 = 8 then (Option.bind (f_L_cp (xvw xT_43 (xu (xu m 0 8 s0) 0 7 ((m 0 7) - 1)))) fun q8 =>
      some (((xmg xT_43 66 (xu (xu m 0 8 s0) 0 7 ((m 0 7) - 1)) q8) 0 7), (xmg xT_43 66 (xu (xu m 0 8 s0) 0 7 ((m 0 7) - 1)) q8)))
      else (if xw s0 = 9 then (Option.bind (f_L_cp (xvw xT_45 (xu (xu m 0 8 s0) 0 7 ((m 0 7) - 1)))) fun q9 =>
      some (((xmg xT_45 66 (xu (xu m 0 8 s0) 0 7 ((m 0 7) - 1)) q9) 0 7), (xmg xT_45 66 (xu (xu m 0 8 s0) 0 7 ((m 0 7) - 1)) q9)))
      else none))))))))))
set_option maxRecDepth 1000000 in
set_option maxHeartbeats 4000000 in
theorem t_X_undo_28 {Γ : xG} {d : Nat} (hd9 : 4 ≤ d) (C : xC Γ lay_X RX10 cX10_undo 1 d) {r : Int} {m9 : xM} (hR : xRi Γ lay_X cX10_undo r m9) (s0 : Int) (m : xM) (h : f_X_undo_28 s0 m = some (r, m9)) : xW Γ lay_X 1 28 [(0, .inr (.inr (some 0)))] [.inl s0, .inr (.inr (some 0))] m := by
  unfold f_X_undo_28 at h
  refine x_putI C dX10_undo_28 fF_X10_303 rfl rfl ?_
  refine x_aload_n C dX10_undo_31 rfl ?_
  refine x_dup C dX10_undo_32 rfl ?_
  refine x_getI C dX10_undo_33 fF_X10_120 rfl rfl ?_
  refine x_iconst C dX10_undo_36 ?_
  refine x_isub C dX10_undo_37 ?_
  refine x_putI C dX10_undo_38 fF_X10_120 rfl rfl ?_
  refine x_aload_n C dX10_undo_41 rfl ?_
  refine x_getR C dX10_undo_42 fF_X10_27 rfl rfl ?_
  refine x_aload_n C dX10_undo_45 rfl ?_
  refine x_getR C dX10_undo_46 fF_X10_37 rfl rfl ?_
  refine x_aload_n C dX10_undo_49 rfl ?_
  refine x_getI C dX10_undo_50 fF_X10_303 rfl rfl ?_
  refine x_ite h (fun hc0 h => ?_) (fun hc0 h => ?_)
  · refine x_aaload C dX10_undo_53 (t := 0) (fun _ => rfl) rfl (x_pk (k := 0) hc0 (by decide)).1 (show [110, 143, 176, 209, 242, 275, 308, 341, 374, 407][xix s0]? = some 110 by rw [(x_pk (k := 0) (n := 10) hc0 (by decide)).2]; rfl) ?_
    obtain ⟨q0, hq0, h⟩ := x_bind h
    refine x_callV0 C dX10_undo_54 (xin_18 _ (List.mem_of_getElem? (i := 0) rfl)) xy_X3_copyFrom (xi_X3_copyFrom) (xs_X3_copyFrom) xT_26 xv_71 (T0 := xT_27) rfl (by omega) (by decide) (b := 0) rfl ⟨_, _, rfl⟩ (av := [.inr (.inr (some 33))]) rfl (Nat.le_of_ble_eq_true rfl) (c_L_cp _ _ _ hq0) rfl ?_
    refine x_aload_n C dX10_undo_57 rfl ?_
    refine x_getI C dX10_undo_58 fF_X10_120 rfl rfl ?_
    exact x_ireturn hR dX10_undo_61 h
  refine x_ite h (fun hc1 h => ?_) (fun hc1 h => ?_)
  · refine x_aaload C dX10_undo_53 (t := 0) (fun _ => rfl) rfl (x_pk (k := 1) hc1 (by decide)).1 (show [110, 143, 176, 209, 242, 275, 308, 341, 374, 407][xix s0]? = some 143 by rw [(x_pk (k := 1) (n := 10) hc1 (by decide)).2]; rfl) ?_
    obtain ⟨q1, hq1, h⟩ := x_bind h
    refine x_callV0 C dX10_undo_54 (xin_18 _ (List.mem_of_getElem? (i := 0) rfl)) xy_X3_copyFrom (xi_X3_copyFrom) (xs_X3_copyFrom) xT_28 xv_72 (T0 := xT_29) rfl (by omega) (by decide) (b := 0) rfl ⟨_, _, rfl⟩ (av := [.inr (.inr (some 33))]) rfl (Nat.le_of_ble_eq_true rfl) (c_L_cp _ _ _ hq1) rfl ?_
    refine x_aload_n C dX10_undo_57 rfl ?_
    refine x_getI C dX10_undo_58 fF_X10_120 rfl rfl ?_
    exact x_ireturn hR dX10_undo_61 h
  refine x_ite h (fun hc2 h => ?_) (fun hc2 h => ?_)
  · refine x_aaload C dX10_undo_53 (t := 0) (fun _ => rfl) rfl (x_pk (k := 2) hc2 (by decide)).1 (show [110, 143, 176, 209, 242, 275, 308, 341, 374, 407][xix s0]? = some 176 by rw [(x_pk (k := 2) (n := 10) hc2 (by decide)).2]; rfl) ?_
    obtain ⟨q2, hq2, h⟩ := x_bind h
    refine x_callV0 C dX10_undo_54 (xin_18 _ (List.mem_of_getElem? (i := 0) rfl)) xy_X3_copyFrom (xi_X3_copyFrom) (xs_X3_copyFrom) xT_30 xv_73 (T0 := xT_31) rfl (by omega) (by decide) (b := 0) rfl ⟨_, _, rfl⟩ (av := [.inr (.inr (some 33))]) rfl (Nat.le_of_ble_eq_true rfl) (c_L_cp _ _ _ hq2) rfl ?_
    refine x_aload_n C dX10_undo_57 rfl ?_
    refine x_getI C dX10_undo_58 fF_X10_120 rfl rfl ?_
    exact x_ireturn hR dX10_undo_61 h
  refine x_ite h (fun hc3 h => ?_) (fun hc3 h => ?_)
  · refine x_aaload C dX10_undo_53 (t := 0) (fun _ => rfl) rfl (x_pk (k := 3) hc3 (by decide)).1 (show [110, 143, 176, 209, 242, 275, 308, 341, 374, 407][xix s0]? = some 209 by rw [(x_pk (k := 3) (n := 10) hc3 (by decide)).2]; rfl) ?_
    obtain ⟨q3, hq3, h⟩ := x_bind h
    refine x_callV0 C dX10_undo_54 (xin_18 _ (List.mem_of_getElem? (i := 0) rfl)) xy_X3_copyFrom (xi_X3_copyFrom) (xs_X3_copyFrom) xT_32 xv_74 (T0 := xT_33) rfl (by omega) (by decide) (b := 0) rfl ⟨_, _, rfl⟩ (av := [.inr (.inr (some 33))]) rfl (Nat.le_of_ble_eq_true rfl) (c_L_cp _ _ _ hq3) rfl ?_
    refine x_aload_n C dX10_undo_57 rfl ?_
    refine x_getI C dX10_undo_58 fF_X10_120 rfl rfl ?_
    exact x_ireturn hR dX10_undo_61 h
  refine x_ite h (fun hc4 h => ?_) (fun hc4 h => ?_)
  · refine x_aaload C dX10_undo_53 (t := 0) (fun _ => rfl) rfl (x_pk (k := 4) hc4 (by decide)).1 (show [110, 143, 176, 209, 242, 275, 308, 341, 374, 407][xix s0]? = some 242 by rw [(x_pk (k := 4) (n := 10) hc4 (by decide)).2]; rfl) ?_
    obtain ⟨q4, hq4, h⟩ := x_bind h
    refine x_callV0 C dX10_undo_54 (xin_18 _ (List.mem_of_getElem? (i := 0) rfl)) xy_X3_copyFrom (xi_X3_copyFrom) (xs_X3_copyFrom) xT_34 xv_75 (T0 := xT_35) rfl (by omega) (by decide) (b := 0) rfl ⟨_, _, rfl⟩ (av := [.inr (.inr (some 33))]) rfl (Nat.le_of_ble_eq_true rfl) (c_L_cp _ _ _ hq4) rfl ?_
    refine x_aload_n C dX10_undo_57 rfl ?_
    refine x_getI C dX10_undo_58 fF_X10_120 rfl rfl ?_
    exact x_ireturn hR dX10_undo_61 h
  refine x_ite h (fun hc5 h => ?_) (fun hc5 h => ?_)
  · refine x_aaload C dX10_undo_53 (t := 0) (fun _ => rfl) rfl (x_pk (k := 5) hc5 (by decide)).1 (show [110, 143, 176, 209, 242, 275, 308, 341, 374, 407][xix s0]? = some 275 by rw [(x_pk (k := 5) (n := 10) hc5 (by decide)).2]; rfl) ?_
    obtain ⟨q5, hq5, h⟩ := x_bind h
    refine x_callV0 C dX10_undo_54 (xin_18 _ (List.mem_of_getElem? (i := 0) rfl)) xy_X3_copyFrom (xi_X3_copyFrom) (xs_X3_copyFrom) xT_36 xv_76 (T0 := xT_37) rfl (by omega) (by decide) (b := 0) rfl ⟨_, _, rfl⟩ (av := [.inr (.inr (some 33))]) rfl (Nat.le_of_ble_eq_true rfl) (c_L_cp _ _ _ hq5) rfl ?_
    refine x_aload_n C dX10_undo_57 rfl ?_
    refine x_getI C dX10_undo_58 fF_X10_120 rfl rfl ?_
    exact x_ireturn hR dX10_undo_61 h
  refine x_ite h (fun hc6 h => ?_) (fun hc6 h => ?_)
  · refine x_aaload C dX10_undo_53 (t := 0) (fun _ => rfl) rfl (x_pk (k := 6) hc6 (by decide)).1 (show [110, 143, 176, 209, 242, 275, 308, 341, 374, 407][xix s0]? = some 308 by rw [(x_pk (k := 6) (n := 10) hc6 (by decide)).2]; rfl) ?_
    obtain ⟨q6, hq6, h⟩ := x_bind h
    refine x_callV0 C dX10_undo_54 (xin_18 _ (List.mem_of_getElem? (i := 0) rfl)) xy_X3_copyFrom (xi_X3_copyFrom) (xs_X3_copyFrom) xT_38 xv_77 (T0 := xT_39) rfl (by omega) (by decide) (b := 0) rfl ⟨_, _, rfl⟩ (av := [.inr (.inr (some 33))]) rfl (Nat.le_of_ble_eq_true rfl) (c_L_cp _ _ _ hq6) rfl ?_
    refine x_aload_n C dX10_undo_57 rfl ?_
    refine x_getI C dX10_undo_58 fF_X10_120 rfl rfl ?_
    exact x_ireturn hR dX10_undo_61 h
  refine x_ite h (fun hc7 h => ?_) (fun hc7 h => ?_)
  · refine x_aaload C dX10_undo_53 (t := 0) (fun _ => rfl) rfl (x_pk (k := 7) hc7 (by decide)).1 (show [110, 143, 176, 209, 242, 275, 308, 341, 374, 407][xix s0]? = some 341 by rw [(x_pk (k := 7) (n := 10) hc7 (by decide)).2]; rfl) ?_
    obtain ⟨q7, hq7, h⟩ := x_bind h
    refine x_callV0 C dX10_undo_54 (xin_18 _ (List.mem_of_getElem? (i := 0) rfl)) xy_X3_copyFrom (xi_X3_copyFrom) (xs_X3_copyFrom) xT_40 xv_78 (T0 := xT_41) rfl (by omega) (by decide) (b := 0) rfl ⟨_, _, rfl⟩ (av := [.inr (.inr (some 33))]) rfl (Nat.le_of_ble_eq_true rfl) (c_L_cp _ _ _ hq7) rfl ?_
    refine x_aload_n C dX10_undo_57 rfl ?_
    refine x_getI C dX10_undo_58 fF_X10_120 rfl rfl ?_
    exact x_ireturn hR dX10_undo_61 h
  refine x_ite h (fun hc8 h => ?_) (fun hc8 h => ?_)
  · refine x_aaload C dX10_undo_53 (t := 0) (fun _ => rfl) rfl (x_pk (k := 8) hc8 (by decide)).1 (show [110, 143, 176, 209, 242, 275, 308, 341, 374, 407][xix s0]? = some 374 by rw [(x_pk (k := 8) (n := 10) hc8 (by decide)).2]; rfl) ?_
    obtain ⟨q8, hq8, h⟩ := x_bind h
    refine x_callV0 C dX10_undo_54 (xin_18 _ (List.mem_of_getElem? (i := 0) rfl)) xy_X3_copyFrom (xi_X3_copyFrom) (xs_X3_copyFrom) xT_42 xv_79 (T0 := xT_43) rfl (by omega) (by decide) (b := 0) rfl ⟨_, _, rfl⟩ (av := [.inr (.inr (some 33))]) rfl (Nat.le_of_ble_eq_true rfl) (c_L_cp _ _ _ hq8) rfl ?_
    refine x_aload_n C dX10_undo_57 rfl ?_
    refine x_getI C dX10_undo_58 fF_X10_120 rfl rfl ?_
    exact x_ireturn hR dX10_undo_61 h
  refine x_ite h (fun hc9 h => ?_) (fun hc9 h => ?_)
  · refine x_aaload C dX10_undo_53 (t := 0) (fun _ => rfl) rfl (x_pk (k := 9) hc9 (by decide)).1 (show [110, 143, 176, 209, 242, 275, 308, 341, 374, 407][xix s0]? = some 407 by rw [(x_pk (k := 9) (n := 10) hc9 (by decide)).2]; rfl) ?_
    obtain ⟨q9, hq9, h⟩ := x_bind h
    refine x_callV0 C dX10_undo_54 (xin_18 _ (List.mem_of_getElem? (i := 0) rfl)) xy_X3_copyFrom (xi_X3_copyFrom) (xs_X3_copyFrom) xT_44 xv_80 (T0 := xT_45) rfl (by omega) (by decide) (b := 0) rfl ⟨_, _, rfl⟩ (av := [.inr (.inr (some 33))]) rfl (Nat.le_of_ble_eq_true rfl) (c_L_cp _ _ _ hq9) rfl ?_
    refine x_aload_n C dX10_undo_57 rfl ?_
    refine x_getI C dX10_undo_58 fF_X10_120 rfl rfl ?_
    exact x_ireturn hR dX10_undo_61 h
  cases h
def f_X_undo (m : xM) : Option (Int × xM) :=
     (if xw (m 0 7) = 0 then some ((-1), m)
      else (if 0 < xw (m 0 8) then f_X_undo_28 ((m 0 8) - 1) m
      else f_X_undo_28 9 m))
set_option maxRecDepth 1000000 in
set_option maxHeartbeats 4000000 in
theorem t_X_undo {Γ : xG} {d : Nat} (hd9 : 4 ≤ d) (C : xC Γ lay_X RX10 cX10_undo 1 d) {r : Int} {m9 : xM} (hR : xRi Γ lay_X cX10_undo r m9) (m : xM) (h : f_X_undo m = some (r, m9)) : xW Γ lay_X 1 0 [(0, .inr (.inr (some 0)))] [] m := by
  unfold f_X_undo at h
  refine x_aload_n C dX10_undo_0 rfl ?_
  refine x_getI C dX10_undo_1 fF_X10_120 rfl rfl ?_
  refine x_if_ne C 9 dX10_undo_4 (by decide) h (fun h => ?_) (fun h => ?_)
  · refine x_aload_n C dX10_undo_9 rfl ?_
    refine x_aload_n C dX10_undo_10 rfl ?_
    refine x_getI C dX10_undo_11 fF_X10_303 rfl rfl ?_
    refine x_if_le C 26 dX10_undo_14 (by decide) h (fun h => ?_) (fun h => ?_)
    · refine x_bipush C dX10_undo_26 (by decide) ?_
      refine x_loc [(0, .inr (.inr (some 0)))] ⟨rfl, trivial⟩ ?_
      exact t_X_undo_28 hd9 C hR _ _ h
    · refine x_aload_n C dX10_undo_17 rfl ?_
      refine x_getI C dX10_undo_18 fF_X10_303 rfl rfl ?_
      refine x_iconst C dX10_undo_21 ?_
      refine x_isub C dX10_undo_22 ?_
      refine x_goto C 28 dX10_undo_23 (by decide) ?_
      refine x_loc [(0, .inr (.inr (some 0)))] ⟨rfl, trivial⟩ ?_
      exact t_X_undo_28 hd9 C hR _ _ h
  · refine x_iconst C dX10_undo_7 ?_
    exact x_ireturn hR dX10_undo_8 h
theorem c_X_undo (l : Launch) (m : xM) (r : Int) (m9 : xM) (h : f_X_undo m = some (r, m9)) : xMet l yX10_undo cX10_undo 1 (some .int) 4 lay_X [.inr (.inr (some 0))] m (some (.inl r)) m9 :=
  xMet_i (by decide +kernel) (Nat.le_of_ble_eq_true rfl) (fun Γ C hR hl9 => t_X_undo (Nat.le_refl _) C hR m h)
/-! ===== yX10_saveSnapshot ===== -/
theorem fF_X10_34 : xF RX10 34 11 4 (.object "ModemLink$Line") true := ⟨RX10, TX10, 16, tyX10, rfl, by decide, (xin_1 _ (List.mem_of_getElem? (i := 21) rfl)), rfl, inlX10, tyX10_ok, nmX10, rfl, rfl⟩
def xT_46 : List Nat := [77, 78, 79, 80, 81, 82, 83, 84, 85, 86, 87, 88, 89, 90, 91, 92, 93, 94, 95, 96, 97, 98, 99, 100, 101, 102, 103, 104, 105, 106, 107, 108, 109, 11, 12, 13, 14, 15, 16, 17, 18, 19, 20, 21, 22, 23, 24, 25, 26, 27, 28, 29, 30, 31, 32, 33, 34, 35, 36, 37, 38, 39, 40, 41, 42, 43, 1]
theorem xv_81 : xview lay_X lay_LL xT_46 := xview_of (by decide +kernel)
def xT_47 : List Nat := [77, 78, 79, 80, 81, 82, 83, 84, 85, 86, 87, 88, 89, 90, 91, 92, 93, 94, 95, 96, 97, 98, 99, 100, 101, 102, 103, 104, 105, 106, 107, 108, 109, 11, 12, 13, 14, 15, 16, 17, 18, 19, 20, 21, 22, 23, 24, 25, 26, 27, 28, 29, 30, 31, 32, 33, 34, 35, 36, 37, 38, 39, 40, 41, 42, 43]
theorem fF_X10_116 : xF RX10 116 11 5 .boolean false := ⟨RX10, TX10, 16, tyX10, rfl, by decide, (xin_11 _ (List.mem_of_getElem? (i := 19) rfl)), rfl, inlX10, tyX10_ok, nmX10, rfl, rfl⟩
theorem dX10_saveSnapshot_0 : decode cX10_saveSnapshot 0 = .ok (.aload_n 0, 1) := by decide +kernel
theorem dX10_saveSnapshot_1 : decode cX10_saveSnapshot 1 = .ok (.getfield 34, 3) := by decide +kernel
theorem dX10_saveSnapshot_4 : decode cX10_saveSnapshot 4 = .ok (.aload_n 0, 1) := by decide +kernel
theorem dX10_saveSnapshot_5 : decode cX10_saveSnapshot 5 = .ok (.getfield 27, 3) := by decide +kernel
theorem dX10_saveSnapshot_8 : decode cX10_saveSnapshot 8 = .ok (.invokevirtual 288, 3) := by decide +kernel
theorem dX10_saveSnapshot_11 : decode cX10_saveSnapshot 11 = .ok (.aload_n 0, 1) := by decide +kernel
theorem dX10_saveSnapshot_12 : decode cX10_saveSnapshot 12 = .ok (.iconst 1, 1) := by decide +kernel
theorem dX10_saveSnapshot_13 : decode cX10_saveSnapshot 13 = .ok (.putfield 116, 3) := by decide +kernel
theorem dX10_saveSnapshot_16 : decode cX10_saveSnapshot 16 = .ok (.return_, 1) := by decide +kernel
def f_X_saveSnapshot (m : xM) : Option (xM) :=
     (Option.bind (f_L_cp (xvw xT_47 m)) fun q0 =>
      some (xu (xmg xT_47 66 m q0) 0 5 1))
set_option maxRecDepth 1000000 in
set_option maxHeartbeats 4000000 in
theorem t_X_saveSnapshot {Γ : xG} {d : Nat} (hd9 : 4 ≤ d) (C : xC Γ lay_X RX10 cX10_saveSnapshot 1 d) {m9 : xM} (hR : xRv Γ lay_X cX10_saveSnapshot m9) (m : xM) (h : f_X_saveSnapshot m = some m9) : xW Γ lay_X 1 0 [(0, .inr (.inr (some 0)))] [] m := by
  unfold f_X_saveSnapshot at h
  refine x_aload_n C dX10_saveSnapshot_0 rfl ?_
  refine x_getR C dX10_saveSnapshot_1 fF_X10_34 rfl rfl ?_
  refine x_aload_n C dX10_saveSnapshot_4 rfl ?_
  refine x_getR C dX10_saveSnapshot_5 fF_X10_27 rfl rfl ?_
  obtain ⟨q0, hq0, h⟩ := x_bind h
  refine x_callV0 C dX10_saveSnapshot_8 (xin_18 _ (List.mem_of_getElem? (i := 0) rfl)) xy_X3_copyFrom (xi_X3_copyFrom) (xs_X3_copyFrom) xT_46 xv_81 (T0 := xT_47) rfl (by omega) (by decide) (b := 0) rfl ⟨_, _, rfl⟩ (av := [.inr (.inr (some 33))]) rfl (Nat.le_of_ble_eq_true rfl) (c_L_cp _ _ _ hq0) rfl ?_
  refine x_aload_n C dX10_saveSnapshot_11 rfl ?_
  refine x_iconst C dX10_saveSnapshot_12 ?_
  refine x_putZ C dX10_saveSnapshot_13 fF_X10_116 rfl rfl (by decide) ?_
  exact x_returnV hR dX10_saveSnapshot_16 h
theorem c_X_saveSnapshot (l : Launch) (m m9 : xM) (h : f_X_saveSnapshot m = some m9) : xMet l yX10_saveSnapshot cX10_saveSnapshot 1 none 4 lay_X [.inr (.inr (some 0))] m none m9 :=
  xMet_v (by decide +kernel) (Nat.le_of_ble_eq_true rfl) (fun Γ C hR hl9 => t_X_saveSnapshot (Nat.le_refl _) C hR m h)
/-! ===== yX10_restoreSnapshot ===== -/
def xT_48 : List Nat := [11, 12, 13, 14, 15, 16, 17, 18, 19, 20, 21, 22, 23, 24, 25, 26, 27, 28, 29, 30, 31, 32, 33, 34, 35, 36, 37, 38, 39, 40, 41, 42, 43, 77, 78, 79, 80, 81, 82, 83, 84, 85, 86, 87, 88, 89, 90, 91, 92, 93, 94, 95, 96, 97, 98, 99, 100, 101, 102, 103, 104, 105, 106, 107, 108, 109, 1]
theorem xv_82 : xview lay_X lay_LL xT_48 := xview_of (by decide +kernel)
def xT_49 : List Nat := [11, 12, 13, 14, 15, 16, 17, 18, 19, 20, 21, 22, 23, 24, 25, 26, 27, 28, 29, 30, 31, 32, 33, 34, 35, 36, 37, 38, 39, 40, 41, 42, 43, 77, 78, 79, 80, 81, 82, 83, 84, 85, 86, 87, 88, 89, 90, 91, 92, 93, 94, 95, 96, 97, 98, 99, 100, 101, 102, 103, 104, 105, 106, 107, 108, 109]
theorem dX10_restoreSnapshot_0 : decode cX10_restoreSnapshot 0 = .ok (.aload_n 0, 1) := by decide +kernel
theorem dX10_restoreSnapshot_1 : decode cX10_restoreSnapshot 1 = .ok (.getfield 116, 3) := by decide +kernel
theorem dX10_restoreSnapshot_4 : decode cX10_restoreSnapshot 4 = .ok (.ifCond .ne 5, 3) := by decide +kernel
theorem dX10_restoreSnapshot_7 : decode cX10_restoreSnapshot 7 = .ok (.iconst 0, 1) := by decide +kernel
theorem dX10_restoreSnapshot_8 : decode cX10_restoreSnapshot 8 = .ok (.ireturn, 1) := by decide +kernel
theorem dX10_restoreSnapshot_9 : decode cX10_restoreSnapshot 9 = .ok (.aload_n 0, 1) := by decide +kernel
theorem dX10_restoreSnapshot_10 : decode cX10_restoreSnapshot 10 = .ok (.getfield 27, 3) := by decide +kernel
theorem dX10_restoreSnapshot_13 : decode cX10_restoreSnapshot 13 = .ok (.aload_n 0, 1) := by decide +kernel
theorem dX10_restoreSnapshot_14 : decode cX10_restoreSnapshot 14 = .ok (.getfield 34, 3) := by decide +kernel
theorem dX10_restoreSnapshot_17 : decode cX10_restoreSnapshot 17 = .ok (.invokevirtual 288, 3) := by decide +kernel
theorem dX10_restoreSnapshot_20 : decode cX10_restoreSnapshot 20 = .ok (.aload_n 0, 1) := by decide +kernel
theorem dX10_restoreSnapshot_21 : decode cX10_restoreSnapshot 21 = .ok (.iconst 0, 1) := by decide +kernel
theorem dX10_restoreSnapshot_22 : decode cX10_restoreSnapshot 22 = .ok (.putfield 120, 3) := by decide +kernel
theorem dX10_restoreSnapshot_25 : decode cX10_restoreSnapshot 25 = .ok (.iconst 1, 1) := by decide +kernel
theorem dX10_restoreSnapshot_26 : decode cX10_restoreSnapshot 26 = .ok (.ireturn, 1) := by decide +kernel
def f_X_restoreSnapshot (m : xM) : Option (Int × xM) :=
     (if xw (m 0 5) = 0 then some (0, m)
      else (Option.bind (f_L_cp (xvw xT_49 m)) fun q0 =>
      some (1, (xu (xmg xT_49 66 m q0) 0 7 0))))
set_option maxRecDepth 1000000 in
set_option maxHeartbeats 4000000 in
theorem t_X_restoreSnapshot {Γ : xG} {d : Nat} (hd9 : 4 ≤ d) (C : xC Γ lay_X RX10 cX10_restoreSnapshot 1 d) {r : Int} {m9 : xM} (hR : xRz Γ lay_X cX10_restoreSnapshot r m9) (m : xM) (h : f_X_restoreSnapshot m = some (r, m9)) : xW Γ lay_X 1 0 [(0, .inr (.inr (some 0)))] [] m := by
  unfold f_X_restoreSnapshot at h
  refine x_aload_n C dX10_restoreSnapshot_0 rfl ?_
  refine x_getI C dX10_restoreSnapshot_1 fF_X10_116 rfl rfl ?_
  refine x_if_ne C 9 dX10_restoreSnapshot_4 (by decide) h (fun h => ?_) (fun h => ?_)
  · refine x_aload_n C dX10_restoreSnapshot_9 rfl ?_
    refine x_getR C dX10_restoreSnapshot_10 fF_X10_27 rfl rfl ?_
    refine x_aload_n C dX10_restoreSnapshot_13 rfl ?_
    refine x_getR C dX10_restoreSnapshot_14 fF_X10_34 rfl rfl ?_
    obtain ⟨q0, hq0, h⟩ := x_bind h
    refine x_callV0 C dX10_restoreSnapshot_17 (xin_18 _ (List.mem_of_getElem? (i := 0) rfl)) xy_X3_copyFrom (xi_X3_copyFrom) (xs_X3_copyFrom) xT_48 xv_82 (T0 := xT_49) rfl (by omega) (by decide) (b := 0) rfl ⟨_, _, rfl⟩ (av := [.inr (.inr (some 33))]) rfl (Nat.le_of_ble_eq_true rfl) (c_L_cp _ _ _ hq0) rfl ?_
    refine x_aload_n C dX10_restoreSnapshot_20 rfl ?_
    refine x_iconst C dX10_restoreSnapshot_21 ?_
    refine x_putI C dX10_restoreSnapshot_22 fF_X10_120 rfl rfl ?_
    refine x_iconst C dX10_restoreSnapshot_25 ?_
    exact x_zreturn hR (by decide) dX10_restoreSnapshot_26 h
  · refine x_iconst C dX10_restoreSnapshot_7 ?_
    exact x_zreturn hR (by decide) dX10_restoreSnapshot_8 h
theorem c_X_restoreSnapshot (l : Launch) (m : xM) (r : Int) (m9 : xM) (h : f_X_restoreSnapshot m = some (r, m9)) : xMet l yX10_restoreSnapshot cX10_restoreSnapshot 1 (some .boolean) 4 lay_X [.inr (.inr (some 0))] m (some (.inl r)) m9 :=
  xMet_z (by decide +kernel) (Nat.le_of_ble_eq_true rfl) (fun Γ C hR hl9 => t_X_restoreSnapshot (Nat.le_refl _) C hR m h)
/-! ===== yX10_load ===== -/
theorem xy_X8_open : xY yX8_open cX8_open 2 none 1 := ⟨(xin_12 _ (List.mem_of_getElem? (i := 7) rfl)), (xin_2 _ (List.mem_of_getElem? (i := 3) rfl)), by decide, by decide, by decide +kernel⟩
theorem xi_X8_open : Cond.instanceMethod yX8_open ∈ wsL_law := (xin_12 _ (List.mem_of_getElem? (i := 5) rfl))
theorem xs_X8_open : Cond.selects yX8_open.cls yX8_open yX8_open ∈ wsL_law := (xin_12 _ (List.mem_of_getElem? (i := 6) rfl))
theorem xv_83 : xview lay_X lay_T [442, 441] := xview_of (by decide +kernel)
theorem fF_X10_63 : xF RX10 63 11 13 (.object "ModemLink$SetupReader") true := ⟨RX10, TX10, 16, tyX10, rfl, by decide, (xin_2 _ (List.mem_of_getElem? (i := 8) rfl)), rfl, inlX10, tyX10_ok, nmX10, rfl, rfl⟩
theorem fF_X10_19 : xF RX10 19 11 1 (.object "ModemLink$Setup") true := ⟨RX10, TX10, 16, tyX10, rfl, by decide, (xin_1 _ (List.mem_of_getElem? (i := 15) rfl)), rfl, inlX10, tyX10_ok, nmX10, rfl, rfl⟩
theorem xy_X7_readText : xY yX7_readText cX7_readText 3 none 1 := ⟨(xin_13 _ (List.mem_of_getElem? (i := 5) rfl)), (xin_2 _ (List.mem_of_getElem? (i := 7) rfl)), by decide, by decide, by decide +kernel⟩
theorem xi_X7_readText : Cond.instanceMethod yX7_readText ∈ wsL_law := (xin_13 _ (List.mem_of_getElem? (i := 3) rfl))
theorem xs_X7_readText : Cond.selects yX7_readText.cls yX7_readText yX7_readText ∈ wsL_law := (xin_13 _ (List.mem_of_getElem? (i := 4) rfl))
theorem xv_84 : xview lay_X lay_R [443, 442, 441, 6, 7, 8, 9, 10] := xview_of (by decide +kernel)
theorem xy_X10_closeText : xY yX10_closeText cX10_closeText 1 none 0 := ⟨(xin_17 _ (List.mem_of_getElem? (i := 3) rfl)), (xin_1 _ (List.mem_of_getElem? (i := 2) rfl)), by decide, by decide, by decide +kernel⟩
theorem xi_X10_closeText : Cond.instanceMethod yX10_closeText ∈ wsL_law := (xin_17 _ (List.mem_of_getElem? (i := 1) rfl))
theorem xs_X10_closeText : Cond.selects yX10_closeText.cls yX10_closeText yX10_closeText ∈ wsL_law := (xin_17 _ (List.mem_of_getElem? (i := 2) rfl))
theorem xy_X6_copyFrom : xY yX6_copyFrom cX6_copyFrom 2 none 1 := ⟨(xin_17 _ (List.mem_of_getElem? (i := 8) rfl)), (xin_1 _ (List.mem_of_getElem? (i := 13) rfl)), by decide, by decide, by decide +kernel⟩
theorem xi_X6_copyFrom : Cond.instanceMethod yX6_copyFrom ∈ wsL_law := (xin_17 _ (List.mem_of_getElem? (i := 6) rfl))
theorem xs_X6_copyFrom : Cond.selects yX6_copyFrom.cls yX6_copyFrom yX6_copyFrom ∈ wsL_law := (xin_17 _ (List.mem_of_getElem? (i := 7) rfl))
theorem xv_85 : xview lay_X lay_S2 [1, 2, 3, 4, 5, 6, 7, 8, 9, 10] := xview_of (by decide +kernel)
theorem xy_X3_begin : xY yX3_begin cX3_begin 2 none 0 := ⟨(xin_7 _ (List.mem_of_getElem? (i := 14) rfl)), (xin_1 _ (List.mem_of_getElem? (i := 18) rfl)), by decide, by decide, by decide +kernel⟩
theorem xi_X3_begin : Cond.instanceMethod yX3_begin ∈ wsL_law := (xin_7 _ (List.mem_of_getElem? (i := 12) rfl))
theorem xs_X3_begin : Cond.selects yX3_begin.cls yX3_begin yX3_begin ∈ wsL_law := (xin_7 _ (List.mem_of_getElem? (i := 13) rfl))
theorem fF_X10_123 : xF RX10 123 7 4 .int false := ⟨RX6, TX6, 14, tyX6, rfl, by decide, (xin_11 _ (List.mem_of_getElem? (i := 21) rfl)), rfl, inlX6, tyX6_ok, nmX6, rfl, rfl⟩
theorem dX10_load_0 : decode cX10_load 0 = .ok (.aload_n 0, 1) := by decide +kernel
theorem dX10_load_1 : decode cX10_load 1 = .ok (.iload_n 1, 1) := by decide +kernel
theorem dX10_load_2 : decode cX10_load 2 = .ok (.sipush 600, 3) := by decide +kernel
theorem dX10_load_5 : decode cX10_load 5 = .ok (.invokevirtual 97, 3) := by decide +kernel
theorem dX10_load_8 : decode cX10_load 8 = .ok (.aload_n 0, 1) := by decide +kernel
theorem dX10_load_9 : decode cX10_load 9 = .ok (.getfield 54, 3) := by decide +kernel
theorem dX10_load_12 : decode cX10_load 12 = .ok (.iload_n 1, 1) := by decide +kernel
theorem dX10_load_13 : decode cX10_load 13 = .ok (.invokevirtual 101, 3) := by decide +kernel
theorem dX10_load_16 : decode cX10_load 16 = .ok (.aload_n 0, 1) := by decide +kernel
theorem dX10_load_17 : decode cX10_load 17 = .ok (.getfield 63, 3) := by decide +kernel
theorem dX10_load_20 : decode cX10_load 20 = .ok (.aload_n 0, 1) := by decide +kernel
theorem dX10_load_21 : decode cX10_load 21 = .ok (.getfield 19, 3) := by decide +kernel
theorem dX10_load_24 : decode cX10_load 24 = .ok (.invokevirtual 104, 3) := by decide +kernel
theorem dX10_load_27 : decode cX10_load 27 = .ok (.aload_n 0, 1) := by decide +kernel
theorem dX10_load_28 : decode cX10_load 28 = .ok (.invokevirtual 107, 3) := by decide +kernel
theorem dX10_load_31 : decode cX10_load 31 = .ok (.aload_n 0, 1) := by decide +kernel
theorem dX10_load_32 : decode cX10_load 32 = .ok (.getfield 54, 3) := by decide +kernel
theorem dX10_load_35 : decode cX10_load 35 = .ok (.getfield 110, 3) := by decide +kernel
theorem dX10_load_38 : decode cX10_load 38 = .ok (.ifCond .eq 14, 3) := by decide +kernel
theorem dX10_load_41 : decode cX10_load 41 = .ok (.bipush (-10), 2) := by decide +kernel
theorem dX10_load_43 : decode cX10_load 43 = .ok (.aload_n 0, 1) := by decide +kernel
theorem dX10_load_44 : decode cX10_load 44 = .ok (.getfield 54, 3) := by decide +kernel
theorem dX10_load_47 : decode cX10_load 47 = .ok (.getfield 110, 3) := by decide +kernel
theorem dX10_load_50 : decode cX10_load 50 = .ok (.isub, 1) := by decide +kernel
theorem dX10_load_51 : decode cX10_load 51 = .ok (.ireturn, 1) := by decide +kernel
theorem dX10_load_52 : decode cX10_load 52 = .ok (.aload_n 0, 1) := by decide +kernel
theorem dX10_load_53 : decode cX10_load 53 = .ok (.getfield 10, 3) := by decide +kernel
theorem dX10_load_56 : decode cX10_load 56 = .ok (.aload_n 0, 1) := by decide +kernel
theorem dX10_load_57 : decode cX10_load 57 = .ok (.getfield 19, 3) := by decide +kernel
theorem dX10_load_60 : decode cX10_load 60 = .ok (.invokevirtual 113, 3) := by decide +kernel
theorem dX10_load_63 : decode cX10_load 63 = .ok (.aload_n 0, 1) := by decide +kernel
theorem dX10_load_64 : decode cX10_load 64 = .ok (.getfield 27, 3) := by decide +kernel
theorem dX10_load_67 : decode cX10_load 67 = .ok (.invokevirtual 87, 3) := by decide +kernel
theorem dX10_load_70 : decode cX10_load 70 = .ok (.aload_n 0, 1) := by decide +kernel
theorem dX10_load_71 : decode cX10_load 71 = .ok (.iconst 0, 1) := by decide +kernel
theorem dX10_load_72 : decode cX10_load 72 = .ok (.putfield 116, 3) := by decide +kernel
theorem dX10_load_75 : decode cX10_load 75 = .ok (.aload_n 0, 1) := by decide +kernel
theorem dX10_load_76 : decode cX10_load 76 = .ok (.iconst 0, 1) := by decide +kernel
theorem dX10_load_77 : decode cX10_load 77 = .ok (.putfield 120, 3) := by decide +kernel
theorem dX10_load_80 : decode cX10_load 80 = .ok (.aload_n 0, 1) := by decide +kernel
theorem dX10_load_81 : decode cX10_load 81 = .ok (.getfield 10, 3) := by decide +kernel
theorem dX10_load_84 : decode cX10_load 84 = .ok (.getfield 123, 3) := by decide +kernel
theorem dX10_load_87 : decode cX10_load 87 = .ok (.ireturn, 1) := by decide +kernel
def f_X_load_70 (z : Int) (m : xM) : Option (Int × xM) :=
     some ((m 1 4), (xu (xu m 0 5 0) 0 7 0))
set_option maxRecDepth 1000000 in
set_option maxHeartbeats 4000000 in
theorem t_X_load_70 {Γ : xG} {d : Nat} (hd9 : 8 ≤ d) (C : xC Γ lay_X RX10 cX10_load 2 d) (z : Int) {r : Int} {m9 : xM} (hR : xRi Γ lay_X cX10_load r m9) (m : xM) (h : f_X_load_70 z m = some (r, m9)) : xW Γ lay_X 2 70 [(0, .inr (.inr (some 0)))] [] m := by
  unfold f_X_load_70 at h
  refine x_aload_n C dX10_load_70 rfl ?_
  refine x_iconst C dX10_load_71 ?_
  refine x_putZ C dX10_load_72 fF_X10_116 rfl rfl (by decide) ?_
  refine x_aload_n C dX10_load_75 rfl ?_
  refine x_iconst C dX10_load_76 ?_
  refine x_putI C dX10_load_77 fF_X10_120 rfl rfl ?_
  refine x_aload_n C dX10_load_80 rfl ?_
  refine x_getR C dX10_load_81 fF_X10_10 rfl rfl ?_
  refine x_getI C dX10_load_84 fF_X10_123 rfl rfl ?_
  exact x_ireturn hR dX10_load_87 h
def f_X_load_27 (z : Int) (m : xM) : Option (Int × xM) :=
     (Option.bind (f_X_closeText m) fun q3 =>
      (if xw (q3 442 6) = 0 then (Option.bind (f_S_cp (xvw [1, 2, 3, 4, 5, 6, 7, 8, 9, 10] q3)) fun q4 =>
      (Option.bind (f_L_begin (xvw xT_25 (xmg [1, 2, 3, 4, 5, 6, 7, 8, 9, 10] 10 q3 q4))) fun q5 =>
      f_X_load_70 z (xmg xT_25 38 (xmg [1, 2, 3, 4, 5, 6, 7, 8, 9, 10] 10 q3 q4) q5)))
      else some ((-10) - (q3 442 6), q3)))
set_option maxRecDepth 1000000 in
set_option maxHeartbeats 4000000 in
theorem t_X_load_27 {Γ : xG} {d : Nat} (hd9 : 8 ≤ d) (C : xC Γ lay_X RX10 cX10_load 2 d) (z : Int) {r : Int} {m9 : xM} (hR : xRi Γ lay_X cX10_load r m9) (m : xM) (h : f_X_load_27 z m = some (r, m9)) : xW Γ lay_X 2 27 [(0, .inr (.inr (some 0)))] [] m := by
  unfold f_X_load_27 at h
  refine x_aload_n C dX10_load_27 rfl ?_
  obtain ⟨q3, hq3, h⟩ := x_bind h
  refine x_callVI C dX10_load_28 (xin_17 _ (List.mem_of_getElem? (i := 0) rfl)) xy_X10_closeText (xi_X10_closeText) (xs_X10_closeText) (by omega) (by decide) (b := 0) rfl ⟨_, _, rfl⟩ (av := []) rfl (Nat.le_of_ble_eq_true rfl) (c_X_closeText _ _ _ hq3) rfl ?_
  refine x_aload_n C dX10_load_31 rfl ?_
  refine x_getR C dX10_load_32 fF_X10_54 rfl rfl ?_
  refine x_getI C dX10_load_35 fF_X10_110 rfl rfl ?_
  refine x_if_eq C 52 dX10_load_38 (by decide) h (fun h => ?_) (fun h => ?_)
  · refine x_aload_n C dX10_load_52 rfl ?_
    refine x_getR C dX10_load_53 fF_X10_10 rfl rfl ?_
    refine x_aload_n C dX10_load_56 rfl ?_
    refine x_getR C dX10_load_57 fF_X10_19 rfl rfl ?_
    obtain ⟨q4, hq4, h⟩ := x_bind h
    refine x_callV C dX10_load_60 (xin_17 _ (List.mem_of_getElem? (i := 5) rfl)) xy_X6_copyFrom (xi_X6_copyFrom) (xs_X6_copyFrom) [1, 2, 3, 4, 5, 6, 7, 8, 9, 10] xv_85 (by omega) (by decide) (b := 0) rfl ⟨_, _, rfl⟩ (av := [.inr (.inr (some 5))]) rfl (Nat.le_of_ble_eq_true rfl) (c_S_cp _ _ _ hq4) rfl ?_
    refine x_aload_n C dX10_load_63 rfl ?_
    refine x_getR C dX10_load_64 fF_X10_27 rfl rfl ?_
    obtain ⟨q5, hq5, h⟩ := x_bind h
    refine x_callV C dX10_load_67 (xin_7 _ (List.mem_of_getElem? (i := 11) rfl)) xy_X3_begin (xi_X3_begin) (xs_X3_begin) xT_25 xv_67 (by omega) (by decide) (b := 0) rfl ⟨_, _, rfl⟩ (av := []) rfl (Nat.le_of_ble_eq_true rfl) (c_L_begin _ _ _ hq5) rfl ?_
    refine x_loc [(0, .inr (.inr (some 0)))] ⟨rfl, trivial⟩ ?_
    exact t_X_load_70 hd9 C _ hR _ h
  · refine x_bipush C dX10_load_41 (by decide) ?_
    refine x_aload_n C dX10_load_43 rfl ?_
    refine x_getR C dX10_load_44 fF_X10_54 rfl rfl ?_
    refine x_getI C dX10_load_47 fF_X10_110 rfl rfl ?_
    refine x_isub C dX10_load_50 ?_
    exact x_ireturn hR dX10_load_51 h
def f_X_load (z : Int) (m : xM) : Option (Int × xM) :=
     (Option.bind (f_X_checkLength z 600 m) fun q0 =>
      (Option.bind (f_T_open z (xvw [442, 441] m)) fun q1 =>
      (Option.bind (f_R_text (xvw [443, 442, 441, 6, 7, 8, 9, 10] (xmg [442, 441] 2 m q1))) fun q2 =>
      f_X_load_27 z (xmg [443, 442, 441, 6, 7, 8, 9, 10] 8 (xmg [442, 441] 2 m q1) q2))))
set_option maxRecDepth 1000000 in
set_option maxHeartbeats 4000000 in
theorem t_X_load {Γ : xG} {d : Nat} (hd9 : 8 ≤ d) (C : xC Γ lay_X RX10 cX10_load 2 d) (z : Int) {r : Int} {m9 : xM} (hR : xRi Γ lay_X cX10_load r m9) (m : xM) (h : f_X_load z m = some (r, m9)) : xW Γ lay_X 2 0 [(0, .inr (.inr (some 0))), (1, .inl z)] [] m := by
  unfold f_X_load at h
  refine x_aload_n C dX10_load_0 rfl ?_
  refine x_iload_n C dX10_load_1 rfl ?_
  refine x_sipush C dX10_load_2 (by decide) ?_
  obtain ⟨q0, hq0, h⟩ := x_bind h
  refine x_callVI C dX10_load_5 (xin_11 _ (List.mem_of_getElem? (i := 22) rfl)) xy_X10_checkLength (xi_X10_checkLength) (xs_X10_checkLength) (by omega) (by decide) (b := 0) rfl ⟨_, _, rfl⟩ (av := [.inl z, .inl 600]) rfl (Nat.le_of_ble_eq_true rfl) (c_X_checkLength _ _ _ _ _ hq0) rfl ?_
  refine x_aload_n C dX10_load_8 rfl ?_
  refine x_getR C dX10_load_9 fF_X10_54 rfl rfl ?_
  refine x_iload_n C dX10_load_12 rfl ?_
  obtain ⟨q1, hq1, h⟩ := x_bind h
  refine x_callV C dX10_load_13 (xin_12 _ (List.mem_of_getElem? (i := 4) rfl)) xy_X8_open (xi_X8_open) (xs_X8_open) [442, 441] xv_83 (by omega) (by decide) (b := 0) rfl ⟨_, _, rfl⟩ (av := [.inl z]) rfl (Nat.le_of_ble_eq_true rfl) (c_T_open _ _ _ _ hq1) rfl ?_
  refine x_aload_n C dX10_load_16 rfl ?_
  refine x_getR C dX10_load_17 fF_X10_63 rfl rfl ?_
  refine x_aload_n C dX10_load_20 rfl ?_
  refine x_getR C dX10_load_21 fF_X10_19 rfl rfl ?_
  obtain ⟨q2, hq2, h⟩ := x_bind h
  refine x_callV C dX10_load_24 (xin_13 _ (List.mem_of_getElem? (i := 2) rfl)) xy_X7_readText (xi_X7_readText) (xs_X7_readText) [443, 442, 441, 6, 7, 8, 9, 10] xv_84 (by omega) (by decide) (b := 0) rfl ⟨_, _, rfl⟩ (av := [.inr (.inr (some 3))]) rfl (Nat.le_of_ble_eq_true rfl) (c_R_text _ _ _ hq2) rfl ?_
  refine x_loc [(0, .inr (.inr (some 0)))] ⟨rfl, trivial⟩ ?_
  exact t_X_load_27 hd9 C _ hR _ h
theorem c_X_load (l : Launch) (z : Int) (m : xM) (r : Int) (m9 : xM) (h : f_X_load z m = some (r, m9)) : xMet l yX10_load cX10_load 2 (some .int) 8 lay_X [.inr (.inr (some 0)), .inl z] m (some (.inl r)) m9 :=
  xMet_i (by decide +kernel) (Nat.le_of_ble_eq_true rfl) (fun Γ C hR hl9 => t_X_load (Nat.le_refl _) C z hR m h)

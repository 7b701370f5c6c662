/-! ===== the reader of setups ===== -/
theorem fF_X7_9 : xF RX7 9 8 0 (.object "ModemLink$Tokens") true := ⟨RX7, TX7, 1, tyX7, rfl, by decide, (xin_6 _ (List.mem_of_getElem? (i := 8) rfl)), rfl, inlX7, tyX7_ok, nmX7, rfl, rfl⟩
theorem xv_41 : xview lay_RG lay_T [1, 2] := xview_of (by decide +kernel)
theorem fF_X7_85 : xF RX7 85 9 5 .int false := ⟨RX8, TX8, 7, tyX8, rfl, by decide, (xin_15 _ (List.mem_of_getElem? (i := 10) rfl)), rfl, inlX8, tyX8_ok, nmX8, rfl, rfl⟩
theorem dX7_readGreater_0 : decode cX7_readGreater 0 = .ok (.aload_n 0, 1) := by decide +kernel
theorem dX7_readGreater_1 : decode cX7_readGreater 1 = .ok (.getfield 9, 3) := by decide +kernel
theorem dX7_readGreater_4 : decode cX7_readGreater 4 = .ok (.iload_n 3, 1) := by decide +kernel
theorem dX7_readGreater_5 : decode cX7_readGreater 5 = .ok (.iload 4, 2) := by decide +kernel
theorem dX7_readGreater_7 : decode cX7_readGreater 7 = .ok (.invokevirtual 81, 3) := by decide +kernel
theorem dX7_readGreater_10 : decode cX7_readGreater 10 = .ok (.ifCond .eq 13, 3) := by decide +kernel
theorem dX7_readGreater_13 : decode cX7_readGreater 13 = .ok (.iload_n 2, 1) := by decide +kernel
theorem dX7_readGreater_14 : decode cX7_readGreater 14 = .ok (.ifCond .lt 9, 3) := by decide +kernel
theorem dX7_readGreater_17 : decode cX7_readGreater 17 = .ok (.iload_n 2, 1) := by decide +kernel
theorem dX7_readGreater_18 : decode cX7_readGreater 18 = .ok (.aload_n 1, 1) := by decide +kernel
theorem dX7_readGreater_19 : decode cX7_readGreater 19 = .ok (.arraylength, 1) := by decide +kernel
theorem dX7_readGreater_20 : decode cX7_readGreater 20 = .ok (.if_icmp .lt 5, 3) := by decide +kernel
theorem dX7_readGreater_23 : decode cX7_readGreater 23 = .ok (.iconst 0, 1) := by decide +kernel
theorem dX7_readGreater_24 : decode cX7_readGreater 24 = .ok (.ireturn, 1) := by decide +kernel
theorem dX7_readGreater_25 : decode cX7_readGreater 25 = .ok (.iload_n 2, 1) := by decide +kernel
theorem dX7_readGreater_26 : decode cX7_readGreater 26 = .ok (.ifCond .le 27, 3) := by decide +kernel
theorem dX7_readGreater_29 : decode cX7_readGreater 29 = .ok (.aload_n 0, 1) := by decide +kernel
theorem dX7_readGreater_30 : decode cX7_readGreater 30 = .ok (.getfield 9, 3) := by decide +kernel
theorem dX7_readGreater_33 : decode cX7_readGreater 33 = .ok (.getfield 85, 3) := by decide +kernel
theorem dX7_readGreater_36 : decode cX7_readGreater 36 = .ok (.aload_n 1, 1) := by decide +kernel
theorem dX7_readGreater_37 : decode cX7_readGreater 37 = .ok (.iload_n 2, 1) := by decide +kernel
theorem dX7_readGreater_38 : decode cX7_readGreater 38 = .ok (.iconst 1, 1) := by decide +kernel
theorem dX7_readGreater_39 : decode cX7_readGreater 39 = .ok (.isub, 1) := by decide +kernel
theorem dX7_readGreater_40 : decode cX7_readGreater 40 = .ok (.iaload, 1) := by decide +kernel
theorem dX7_readGreater_41 : decode cX7_readGreater 41 = .ok (.if_icmp .gt 12, 3) := by decide +kernel
theorem dX7_readGreater_44 : decode cX7_readGreater 44 = .ok (.aload_n 0, 1) := by decide +kernel
theorem dX7_readGreater_45 : decode cX7_readGreater 45 = .ok (.getfield 9, 3) := by decide +kernel
theorem dX7_readGreater_48 : decode cX7_readGreater 48 = .ok (.iconst 4, 1) := by decide +kernel
theorem dX7_readGreater_49 : decode cX7_readGreater 49 = .ok (.invokevirtual 49, 3) := by decide +kernel
theorem dX7_readGreater_52 : decode cX7_readGreater 52 = .ok (.ireturn, 1) := by decide +kernel
theorem dX7_readGreater_53 : decode cX7_readGreater 53 = .ok (.aload_n 1, 1) := by decide +kernel
theorem dX7_readGreater_54 : decode cX7_readGreater 54 = .ok (.iload_n 2, 1) := by decide +kernel
theorem dX7_readGreater_55 : decode cX7_readGreater 55 = .ok (.aload_n 0, 1) := by decide +kernel
theorem dX7_readGreater_56 : decode cX7_readGreater 56 = .ok (.getfield 9, 3) := by decide +kernel
theorem dX7_readGreater_59 : decode cX7_readGreater 59 = .ok (.getfield 85, 3) := by decide +kernel
theorem dX7_readGreater_62 : decode cX7_readGreater 62 = .ok (.iastore, 1) := by decide +kernel
theorem dX7_readGreater_63 : decode cX7_readGreater 63 = .ok (.aload_n 0, 1) := by decide +kernel
theorem dX7_readGreater_64 : decode cX7_readGreater 64 = .ok (.getfield 9, 3) := by decide +kernel
theorem dX7_readGreater_67 : decode cX7_readGreater 67 = .ok (.invokevirtual 67, 3) := by decide +kernel
theorem dX7_readGreater_70 : decode cX7_readGreater 70 = .ok (.iconst 1, 1) := by decide +kernel
theorem dX7_readGreater_71 : decode cX7_readGreater 71 = .ok (.ireturn, 1) := by decide +kernel
def f_R_greater_53 (p : Int) (a : Int) (b : Int) (m : xM) : Option (Int × xM) :=
     (if xib p 5 then (Option.bind (f_T_next (xvw [1, 2] (xu m 3 (xix p) (m 1 5)))) fun q1 =>
      some (1, (xmg [1, 2] 2 (xu m 3 (xix p) (m 1 5)) q1)))
      else none)
set_option maxRecDepth 1000000 in
set_option maxHeartbeats 4000000 in
theorem t_R_greater_53 {Γ : xG} {d : Nat} (hd9 : 3 ≤ d) (C : xC Γ lay_RG RX7 cX7_readGreater 5 d) (p : Int) (a : Int) (b : Int) {r : Int} {m9 : xM} (hR : xRz Γ lay_RG cX7_readGreater r m9) (m : xM) (h : f_R_greater_53 p a b m = some (r, m9)) : xW Γ lay_RG 5 53 [(0, .inr (.inr (some 0))), (1, .inr (.inr (some 3))), (2, .inl p)] [] m := by
  unfold f_R_greater_53 at h
  refine x_aload_n C dX7_readGreater_53 rfl ?_
  refine x_iload_n C dX7_readGreater_54 rfl ?_
  refine x_aload_n C dX7_readGreater_55 rfl ?_
  refine x_getR C dX7_readGreater_56 fF_X7_9 rfl rfl ?_
  refine x_getI C dX7_readGreater_59 fF_X7_85 rfl rfl ?_
  refine x_iastore C dX7_readGreater_62 rfl h (fun h => ?_)
  refine x_aload_n C dX7_readGreater_63 rfl ?_
  refine x_getR C dX7_readGreater_64 fF_X7_9 rfl rfl ?_
  obtain ⟨q1, hq1, h⟩ := x_bind h
  refine x_callV C dX7_readGreater_67 (xin_15 _ (List.mem_of_getElem? (i := 13) rfl)) xy_X8_next (xi_X8_next) (xs_X8_next) [1, 2] xv_41 (by omega) (by decide) (b := 0) rfl ⟨_, _, rfl⟩ (av := []) rfl (Nat.le_of_ble_eq_true rfl) (c_T_next _ _ _ hq1) rfl ?_
  refine x_iconst C dX7_readGreater_70 ?_
  exact x_zreturn hR (by decide) dX7_readGreater_71 h
def f_R_greater (p : Int) (a : Int) (b : Int) (m : xM) : Option (Int × xM) :=
     (Option.bind (f_T_hasNumber a b (xvw [1, 2] m)) fun q0 =>
      (if xw q0.1 = 0 then some (0, (xmg [1, 2] 2 m q0.2))
      else (if xw p < 0 then some (0, (xmg [1, 2] 2 m q0.2))
      else (if xw p < xw 5 then (if 0 < xw p then (if xib (p - 1) 5 then (if xw ((xmg [1, 2] 2 m q0.2) 3 (xix (p - 1))) < xw ((xmg [1, 2] 2 m q0.2) 1 5) then f_R_greater_53 p a b (xmg [1, 2] 2 m q0.2)
      else (Option.bind (f_T_fail 4 (xvw [1, 2] (xmg [1, 2] 2 m q0.2))) fun q2 =>
      (if xbz q2.1 then some (q2.1, (xmg [1, 2] 2 (xmg [1, 2] 2 m q0.2) q2.2))
      else none)))
      else none)
      else f_R_greater_53 p a b (xmg [1, 2] 2 m q0.2))
      else some (0, (xmg [1, 2] 2 m q0.2))))))
set_option maxRecDepth 1000000 in
set_option maxHeartbeats 4000000 in
theorem t_R_greater {Γ : xG} {d : Nat} (hd9 : 3 ≤ d) (C : xC Γ lay_RG RX7 cX7_readGreater 5 d) (p : Int) (a : Int) (b : Int) {r : Int} {m9 : xM} (hR : xRz Γ lay_RG cX7_readGreater r m9) (m : xM) (h : f_R_greater p a b m = some (r, m9)) : xW Γ lay_RG 5 0 [(0, .inr (.inr (some 0))), (1, .inr (.inr (some 3))), (2, .inl p), (3, .inl a), (4, .inl b)] [] m := by
  unfold f_R_greater at h
  refine x_aload_n C dX7_readGreater_0 rfl ?_
  refine x_getR C dX7_readGreater_1 fF_X7_9 rfl rfl ?_
  refine x_iload_n C dX7_readGreater_4 rfl ?_
  refine x_iload C dX7_readGreater_5 rfl ?_
  obtain ⟨q0, hq0, h⟩ := x_bind h
  refine x_callV C dX7_readGreater_7 (xin_15 _ (List.mem_of_getElem? (i := 11) rfl)) xy_X8_hasNumber (xi_X8_hasNumber) (xs_X8_hasNumber) [1, 2] xv_41 (by omega) (by decide) (b := 0) rfl ⟨_, _, rfl⟩ (av := [.inl a, .inl b]) rfl (Nat.le_of_ble_eq_true rfl) (c_T_hasNumber _ _ _ _ q0.1 q0.2 hq0) rfl ?_
  refine x_if_eq C 23 dX7_readGreater_10 (by decide) h (fun h => ?_) (fun h => ?_)
  · refine x_iconst C dX7_readGreater_23 ?_
    exact x_zreturn hR (by decide) dX7_readGreater_24 h
  · refine x_iload_n C dX7_readGreater_13 rfl ?_
    refine x_if_lt C 23 dX7_readGreater_14 (by decide) h (fun h => ?_) (fun h => ?_)
    · refine x_iconst C dX7_readGreater_23 ?_
      exact x_zreturn hR (by decide) dX7_readGreater_24 h
    · refine x_iload_n C dX7_readGreater_17 rfl ?_
      refine x_aload_n C dX7_readGreater_18 rfl ?_
      refine x_len C dX7_readGreater_19 rfl ?_
      refine x_icmp_lt C 25 dX7_readGreater_20 (by decide) h (fun h => ?_) (fun h => ?_)
      · refine x_iload_n C dX7_readGreater_25 rfl ?_
        refine x_if_le C 53 dX7_readGreater_26 (by decide) h (fun h => ?_) (fun h => ?_)
        · refine x_loc [(0, .inr (.inr (some 0))), (1, .inr (.inr (some 3))), (2, .inl p)] ⟨rfl, rfl, rfl, trivial⟩ ?_
          exact t_R_greater_53 hd9 C _ _ _ hR _ h
        · refine x_aload_n C dX7_readGreater_29 rfl ?_
          refine x_getR C dX7_readGreater_30 fF_X7_9 rfl rfl ?_
          refine x_getI C dX7_readGreater_33 fF_X7_85 rfl rfl ?_
          refine x_aload_n C dX7_readGreater_36 rfl ?_
          refine x_iload_n C dX7_readGreater_37 rfl ?_
          refine x_iconst C dX7_readGreater_38 ?_
          refine x_isub C dX7_readGreater_39 ?_
          refine x_iaload C dX7_readGreater_40 rfl h (fun h => ?_)
          refine x_icmp_gt C 53 dX7_readGreater_41 (by decide) h (fun h => ?_) (fun h => ?_)
          · refine x_loc [(0, .inr (.inr (some 0))), (1, .inr (.inr (some 3))), (2, .inl p)] ⟨rfl, rfl, rfl, trivial⟩ ?_
            exact t_R_greater_53 hd9 C _ _ _ hR _ h
          · refine x_aload_n C dX7_readGreater_44 rfl ?_
            refine x_getR C dX7_readGreater_45 fF_X7_9 rfl rfl ?_
            refine x_iconst C dX7_readGreater_48 ?_
            obtain ⟨q2, hq2, h⟩ := x_bind h
            refine x_callV C dX7_readGreater_49 (xin_15 _ (List.mem_of_getElem? (i := 12) rfl)) xy_X8_fail (xi_X8_fail) (xs_X8_fail) [1, 2] xv_41 (by omega) (by decide) (b := 0) rfl ⟨_, _, rfl⟩ (av := [.inl 4]) rfl (Nat.le_of_ble_eq_true rfl) (c_T_fail _ _ _ q2.1 q2.2 hq2) rfl ?_
            obtain ⟨hz9, h⟩ := x_some1 h
            exact x_zreturn hR hz9 dX7_readGreater_52 h
      · refine x_iconst C dX7_readGreater_23 ?_
        exact x_zreturn hR (by decide) dX7_readGreater_24 h
theorem c_R_greater (l : Launch) (p : Int) (a : Int) (b : Int) (m : xM) (r : Int) (m9 : xM) (h : f_R_greater p a b m = some (r, m9)) : xMet l yX7_readGreater cX7_readGreater 5 (some .boolean) 3 lay_RG [.inr (.inr (some 0)), .inr (.inr (some 3)), .inl p, .inl a, .inl b] m (some (.inl r)) m9 :=
  xMet_z (by decide +kernel) (Nat.le_of_ble_eq_true rfl) (fun Γ C hR hl9 => t_R_greater (Nat.le_refl _) C p a b hR m h)
theorem fF_X7_70 : xF RX7 70 7 0 (.array .int) true := ⟨RX6, TX6, 14, tyX6, rfl, by decide, (xin_15 _ (List.mem_of_getElem? (i := 4) rfl)), rfl, inlX6, tyX6_ok, nmX6, rfl, rfl⟩
theorem xy_X7_readGreater : xY yX7_readGreater cX7_readGreater 5 (some .boolean) 4 := ⟨(xin_15 _ (List.mem_of_getElem? (i := 9) rfl)), (xin_2 _ (List.mem_of_getElem? (i := 7) rfl)), by decide, by decide, by decide +kernel⟩
theorem xi_X7_readGreater : Cond.instanceMethod yX7_readGreater ∈ wsL_law := (xin_15 _ (List.mem_of_getElem? (i := 7) rfl))
theorem xs_X7_readGreater : Cond.selects yX7_readGreater.cls yX7_readGreater yX7_readGreater ∈ wsL_law := (xin_15 _ (List.mem_of_getElem? (i := 8) rfl))
theorem xv_42 : xview lay_R lay_RG [0, 1, 2, 4] := xview_of (by decide +kernel)
theorem fF_X7_78 : xF RX7 78 7 1 (.array .int) true := ⟨RX6, TX6, 14, tyX6, rfl, by decide, (xin_15 _ (List.mem_of_getElem? (i := 5) rfl)), rfl, inlX6, tyX6_ok, nmX6, rfl, rfl⟩
theorem xv_43 : xview lay_R lay_RG [0, 1, 2, 5] := xview_of (by decide +kernel)
theorem dX7_readRate_0 : decode cX7_readRate 0 = .ok (.aload_n 0, 1) := by decide +kernel
theorem dX7_readRate_1 : decode cX7_readRate 1 = .ok (.aload_n 1, 1) := by decide +kernel
theorem dX7_readRate_2 : decode cX7_readRate 2 = .ok (.getfield 70, 3) := by decide +kernel
theorem dX7_readRate_5 : decode cX7_readRate 5 = .ok (.iload_n 2, 1) := by decide +kernel
theorem dX7_readRate_6 : decode cX7_readRate 6 = .ok (.iconst 4, 1) := by decide +kernel
theorem dX7_readRate_7 : decode cX7_readRate 7 = .ok (.bipush 80, 2) := by decide +kernel
theorem dX7_readRate_9 : decode cX7_readRate 9 = .ok (.invokevirtual 74, 3) := by decide +kernel
theorem dX7_readRate_12 : decode cX7_readRate 12 = .ok (.ifCond .eq 22, 3) := by decide +kernel
theorem dX7_readRate_15 : decode cX7_readRate 15 = .ok (.aload_n 0, 1) := by decide +kernel
theorem dX7_readRate_16 : decode cX7_readRate 16 = .ok (.aload_n 1, 1) := by decide +kernel
theorem dX7_readRate_17 : decode cX7_readRate 17 = .ok (.getfield 78, 3) := by decide +kernel
theorem dX7_readRate_20 : decode cX7_readRate 20 = .ok (.iload_n 2, 1) := by decide +kernel
theorem dX7_readRate_21 : decode cX7_readRate 21 = .ok (.iconst 1, 1) := by decide +kernel
theorem dX7_readRate_22 : decode cX7_readRate 22 = .ok (.bipush 9, 2) := by decide +kernel
theorem dX7_readRate_24 : decode cX7_readRate 24 = .ok (.invokevirtual 74, 3) := by decide +kernel
theorem dX7_readRate_27 : decode cX7_readRate 27 = .ok (.ifCond .eq 7, 3) := by decide +kernel
theorem dX7_readRate_30 : decode cX7_readRate 30 = .ok (.iconst 1, 1) := by decide +kernel
theorem dX7_readRate_31 : decode cX7_readRate 31 = .ok (.goto 4, 3) := by decide +kernel
theorem dX7_readRate_34 : decode cX7_readRate 34 = .ok (.iconst 0, 1) := by decide +kernel
theorem dX7_readRate_35 : decode cX7_readRate 35 = .ok (.ireturn, 1) := by decide +kernel
def f_R_rate (z : Int) (m : xM) : Option (Int × xM) :=
     (Option.bind (f_R_greater z 4 80 (xvw [0, 1, 2, 4] m)) fun q0 =>
      (if xw q0.1 = 0 then some (0, (xmg [0, 1, 2, 4] 4 m q0.2))
      else (Option.bind (f_R_greater z 1 9 (xvw [0, 1, 2, 5] (xmg [0, 1, 2, 4] 4 m q0.2))) fun q1 =>
      (if xw q1.1 = 0 then some (0, (xmg [0, 1, 2, 5] 4 (xmg [0, 1, 2, 4] 4 m q0.2) q1.2))
      else some (1, (xmg [0, 1, 2, 5] 4 (xmg [0, 1, 2, 4] 4 m q0.2) q1.2))))))
set_option maxRecDepth 1000000 in
set_option maxHeartbeats 4000000 in
theorem t_R_rate {Γ : xG} {d : Nat} (hd9 : 4 ≤ d) (C : xC Γ lay_R RX7 cX7_readRate 3 d) (z : Int) {r : Int} {m9 : xM} (hR : xRz Γ lay_R cX7_readRate r m9) (m : xM) (h : f_R_rate z m = some (r, m9)) : xW Γ lay_R 3 0 [(0, .inr (.inr (some 0))), (1, .inr (.inr (some 3))), (2, .inl z)] [] m := by
  unfold f_R_rate at h
  refine x_aload_n C dX7_readRate_0 rfl ?_
  refine x_aload_n C dX7_readRate_1 rfl ?_
  refine x_getR C dX7_readRate_2 fF_X7_70 rfl rfl ?_
  refine x_iload_n C dX7_readRate_5 rfl ?_
  refine x_iconst C dX7_readRate_6 ?_
  refine x_bipush C dX7_readRate_7 (by decide) ?_
  obtain ⟨q0, hq0, h⟩ := x_bind h
  refine x_callV C dX7_readRate_9 (xin_15 _ (List.mem_of_getElem? (i := 6) rfl)) xy_X7_readGreater (xi_X7_readGreater) (xs_X7_readGreater) [0, 1, 2, 4] xv_42 (by omega) (by decide) (b := 0) rfl ⟨_, _, rfl⟩ (av := [.inr (.inr (some 3)), .inl z, .inl 4, .inl 80]) rfl (Nat.le_of_ble_eq_true rfl) (c_R_greater _ _ _ _ _ q0.1 q0.2 hq0) rfl ?_
  refine x_if_eq C 34 dX7_readRate_12 (by decide) h (fun h => ?_) (fun h => ?_)
  · refine x_iconst C dX7_readRate_34 ?_
    exact x_zreturn hR (by decide) dX7_readRate_35 h
  · refine x_aload_n C dX7_readRate_15 rfl ?_
    refine x_aload_n C dX7_readRate_16 rfl ?_
    refine x_getR C dX7_readRate_17 fF_X7_78 rfl rfl ?_
    refine x_iload_n C dX7_readRate_20 rfl ?_
    refine x_iconst C dX7_readRate_21 ?_
    refine x_bipush C dX7_readRate_22 (by decide) ?_
    obtain ⟨q1, hq1, h⟩ := x_bind h
    refine x_callV C dX7_readRate_24 (xin_15 _ (List.mem_of_getElem? (i := 6) rfl)) xy_X7_readGreater (xi_X7_readGreater) (xs_X7_readGreater) [0, 1, 2, 5] xv_43 (by omega) (by decide) (b := 0) rfl ⟨_, _, rfl⟩ (av := [.inr (.inr (some 3)), .inl z, .inl 1, .inl 9]) rfl (Nat.le_of_ble_eq_true rfl) (c_R_greater _ _ _ _ _ q1.1 q1.2 hq1) rfl ?_
    refine x_if_eq C 34 dX7_readRate_27 (by decide) h (fun h => ?_) (fun h => ?_)
    · refine x_iconst C dX7_readRate_34 ?_
      exact x_zreturn hR (by decide) dX7_readRate_35 h
    · refine x_iconst C dX7_readRate_30 ?_
      refine x_goto C 35 dX7_readRate_31 (by decide) ?_
      exact x_zreturn hR (by decide) dX7_readRate_35 h
theorem c_R_rate (l : Launch) (z : Int) (m : xM) (r : Int) (m9 : xM) (h : f_R_rate z m = some (r, m9)) : xMet l yX7_readRate cX7_readRate 3 (some .boolean) 4 lay_R [.inr (.inr (some 0)), .inr (.inr (some 3)), .inl z] m (some (.inl r)) m9 :=
  xMet_z (by decide +kernel) (Nat.le_of_ble_eq_true rfl) (fun Γ C hR hl9 => t_R_rate (Nat.le_refl _) C z hR m h)
theorem xv_44 : xview lay_R lay_T [1, 2] := xview_of (by decide +kernel)
theorem xy_X7_readRate : xY yX7_readRate cX7_readRate 3 (some .boolean) 2 := ⟨(xin_15 _ (List.mem_of_getElem? (i := 3) rfl)), (xin_2 _ (List.mem_of_getElem? (i := 7) rfl)), by decide, by decide, by decide +kernel⟩
theorem xi_X7_readRate : Cond.instanceMethod yX7_readRate ∈ wsL_law := (xin_15 _ (List.mem_of_getElem? (i := 1) rfl))
theorem xs_X7_readRate : Cond.selects yX7_readRate.cls yX7_readRate yX7_readRate ∈ wsL_law := (xin_15 _ (List.mem_of_getElem? (i := 2) rfl))
theorem fF_X7_57 : xF RX7 57 7 4 .int false := ⟨RX6, TX6, 14, tyX6, rfl, by decide, (xin_14 _ (List.mem_of_getElem? (i := 23) rfl)), rfl, inlX6, tyX6_ok, nmX6, rfl, rfl⟩
theorem dX7_readRates_0 : decode cX7_readRates 0 = .ok (.iconst 0, 1) := by decide +kernel
theorem dX7_readRates_1 : decode cX7_readRates 1 = .ok (.istore_n 2, 1) := by decide +kernel
theorem dX7_readRates_2 : decode cX7_readRates 2 = .ok (.iload_n 2, 1) := by decide +kernel
theorem dX7_readRates_3 : decode cX7_readRates 3 = .ok (.iconst 5, 1) := by decide +kernel
theorem dX7_readRates_4 : decode cX7_readRates 4 = .ok (.if_icmp .ge 63, 3) := by decide +kernel
theorem dX7_readRates_7 : decode cX7_readRates 7 = .ok (.aload_n 0, 1) := by decide +kernel
theorem dX7_readRates_8 : decode cX7_readRates 8 = .ok (.aload_n 1, 1) := by decide +kernel
theorem dX7_readRates_9 : decode cX7_readRates 9 = .ok (.iload_n 2, 1) := by decide +kernel
theorem dX7_readRates_10 : decode cX7_readRates 10 = .ok (.invokevirtual 53, 3) := by decide +kernel
theorem dX7_readRates_13 : decode cX7_readRates 13 = .ok (.ifCond .ne 5, 3) := by decide +kernel
theorem dX7_readRates_16 : decode cX7_readRates 16 = .ok (.iconst 0, 1) := by decide +kernel
theorem dX7_readRates_17 : decode cX7_readRates 17 = .ok (.ireturn, 1) := by decide +kernel
theorem dX7_readRates_18 : decode cX7_readRates 18 = .ok (.aload_n 1, 1) := by decide +kernel
theorem dX7_readRates_19 : decode cX7_readRates 19 = .ok (.iload_n 2, 1) := by decide +kernel
theorem dX7_readRates_20 : decode cX7_readRates 20 = .ok (.iconst 1, 1) := by decide +kernel
theorem dX7_readRates_21 : decode cX7_readRates 21 = .ok (.iadd, 1) := by decide +kernel
theorem dX7_readRates_22 : decode cX7_readRates 22 = .ok (.putfield 57, 3) := by decide +kernel
theorem dX7_readRates_25 : decode cX7_readRates 25 = .ok (.aload_n 0, 1) := by decide +kernel
theorem dX7_readRates_26 : decode cX7_readRates 26 = .ok (.getfield 9, 3) := by decide +kernel
theorem dX7_readRates_29 : decode cX7_readRates 29 = .ok (.bipush 44, 2) := by decide +kernel
theorem dX7_readRates_31 : decode cX7_readRates 31 = .ok (.invokevirtual 60, 3) := by decide +kernel
theorem dX7_readRates_34 : decode cX7_readRates 34 = .ok (.ifCond .ne 13, 3) := by decide +kernel
theorem dX7_readRates_37 : decode cX7_readRates 37 = .ok (.aload_n 0, 1) := by decide +kernel
theorem dX7_readRates_38 : decode cX7_readRates 38 = .ok (.getfield 9, 3) := by decide +kernel
theorem dX7_readRates_41 : decode cX7_readRates 41 = .ok (.bipush 59, 2) := by decide +kernel
theorem dX7_readRates_43 : decode cX7_readRates 43 = .ok (.invokevirtual 64, 3) := by decide +kernel
theorem dX7_readRates_46 : decode cX7_readRates 46 = .ok (.ireturn, 1) := by decide +kernel
theorem dX7_readRates_47 : decode cX7_readRates 47 = .ok (.iload_n 2, 1) := by decide +kernel
theorem dX7_readRates_48 : decode cX7_readRates 48 = .ok (.iconst 1, 1) := by decide +kernel
theorem dX7_readRates_49 : decode cX7_readRates 49 = .ok (.iadd, 1) := by decide +kernel
theorem dX7_readRates_50 : decode cX7_readRates 50 = .ok (.iconst 5, 1) := by decide +kernel
theorem dX7_readRates_51 : decode cX7_readRates 51 = .ok (.if_icmp .ge 10, 3) := by decide +kernel
theorem dX7_readRates_54 : decode cX7_readRates 54 = .ok (.aload_n 0, 1) := by decide +kernel
theorem dX7_readRates_55 : decode cX7_readRates 55 = .ok (.getfield 9, 3) := by decide +kernel
theorem dX7_readRates_58 : decode cX7_readRates 58 = .ok (.invokevirtual 67, 3) := by decide +kernel
theorem dX7_readRates_61 : decode cX7_readRates 61 = .ok (.iinc 2 1, 3) := by decide +kernel
theorem dX7_readRates_64 : decode cX7_readRates 64 = .ok (.goto (-62), 3) := by decide +kernel
theorem dX7_readRates_67 : decode cX7_readRates 67 = .ok (.aload_n 0, 1) := by decide +kernel
theorem dX7_readRates_68 : decode cX7_readRates 68 = .ok (.getfield 9, 3) := by decide +kernel
theorem dX7_readRates_71 : decode cX7_readRates 71 = .ok (.iconst 3, 1) := by decide +kernel
theorem dX7_readRates_72 : decode cX7_readRates 72 = .ok (.invokevirtual 49, 3) := by decide +kernel
theorem dX7_readRates_75 : decode cX7_readRates 75 = .ok (.ireturn, 1) := by decide +kernel
def f_R_rates_67 (m : xM) : Option (Int × xM) :=
     (Option.bind (f_T_fail 3 (xvw [1, 2] m)) fun q0 =>
      (if xbz q0.1 then some (q0.1, (xmg [1, 2] 2 m q0.2))
      else none))
set_option maxRecDepth 1000000 in
set_option maxHeartbeats 4000000 in
theorem t_R_rates_67 {Γ : xG} {d : Nat} (hd9 : 5 ≤ d) (C : xC Γ lay_R RX7 cX7_readRates 3 d) {r : Int} {m9 : xM} (hR : xRz Γ lay_R cX7_readRates r m9) (m : xM) (h : f_R_rates_67 m = some (r, m9)) : xW Γ lay_R 3 67 [(0, .inr (.inr (some 0)))] [] m := by
  unfold f_R_rates_67 at h
  refine x_aload_n C dX7_readRates_67 rfl ?_
  refine x_getR C dX7_readRates_68 fF_X7_9 rfl rfl ?_
  refine x_iconst C dX7_readRates_71 ?_
  obtain ⟨q0, hq0, h⟩ := x_bind h
  refine x_callV C dX7_readRates_72 (xin_15 _ (List.mem_of_getElem? (i := 12) rfl)) xy_X8_fail (xi_X8_fail) (xs_X8_fail) [1, 2] xv_44 (by omega) (by decide) (b := 0) rfl ⟨_, _, rfl⟩ (av := [.inl 3]) rfl (Nat.le_of_ble_eq_true rfl) (c_T_fail _ _ _ q0.1 q0.2 hq0) rfl ?_
  obtain ⟨hz9, h⟩ := x_some1 h
  exact x_zreturn hR hz9 dX7_readRates_75 h
def f_R_rates_61 (k2 : Int → xM → Option (Int × xM)) (x2 : Int) (m : xM) : Option (Int × xM) :=
     k2 (x2 + 1) m
set_option maxRecDepth 1000000 in
set_option maxHeartbeats 4000000 in
theorem t_R_rates_61 {Γ : xG} {d : Nat} (hd9 : 5 ≤ d) (C : xC Γ lay_R RX7 cX7_readRates 3 d) {r : Int} {m9 : xM} (hR : xRz Γ lay_R cX7_readRates r m9) {k2 : Int → xM → Option (Int × xM)} (hk2 : ∀ (x2 : Int) (m : xM), k2 x2 m = some (r, m9) → xW Γ lay_R 3 2 [(0, .inr (.inr (some 0))), (1, .inr (.inr (some 3))), (2, .inl x2)] [] m) (x2 : Int) (m : xM) (h : f_R_rates_61 k2 x2 m = some (r, m9)) : xW Γ lay_R 3 61 [(0, .inr (.inr (some 0))), (1, .inr (.inr (some 3))), (2, .inl x2)] [] m := by
  unfold f_R_rates_61 at h
  refine x_iinc C dX7_readRates_61 (by decide) rfl ?_
  refine x_goto C 2 dX7_readRates_64 (by decide) ?_
  refine x_loc [(0, .inr (.inr (some 0))), (1, .inr (.inr (some 3))), (2, .inl (x2 + 1))] ⟨rfl, rfl, rfl, trivial⟩ ?_
  exact hk2 _ _ h
def f_R_rates_37 (m : xM) : Option (Int × xM) :=
     (Option.bind (f_T_takeSign 59 (xvw [1, 2] m)) fun q4 =>
      (if xbz q4.1 then some (q4.1, (xmg [1, 2] 2 m q4.2))
      else none))
set_option maxRecDepth 1000000 in
set_option maxHeartbeats 4000000 in
theorem t_R_rates_37 {Γ : xG} {d : Nat} (hd9 : 5 ≤ d) (C : xC Γ lay_R RX7 cX7_readRates 3 d) {r : Int} {m9 : xM} (hR : xRz Γ lay_R cX7_readRates r m9) (m : xM) (h : f_R_rates_37 m = some (r, m9)) : xW Γ lay_R 3 37 [(0, .inr (.inr (some 0)))] [] m := by
  unfold f_R_rates_37 at h
  refine x_aload_n C dX7_readRates_37 rfl ?_
  refine x_getR C dX7_readRates_38 fF_X7_9 rfl rfl ?_
  refine x_bipush C dX7_readRates_41 (by decide) ?_
  obtain ⟨q4, hq4, h⟩ := x_bind h
  refine x_callV C dX7_readRates_43 (xin_15 _ (List.mem_of_getElem? (i := 15) rfl)) xy_X8_takeSign (xi_X8_takeSign) (xs_X8_takeSign) [1, 2] xv_44 (by omega) (by decide) (b := 0) rfl ⟨_, _, rfl⟩ (av := [.inl 59]) rfl (Nat.le_of_ble_eq_true rfl) (c_T_takeSign _ _ _ q4.1 q4.2 hq4) rfl ?_
  obtain ⟨hz9, h⟩ := x_some1 h
  exact x_zreturn hR hz9 dX7_readRates_46 h
def f_R_rates_2 : Nat → Int → xM → Option (Int × xM)
  | 0, _, _ => none
  | n + 1, x2, m =>
     (if xw x2 < xw 5 then (Option.bind (f_R_rate x2 m) fun q1 =>
      (if xw q1.1 = 0 then some (0, q1.2)
      else (Option.bind (f_T_isSign 44 (xvw [1, 2] (xu q1.2 3 4 (x2 + 1)))) fun q2 =>
      (if xw q2 = 0 then f_R_rates_37 (xu q1.2 3 4 (x2 + 1))
      else (if xw (x2 + 1) < xw 5 then (Option.bind (f_T_next (xvw [1, 2] (xu q1.2 3 4 (x2 + 1)))) fun q3 =>
      f_R_rates_61 (f_R_rates_2 n) x2 (xmg [1, 2] 2 (xu q1.2 3 4 (x2 + 1)) q3))
      else f_R_rates_61 (f_R_rates_2 n) x2 (xu q1.2 3 4 (x2 + 1)))))))
      else f_R_rates_67 m)
set_option maxRecDepth 1000000 in
set_option maxHeartbeats 4000000 in
theorem t_R_rates_2 {Γ : xG} {d : Nat} (hd9 : 5 ≤ d) (C : xC Γ lay_R RX7 cX7_readRates 3 d) {r : Int} {m9 : xM} (hR : xRz Γ lay_R cX7_readRates r m9) : ∀ (n : Nat) (x2 : Int) (m : xM), f_R_rates_2 n x2 m = some (r, m9) → xW Γ lay_R 3 2 [(0, .inr (.inr (some 0))), (1, .inr (.inr (some 3))), (2, .inl x2)] [] m := by
  intro n
  induction n with
  | zero => intro _ _ h; cases h
  | succ n ih =>
    intro x2 m h
    rw [f_R_rates_2] at h
    refine x_iload_n C dX7_readRates_2 rfl ?_
    refine x_iconst C dX7_readRates_3 ?_
    refine x_icmp_ge C 67 dX7_readRates_4 (by decide) h (fun h => ?_) (fun h => ?_)
    · refine x_loc [(0, .inr (.inr (some 0)))] ⟨rfl, trivial⟩ ?_
      exact t_R_rates_67 hd9 C hR _ h
    · refine x_aload_n C dX7_readRates_7 rfl ?_
      refine x_aload_n C dX7_readRates_8 rfl ?_
      refine x_iload_n C dX7_readRates_9 rfl ?_
      obtain ⟨q1, hq1, h⟩ := x_bind h
      refine x_callVI C dX7_readRates_10 (xin_15 _ (List.mem_of_getElem? (i := 0) rfl)) xy_X7_readRate (xi_X7_readRate) (xs_X7_readRate) (by omega) (by decide) (b := 0) rfl ⟨_, _, rfl⟩ (av := [.inr (.inr (some 3)), .inl x2]) rfl (Nat.le_of_ble_eq_true rfl) (c_R_rate _ _ _ q1.1 q1.2 hq1) rfl ?_
      refine x_if_ne C 18 dX7_readRates_13 (by decide) h (fun h => ?_) (fun h => ?_)
      · refine x_aload_n C dX7_readRates_18 rfl ?_
        refine x_iload_n C dX7_readRates_19 rfl ?_
        refine x_iconst C dX7_readRates_20 ?_
        refine x_iadd C dX7_readRates_21 ?_
        refine x_putI C dX7_readRates_22 fF_X7_57 rfl rfl ?_
        refine x_aload_n C dX7_readRates_25 rfl ?_
        refine x_getR C dX7_readRates_26 fF_X7_9 rfl rfl ?_
        refine x_bipush C dX7_readRates_29 (by decide) ?_
        obtain ⟨q2, hq2, h⟩ := x_bind h
        refine x_callVp C dX7_readRates_31 (xin_15 _ (List.mem_of_getElem? (i := 14) rfl)) xy_X8_isSign (xi_X8_isSign) (xs_X8_isSign) [1, 2] xv_44 (by omega) (by decide) (b := 0) rfl ⟨_, _, rfl⟩ (av := [.inl 44]) rfl (Nat.le_of_ble_eq_true rfl) (c_T_isSign _ _ _ _ hq2) rfl ?_
        refine x_if_ne C 47 dX7_readRates_34 (by decide) h (fun h => ?_) (fun h => ?_)
        · refine x_iload_n C dX7_readRates_47 rfl ?_
          refine x_iconst C dX7_readRates_48 ?_
          refine x_iadd C dX7_readRates_49 ?_
          refine x_iconst C dX7_readRates_50 ?_
          refine x_icmp_ge C 61 dX7_readRates_51 (by decide) h (fun h => ?_) (fun h => ?_)
          · refine x_loc [(0, .inr (.inr (some 0))), (1, .inr (.inr (some 3))), (2, .inl x2)] ⟨rfl, rfl, rfl, trivial⟩ ?_
            exact t_R_rates_61 hd9 C hR ih _ _ h
          · refine x_aload_n C dX7_readRates_54 rfl ?_
            refine x_getR C dX7_readRates_55 fF_X7_9 rfl rfl ?_
            obtain ⟨q3, hq3, h⟩ := x_bind h
            refine x_callV C dX7_readRates_58 (xin_15 _ (List.mem_of_getElem? (i := 13) rfl)) xy_X8_next (xi_X8_next) (xs_X8_next) [1, 2] xv_44 (by omega) (by decide) (b := 0) rfl ⟨_, _, rfl⟩ (av := []) rfl (Nat.le_of_ble_eq_true rfl) (c_T_next _ _ _ hq3) rfl ?_
            refine x_loc [(0, .inr (.inr (some 0))), (1, .inr (.inr (some 3))), (2, .inl x2)] ⟨rfl, rfl, rfl, trivial⟩ ?_
            exact t_R_rates_61 hd9 C hR ih _ _ h
        · refine x_loc [(0, .inr (.inr (some 0)))] ⟨rfl, trivial⟩ ?_
          exact t_R_rates_37 hd9 C hR _ h
      · refine x_iconst C dX7_readRates_16 ?_
        exact x_zreturn hR (by decide) dX7_readRates_17 h
def f_R_rates (m : xM) : Option (Int × xM) :=
     f_R_rates_2 fu 0 m
set_option maxRecDepth 1000000 in
set_option maxHeartbeats 4000000 in
theorem t_R_rates {Γ : xG} {d : Nat} (hd9 : 5 ≤ d) (C : xC Γ lay_R RX7 cX7_readRates 3 d) {r : Int} {m9 : xM} (hR : xRz Γ lay_R cX7_readRates r m9) (m : xM) (h : f_R_rates m = some (r, m9)) : xW Γ lay_R 3 0 [(0, .inr (.inr (some 0))), (1, .inr (.inr (some 3)))] [] m := by
  unfold f_R_rates at h
  refine x_iconst C dX7_readRates_0 ?_
  refine x_istore_n C dX7_readRates_1 (by decide) ?_
  refine x_loc [(0, .inr (.inr (some 0))), (1, .inr (.inr (some 3))), (2, .inl 0)] ⟨rfl, rfl, rfl, trivial⟩ ?_
  exact t_R_rates_2 hd9 C hR fu _ _ h
theorem c_R_rates (l : Launch) (m : xM) (r : Int) (m9 : xM) (h : f_R_rates m = some (r, m9)) : xMet l yX7_readRates cX7_readRates 3 (some .boolean) 5 lay_R [.inr (.inr (some 0)), .inr (.inr (some 3))] m (some (.inl r)) m9 :=
  xMet_z (by decide +kernel) (Nat.le_of_ble_eq_true rfl) (fun Γ C hR hl9 => t_R_rates (Nat.le_refl _) C hR m h)
theorem xy_X8_takeLastNumber : xY yX8_takeLastNumber cX8_takeLastNumber 4 (some .int) 2 := ⟨(xin_14 _ (List.mem_of_getElem? (i := 2) rfl)), (xin_2 _ (List.mem_of_getElem? (i := 3) rfl)), by decide, by decide, by decide +kernel⟩
theorem xi_X8_takeLastNumber : Cond.instanceMethod yX8_takeLastNumber ∈ wsL_law := (xin_14 _ (List.mem_of_getElem? (i := 0) rfl))
theorem xs_X8_takeLastNumber : Cond.selects yX8_takeLastNumber.cls yX8_takeLastNumber yX8_takeLastNumber ∈ wsL_law := (xin_14 _ (List.mem_of_getElem? (i := 1) rfl))
theorem fF_X7_127 : xF RX7 127 7 13 .int false := ⟨RX6, TX6, 14, tyX6, rfl, by decide, (xin_16 _ (List.mem_of_getElem? (i := 23) rfl)), rfl, inlX6, tyX6_ok, nmX6, rfl, rfl⟩
theorem fF_X7_123 : xF RX7 123 7 12 .int false := ⟨RX6, TX6, 14, tyX6, rfl, by decide, (xin_16 _ (List.mem_of_getElem? (i := 22) rfl)), rfl, inlX6, tyX6_ok, nmX6, rfl, rfl⟩
theorem fF_X7_119 : xF RX7 119 7 9 .int false := ⟨RX6, TX6, 14, tyX6, rfl, by decide, (xin_16 _ (List.mem_of_getElem? (i := 21) rfl)), rfl, inlX6, tyX6_ok, nmX6, rfl, rfl⟩
theorem fF_X7_115 : xF RX7 115 7 8 .int false := ⟨RX6, TX6, 14, tyX6, rfl, by decide, (xin_16 _ (List.mem_of_getElem? (i := 20) rfl)), rfl, inlX6, tyX6_ok, nmX6, rfl, rfl⟩
theorem fF_X7_111 : xF RX7 111 7 7 .int false := ⟨RX6, TX6, 14, tyX6, rfl, by decide, (xin_16 _ (List.mem_of_getElem? (i := 19) rfl)), rfl, inlX6, tyX6_ok, nmX6, rfl, rfl⟩
theorem dX7_readNumberClause_0 : decode cX7_readNumberClause 0 = .ok (.aload_n 0, 1) := by decide +kernel
theorem dX7_readNumberClause_1 : decode cX7_readNumberClause 1 = .ok (.getfield 9, 3) := by decide +kernel
theorem dX7_readNumberClause_4 : decode cX7_readNumberClause 4 = .ok (.ldc 109, 2) := by decide +kernel
theorem dX7_readNumberClause_6 : decode cX7_readNumberClause 6 = .ok (.invokevirtual 90, 3) := by decide +kernel
theorem dX7_readNumberClause_9 : decode cX7_readNumberClause 9 = .ok (.ifCond .eq 27, 3) := by decide +kernel
theorem dX7_readNumberClause_12 : decode cX7_readNumberClause 12 = .ok (.aload_n 0, 1) := by decide +kernel
theorem dX7_readNumberClause_13 : decode cX7_readNumberClause 13 = .ok (.getfield 9, 3) := by decide +kernel
theorem dX7_readNumberClause_16 : decode cX7_readNumberClause 16 = .ok (.invokevirtual 67, 3) := by decide +kernel
theorem dX7_readNumberClause_19 : decode cX7_readNumberClause 19 = .ok (.aload_n 1, 1) := by decide +kernel
theorem dX7_readNumberClause_20 : decode cX7_readNumberClause 20 = .ok (.aload_n 0, 1) := by decide +kernel
theorem dX7_readNumberClause_21 : decode cX7_readNumberClause 21 = .ok (.getfield 9, 3) := by decide +kernel
theorem dX7_readNumberClause_24 : decode cX7_readNumberClause 24 = .ok (.iconst 0, 1) := by decide +kernel
theorem dX7_readNumberClause_25 : decode cX7_readNumberClause 25 = .ok (.bipush 9, 2) := by decide +kernel
theorem dX7_readNumberClause_27 : decode cX7_readNumberClause 27 = .ok (.invokevirtual 28, 3) := by decide +kernel
theorem dX7_readNumberClause_30 : decode cX7_readNumberClause 30 = .ok (.putfield 111, 3) := by decide +kernel
theorem dX7_readNumberClause_33 : decode cX7_readNumberClause 33 = .ok (.goto 155, 3) := by decide +kernel
theorem dX7_readNumberClause_36 : decode cX7_readNumberClause 36 = .ok (.aload_n 0, 1) := by decide +kernel
theorem dX7_readNumberClause_37 : decode cX7_readNumberClause 37 = .ok (.getfield 9, 3) := by decide +kernel
theorem dX7_readNumberClause_40 : decode cX7_readNumberClause 40 = .ok (.ldc 113, 2) := by decide +kernel
theorem dX7_readNumberClause_42 : decode cX7_readNumberClause 42 = .ok (.invokevirtual 90, 3) := by decide +kernel
theorem dX7_readNumberClause_45 : decode cX7_readNumberClause 45 = .ok (.ifCond .eq 27, 3) := by decide +kernel
theorem dX7_readNumberClause_48 : decode cX7_readNumberClause 48 = .ok (.aload_n 0, 1) := by decide +kernel
theorem dX7_readNumberClause_49 : decode cX7_readNumberClause 49 = .ok (.getfield 9, 3) := by decide +kernel
theorem dX7_readNumberClause_52 : decode cX7_readNumberClause 52 = .ok (.invokevirtual 67, 3) := by decide +kernel
theorem dX7_readNumberClause_55 : decode cX7_readNumberClause 55 = .ok (.aload_n 1, 1) := by decide +kernel
theorem dX7_readNumberClause_56 : decode cX7_readNumberClause 56 = .ok (.aload_n 0, 1) := by decide +kernel
theorem dX7_readNumberClause_57 : decode cX7_readNumberClause 57 = .ok (.getfield 9, 3) := by decide +kernel
theorem dX7_readNumberClause_60 : decode cX7_readNumberClause 60 = .ok (.iconst 0, 1) := by decide +kernel
theorem dX7_readNumberClause_61 : decode cX7_readNumberClause 61 = .ok (.bipush 50, 2) := by decide +kernel
theorem dX7_readNumberClause_63 : decode cX7_readNumberClause 63 = .ok (.invokevirtual 28, 3) := by decide +kernel
theorem dX7_readNumberClause_66 : decode cX7_readNumberClause 66 = .ok (.putfield 115, 3) := by decide +kernel
theorem dX7_readNumberClause_69 : decode cX7_readNumberClause 69 = .ok (.goto 119, 3) := by decide +kernel
theorem dX7_readNumberClause_72 : decode cX7_readNumberClause 72 = .ok (.aload_n 0, 1) := by decide +kernel
theorem dX7_readNumberClause_73 : decode cX7_readNumberClause 73 = .ok (.getfield 9, 3) := by decide +kernel
theorem dX7_readNumberClause_76 : decode cX7_readNumberClause 76 = .ok (.ldc 117, 2) := by decide +kernel
theorem dX7_readNumberClause_78 : decode cX7_readNumberClause 78 = .ok (.invokevirtual 90, 3) := by decide +kernel
theorem dX7_readNumberClause_81 : decode cX7_readNumberClause 81 = .ok (.ifCond .eq 27, 3) := by decide +kernel
theorem dX7_readNumberClause_84 : decode cX7_readNumberClause 84 = .ok (.aload_n 0, 1) := by decide +kernel
theorem dX7_readNumberClause_85 : decode cX7_readNumberClause 85 = .ok (.getfield 9, 3) := by decide +kernel
theorem dX7_readNumberClause_88 : decode cX7_readNumberClause 88 = .ok (.invokevirtual 67, 3) := by decide +kernel
theorem dX7_readNumberClause_91 : decode cX7_readNumberClause 91 = .ok (.aload_n 1, 1) := by decide +kernel
theorem dX7_readNumberClause_92 : decode cX7_readNumberClause 92 = .ok (.aload_n 0, 1) := by decide +kernel
theorem dX7_readNumberClause_93 : decode cX7_readNumberClause 93 = .ok (.getfield 9, 3) := by decide +kernel
theorem dX7_readNumberClause_96 : decode cX7_readNumberClause 96 = .ok (.iconst 1, 1) := by decide +kernel
theorem dX7_readNumberClause_97 : decode cX7_readNumberClause 97 = .ok (.bipush 7, 2) := by decide +kernel
theorem dX7_readNumberClause_99 : decode cX7_readNumberClause 99 = .ok (.invokevirtual 28, 3) := by decide +kernel
theorem dX7_readNumberClause_102 : decode cX7_readNumberClause 102 = .ok (.putfield 119, 3) := by decide +kernel
theorem dX7_readNumberClause_105 : decode cX7_readNumberClause 105 = .ok (.goto 83, 3) := by decide +kernel
theorem dX7_readNumberClause_108 : decode cX7_readNumberClause 108 = .ok (.aload_n 0, 1) := by decide +kernel
theorem dX7_readNumberClause_109 : decode cX7_readNumberClause 109 = .ok (.getfield 9, 3) := by decide +kernel
theorem dX7_readNumberClause_112 : decode cX7_readNumberClause 112 = .ok (.ldc 121, 2) := by decide +kernel
theorem dX7_readNumberClause_114 : decode cX7_readNumberClause 114 = .ok (.invokevirtual 90, 3) := by decide +kernel
theorem dX7_readNumberClause_117 : decode cX7_readNumberClause 117 = .ok (.ifCond .eq 26, 3) := by decide +kernel
theorem dX7_readNumberClause_120 : decode cX7_readNumberClause 120 = .ok (.aload_n 0, 1) := by decide +kernel
theorem dX7_readNumberClause_121 : decode cX7_readNumberClause 121 = .ok (.getfield 9, 3) := by decide +kernel
theorem dX7_readNumberClause_124 : decode cX7_readNumberClause 124 = .ok (.invokevirtual 67, 3) := by decide +kernel
theorem dX7_readNumberClause_127 : decode cX7_readNumberClause 127 = .ok (.aload_n 1, 1) := by decide +kernel
theorem dX7_readNumberClause_128 : decode cX7_readNumberClause 128 = .ok (.aload_n 0, 1) := by decide +kernel
theorem dX7_readNumberClause_129 : decode cX7_readNumberClause 129 = .ok (.getfield 9, 3) := by decide +kernel
theorem dX7_readNumberClause_132 : decode cX7_readNumberClause 132 = .ok (.iconst 1, 1) := by decide +kernel
theorem dX7_readNumberClause_133 : decode cX7_readNumberClause 133 = .ok (.iconst 5, 1) := by decide +kernel
theorem dX7_readNumberClause_134 : decode cX7_readNumberClause 134 = .ok (.invokevirtual 28, 3) := by decide +kernel
theorem dX7_readNumberClause_137 : decode cX7_readNumberClause 137 = .ok (.putfield 123, 3) := by decide +kernel
theorem dX7_readNumberClause_140 : decode cX7_readNumberClause 140 = .ok (.goto 48, 3) := by decide +kernel
theorem dX7_readNumberClause_143 : decode cX7_readNumberClause 143 = .ok (.aload_n 0, 1) := by decide +kernel
theorem dX7_readNumberClause_144 : decode cX7_readNumberClause 144 = .ok (.getfield 9, 3) := by decide +kernel
theorem dX7_readNumberClause_147 : decode cX7_readNumberClause 147 = .ok (.ldc 125, 2) := by decide +kernel
theorem dX7_readNumberClause_149 : decode cX7_readNumberClause 149 = .ok (.invokevirtual 90, 3) := by decide +kernel
theorem dX7_readNumberClause_152 : decode cX7_readNumberClause 152 = .ok (.ifCond .eq 27, 3) := by decide +kernel
theorem dX7_readNumberClause_155 : decode cX7_readNumberClause 155 = .ok (.aload_n 0, 1) := by decide +kernel
theorem dX7_readNumberClause_156 : decode cX7_readNumberClause 156 = .ok (.getfield 9, 3) := by decide +kernel
theorem dX7_readNumberClause_159 : decode cX7_readNumberClause 159 = .ok (.invokevirtual 67, 3) := by decide +kernel
theorem dX7_readNumberClause_162 : decode cX7_readNumberClause 162 = .ok (.aload_n 1, 1) := by decide +kernel
theorem dX7_readNumberClause_163 : decode cX7_readNumberClause 163 = .ok (.aload_n 0, 1) := by decide +kernel
theorem dX7_readNumberClause_164 : decode cX7_readNumberClause 164 = .ok (.getfield 9, 3) := by decide +kernel
theorem dX7_readNumberClause_167 : decode cX7_readNumberClause 167 = .ok (.iconst 1, 1) := by decide +kernel
theorem dX7_readNumberClause_168 : decode cX7_readNumberClause 168 = .ok (.bipush 50, 2) := by decide +kernel
theorem dX7_readNumberClause_170 : decode cX7_readNumberClause 170 = .ok (.invokevirtual 28, 3) := by decide +kernel
theorem dX7_readNumberClause_173 : decode cX7_readNumberClause 173 = .ok (.putfield 127, 3) := by decide +kernel
theorem dX7_readNumberClause_176 : decode cX7_readNumberClause 176 = .ok (.goto 12, 3) := by decide +kernel
theorem dX7_readNumberClause_179 : decode cX7_readNumberClause 179 = .ok (.aload_n 0, 1) := by decide +kernel
theorem dX7_readNumberClause_180 : decode cX7_readNumberClause 180 = .ok (.getfield 9, 3) := by decide +kernel
theorem dX7_readNumberClause_183 : decode cX7_readNumberClause 183 = .ok (.iconst 1, 1) := by decide +kernel
theorem dX7_readNumberClause_184 : decode cX7_readNumberClause 184 = .ok (.invokevirtual 49, 3) := by decide +kernel
theorem dX7_readNumberClause_187 : decode cX7_readNumberClause 187 = .ok (.pop, 1) := by decide +kernel
theorem dX7_readNumberClause_188 : decode cX7_readNumberClause 188 = .ok (.return_, 1) := by decide +kernel
def f_R_number (m : xM) : Option (xM) :=
     (Option.bind (f_T_isWord 13 (xvw [1, 2] m)) fun q0 =>
      (if xw q0 = 0 then (Option.bind (f_T_isWord 14 (xvw [1, 2] m)) fun q1 =>
      (if xw q1 = 0 then (Option.bind (f_T_isWord 15 (xvw [1, 2] m)) fun q2 =>
      (if xw q2 = 0 then (Option.bind (f_T_isWord 17 (xvw [1, 2] m)) fun q3 =>
      (if xw q3 = 0 then (Option.bind (f_T_isWord 18 (xvw [1, 2] m)) fun q4 =>
      (if xw q4 = 0 then (Option.bind (f_T_fail 1 (xvw [1, 2] m)) fun q5 =>
      some (xmg [1, 2] 2 m q5.2))
      else (Option.bind (f_T_next (xvw [1, 2] m)) fun q6 =>
      (Option.bind (f_T_takeLast 1 50 (xvw [1, 2] (xmg [1, 2] 2 m q6))) fun q7 =>
      some (xu (xmg [1, 2] 2 (xmg [1, 2] 2 m q6) q7.2) 3 13 q7.1)))))
      else (Option.bind (f_T_next (xvw [1, 2] m)) fun q8 =>
      (Option.bind (f_T_takeLast 1 5 (xvw [1, 2] (xmg [1, 2] 2 m q8))) fun q9 =>
      some (xu (xmg [1, 2] 2 (xmg [1, 2] 2 m q8) q9.2) 3 12 q9.1)))))
      else (Option.bind (f_T_next (xvw [1, 2] m)) fun q10 =>
      (Option.bind (f_T_takeLast 1 7 (xvw [1, 2] (xmg [1, 2] 2 m q10))) fun q11 =>
      some (xu (xmg [1, 2] 2 (xmg [1, 2] 2 m q10) q11.2) 3 9 q11.1)))))
      else (Option.bind (f_T_next (xvw [1, 2] m)) fun q12 =>
      (Option.bind (f_T_takeLast 0 50 (xvw [1, 2] (xmg [1, 2] 2 m q12))) fun q13 =>
      some (xu (xmg [1, 2] 2 (xmg [1, 2] 2 m q12) q13.2) 3 8 q13.1)))))
      else (Option.bind (f_T_next (xvw [1, 2] m)) fun q14 =>
      (Option.bind (f_T_takeLast 0 9 (xvw [1, 2] (xmg [1, 2] 2 m q14))) fun q15 =>
      some (xu (xmg [1, 2] 2 (xmg [1, 2] 2 m q14) q15.2) 3 7 q15.1)))))
set_option maxRecDepth 1000000 in
set_option maxHeartbeats 4000000 in
theorem t_R_number {Γ : xG} {d : Nat} (hd9 : 5 ≤ d) (C : xC Γ lay_R RX7 cX7_readNumberClause 2 d) {m9 : xM} (hR : xRv Γ lay_R cX7_readNumberClause m9) (m : xM) (h : f_R_number m = some m9) : xW Γ lay_R 2 0 [(0, .inr (.inr (some 0))), (1, .inr (.inr (some 3)))] [] m := by
  unfold f_R_number at h
  refine x_aload_n C dX7_readNumberClause_0 rfl ?_
  refine x_getR C dX7_readNumberClause_1 fF_X7_9 rfl rfl ?_
  refine x_ldcS C "retries" 13 dX7_readNumberClause_4 (List.mem_of_getElem? (i := 5) rfl) ?_
  obtain ⟨q0, hq0, h⟩ := x_bind h
  refine x_callVp C dX7_readNumberClause_6 (xin_15 _ (List.mem_of_getElem? (i := 20) rfl)) xy_X8_isWord (xi_X8_isWord) (xs_X8_isWord) [1, 2] xv_44 (by omega) (by decide) (b := 0) rfl ⟨_, _, rfl⟩ (av := [.inr (.inr (some 1013))]) rfl (Nat.le_of_ble_eq_true rfl) (c_T_isWord _ 13 (by decide) _ _ hq0) rfl ?_
  refine x_if_eq C 36 dX7_readNumberClause_9 (by decide) h (fun h => ?_) (fun h => ?_)
  · refine x_aload_n C dX7_readNumberClause_36 rfl ?_
    refine x_getR C dX7_readNumberClause_37 fF_X7_9 rfl rfl ?_
    refine x_ldcS C "hold" 14 dX7_readNumberClause_40 (List.mem_of_getElem? (i := 6) rfl) ?_
    obtain ⟨q1, hq1, h⟩ := x_bind h
    refine x_callVp C dX7_readNumberClause_42 (xin_15 _ (List.mem_of_getElem? (i := 20) rfl)) xy_X8_isWord (xi_X8_isWord) (xs_X8_isWord) [1, 2] xv_44 (by omega) (by decide) (b := 0) rfl ⟨_, _, rfl⟩ (av := [.inr (.inr (some 1014))]) rfl (Nat.le_of_ble_eq_true rfl) (c_T_isWord _ 14 (by decide) _ _ hq1) rfl ?_
    refine x_if_eq C 72 dX7_readNumberClause_45 (by decide) h (fun h => ?_) (fun h => ?_)
    · refine x_aload_n C dX7_readNumberClause_72 rfl ?_
      refine x_getR C dX7_readNumberClause_73 fF_X7_9 rfl rfl ?_
      refine x_ldcS C "window" 15 dX7_readNumberClause_76 (List.mem_of_getElem? (i := 7) rfl) ?_
      obtain ⟨q2, hq2, h⟩ := x_bind h
      refine x_callVp C dX7_readNumberClause_78 (xin_15 _ (List.mem_of_getElem? (i := 20) rfl)) xy_X8_isWord (xi_X8_isWord) (xs_X8_isWord) [1, 2] xv_44 (by omega) (by decide) (b := 0) rfl ⟨_, _, rfl⟩ (av := [.inr (.inr (some 1015))]) rfl (Nat.le_of_ble_eq_true rfl) (c_T_isWord _ 15 (by decide) _ _ hq2) rfl ?_
      refine x_if_eq C 108 dX7_readNumberClause_81 (by decide) h (fun h => ?_) (fun h => ?_)
      · refine x_aload_n C dX7_readNumberClause_108 rfl ?_
        refine x_getR C dX7_readNumberClause_109 fF_X7_9 rfl rfl ?_
        refine x_ldcS C "limit" 17 dX7_readNumberClause_112 (List.mem_of_getElem? (i := 8) rfl) ?_
        obtain ⟨q3, hq3, h⟩ := x_bind h
        refine x_callVp C dX7_readNumberClause_114 (xin_15 _ (List.mem_of_getElem? (i := 20) rfl)) xy_X8_isWord (xi_X8_isWord) (xs_X8_isWord) [1, 2] xv_44 (by omega) (by decide) (b := 0) rfl ⟨_, _, rfl⟩ (av := [.inr (.inr (some 1017))]) rfl (Nat.le_of_ble_eq_true rfl) (c_T_isWord _ 17 (by decide) _ _ hq3) rfl ?_
        refine x_if_eq C 143 dX7_readNumberClause_117 (by decide) h (fun h => ?_) (fun h => ?_)
        · refine x_aload_n C dX7_readNumberClause_143 rfl ?_
          refine x_getR C dX7_readNumberClause_144 fF_X7_9 rfl rfl ?_
          refine x_ldcS C "patience" 18 dX7_readNumberClause_147 (List.mem_of_getElem? (i := 9) rfl) ?_
          obtain ⟨q4, hq4, h⟩ := x_bind h
          refine x_callVp C dX7_readNumberClause_149 (xin_15 _ (List.mem_of_getElem? (i := 20) rfl)) xy_X8_isWord (xi_X8_isWord) (xs_X8_isWord) [1, 2] xv_44 (by omega) (by decide) (b := 0) rfl ⟨_, _, rfl⟩ (av := [.inr (.inr (some 1018))]) rfl (Nat.le_of_ble_eq_true rfl) (c_T_isWord _ 18 (by decide) _ _ hq4) rfl ?_
          refine x_if_eq C 179 dX7_readNumberClause_152 (by decide) h (fun h => ?_) (fun h => ?_)
          · refine x_aload_n C dX7_readNumberClause_179 rfl ?_
            refine x_getR C dX7_readNumberClause_180 fF_X7_9 rfl rfl ?_
            refine x_iconst C dX7_readNumberClause_183 ?_
            obtain ⟨q5, hq5, h⟩ := x_bind h
            refine x_callV C dX7_readNumberClause_184 (xin_15 _ (List.mem_of_getElem? (i := 12) rfl)) xy_X8_fail (xi_X8_fail) (xs_X8_fail) [1, 2] xv_44 (by omega) (by decide) (b := 0) rfl ⟨_, _, rfl⟩ (av := [.inl 1]) rfl (Nat.le_of_ble_eq_true rfl) (c_T_fail _ _ _ q5.1 q5.2 hq5) rfl ?_
            refine x_pop C dX7_readNumberClause_187 rfl ?_
            exact x_returnV hR dX7_readNumberClause_188 h
          · refine x_aload_n C dX7_readNumberClause_155 rfl ?_
            refine x_getR C dX7_readNumberClause_156 fF_X7_9 rfl rfl ?_
            obtain ⟨q6, hq6, h⟩ := x_bind h
            refine x_callV C dX7_readNumberClause_159 (xin_15 _ (List.mem_of_getElem? (i := 13) rfl)) xy_X8_next (xi_X8_next) (xs_X8_next) [1, 2] xv_44 (by omega) (by decide) (b := 0) rfl ⟨_, _, rfl⟩ (av := []) rfl (Nat.le_of_ble_eq_true rfl) (c_T_next _ _ _ hq6) rfl ?_
            refine x_aload_n C dX7_readNumberClause_162 rfl ?_
            refine x_aload_n C dX7_readNumberClause_163 rfl ?_
            refine x_getR C dX7_readNumberClause_164 fF_X7_9 rfl rfl ?_
            refine x_iconst C dX7_readNumberClause_167 ?_
            refine x_bipush C dX7_readNumberClause_168 (by decide) ?_
            obtain ⟨q7, hq7, h⟩ := x_bind h
            refine x_callV C dX7_readNumberClause_170 (xin_13 _ (List.mem_of_getElem? (i := 23) rfl)) xy_X8_takeLastNumber (xi_X8_takeLastNumber) (xs_X8_takeLastNumber) [1, 2] xv_44 (by omega) (by decide) (b := 0) rfl ⟨_, _, rfl⟩ (av := [.inl 1, .inl 50]) rfl (Nat.le_of_ble_eq_true rfl) (c_T_takeLast _ _ _ _ q7.1 q7.2 hq7) rfl ?_
            refine x_putI C dX7_readNumberClause_173 fF_X7_127 rfl rfl ?_
            refine x_goto C 188 dX7_readNumberClause_176 (by decide) ?_
            exact x_returnV hR dX7_readNumberClause_188 h
        · refine x_aload_n C dX7_readNumberClause_120 rfl ?_
          refine x_getR C dX7_readNumberClause_121 fF_X7_9 rfl rfl ?_
          obtain ⟨q8, hq8, h⟩ := x_bind h
          refine x_callV C dX7_readNumberClause_124 (xin_15 _ (List.mem_of_getElem? (i := 13) rfl)) xy_X8_next (xi_X8_next) (xs_X8_next) [1, 2] xv_44 (by omega) (by decide) (b := 0) rfl ⟨_, _, rfl⟩ (av := []) rfl (Nat.le_of_ble_eq_true rfl) (c_T_next _ _ _ hq8) rfl ?_
          refine x_aload_n C dX7_readNumberClause_127 rfl ?_
          refine x_aload_n C dX7_readNumberClause_128 rfl ?_
          refine x_getR C dX7_readNumberClause_129 fF_X7_9 rfl rfl ?_
          refine x_iconst C dX7_readNumberClause_132 ?_
          refine x_iconst C dX7_readNumberClause_133 ?_
          obtain ⟨q9, hq9, h⟩ := x_bind h
          refine x_callV C dX7_readNumberClause_134 (xin_13 _ (List.mem_of_getElem? (i := 23) rfl)) xy_X8_takeLastNumber (xi_X8_takeLastNumber) (xs_X8_takeLastNumber) [1, 2] xv_44 (by omega) (by decide) (b := 0) rfl ⟨_, _, rfl⟩ (av := [.inl 1, .inl 5]) rfl (Nat.le_of_ble_eq_true rfl) (c_T_takeLast _ _ _ _ q9.1 q9.2 hq9) rfl ?_
          refine x_putI C dX7_readNumberClause_137 fF_X7_123 rfl rfl ?_
          refine x_goto C 188 dX7_readNumberClause_140 (by decide) ?_
          exact x_returnV hR dX7_readNumberClause_188 h
      · refine x_aload_n C dX7_readNumberClause_84 rfl ?_
        refine x_getR C dX7_readNumberClause_85 fF_X7_9 rfl rfl ?_
        obtain ⟨q10, hq10, h⟩ := x_bind h
        refine x_callV C dX7_readNumberClause_88 (xin_15 _ (List.mem_of_getElem? (i := 13) rfl)) xy_X8_next (xi_X8_next) (xs_X8_next) [1, 2] xv_44 (by omega) (by decide) (b := 0) rfl ⟨_, _, rfl⟩ (av := []) rfl (Nat.le_of_ble_eq_true rfl) (c_T_next _ _ _ hq10) rfl ?_
        refine x_aload_n C dX7_readNumberClause_91 rfl ?_
        refine x_aload_n C dX7_readNumberClause_92 rfl ?_
        refine x_getR C dX7_readNumberClause_93 fF_X7_9 rfl rfl ?_
        refine x_iconst C dX7_readNumberClause_96 ?_
        refine x_bipush C dX7_readNumberClause_97 (by decide) ?_
        obtain ⟨q11, hq11, h⟩ := x_bind h
        refine x_callV C dX7_readNumberClause_99 (xin_13 _ (List.mem_of_getElem? (i := 23) rfl)) xy_X8_takeLastNumber (xi_X8_takeLastNumber) (xs_X8_takeLastNumber) [1, 2] xv_44 (by omega) (by decide) (b := 0) rfl ⟨_, _, rfl⟩ (av := [.inl 1, .inl 7]) rfl (Nat.le_of_ble_eq_true rfl) (c_T_takeLast _ _ _ _ q11.1 q11.2 hq11) rfl ?_
        refine x_putI C dX7_readNumberClause_102 fF_X7_119 rfl rfl ?_
        refine x_goto C 188 dX7_readNumberClause_105 (by decide) ?_
        exact x_returnV hR dX7_readNumberClause_188 h
    · refine x_aload_n C dX7_readNumberClause_48 rfl ?_
      refine x_getR C dX7_readNumberClause_49 fF_X7_9 rfl rfl ?_
      obtain ⟨q12, hq12, h⟩ := x_bind h
      refine x_callV C dX7_readNumberClause_52 (xin_15 _ (List.mem_of_getElem? (i := 13) rfl)) xy_X8_next (xi_X8_next) (xs_X8_next) [1, 2] xv_44 (by omega) (by decide) (b := 0) rfl ⟨_, _, rfl⟩ (av := []) rfl (Nat.le_of_ble_eq_true rfl) (c_T_next _ _ _ hq12) rfl ?_
      refine x_aload_n C dX7_readNumberClause_55 rfl ?_
      refine x_aload_n C dX7_readNumberClause_56 rfl ?_
      refine x_getR C dX7_readNumberClause_57 fF_X7_9 rfl rfl ?_
      refine x_iconst C dX7_readNumberClause_60 ?_
      refine x_bipush C dX7_readNumberClause_61 (by decide) ?_
      obtain ⟨q13, hq13, h⟩ := x_bind h
      refine x_callV C dX7_readNumberClause_63 (xin_13 _ (List.mem_of_getElem? (i := 23) rfl)) xy_X8_takeLastNumber (xi_X8_takeLastNumber) (xs_X8_takeLastNumber) [1, 2] xv_44 (by omega) (by decide) (b := 0) rfl ⟨_, _, rfl⟩ (av := [.inl 0, .inl 50]) rfl (Nat.le_of_ble_eq_true rfl) (c_T_takeLast _ _ _ _ q13.1 q13.2 hq13) rfl ?_
      refine x_putI C dX7_readNumberClause_66 fF_X7_115 rfl rfl ?_
      refine x_goto C 188 dX7_readNumberClause_69 (by decide) ?_
      exact x_returnV hR dX7_readNumberClause_188 h
  · refine x_aload_n C dX7_readNumberClause_12 rfl ?_
    refine x_getR C dX7_readNumberClause_13 fF_X7_9 rfl rfl ?_
    obtain ⟨q14, hq14, h⟩ := x_bind h
    refine x_callV C dX7_readNumberClause_16 (xin_15 _ (List.mem_of_getElem? (i := 13) rfl)) xy_X8_next (xi_X8_next) (xs_X8_next) [1, 2] xv_44 (by omega) (by decide) (b := 0) rfl ⟨_, _, rfl⟩ (av := []) rfl (Nat.le_of_ble_eq_true rfl) (c_T_next _ _ _ hq14) rfl ?_
    refine x_aload_n C dX7_readNumberClause_19 rfl ?_
    refine x_aload_n C dX7_readNumberClause_20 rfl ?_
    refine x_getR C dX7_readNumberClause_21 fF_X7_9 rfl rfl ?_
    refine x_iconst C dX7_readNumberClause_24 ?_
    refine x_bipush C dX7_readNumberClause_25 (by decide) ?_
    obtain ⟨q15, hq15, h⟩ := x_bind h
    refine x_callV C dX7_readNumberClause_27 (xin_13 _ (List.mem_of_getElem? (i := 23) rfl)) xy_X8_takeLastNumber (xi_X8_takeLastNumber) (xs_X8_takeLastNumber) [1, 2] xv_44 (by omega) (by decide) (b := 0) rfl ⟨_, _, rfl⟩ (av := [.inl 0, .inl 9]) rfl (Nat.le_of_ble_eq_true rfl) (c_T_takeLast _ _ _ _ q15.1 q15.2 hq15) rfl ?_
    refine x_putI C dX7_readNumberClause_30 fF_X7_111 rfl rfl ?_
    refine x_goto C 188 dX7_readNumberClause_33 (by decide) ?_
    exact x_returnV hR dX7_readNumberClause_188 h
theorem c_R_number (l : Launch) (m m9 : xM) (h : f_R_number m = some m9) : xMet l yX7_readNumberClause cX7_readNumberClause 2 none 5 lay_R [.inr (.inr (some 0)), .inr (.inr (some 3))] m none m9 :=
  xMet_v (by decide +kernel) (Nat.le_of_ble_eq_true rfl) (fun Γ C hR hl9 => t_R_number (Nat.le_refl _) C hR m h)
theorem fF_X7_129 : xF RX7 129 7 2 (.array .int) true := ⟨RX6, TX6, 14, tyX6, rfl, by decide, (xin_16 _ (List.mem_of_getElem? (i := 1) rfl)), rfl, inlX6, tyX6_ok, nmX6, rfl, rfl⟩
theorem dX7_readSteps_0 : decode cX7_readSteps 0 = .ok (.aload_n 0, 1) := by decide +kernel
theorem dX7_readSteps_1 : decode cX7_readSteps 1 = .ok (.getfield 9, 3) := by decide +kernel
theorem dX7_readSteps_4 : decode cX7_readSteps 4 = .ok (.invokevirtual 67, 3) := by decide +kernel
theorem dX7_readSteps_7 : decode cX7_readSteps 7 = .ok (.iconst 0, 1) := by decide +kernel
theorem dX7_readSteps_8 : decode cX7_readSteps 8 = .ok (.istore_n 2, 1) := by decide +kernel
theorem dX7_readSteps_9 : decode cX7_readSteps 9 = .ok (.iload_n 2, 1) := by decide +kernel
theorem dX7_readSteps_10 : decode cX7_readSteps 10 = .ok (.iconst 4, 1) := by decide +kernel
theorem dX7_readSteps_11 : decode cX7_readSteps 11 = .ok (.if_icmp .ge 25, 3) := by decide +kernel
theorem dX7_readSteps_14 : decode cX7_readSteps 14 = .ok (.aload_n 1, 1) := by decide +kernel
theorem dX7_readSteps_15 : decode cX7_readSteps 15 = .ok (.getfield 129, 3) := by decide +kernel
theorem dX7_readSteps_18 : decode cX7_readSteps 18 = .ok (.iload_n 2, 1) := by decide +kernel
theorem dX7_readSteps_19 : decode cX7_readSteps 19 = .ok (.aload_n 0, 1) := by decide +kernel
theorem dX7_readSteps_20 : decode cX7_readSteps 20 = .ok (.getfield 9, 3) := by decide +kernel
theorem dX7_readSteps_23 : decode cX7_readSteps 23 = .ok (.iconst 1, 1) := by decide +kernel
theorem dX7_readSteps_24 : decode cX7_readSteps 24 = .ok (.bipush 20, 2) := by decide +kernel
theorem dX7_readSteps_26 : decode cX7_readSteps 26 = .ok (.invokevirtual 132, 3) := by decide +kernel
theorem dX7_readSteps_29 : decode cX7_readSteps 29 = .ok (.iastore, 1) := by decide +kernel
theorem dX7_readSteps_30 : decode cX7_readSteps 30 = .ok (.iinc 2 1, 3) := by decide +kernel
theorem dX7_readSteps_33 : decode cX7_readSteps 33 = .ok (.goto (-24), 3) := by decide +kernel
theorem dX7_readSteps_36 : decode cX7_readSteps 36 = .ok (.aload_n 0, 1) := by decide +kernel
theorem dX7_readSteps_37 : decode cX7_readSteps 37 = .ok (.getfield 9, 3) := by decide +kernel
theorem dX7_readSteps_40 : decode cX7_readSteps 40 = .ok (.bipush 59, 2) := by decide +kernel
theorem dX7_readSteps_42 : decode cX7_readSteps 42 = .ok (.invokevirtual 64, 3) := by decide +kernel
theorem dX7_readSteps_45 : decode cX7_readSteps 45 = .ok (.pop, 1) := by decide +kernel
theorem dX7_readSteps_46 : decode cX7_readSteps 46 = .ok (.return_, 1) := by decide +kernel
def f_R_steps_36 (m : xM) : Option (xM) :=
     (Option.bind (f_T_takeSign 59 (xvw [1, 2] m)) fun q1 =>
      some (xmg [1, 2] 2 m q1.2))
set_option maxRecDepth 1000000 in
set_option maxHeartbeats 4000000 in
theorem t_R_steps_36 {Γ : xG} {d : Nat} (hd9 : 4 ≤ d) (C : xC Γ lay_R RX7 cX7_readSteps 3 d) {m9 : xM} (hR : xRv Γ lay_R cX7_readSteps m9) (m : xM) (h : f_R_steps_36 m = some m9) : xW Γ lay_R 3 36 [(0, .inr (.inr (some 0)))] [] m := by
  unfold f_R_steps_36 at h
  refine x_aload_n C dX7_readSteps_36 rfl ?_
  refine x_getR C dX7_readSteps_37 fF_X7_9 rfl rfl ?_
  refine x_bipush C dX7_readSteps_40 (by decide) ?_
  obtain ⟨q1, hq1, h⟩ := x_bind h
  refine x_callV C dX7_readSteps_42 (xin_15 _ (List.mem_of_getElem? (i := 15) rfl)) xy_X8_takeSign (xi_X8_takeSign) (xs_X8_takeSign) [1, 2] xv_44 (by omega) (by decide) (b := 0) rfl ⟨_, _, rfl⟩ (av := [.inl 59]) rfl (Nat.le_of_ble_eq_true rfl) (c_T_takeSign _ _ _ q1.1 q1.2 hq1) rfl ?_
  refine x_pop C dX7_readSteps_45 rfl ?_
  exact x_returnV hR dX7_readSteps_46 h
def f_R_steps_9 : Nat → Int → xM → Option (xM)
  | 0, _, _ => none
  | n + 1, x2, m =>
     (if xw x2 < xw 4 then (Option.bind (f_T_takeNumber 1 20 (xvw [1, 2] m)) fun q2 =>
      (if xib x2 4 then f_R_steps_9 n (x2 + 1) (xu (xmg [1, 2] 2 m q2.2) 6 (xix x2) q2.1)
      else none))
      else f_R_steps_36 m)
set_option maxRecDepth 1000000 in
set_option maxHeartbeats 4000000 in
theorem t_R_steps_9 {Γ : xG} {d : Nat} (hd9 : 4 ≤ d) (C : xC Γ lay_R RX7 cX7_readSteps 3 d) {m9 : xM} (hR : xRv Γ lay_R cX7_readSteps m9) : ∀ (n : Nat) (x2 : Int) (m : xM), f_R_steps_9 n x2 m = some m9 → xW Γ lay_R 3 9 [(0, .inr (.inr (some 0))), (1, .inr (.inr (some 3))), (2, .inl x2)] [] m := by
  intro n
  induction n with
  | zero => intro _ _ h; cases h
  | succ n ih =>
    intro x2 m h
    rw [f_R_steps_9] at h
    refine x_iload_n C dX7_readSteps_9 rfl ?_
    refine x_iconst C dX7_readSteps_10 ?_
    refine x_icmp_ge C 36 dX7_readSteps_11 (by decide) h (fun h => ?_) (fun h => ?_)
    · refine x_loc [(0, .inr (.inr (some 0)))] ⟨rfl, trivial⟩ ?_
      exact t_R_steps_36 hd9 C hR _ h
    · refine x_aload_n C dX7_readSteps_14 rfl ?_
      refine x_getR C dX7_readSteps_15 fF_X7_129 rfl rfl ?_
      refine x_iload_n C dX7_readSteps_18 rfl ?_
      refine x_aload_n C dX7_readSteps_19 rfl ?_
      refine x_getR C dX7_readSteps_20 fF_X7_9 rfl rfl ?_
      refine x_iconst C dX7_readSteps_23 ?_
      refine x_bipush C dX7_readSteps_24 (by decide) ?_
      obtain ⟨q2, hq2, h⟩ := x_bind h
      refine x_callV C dX7_readSteps_26 (xin_16 _ (List.mem_of_getElem? (i := 2) rfl)) xy_X8_takeNumber (xi_X8_takeNumber) (xs_X8_takeNumber) [1, 2] xv_44 (by omega) (by decide) (b := 0) rfl ⟨_, _, rfl⟩ (av := [.inl 1, .inl 20]) rfl (Nat.le_of_ble_eq_true rfl) (c_T_takeNumber _ _ _ _ q2.1 q2.2 hq2) rfl ?_
      refine x_iastore C dX7_readSteps_29 rfl h (fun h => ?_)
      refine x_iinc C dX7_readSteps_30 (by decide) rfl ?_
      refine x_goto C 9 dX7_readSteps_33 (by decide) ?_
      refine x_loc [(0, .inr (.inr (some 0))), (1, .inr (.inr (some 3))), (2, .inl (x2 + 1))] ⟨rfl, rfl, rfl, trivial⟩ ?_
      exact ih _ _ h
def f_R_steps (m : xM) : Option (xM) :=
     (Option.bind (f_T_next (xvw [1, 2] m)) fun q0 =>
      f_R_steps_9 fu 0 (xmg [1, 2] 2 m q0))
set_option maxRecDepth 1000000 in
set_option maxHeartbeats 4000000 in
theorem t_R_steps {Γ : xG} {d : Nat} (hd9 : 4 ≤ d) (C : xC Γ lay_R RX7 cX7_readSteps 3 d) {m9 : xM} (hR : xRv Γ lay_R cX7_readSteps m9) (m : xM) (h : f_R_steps m = some m9) : xW Γ lay_R 3 0 [(0, .inr (.inr (some 0))), (1, .inr (.inr (some 3)))] [] m := by
  unfold f_R_steps at h
  refine x_aload_n C dX7_readSteps_0 rfl ?_
  refine x_getR C dX7_readSteps_1 fF_X7_9 rfl rfl ?_
  obtain ⟨q0, hq0, h⟩ := x_bind h
  refine x_callV C dX7_readSteps_4 (xin_15 _ (List.mem_of_getElem? (i := 13) rfl)) xy_X8_next (xi_X8_next) (xs_X8_next) [1, 2] xv_44 (by omega) (by decide) (b := 0) rfl ⟨_, _, rfl⟩ (av := []) rfl (Nat.le_of_ble_eq_true rfl) (c_T_next _ _ _ hq0) rfl ?_
  refine x_iconst C dX7_readSteps_7 ?_
  refine x_istore_n C dX7_readSteps_8 (by decide) ?_
  refine x_loc [(0, .inr (.inr (some 0))), (1, .inr (.inr (some 3))), (2, .inl 0)] ⟨rfl, rfl, rfl, trivial⟩ ?_
  exact t_R_steps_9 hd9 C hR fu _ _ h
theorem c_R_steps (l : Launch) (m m9 : xM) (h : f_R_steps m = some m9) : xMet l yX7_readSteps cX7_readSteps 3 none 4 lay_R [.inr (.inr (some 0)), .inr (.inr (some 3))] m none m9 :=
  xMet_v (by decide +kernel) (Nat.le_of_ble_eq_true rfl) (fun Γ C hR hl9 => t_R_steps (Nat.le_refl _) C hR m h)
theorem fF_X7_135 : xF RX7 135 7 10 .int false := ⟨RX6, TX6, 14, tyX6, rfl, by decide, (xin_16 _ (List.mem_of_getElem? (i := 7) rfl)), rfl, inlX6, tyX6_ok, nmX6, rfl, rfl⟩
theorem fF_X7_137 : xF RX7 137 7 11 .int false := ⟨RX6, TX6, 14, tyX6, rfl, by decide, (xin_16 _ (List.mem_of_getElem? (i := 8) rfl)), rfl, inlX6, tyX6_ok, nmX6, rfl, rfl⟩
theorem dX7_readDelay_0 : decode cX7_readDelay 0 = .ok (.aload_n 0, 1) := by decide +kernel
theorem dX7_readDelay_1 : decode cX7_readDelay 1 = .ok (.getfield 9, 3) := by decide +kernel
theorem dX7_readDelay_4 : decode cX7_readDelay 4 = .ok (.invokevirtual 67, 3) := by decide +kernel
theorem dX7_readDelay_7 : decode cX7_readDelay 7 = .ok (.aload_n 1, 1) := by decide +kernel
theorem dX7_readDelay_8 : decode cX7_readDelay 8 = .ok (.aload_n 0, 1) := by decide +kernel
theorem dX7_readDelay_9 : decode cX7_readDelay 9 = .ok (.getfield 9, 3) := by decide +kernel
theorem dX7_readDelay_12 : decode cX7_readDelay 12 = .ok (.iconst 1, 1) := by decide +kernel
theorem dX7_readDelay_13 : decode cX7_readDelay 13 = .ok (.bipush 9, 2) := by decide +kernel
theorem dX7_readDelay_15 : decode cX7_readDelay 15 = .ok (.invokevirtual 132, 3) := by decide +kernel
theorem dX7_readDelay_18 : decode cX7_readDelay 18 = .ok (.putfield 135, 3) := by decide +kernel
theorem dX7_readDelay_21 : decode cX7_readDelay 21 = .ok (.aload_n 0, 1) := by decide +kernel
theorem dX7_readDelay_22 : decode cX7_readDelay 22 = .ok (.getfield 9, 3) := by decide +kernel
theorem dX7_readDelay_25 : decode cX7_readDelay 25 = .ok (.iconst 0, 1) := by decide +kernel
theorem dX7_readDelay_26 : decode cX7_readDelay 26 = .ok (.bipush 60, 2) := by decide +kernel
theorem dX7_readDelay_28 : decode cX7_readDelay 28 = .ok (.invokevirtual 81, 3) := by decide +kernel
theorem dX7_readDelay_31 : decode cX7_readDelay 31 = .ok (.ifCond .ne 4, 3) := by decide +kernel
theorem dX7_readDelay_34 : decode cX7_readDelay 34 = .ok (.return_, 1) := by decide +kernel
theorem dX7_readDelay_35 : decode cX7_readDelay 35 = .ok (.aload_n 0, 1) := by decide +kernel
theorem dX7_readDelay_36 : decode cX7_readDelay 36 = .ok (.getfield 9, 3) := by decide +kernel
theorem dX7_readDelay_39 : decode cX7_readDelay 39 = .ok (.getfield 85, 3) := by decide +kernel
theorem dX7_readDelay_42 : decode cX7_readDelay 42 = .ok (.iconst 2, 1) := by decide +kernel
theorem dX7_readDelay_43 : decode cX7_readDelay 43 = .ok (.aload_n 1, 1) := by decide +kernel
theorem dX7_readDelay_44 : decode cX7_readDelay 44 = .ok (.getfield 135, 3) := by decide +kernel
theorem dX7_readDelay_47 : decode cX7_readDelay 47 = .ok (.imul, 1) := by decide +kernel
theorem dX7_readDelay_48 : decode cX7_readDelay 48 = .ok (.if_icmp .gt 13, 3) := by decide +kernel
theorem dX7_readDelay_51 : decode cX7_readDelay 51 = .ok (.aload_n 0, 1) := by decide +kernel
theorem dX7_readDelay_52 : decode cX7_readDelay 52 = .ok (.getfield 9, 3) := by decide +kernel
theorem dX7_readDelay_55 : decode cX7_readDelay 55 = .ok (.iconst 4, 1) := by decide +kernel
theorem dX7_readDelay_56 : decode cX7_readDelay 56 = .ok (.invokevirtual 49, 3) := by decide +kernel
theorem dX7_readDelay_59 : decode cX7_readDelay 59 = .ok (.pop, 1) := by decide +kernel
theorem dX7_readDelay_60 : decode cX7_readDelay 60 = .ok (.return_, 1) := by decide +kernel
theorem dX7_readDelay_61 : decode cX7_readDelay 61 = .ok (.aload_n 1, 1) := by decide +kernel
theorem dX7_readDelay_62 : decode cX7_readDelay 62 = .ok (.aload_n 0, 1) := by decide +kernel
theorem dX7_readDelay_63 : decode cX7_readDelay 63 = .ok (.getfield 9, 3) := by decide +kernel
theorem dX7_readDelay_66 : decode cX7_readDelay 66 = .ok (.iconst 0, 1) := by decide +kernel
theorem dX7_readDelay_67 : decode cX7_readDelay 67 = .ok (.bipush 60, 2) := by decide +kernel
theorem dX7_readDelay_69 : decode cX7_readDelay 69 = .ok (.invokevirtual 28, 3) := by decide +kernel
theorem dX7_readDelay_72 : decode cX7_readDelay 72 = .ok (.putfield 137, 3) := by decide +kernel
theorem dX7_readDelay_75 : decode cX7_readDelay 75 = .ok (.return_, 1) := by decide +kernel
def f_R_delay_35 (m : xM) : Option (xM) :=
     (if xw (2 * (m 3 10)) < xw (m 1 5) then (Option.bind (f_T_takeLast 0 60 (xvw [1, 2] m)) fun q3 =>
      some (xu (xmg [1, 2] 2 m q3.2) 3 11 q3.1))
      else (Option.bind (f_T_fail 4 (xvw [1, 2] m)) fun q4 =>
      some (xmg [1, 2] 2 m q4.2)))
set_option maxRecDepth 1000000 in
set_option maxHeartbeats 4000000 in
theorem t_R_delay_35 {Γ : xG} {d : Nat} (hd9 : 5 ≤ d) (C : xC Γ lay_R RX7 cX7_readDelay 2 d) {m9 : xM} (hR : xRv Γ lay_R cX7_readDelay m9) (m : xM) (h : f_R_delay_35 m = some m9) : xW Γ lay_R 2 35 [(0, .inr (.inr (some 0))), (1, .inr (.inr (some 3)))] [] m := by
  unfold f_R_delay_35 at h
  refine x_aload_n C dX7_readDelay_35 rfl ?_
  refine x_getR C dX7_readDelay_36 fF_X7_9 rfl rfl ?_
  refine x_getI C dX7_readDelay_39 fF_X7_85 rfl rfl ?_
  refine x_iconst C dX7_readDelay_42 ?_
  refine x_aload_n C dX7_readDelay_43 rfl ?_
  refine x_getI C dX7_readDelay_44 fF_X7_135 rfl rfl ?_
  refine x_imul C dX7_readDelay_47 ?_
  refine x_icmp_gt C 61 dX7_readDelay_48 (by decide) h (fun h => ?_) (fun h => ?_)
  · refine x_aload_n C dX7_readDelay_61 rfl ?_
    refine x_aload_n C dX7_readDelay_62 rfl ?_
    refine x_getR C dX7_readDelay_63 fF_X7_9 rfl rfl ?_
    refine x_iconst C dX7_readDelay_66 ?_
    refine x_bipush C dX7_readDelay_67 (by decide) ?_
    obtain ⟨q3, hq3, h⟩ := x_bind h
    refine x_callV C dX7_readDelay_69 (xin_13 _ (List.mem_of_getElem? (i := 23) rfl)) xy_X8_takeLastNumber (xi_X8_takeLastNumber) (xs_X8_takeLastNumber) [1, 2] xv_44 (by omega) (by decide) (b := 0) rfl ⟨_, _, rfl⟩ (av := [.inl 0, .inl 60]) rfl (Nat.le_of_ble_eq_true rfl) (c_T_takeLast _ _ _ _ q3.1 q3.2 hq3) rfl ?_
    refine x_putI C dX7_readDelay_72 fF_X7_137 rfl rfl ?_
    exact x_returnV hR dX7_readDelay_75 h
  · refine x_aload_n C dX7_readDelay_51 rfl ?_
    refine x_getR C dX7_readDelay_52 fF_X7_9 rfl rfl ?_
    refine x_iconst C dX7_readDelay_55 ?_
    obtain ⟨q4, hq4, h⟩ := x_bind h
    refine x_callV C dX7_readDelay_56 (xin_15 _ (List.mem_of_getElem? (i := 12) rfl)) xy_X8_fail (xi_X8_fail) (xs_X8_fail) [1, 2] xv_44 (by omega) (by decide) (b := 0) rfl ⟨_, _, rfl⟩ (av := [.inl 4]) rfl (Nat.le_of_ble_eq_true rfl) (c_T_fail _ _ _ q4.1 q4.2 hq4) rfl ?_
    refine x_pop C dX7_readDelay_59 rfl ?_
    exact x_returnV hR dX7_readDelay_60 h
def f_R_delay (m : xM) : Option (xM) :=
     (Option.bind (f_T_next (xvw [1, 2] m)) fun q0 =>
      (Option.bind (f_T_takeNumber 1 9 (xvw [1, 2] (xmg [1, 2] 2 m q0))) fun q1 =>
      (Option.bind (f_T_hasNumber 0 60 (xvw [1, 2] (xu (xmg [1, 2] 2 (xmg [1, 2] 2 m q0) q1.2) 3 10 q1.1))) fun q2 =>
      (if xw q2.1 = 0 then some (xmg [1, 2] 2 (xu (xmg [1, 2] 2 (xmg [1, 2] 2 m q0) q1.2) 3 10 q1.1) q2.2)
      else f_R_delay_35 (xmg [1, 2] 2 (xu (xmg [1, 2] 2 (xmg [1, 2] 2 m q0) q1.2) 3 10 q1.1) q2.2)))))
set_option maxRecDepth 1000000 in
set_option maxHeartbeats 4000000 in
theorem t_R_delay {Γ : xG} {d : Nat} (hd9 : 5 ≤ d) (C : xC Γ lay_R RX7 cX7_readDelay 2 d) {m9 : xM} (hR : xRv Γ lay_R cX7_readDelay m9) (m : xM) (h : f_R_delay m = some m9) : xW Γ lay_R 2 0 [(0, .inr (.inr (some 0))), (1, .inr (.inr (some 3)))] [] m := by
  unfold f_R_delay at h
  refine x_aload_n C dX7_readDelay_0 rfl ?_
  refine x_getR C dX7_readDelay_1 fF_X7_9 rfl rfl ?_
  obtain ⟨q0, hq0, h⟩ := x_bind h
  refine x_callV C dX7_readDelay_4 (xin_15 _ (List.mem_of_getElem? (i := 13) rfl)) xy_X8_next (xi_X8_next) (xs_X8_next) [1, 2] xv_44 (by omega) (by decide) (b := 0) rfl ⟨_, _, rfl⟩ (av := []) rfl (Nat.le_of_ble_eq_true rfl) (c_T_next _ _ _ hq0) rfl ?_
  refine x_aload_n C dX7_readDelay_7 rfl ?_
  refine x_aload_n C dX7_readDelay_8 rfl ?_
  refine x_getR C dX7_readDelay_9 fF_X7_9 rfl rfl ?_
  refine x_iconst C dX7_readDelay_12 ?_
  refine x_bipush C dX7_readDelay_13 (by decide) ?_
  obtain ⟨q1, hq1, h⟩ := x_bind h
  refine x_callV C dX7_readDelay_15 (xin_16 _ (List.mem_of_getElem? (i := 2) rfl)) xy_X8_takeNumber (xi_X8_takeNumber) (xs_X8_takeNumber) [1, 2] xv_44 (by omega) (by decide) (b := 0) rfl ⟨_, _, rfl⟩ (av := [.inl 1, .inl 9]) rfl (Nat.le_of_ble_eq_true rfl) (c_T_takeNumber _ _ _ _ q1.1 q1.2 hq1) rfl ?_
  refine x_putI C dX7_readDelay_18 fF_X7_135 rfl rfl ?_
  refine x_aload_n C dX7_readDelay_21 rfl ?_
  refine x_getR C dX7_readDelay_22 fF_X7_9 rfl rfl ?_
  refine x_iconst C dX7_readDelay_25 ?_
  refine x_bipush C dX7_readDelay_26 (by decide) ?_
  obtain ⟨q2, hq2, h⟩ := x_bind h
  refine x_callV C dX7_readDelay_28 (xin_15 _ (List.mem_of_getElem? (i := 11) rfl)) xy_X8_hasNumber (xi_X8_hasNumber) (xs_X8_hasNumber) [1, 2] xv_44 (by omega) (by decide) (b := 0) rfl ⟨_, _, rfl⟩ (av := [.inl 0, .inl 60]) rfl (Nat.le_of_ble_eq_true rfl) (c_T_hasNumber _ _ _ _ q2.1 q2.2 hq2) rfl ?_
  refine x_if_ne C 35 dX7_readDelay_31 (by decide) h (fun h => ?_) (fun h => ?_)
  · refine x_loc [(0, .inr (.inr (some 0))), (1, .inr (.inr (some 3)))] ⟨rfl, rfl, trivial⟩ ?_
    exact t_R_delay_35 hd9 C hR _ h
  · exact x_returnV hR dX7_readDelay_34 h
theorem c_R_delay (l : Launch) (m m9 : xM) (h : f_R_delay m = some m9) : xMet l yX7_readDelay cX7_readDelay 2 none 5 lay_R [.inr (.inr (some 0)), .inr (.inr (some 3))] m none m9 :=
  xMet_v (by decide +kernel) (Nat.le_of_ble_eq_true rfl) (fun Γ C hR hl9 => t_R_delay (Nat.le_refl _) C hR m h)
theorem fF_X7_140 : xF RX7 140 7 3 (.array .int) true := ⟨RX6, TX6, 14, tyX6, rfl, by decide, (xin_16 _ (List.mem_of_getElem? (i := 13) rfl)), rfl, inlX6, tyX6_ok, nmX6, rfl, rfl⟩
theorem fF_X7_143 : xF RX7 143 7 5 .int false := ⟨RX6, TX6, 14, tyX6, rfl, by decide, (xin_16 _ (List.mem_of_getElem? (i := 14) rfl)), rfl, inlX6, tyX6_ok, nmX6, rfl, rfl⟩
theorem fF_X7_42 : xF RX7 42 9 2 .int false := ⟨RX8, TX8, 7, tyX8, rfl, by decide, (xin_13 _ (List.mem_of_getElem? (i := 7) rfl)), rfl, inlX8, tyX8_ok, nmX8, rfl, rfl⟩
theorem dX7_readNoises_0 : decode cX7_readNoises 0 = .ok (.aload_n 0, 1) := by decide +kernel
theorem dX7_readNoises_1 : decode cX7_readNoises 1 = .ok (.getfield 9, 3) := by decide +kernel
theorem dX7_readNoises_4 : decode cX7_readNoises 4 = .ok (.invokevirtual 67, 3) := by decide +kernel
theorem dX7_readNoises_7 : decode cX7_readNoises 7 = .ok (.aload_n 1, 1) := by decide +kernel
theorem dX7_readNoises_8 : decode cX7_readNoises 8 = .ok (.getfield 140, 3) := by decide +kernel
theorem dX7_readNoises_11 : decode cX7_readNoises 11 = .ok (.iconst 0, 1) := by decide +kernel
theorem dX7_readNoises_12 : decode cX7_readNoises 12 = .ok (.aload_n 0, 1) := by decide +kernel
theorem dX7_readNoises_13 : decode cX7_readNoises 13 = .ok (.getfield 9, 3) := by decide +kernel
theorem dX7_readNoises_16 : decode cX7_readNoises 16 = .ok (.iconst 0, 1) := by decide +kernel
theorem dX7_readNoises_17 : decode cX7_readNoises 17 = .ok (.bipush 9, 2) := by decide +kernel
theorem dX7_readNoises_19 : decode cX7_readNoises 19 = .ok (.invokevirtual 132, 3) := by decide +kernel
theorem dX7_readNoises_22 : decode cX7_readNoises 22 = .ok (.iastore, 1) := by decide +kernel
theorem dX7_readNoises_23 : decode cX7_readNoises 23 = .ok (.aload_n 1, 1) := by decide +kernel
theorem dX7_readNoises_24 : decode cX7_readNoises 24 = .ok (.iconst 1, 1) := by decide +kernel
theorem dX7_readNoises_25 : decode cX7_readNoises 25 = .ok (.putfield 143, 3) := by decide +kernel
theorem dX7_readNoises_28 : decode cX7_readNoises 28 = .ok (.iconst 1, 1) := by decide +kernel
theorem dX7_readNoises_29 : decode cX7_readNoises 29 = .ok (.istore_n 2, 1) := by decide +kernel
theorem dX7_readNoises_30 : decode cX7_readNoises 30 = .ok (.iload_n 2, 1) := by decide +kernel
theorem dX7_readNoises_31 : decode cX7_readNoises 31 = .ok (.bipush 10, 2) := by decide +kernel
theorem dX7_readNoises_33 : decode cX7_readNoises 33 = .ok (.if_icmp .ge 43, 3) := by decide +kernel
theorem dX7_readNoises_36 : decode cX7_readNoises 36 = .ok (.aload_n 0, 1) := by decide +kernel
theorem dX7_readNoises_37 : decode cX7_readNoises 37 = .ok (.getfield 9, 3) := by decide +kernel
theorem dX7_readNoises_40 : decode cX7_readNoises 40 = .ok (.getfield 42, 3) := by decide +kernel
theorem dX7_readNoises_43 : decode cX7_readNoises 43 = .ok (.iconst 2, 1) := by decide +kernel
theorem dX7_readNoises_44 : decode cX7_readNoises 44 = .ok (.if_icmp .ne 32, 3) := by decide +kernel
theorem dX7_readNoises_47 : decode cX7_readNoises 47 = .ok (.aload_n 1, 1) := by decide +kernel
theorem dX7_readNoises_48 : decode cX7_readNoises 48 = .ok (.getfield 140, 3) := by decide +kernel
theorem dX7_readNoises_51 : decode cX7_readNoises 51 = .ok (.iload_n 2, 1) := by decide +kernel
theorem dX7_readNoises_52 : decode cX7_readNoises 52 = .ok (.aload_n 0, 1) := by decide +kernel
theorem dX7_readNoises_53 : decode cX7_readNoises 53 = .ok (.getfield 9, 3) := by decide +kernel
theorem dX7_readNoises_56 : decode cX7_readNoises 56 = .ok (.iconst 0, 1) := by decide +kernel
theorem dX7_readNoises_57 : decode cX7_readNoises 57 = .ok (.bipush 9, 2) := by decide +kernel
theorem dX7_readNoises_59 : decode cX7_readNoises 59 = .ok (.invokevirtual 132, 3) := by decide +kernel
theorem dX7_readNoises_62 : decode cX7_readNoises 62 = .ok (.iastore, 1) := by decide +kernel
theorem dX7_readNoises_63 : decode cX7_readNoises 63 = .ok (.aload_n 1, 1) := by decide +kernel
theorem dX7_readNoises_64 : decode cX7_readNoises 64 = .ok (.iload_n 2, 1) := by decide +kernel
theorem dX7_readNoises_65 : decode cX7_readNoises 65 = .ok (.iconst 1, 1) := by decide +kernel
theorem dX7_readNoises_66 : decode cX7_readNoises 66 = .ok (.iadd, 1) := by decide +kernel
theorem dX7_readNoises_67 : decode cX7_readNoises 67 = .ok (.putfield 143, 3) := by decide +kernel
theorem dX7_readNoises_70 : decode cX7_readNoises 70 = .ok (.iinc 2 1, 3) := by decide +kernel
theorem dX7_readNoises_73 : decode cX7_readNoises 73 = .ok (.goto (-43), 3) := by decide +kernel
theorem dX7_readNoises_76 : decode cX7_readNoises 76 = .ok (.aload_n 0, 1) := by decide +kernel
theorem dX7_readNoises_77 : decode cX7_readNoises 77 = .ok (.getfield 9, 3) := by decide +kernel
theorem dX7_readNoises_80 : decode cX7_readNoises 80 = .ok (.getfield 42, 3) := by decide +kernel
theorem dX7_readNoises_83 : decode cX7_readNoises 83 = .ok (.iconst 2, 1) := by decide +kernel
theorem dX7_readNoises_84 : decode cX7_readNoises 84 = .ok (.if_icmp .ne 25, 3) := by decide +kernel
theorem dX7_readNoises_87 : decode cX7_readNoises 87 = .ok (.aload_n 0, 1) := by decide +kernel
theorem dX7_readNoises_88 : decode cX7_readNoises 88 = .ok (.getfield 9, 3) := by decide +kernel
theorem dX7_readNoises_91 : decode cX7_readNoises 91 = .ok (.iconst 0, 1) := by decide +kernel
theorem dX7_readNoises_92 : decode cX7_readNoises 92 = .ok (.bipush 9, 2) := by decide +kernel
theorem dX7_readNoises_94 : decode cX7_readNoises 94 = .ok (.invokevirtual 81, 3) := by decide +kernel
theorem dX7_readNoises_97 : decode cX7_readNoises 97 = .ok (.ifCond .eq 12, 3) := by decide +kernel
theorem dX7_readNoises_100 : decode cX7_readNoises 100 = .ok (.aload_n 0, 1) := by decide +kernel
theorem dX7_readNoises_101 : decode cX7_readNoises 101 = .ok (.getfield 9, 3) := by decide +kernel
theorem dX7_readNoises_104 : decode cX7_readNoises 104 = .ok (.iconst 3, 1) := by decide +kernel
theorem dX7_readNoises_105 : decode cX7_readNoises 105 = .ok (.invokevirtual 49, 3) := by decide +kernel
theorem dX7_readNoises_108 : decode cX7_readNoises 108 = .ok (.pop, 1) := by decide +kernel
theorem dX7_readNoises_109 : decode cX7_readNoises 109 = .ok (.aload_n 0, 1) := by decide +kernel
theorem dX7_readNoises_110 : decode cX7_readNoises 110 = .ok (.getfield 9, 3) := by decide +kernel
theorem dX7_readNoises_113 : decode cX7_readNoises 113 = .ok (.bipush 59, 2) := by decide +kernel
theorem dX7_readNoises_115 : decode cX7_readNoises 115 = .ok (.invokevirtual 64, 3) := by decide +kernel
theorem dX7_readNoises_118 : decode cX7_readNoises 118 = .ok (.pop, 1) := by decide +kernel
theorem dX7_readNoises_119 : decode cX7_readNoises 119 = .ok (.return_, 1) := by decide +kernel
def f_R_noises_109 (m : xM) : Option (xM) :=
     (Option.bind (f_T_takeSign 59 (xvw [1, 2] m)) fun q2 =>
      some (xmg [1, 2] 2 m q2.2))
set_option maxRecDepth 1000000 in
set_option maxHeartbeats 4000000 in
theorem t_R_noises_109 {Γ : xG} {d : Nat} (hd9 : 4 ≤ d) (C : xC Γ lay_R RX7 cX7_readNoises 3 d) {m9 : xM} (hR : xRv Γ lay_R cX7_readNoises m9) (m : xM) (h : f_R_noises_109 m = some m9) : xW Γ lay_R 3 109 [(0, .inr (.inr (some 0)))] [] m := by
  unfold f_R_noises_109 at h
  refine x_aload_n C dX7_readNoises_109 rfl ?_
  refine x_getR C dX7_readNoises_110 fF_X7_9 rfl rfl ?_
  refine x_bipush C dX7_readNoises_113 (by decide) ?_
  obtain ⟨q2, hq2, h⟩ := x_bind h
  refine x_callV C dX7_readNoises_115 (xin_15 _ (List.mem_of_getElem? (i := 15) rfl)) xy_X8_takeSign (xi_X8_takeSign) (xs_X8_takeSign) [1, 2] xv_44 (by omega) (by decide) (b := 0) rfl ⟨_, _, rfl⟩ (av := [.inl 59]) rfl (Nat.le_of_ble_eq_true rfl) (c_T_takeSign _ _ _ q2.1 q2.2 hq2) rfl ?_
  refine x_pop C dX7_readNoises_118 rfl ?_
  exact x_returnV hR dX7_readNoises_119 h
def f_R_noises_76 (m : xM) : Option (xM) :=
     (if xw (m 1 2) = xw 2 then (Option.bind (f_T_hasNumber 0 9 (xvw [1, 2] m)) fun q3 =>
      (if xw q3.1 = 0 then f_R_noises_109 (xmg [1, 2] 2 m q3.2)
      else (Option.bind (f_T_fail 3 (xvw [1, 2] (xmg [1, 2] 2 m q3.2))) fun q4 =>
      f_R_noises_109 (xmg [1, 2] 2 (xmg [1, 2] 2 m q3.2) q4.2))))
      else f_R_noises_109 m)
set_option maxRecDepth 1000000 in
set_option maxHeartbeats 4000000 in
theorem t_R_noises_76 {Γ : xG} {d : Nat} (hd9 : 4 ≤ d) (C : xC Γ lay_R RX7 cX7_readNoises 3 d) {m9 : xM} (hR : xRv Γ lay_R cX7_readNoises m9) (m : xM) (h : f_R_noises_76 m = some m9) : xW Γ lay_R 3 76 [(0, .inr (.inr (some 0)))] [] m := by
  unfold f_R_noises_76 at h
  refine x_aload_n C dX7_readNoises_76 rfl ?_
  refine x_getR C dX7_readNoises_77 fF_X7_9 rfl rfl ?_
  refine x_getI C dX7_readNoises_80 fF_X7_42 rfl rfl ?_
  refine x_iconst C dX7_readNoises_83 ?_
  refine x_icmp_ne C 109 dX7_readNoises_84 (by decide) h (fun h => ?_) (fun h => ?_)
  · refine x_loc [(0, .inr (.inr (some 0)))] ⟨rfl, trivial⟩ ?_
    exact t_R_noises_109 hd9 C hR _ h
  · refine x_aload_n C dX7_readNoises_87 rfl ?_
    refine x_getR C dX7_readNoises_88 fF_X7_9 rfl rfl ?_
    refine x_iconst C dX7_readNoises_91 ?_
    refine x_bipush C dX7_readNoises_92 (by decide) ?_
    obtain ⟨q3, hq3, h⟩ := x_bind h
    refine x_callV C dX7_readNoises_94 (xin_15 _ (List.mem_of_getElem? (i := 11) rfl)) xy_X8_hasNumber (xi_X8_hasNumber) (xs_X8_hasNumber) [1, 2] xv_44 (by omega) (by decide) (b := 0) rfl ⟨_, _, rfl⟩ (av := [.inl 0, .inl 9]) rfl (Nat.le_of_ble_eq_true rfl) (c_T_hasNumber _ _ _ _ q3.1 q3.2 hq3) rfl ?_
    refine x_if_eq C 109 dX7_readNoises_97 (by decide) h (fun h => ?_) (fun h => ?_)
    · refine x_loc [(0, .inr (.inr (some 0)))] ⟨rfl, trivial⟩ ?_
      exact t_R_noises_109 hd9 C hR _ h
    · refine x_aload_n C dX7_readNoises_100 rfl ?_
      refine x_getR C dX7_readNoises_101 fF_X7_9 rfl rfl ?_
      refine x_iconst C dX7_readNoises_104 ?_
      obtain ⟨q4, hq4, h⟩ := x_bind h
      refine x_callV C dX7_readNoises_105 (xin_15 _ (List.mem_of_getElem? (i := 12) rfl)) xy_X8_fail (xi_X8_fail) (xs_X8_fail) [1, 2] xv_44 (by omega) (by decide) (b := 0) rfl ⟨_, _, rfl⟩ (av := [.inl 3]) rfl (Nat.le_of_ble_eq_true rfl) (c_T_fail _ _ _ q4.1 q4.2 hq4) rfl ?_
      refine x_pop C dX7_readNoises_108 rfl ?_
      refine x_loc [(0, .inr (.inr (some 0)))] ⟨rfl, trivial⟩ ?_
      exact t_R_noises_109 hd9 C hR _ h
def f_R_noises_30 : Nat → Int → xM → Option (xM)
  | 0, _, _ => none
  | n + 1, x2, m =>
     (if xw x2 < xw 10 then (if xw (m 1 2) = xw 2 then (Option.bind (f_T_takeNumber 0 9 (xvw [1, 2] m)) fun q5 =>
      (if xib x2 10 then f_R_noises_30 n (x2 + 1) (xu (xu (xmg [1, 2] 2 m q5.2) 7 (xix x2) q5.1) 3 5 (x2 + 1))
      else none))
      else f_R_noises_76 m)
      else f_R_noises_76 m)
set_option maxRecDepth 1000000 in
set_option maxHeartbeats 4000000 in
theorem t_R_noises_30 {Γ : xG} {d : Nat} (hd9 : 4 ≤ d) (C : xC Γ lay_R RX7 cX7_readNoises 3 d) {m9 : xM} (hR : xRv Γ lay_R cX7_readNoises m9) : ∀ (n : Nat) (x2 : Int) (m : xM), f_R_noises_30 n x2 m = some m9 → xW Γ lay_R 3 30 [(0, .inr (.inr (some 0))), (1, .inr (.inr (some 3))), (2, .inl x2)] [] m := by
  intro n
  induction n with
  | zero => intro _ _ h; cases h
  | succ n ih =>
    intro x2 m h
    rw [f_R_noises_30] at h
    refine x_iload_n C dX7_readNoises_30 rfl ?_
    refine x_bipush C dX7_readNoises_31 (by decide) ?_
    refine x_icmp_ge C 76 dX7_readNoises_33 (by decide) h (fun h => ?_) (fun h => ?_)
    · refine x_loc [(0, .inr (.inr (some 0)))] ⟨rfl, trivial⟩ ?_
      exact t_R_noises_76 hd9 C hR _ h
    · refine x_aload_n C dX7_readNoises_36 rfl ?_
      refine x_getR C dX7_readNoises_37 fF_X7_9 rfl rfl ?_
      refine x_getI C dX7_readNoises_40 fF_X7_42 rfl rfl ?_
      refine x_iconst C dX7_readNoises_43 ?_
      refine x_icmp_ne C 76 dX7_readNoises_44 (by decide) h (fun h => ?_) (fun h => ?_)
      · refine x_loc [(0, .inr (.inr (some 0)))] ⟨rfl, trivial⟩ ?_
        exact t_R_noises_76 hd9 C hR _ h
      · refine x_aload_n C dX7_readNoises_47 rfl ?_
        refine x_getR C dX7_readNoises_48 fF_X7_140 rfl rfl ?_
        refine x_iload_n C dX7_readNoises_51 rfl ?_
        refine x_aload_n C dX7_readNoises_52 rfl ?_
        refine x_getR C dX7_readNoises_53 fF_X7_9 rfl rfl ?_
        refine x_iconst C dX7_readNoises_56 ?_
        refine x_bipush C dX7_readNoises_57 (by decide) ?_
        obtain ⟨q5, hq5, h⟩ := x_bind h
        refine x_callV C dX7_readNoises_59 (xin_16 _ (List.mem_of_getElem? (i := 2) rfl)) xy_X8_takeNumber (xi_X8_takeNumber) (xs_X8_takeNumber) [1, 2] xv_44 (by omega) (by decide) (b := 0) rfl ⟨_, _, rfl⟩ (av := [.inl 0, .inl 9]) rfl (Nat.le_of_ble_eq_true rfl) (c_T_takeNumber _ _ _ _ q5.1 q5.2 hq5) rfl ?_
        refine x_iastore C dX7_readNoises_62 rfl h (fun h => ?_)
        refine x_aload_n C dX7_readNoises_63 rfl ?_
        refine x_iload_n C dX7_readNoises_64 rfl ?_
        refine x_iconst C dX7_readNoises_65 ?_
        refine x_iadd C dX7_readNoises_66 ?_
        refine x_putI C dX7_readNoises_67 fF_X7_143 rfl rfl ?_
        refine x_iinc C dX7_readNoises_70 (by decide) rfl ?_
        refine x_goto C 30 dX7_readNoises_73 (by decide) ?_
        refine x_loc [(0, .inr (.inr (some 0))), (1, .inr (.inr (some 3))), (2, .inl (x2 + 1))] ⟨rfl, rfl, rfl, trivial⟩ ?_
        exact ih _ _ h
def f_R_noises_28 (m : xM) : Option (xM) :=
     f_R_noises_30 fu 1 m
set_option maxRecDepth 1000000 in
set_option maxHeartbeats 4000000 in
theorem t_R_noises_28 {Γ : xG} {d : Nat} (hd9 : 4 ≤ d) (C : xC Γ lay_R RX7 cX7_readNoises 3 d) {m9 : xM} (hR : xRv Γ lay_R cX7_readNoises m9) (m : xM) (h : f_R_noises_28 m = some m9) : xW Γ lay_R 3 28 [(0, .inr (.inr (some 0))), (1, .inr (.inr (some 3)))] [] m := by
  unfold f_R_noises_28 at h
  refine x_iconst C dX7_readNoises_28 ?_
  refine x_istore_n C dX7_readNoises_29 (by decide) ?_
  refine x_loc [(0, .inr (.inr (some 0))), (1, .inr (.inr (some 3))), (2, .inl 1)] ⟨rfl, rfl, rfl, trivial⟩ ?_
  exact t_R_noises_30 hd9 C hR fu _ _ h
def f_R_noises (m : xM) : Option (xM) :=
     (Option.bind (f_T_next (xvw [1, 2] m)) fun q0 =>
      (Option.bind (f_T_takeNumber 0 9 (xvw [1, 2] (xmg [1, 2] 2 m q0))) fun q1 =>
      (if xib 0 10 then f_R_noises_28 (xu (xu (xmg [1, 2] 2 (xmg [1, 2] 2 m q0) q1.2) 7 0 q1.1) 3 5 1)
      else none)))
set_option maxRecDepth 1000000 in
set_option maxHeartbeats 4000000 in
theorem t_R_noises {Γ : xG} {d : Nat} (hd9 : 4 ≤ d) (C : xC Γ lay_R RX7 cX7_readNoises 3 d) {m9 : xM} (hR : xRv Γ lay_R cX7_readNoises m9) (m : xM) (h : f_R_noises m = some m9) : xW Γ lay_R 3 0 [(0, .inr (.inr (some 0))), (1, .inr (.inr (some 3)))] [] m := by
  unfold f_R_noises at h
  refine x_aload_n C dX7_readNoises_0 rfl ?_
  refine x_getR C dX7_readNoises_1 fF_X7_9 rfl rfl ?_
  obtain ⟨q0, hq0, h⟩ := x_bind h
  refine x_callV C dX7_readNoises_4 (xin_15 _ (List.mem_of_getElem? (i := 13) rfl)) xy_X8_next (xi_X8_next) (xs_X8_next) [1, 2] xv_44 (by omega) (by decide) (b := 0) rfl ⟨_, _, rfl⟩ (av := []) rfl (Nat.le_of_ble_eq_true rfl) (c_T_next _ _ _ hq0) rfl ?_
  refine x_aload_n C dX7_readNoises_7 rfl ?_
  refine x_getR C dX7_readNoises_8 fF_X7_140 rfl rfl ?_
  refine x_iconst C dX7_readNoises_11 ?_
  refine x_aload_n C dX7_readNoises_12 rfl ?_
  refine x_getR C dX7_readNoises_13 fF_X7_9 rfl rfl ?_
  refine x_iconst C dX7_readNoises_16 ?_
  refine x_bipush C dX7_readNoises_17 (by decide) ?_
  obtain ⟨q1, hq1, h⟩ := x_bind h
  refine x_callV C dX7_readNoises_19 (xin_16 _ (List.mem_of_getElem? (i := 2) rfl)) xy_X8_takeNumber (xi_X8_takeNumber) (xs_X8_takeNumber) [1, 2] xv_44 (by omega) (by decide) (b := 0) rfl ⟨_, _, rfl⟩ (av := [.inl 0, .inl 9]) rfl (Nat.le_of_ble_eq_true rfl) (c_T_takeNumber _ _ _ _ q1.1 q1.2 hq1) rfl ?_
  refine x_iastore C dX7_readNoises_22 rfl h (fun h => ?_)
  refine x_aload_n C dX7_readNoises_23 rfl ?_
  refine x_iconst C dX7_readNoises_24 ?_
  refine x_putI C dX7_readNoises_25 fF_X7_143 rfl rfl ?_
  refine x_loc [(0, .inr (.inr (some 0))), (1, .inr (.inr (some 3)))] ⟨rfl, rfl, trivial⟩ ?_
  exact t_R_noises_28 hd9 C hR _ h
theorem c_R_noises (l : Launch) (m m9 : xM) (h : f_R_noises m = some m9) : xMet l yX7_readNoises cX7_readNoises 3 none 4 lay_R [.inr (.inr (some 0)), .inr (.inr (some 3))] m none m9 :=
  xMet_v (by decide +kernel) (Nat.le_of_ble_eq_true rfl) (fun Γ C hR hl9 => t_R_noises (Nat.le_refl _) C hR m h)
theorem xy_X7_readNumberClause : xY yX7_readNumberClause cX7_readNumberClause 2 none 1 := ⟨(xin_16 _ (List.mem_of_getElem? (i := 18) rfl)), (xin_2 _ (List.mem_of_getElem? (i := 7) rfl)), by decide, by decide, by decide +kernel⟩
theorem xi_X7_readNumberClause : Cond.instanceMethod yX7_readNumberClause ∈ wsL_law := (xin_16 _ (List.mem_of_getElem? (i := 16) rfl))
theorem xs_X7_readNumberClause : Cond.selects yX7_readNumberClause.cls yX7_readNumberClause yX7_readNumberClause ∈ wsL_law := (xin_16 _ (List.mem_of_getElem? (i := 17) rfl))
theorem xy_X7_readNoises : xY yX7_readNoises cX7_readNoises 3 none 1 := ⟨(xin_16 _ (List.mem_of_getElem? (i := 12) rfl)), (xin_2 _ (List.mem_of_getElem? (i := 7) rfl)), by decide, by decide, by decide +kernel⟩
theorem xi_X7_readNoises : Cond.instanceMethod yX7_readNoises ∈ wsL_law := (xin_16 _ (List.mem_of_getElem? (i := 10) rfl))
theorem xs_X7_readNoises : Cond.selects yX7_readNoises.cls yX7_readNoises yX7_readNoises ∈ wsL_law := (xin_16 _ (List.mem_of_getElem? (i := 11) rfl))
theorem xy_X7_readDelay : xY yX7_readDelay cX7_readDelay 2 none 1 := ⟨(xin_16 _ (List.mem_of_getElem? (i := 6) rfl)), (xin_2 _ (List.mem_of_getElem? (i := 7) rfl)), by decide, by decide, by decide +kernel⟩
theorem xi_X7_readDelay : Cond.instanceMethod yX7_readDelay ∈ wsL_law := (xin_16 _ (List.mem_of_getElem? (i := 4) rfl))
theorem xs_X7_readDelay : Cond.selects yX7_readDelay.cls yX7_readDelay yX7_readDelay ∈ wsL_law := (xin_16 _ (List.mem_of_getElem? (i := 5) rfl))
theorem xy_X7_readSteps : xY yX7_readSteps cX7_readSteps 3 none 1 := ⟨(xin_16 _ (List.mem_of_getElem? (i := 0) rfl)), (xin_2 _ (List.mem_of_getElem? (i := 7) rfl)), by decide, by decide, by decide +kernel⟩
theorem xi_X7_readSteps : Cond.instanceMethod yX7_readSteps ∈ wsL_law := (xin_15 _ (List.mem_of_getElem? (i := 22) rfl))
theorem xs_X7_readSteps : Cond.selects yX7_readSteps.cls yX7_readSteps yX7_readSteps ∈ wsL_law := (xin_15 _ (List.mem_of_getElem? (i := 23) rfl))
theorem dX7_readClause_0 : decode cX7_readClause 0 = .ok (.aload_n 0, 1) := by decide +kernel
theorem dX7_readClause_1 : decode cX7_readClause 1 = .ok (.getfield 9, 3) := by decide +kernel
theorem dX7_readClause_4 : decode cX7_readClause 4 = .ok (.ldc 88, 2) := by decide +kernel
theorem dX7_readClause_6 : decode cX7_readClause 6 = .ok (.invokevirtual 90, 3) := by decide +kernel
theorem dX7_readClause_9 : decode cX7_readClause 9 = .ok (.ifCond .eq 11, 3) := by decide +kernel
theorem dX7_readClause_12 : decode cX7_readClause 12 = .ok (.aload_n 0, 1) := by decide +kernel
theorem dX7_readClause_13 : decode cX7_readClause 13 = .ok (.aload_n 1, 1) := by decide +kernel
theorem dX7_readClause_14 : decode cX7_readClause 14 = .ok (.invokevirtual 93, 3) := by decide +kernel
theorem dX7_readClause_17 : decode cX7_readClause 17 = .ok (.goto 48, 3) := by decide +kernel
theorem dX7_readClause_20 : decode cX7_readClause 20 = .ok (.aload_n 0, 1) := by decide +kernel
theorem dX7_readClause_21 : decode cX7_readClause 21 = .ok (.getfield 9, 3) := by decide +kernel
theorem dX7_readClause_24 : decode cX7_readClause 24 = .ok (.ldc 96, 2) := by decide +kernel
theorem dX7_readClause_26 : decode cX7_readClause 26 = .ok (.invokevirtual 90, 3) := by decide +kernel
theorem dX7_readClause_29 : decode cX7_readClause 29 = .ok (.ifCond .eq 11, 3) := by decide +kernel
theorem dX7_readClause_32 : decode cX7_readClause 32 = .ok (.aload_n 0, 1) := by decide +kernel
theorem dX7_readClause_33 : decode cX7_readClause 33 = .ok (.aload_n 1, 1) := by decide +kernel
theorem dX7_readClause_34 : decode cX7_readClause 34 = .ok (.invokevirtual 98, 3) := by decide +kernel
theorem dX7_readClause_37 : decode cX7_readClause 37 = .ok (.goto 28, 3) := by decide +kernel
theorem dX7_readClause_40 : decode cX7_readClause 40 = .ok (.aload_n 0, 1) := by decide +kernel
theorem dX7_readClause_41 : decode cX7_readClause 41 = .ok (.getfield 9, 3) := by decide +kernel
theorem dX7_readClause_44 : decode cX7_readClause 44 = .ok (.ldc 101, 2) := by decide +kernel
theorem dX7_readClause_46 : decode cX7_readClause 46 = .ok (.invokevirtual 90, 3) := by decide +kernel
theorem dX7_readClause_49 : decode cX7_readClause 49 = .ok (.ifCond .eq 11, 3) := by decide +kernel
theorem dX7_readClause_52 : decode cX7_readClause 52 = .ok (.aload_n 0, 1) := by decide +kernel
theorem dX7_readClause_53 : decode cX7_readClause 53 = .ok (.aload_n 1, 1) := by decide +kernel
theorem dX7_readClause_54 : decode cX7_readClause 54 = .ok (.invokevirtual 103, 3) := by decide +kernel
theorem dX7_readClause_57 : decode cX7_readClause 57 = .ok (.goto 8, 3) := by decide +kernel
theorem dX7_readClause_60 : decode cX7_readClause 60 = .ok (.aload_n 0, 1) := by decide +kernel
theorem dX7_readClause_61 : decode cX7_readClause 61 = .ok (.aload_n 1, 1) := by decide +kernel
theorem dX7_readClause_62 : decode cX7_readClause 62 = .ok (.invokevirtual 106, 3) := by decide +kernel
theorem dX7_readClause_65 : decode cX7_readClause 65 = .ok (.return_, 1) := by decide +kernel
def f_R_clause (m : xM) : Option (xM) :=
     (Option.bind (f_T_isWord 12 (xvw [1, 2] m)) fun q0 =>
      (if xw q0 = 0 then (Option.bind (f_T_isWord 16 (xvw [1, 2] m)) fun q1 =>
      (if xw q1 = 0 then (Option.bind (f_T_isWord 19 (xvw [1, 2] m)) fun q2 =>
      (if xw q2 = 0 then (Option.bind (f_R_number m) fun q3 =>
      some q3)
      else (Option.bind (f_R_noises m) fun q4 =>
      some q4)))
      else (Option.bind (f_R_delay m) fun q5 =>
      some q5)))
      else (Option.bind (f_R_steps m) fun q6 =>
      some q6)))
set_option maxRecDepth 1000000 in
set_option maxHeartbeats 4000000 in
theorem t_R_clause {Γ : xG} {d : Nat} (hd9 : 6 ≤ d) (C : xC Γ lay_R RX7 cX7_readClause 2 d) {m9 : xM} (hR : xRv Γ lay_R cX7_readClause m9) (m : xM) (h : f_R_clause m = some m9) : xW Γ lay_R 2 0 [(0, .inr (.inr (some 0))), (1, .inr (.inr (some 3)))] [] m := by
  unfold f_R_clause at h
  refine x_aload_n C dX7_readClause_0 rfl ?_
  refine x_getR C dX7_readClause_1 fF_X7_9 rfl rfl ?_
  refine x_ldcS C "train" 12 dX7_readClause_4 (List.mem_of_getElem? (i := 2) rfl) ?_
  obtain ⟨q0, hq0, h⟩ := x_bind h
  refine x_callVp C dX7_readClause_6 (xin_15 _ (List.mem_of_getElem? (i := 20) rfl)) xy_X8_isWord (xi_X8_isWord) (xs_X8_isWord) [1, 2] xv_44 (by omega) (by decide) (b := 0) rfl ⟨_, _, rfl⟩ (av := [.inr (.inr (some 1012))]) rfl (Nat.le_of_ble_eq_true rfl) (c_T_isWord _ 12 (by decide) _ _ hq0) rfl ?_
  refine x_if_eq C 20 dX7_readClause_9 (by decide) h (fun h => ?_) (fun h => ?_)
  · refine x_aload_n C dX7_readClause_20 rfl ?_
    refine x_getR C dX7_readClause_21 fF_X7_9 rfl rfl ?_
    refine x_ldcS C "delay" 16 dX7_readClause_24 (List.mem_of_getElem? (i := 3) rfl) ?_
    obtain ⟨q1, hq1, h⟩ := x_bind h
    refine x_callVp C dX7_readClause_26 (xin_15 _ (List.mem_of_getElem? (i := 20) rfl)) xy_X8_isWord (xi_X8_isWord) (xs_X8_isWord) [1, 2] xv_44 (by omega) (by decide) (b := 0) rfl ⟨_, _, rfl⟩ (av := [.inr (.inr (some 1016))]) rfl (Nat.le_of_ble_eq_true rfl) (c_T_isWord _ 16 (by decide) _ _ hq1) rfl ?_
    refine x_if_eq C 40 dX7_readClause_29 (by decide) h (fun h => ?_) (fun h => ?_)
    · refine x_aload_n C dX7_readClause_40 rfl ?_
      refine x_getR C dX7_readClause_41 fF_X7_9 rfl rfl ?_
      refine x_ldcS C "noise" 19 dX7_readClause_44 (List.mem_of_getElem? (i := 4) rfl) ?_
      obtain ⟨q2, hq2, h⟩ := x_bind h
      refine x_callVp C dX7_readClause_46 (xin_15 _ (List.mem_of_getElem? (i := 20) rfl)) xy_X8_isWord (xi_X8_isWord) (xs_X8_isWord) [1, 2] xv_44 (by omega) (by decide) (b := 0) rfl ⟨_, _, rfl⟩ (av := [.inr (.inr (some 1019))]) rfl (Nat.le_of_ble_eq_true rfl) (c_T_isWord _ 19 (by decide) _ _ hq2) rfl ?_
      refine x_if_eq C 60 dX7_readClause_49 (by decide) h (fun h => ?_) (fun h => ?_)
      · refine x_aload_n C dX7_readClause_60 rfl ?_
        refine x_aload_n C dX7_readClause_61 rfl ?_
        obtain ⟨q3, hq3, h⟩ := x_bind h
        refine x_callVI C dX7_readClause_62 (xin_16 _ (List.mem_of_getElem? (i := 15) rfl)) xy_X7_readNumberClause (xi_X7_readNumberClause) (xs_X7_readNumberClause) (by omega) (by decide) (b := 0) rfl ⟨_, _, rfl⟩ (av := [.inr (.inr (some 3))]) rfl (Nat.le_of_ble_eq_true rfl) (c_R_number _ _ _ hq3) rfl ?_
        exact x_returnV hR dX7_readClause_65 h
      · refine x_aload_n C dX7_readClause_52 rfl ?_
        refine x_aload_n C dX7_readClause_53 rfl ?_
        obtain ⟨q4, hq4, h⟩ := x_bind h
        refine x_callVI C dX7_readClause_54 (xin_16 _ (List.mem_of_getElem? (i := 9) rfl)) xy_X7_readNoises (xi_X7_readNoises) (xs_X7_readNoises) (by omega) (by decide) (b := 0) rfl ⟨_, _, rfl⟩ (av := [.inr (.inr (some 3))]) rfl (Nat.le_of_ble_eq_true rfl) (c_R_noises _ _ _ hq4) rfl ?_
        refine x_goto C 65 dX7_readClause_57 (by decide) ?_
        exact x_returnV hR dX7_readClause_65 h
    · refine x_aload_n C dX7_readClause_32 rfl ?_
      refine x_aload_n C dX7_readClause_33 rfl ?_
      obtain ⟨q5, hq5, h⟩ := x_bind h
      refine x_callVI C dX7_readClause_34 (xin_16 _ (List.mem_of_getElem? (i := 3) rfl)) xy_X7_readDelay (xi_X7_readDelay) (xs_X7_readDelay) (by omega) (by decide) (b := 0) rfl ⟨_, _, rfl⟩ (av := [.inr (.inr (some 3))]) rfl (Nat.le_of_ble_eq_true rfl) (c_R_delay _ _ _ hq5) rfl ?_
      refine x_goto C 65 dX7_readClause_37 (by decide) ?_
      exact x_returnV hR dX7_readClause_65 h
  · refine x_aload_n C dX7_readClause_12 rfl ?_
    refine x_aload_n C dX7_readClause_13 rfl ?_
    obtain ⟨q6, hq6, h⟩ := x_bind h
    refine x_callVI C dX7_readClause_14 (xin_15 _ (List.mem_of_getElem? (i := 21) rfl)) xy_X7_readSteps (xi_X7_readSteps) (xs_X7_readSteps) (by omega) (by decide) (b := 0) rfl ⟨_, _, rfl⟩ (av := [.inr (.inr (some 3))]) rfl (Nat.le_of_ble_eq_true rfl) (c_R_steps _ _ _ hq6) rfl ?_
    refine x_goto C 65 dX7_readClause_17 (by decide) ?_
    exact x_returnV hR dX7_readClause_65 h
theorem c_R_clause (l : Launch) (m m9 : xM) (h : f_R_clause m = some m9) : xMet l yX7_readClause cX7_readClause 2 none 6 lay_R [.inr (.inr (some 0)), .inr (.inr (some 3))] m none m9 :=
  xMet_v (by decide +kernel) (Nat.le_of_ble_eq_true rfl) (fun Γ C hR hl9 => t_R_clause (Nat.le_refl _) C hR m h)
theorem xy_X6_setDefaults : xY yX6_setDefaults cX6_setDefaults 2 none 0 := ⟨(xin_3 _ (List.mem_of_getElem? (i := 4) rfl)), (xin_1 _ (List.mem_of_getElem? (i := 13) rfl)), by decide, by decide, by decide +kernel⟩
theorem xi_X6_setDefaults : Cond.instanceMethod yX6_setDefaults ∈ wsL_law := (xin_3 _ (List.mem_of_getElem? (i := 2) rfl))
theorem xs_X6_setDefaults : Cond.selects yX6_setDefaults.cls yX6_setDefaults yX6_setDefaults ∈ wsL_law := (xin_3 _ (List.mem_of_getElem? (i := 3) rfl))
theorem xv_45 : xview lay_R lay_S [3, 4, 5, 6, 7] := xview_of (by decide +kernel)
theorem xy_X8_takeWord : xY yX8_takeWord cX8_takeWord 2 (some .boolean) 1 := ⟨(xin_13 _ (List.mem_of_getElem? (i := 12) rfl)), (xin_2 _ (List.mem_of_getElem? (i := 3) rfl)), by decide, by decide, by decide +kernel⟩
theorem xi_X8_takeWord : Cond.instanceMethod yX8_takeWord ∈ wsL_law := (xin_13 _ (List.mem_of_getElem? (i := 10) rfl))
theorem xs_X8_takeWord : Cond.selects yX8_takeWord.cls yX8_takeWord yX8_takeWord ∈ wsL_law := (xin_13 _ (List.mem_of_getElem? (i := 11) rfl))
theorem fF_X7_32 : xF RX7 32 7 6 .int false := ⟨RX6, TX6, 14, tyX6, rfl, by decide, (xin_13 _ (List.mem_of_getElem? (i := 6) rfl)), rfl, inlX6, tyX6_ok, nmX6, rfl, rfl⟩
theorem xy_X7_readRates : xY yX7_readRates cX7_readRates 3 (some .boolean) 1 := ⟨(xin_14 _ (List.mem_of_getElem? (i := 22) rfl)), (xin_2 _ (List.mem_of_getElem? (i := 7) rfl)), by decide, by decide, by decide +kernel⟩
theorem xi_X7_readRates : Cond.instanceMethod yX7_readRates ∈ wsL_law := (xin_14 _ (List.mem_of_getElem? (i := 20) rfl))
theorem xs_X7_readRates : Cond.selects yX7_readRates.cls yX7_readRates yX7_readRates ∈ wsL_law := (xin_14 _ (List.mem_of_getElem? (i := 21) rfl))
theorem xy_X7_readClause : xY yX7_readClause cX7_readClause 2 none 1 := ⟨(xin_15 _ (List.mem_of_getElem? (i := 19) rfl)), (xin_2 _ (List.mem_of_getElem? (i := 7) rfl)), by decide, by decide, by decide +kernel⟩
theorem xi_X7_readClause : Cond.instanceMethod yX7_readClause ∈ wsL_law := (xin_15 _ (List.mem_of_getElem? (i := 17) rfl))
theorem xs_X7_readClause : Cond.selects yX7_readClause.cls yX7_readClause yX7_readClause ∈ wsL_law := (xin_15 _ (List.mem_of_getElem? (i := 18) rfl))
theorem dX7_readText_0 : decode cX7_readText 0 = .ok (.aload_n 1, 1) := by decide +kernel
theorem dX7_readText_1 : decode cX7_readText 1 = .ok (.invokevirtual 15, 3) := by decide +kernel
theorem dX7_readText_4 : decode cX7_readText 4 = .ok (.aload_n 0, 1) := by decide +kernel
theorem dX7_readText_5 : decode cX7_readText 5 = .ok (.getfield 9, 3) := by decide +kernel
theorem dX7_readText_8 : decode cX7_readText 8 = .ok (.ldc 20, 2) := by decide +kernel
theorem dX7_readText_10 : decode cX7_readText 10 = .ok (.invokevirtual 22, 3) := by decide +kernel
theorem dX7_readText_13 : decode cX7_readText 13 = .ok (.ifCond .ne 4, 3) := by decide +kernel
theorem dX7_readText_16 : decode cX7_readText 16 = .ok (.return_, 1) := by decide +kernel
theorem dX7_readText_17 : decode cX7_readText 17 = .ok (.aload_n 1, 1) := by decide +kernel
theorem dX7_readText_18 : decode cX7_readText 18 = .ok (.aload_n 0, 1) := by decide +kernel
theorem dX7_readText_19 : decode cX7_readText 19 = .ok (.getfield 9, 3) := by decide +kernel
theorem dX7_readText_22 : decode cX7_readText 22 = .ok (.iconst 0, 1) := by decide +kernel
theorem dX7_readText_23 : decode cX7_readText 23 = .ok (.bipush 9, 2) := by decide +kernel
theorem dX7_readText_25 : decode cX7_readText 25 = .ok (.invokevirtual 28, 3) := by decide +kernel
theorem dX7_readText_28 : decode cX7_readText 28 = .ok (.putfield 32, 3) := by decide +kernel
theorem dX7_readText_31 : decode cX7_readText 31 = .ok (.aload_n 0, 1) := by decide +kernel
theorem dX7_readText_32 : decode cX7_readText 32 = .ok (.getfield 9, 3) := by decide +kernel
theorem dX7_readText_35 : decode cX7_readText 35 = .ok (.ldc 36, 2) := by decide +kernel
theorem dX7_readText_37 : decode cX7_readText 37 = .ok (.invokevirtual 22, 3) := by decide +kernel
theorem dX7_readText_40 : decode cX7_readText 40 = .ok (.ifCond .eq 11, 3) := by decide +kernel
theorem dX7_readText_43 : decode cX7_readText 43 = .ok (.aload_n 0, 1) := by decide +kernel
theorem dX7_readText_44 : decode cX7_readText 44 = .ok (.aload_n 1, 1) := by decide +kernel
theorem dX7_readText_45 : decode cX7_readText 45 = .ok (.invokevirtual 38, 3) := by decide +kernel
theorem dX7_readText_48 : decode cX7_readText 48 = .ok (.ifCond .ne 4, 3) := by decide +kernel
theorem dX7_readText_51 : decode cX7_readText 51 = .ok (.return_, 1) := by decide +kernel
theorem dX7_readText_52 : decode cX7_readText 52 = .ok (.iconst 0, 1) := by decide +kernel
theorem dX7_readText_53 : decode cX7_readText 53 = .ok (.istore_n 2, 1) := by decide +kernel
theorem dX7_readText_54 : decode cX7_readText 54 = .ok (.iload_n 2, 1) := by decide +kernel
theorem dX7_readText_55 : decode cX7_readText 55 = .ok (.sipush 600, 3) := by decide +kernel
theorem dX7_readText_58 : decode cX7_readText 58 = .ok (.if_icmp .ge 25, 3) := by decide +kernel
theorem dX7_readText_61 : decode cX7_readText 61 = .ok (.aload_n 0, 1) := by decide +kernel
theorem dX7_readText_62 : decode cX7_readText 62 = .ok (.getfield 9, 3) := by decide +kernel
theorem dX7_readText_65 : decode cX7_readText 65 = .ok (.getfield 42, 3) := by decide +kernel
theorem dX7_readText_68 : decode cX7_readText 68 = .ok (.iconst 1, 1) := by decide +kernel
theorem dX7_readText_69 : decode cX7_readText 69 = .ok (.if_icmp .ne 14, 3) := by decide +kernel
theorem dX7_readText_72 : decode cX7_readText 72 = .ok (.aload_n 0, 1) := by decide +kernel
theorem dX7_readText_73 : decode cX7_readText 73 = .ok (.aload_n 1, 1) := by decide +kernel
theorem dX7_readText_74 : decode cX7_readText 74 = .ok (.invokevirtual 45, 3) := by decide +kernel
theorem dX7_readText_77 : decode cX7_readText 77 = .ok (.iinc 2 1, 3) := by decide +kernel
theorem dX7_readText_80 : decode cX7_readText 80 = .ok (.goto (-26), 3) := by decide +kernel
theorem dX7_readText_83 : decode cX7_readText 83 = .ok (.aload_n 0, 1) := by decide +kernel
theorem dX7_readText_84 : decode cX7_readText 84 = .ok (.getfield 9, 3) := by decide +kernel
theorem dX7_readText_87 : decode cX7_readText 87 = .ok (.getfield 42, 3) := by decide +kernel
theorem dX7_readText_90 : decode cX7_readText 90 = .ok (.ifCond .eq 12, 3) := by decide +kernel
theorem dX7_readText_93 : decode cX7_readText 93 = .ok (.aload_n 0, 1) := by decide +kernel
theorem dX7_readText_94 : decode cX7_readText 94 = .ok (.getfield 9, 3) := by decide +kernel
theorem dX7_readText_97 : decode cX7_readText 97 = .ok (.iconst 1, 1) := by decide +kernel
theorem dX7_readText_98 : decode cX7_readText 98 = .ok (.invokevirtual 49, 3) := by decide +kernel
theorem dX7_readText_101 : decode cX7_readText 101 = .ok (.pop, 1) := by decide +kernel
theorem dX7_readText_102 : decode cX7_readText 102 = .ok (.return_, 1) := by decide +kernel
def f_R_text_83 (m : xM) : Option (xM) :=
     (if xw (m 1 2) = 0 then some m
      else (Option.bind (f_T_fail 1 (xvw [1, 2] m)) fun q5 =>
      some (xmg [1, 2] 2 m q5.2)))
set_option maxRecDepth 1000000 in
set_option maxHeartbeats 4000000 in
theorem t_R_text_83 {Γ : xG} {d : Nat} (hd9 : 7 ≤ d) (C : xC Γ lay_R RX7 cX7_readText 3 d) {m9 : xM} (hR : xRv Γ lay_R cX7_readText m9) (m : xM) (h : f_R_text_83 m = some m9) : xW Γ lay_R 3 83 [(0, .inr (.inr (some 0)))] [] m := by
  unfold f_R_text_83 at h
  refine x_aload_n C dX7_readText_83 rfl ?_
  refine x_getR C dX7_readText_84 fF_X7_9 rfl rfl ?_
  refine x_getI C dX7_readText_87 fF_X7_42 rfl rfl ?_
  refine x_if_eq C 102 dX7_readText_90 (by decide) h (fun h => ?_) (fun h => ?_)
  · exact x_returnV hR dX7_readText_102 h
  · refine x_aload_n C dX7_readText_93 rfl ?_
    refine x_getR C dX7_readText_94 fF_X7_9 rfl rfl ?_
    refine x_iconst C dX7_readText_97 ?_
    obtain ⟨q5, hq5, h⟩ := x_bind h
    refine x_callV C dX7_readText_98 (xin_15 _ (List.mem_of_getElem? (i := 12) rfl)) xy_X8_fail (xi_X8_fail) (xs_X8_fail) [1, 2] xv_44 (by omega) (by decide) (b := 0) rfl ⟨_, _, rfl⟩ (av := [.inl 1]) rfl (Nat.le_of_ble_eq_true rfl) (c_T_fail _ _ _ q5.1 q5.2 hq5) rfl ?_
    refine x_pop C dX7_readText_101 rfl ?_
    exact x_returnV hR dX7_readText_102 h
def f_R_text_54 : Nat → Int → xM → Option (xM)
  | 0, _, _ => none
  | n + 1, x2, m =>
     (if xw x2 < xw 600 then (if xw (m 1 2) = xw 1 then (Option.bind (f_R_clause m) fun q6 =>
      f_R_text_54 n (x2 + 1) q6)
      else f_R_text_83 m)
      else f_R_text_83 m)
set_option maxRecDepth 1000000 in
set_option maxHeartbeats 4000000 in
theorem t_R_text_54 {Γ : xG} {d : Nat} (hd9 : 7 ≤ d) (C : xC Γ lay_R RX7 cX7_readText 3 d) {m9 : xM} (hR : xRv Γ lay_R cX7_readText m9) : ∀ (n : Nat) (x2 : Int) (m : xM), f_R_text_54 n x2 m = some m9 → xW Γ lay_R 3 54 [(0, .inr (.inr (some 0))), (1, .inr (.inr (some 3))), (2, .inl x2)] [] m := by
  intro n
  induction n with
  | zero => intro _ _ h; cases h
  | succ n ih =>
    intro x2 m h
    rw [f_R_text_54] at h
    refine x_iload_n C dX7_readText_54 rfl ?_
    refine x_sipush C dX7_readText_55 (by decide) ?_
    refine x_icmp_ge C 83 dX7_readText_58 (by decide) h (fun h => ?_) (fun h => ?_)
    · refine x_loc [(0, .inr (.inr (some 0)))] ⟨rfl, trivial⟩ ?_
      exact t_R_text_83 hd9 C hR _ h
    · refine x_aload_n C dX7_readText_61 rfl ?_
      refine x_getR C dX7_readText_62 fF_X7_9 rfl rfl ?_
      refine x_getI C dX7_readText_65 fF_X7_42 rfl rfl ?_
      refine x_iconst C dX7_readText_68 ?_
      refine x_icmp_ne C 83 dX7_readText_69 (by decide) h (fun h => ?_) (fun h => ?_)
      · refine x_loc [(0, .inr (.inr (some 0)))] ⟨rfl, trivial⟩ ?_
        exact t_R_text_83 hd9 C hR _ h
      · refine x_aload_n C dX7_readText_72 rfl ?_
        refine x_aload_n C dX7_readText_73 rfl ?_
        obtain ⟨q6, hq6, h⟩ := x_bind h
        refine x_callVI C dX7_readText_74 (xin_15 _ (List.mem_of_getElem? (i := 16) rfl)) xy_X7_readClause (xi_X7_readClause) (xs_X7_readClause) (by omega) (by decide) (b := 0) rfl ⟨_, _, rfl⟩ (av := [.inr (.inr (some 3))]) rfl (Nat.le_of_ble_eq_true rfl) (c_R_clause _ _ _ hq6) rfl ?_
        refine x_iinc C dX7_readText_77 (by decide) rfl ?_
        refine x_goto C 54 dX7_readText_80 (by decide) ?_
        refine x_loc [(0, .inr (.inr (some 0))), (1, .inr (.inr (some 3))), (2, .inl (x2 + 1))] ⟨rfl, rfl, rfl, trivial⟩ ?_
        exact ih _ _ h
def f_R_text_31 (m : xM) : Option (xM) :=
     (Option.bind (f_T_takeWord 11 (xvw [1, 2] m)) fun q3 =>
      (if xw q3.1 = 0 then some (xmg [1, 2] 2 m q3.2)
      else (Option.bind (f_R_rates (xmg [1, 2] 2 m q3.2)) fun q4 =>
      (if xw q4.1 = 0 then some q4.2
      else f_R_text_54 fu 0 q4.2))))
set_option maxRecDepth 1000000 in
set_option maxHeartbeats 4000000 in
theorem t_R_text_31 {Γ : xG} {d : Nat} (hd9 : 7 ≤ d) (C : xC Γ lay_R RX7 cX7_readText 3 d) {m9 : xM} (hR : xRv Γ lay_R cX7_readText m9) (m : xM) (h : f_R_text_31 m = some m9) : xW Γ lay_R 3 31 [(0, .inr (.inr (some 0))), (1, .inr (.inr (some 3)))] [] m := by
  unfold f_R_text_31 at h
  refine x_aload_n C dX7_readText_31 rfl ?_
  refine x_getR C dX7_readText_32 fF_X7_9 rfl rfl ?_
  refine x_ldcS C "rates" 11 dX7_readText_35 (List.mem_of_getElem? (i := 1) rfl) ?_
  obtain ⟨q3, hq3, h⟩ := x_bind h
  refine x_callV C dX7_readText_37 (xin_13 _ (List.mem_of_getElem? (i := 9) rfl)) xy_X8_takeWord (xi_X8_takeWord) (xs_X8_takeWord) [1, 2] xv_44 (by omega) (by decide) (b := 0) rfl ⟨_, _, rfl⟩ (av := [.inr (.inr (some 1011))]) rfl (Nat.le_of_ble_eq_true rfl) (c_T_takeWord _ 11 (by decide) _ q3.1 q3.2 hq3) rfl ?_
  refine x_if_eq C 51 dX7_readText_40 (by decide) h (fun h => ?_) (fun h => ?_)
  · exact x_returnV hR dX7_readText_51 h
  · refine x_aload_n C dX7_readText_43 rfl ?_
    refine x_aload_n C dX7_readText_44 rfl ?_
    obtain ⟨q4, hq4, h⟩ := x_bind h
    refine x_callVI C dX7_readText_45 (xin_14 _ (List.mem_of_getElem? (i := 19) rfl)) xy_X7_readRates (xi_X7_readRates) (xs_X7_readRates) (by omega) (by decide) (b := 0) rfl ⟨_, _, rfl⟩ (av := [.inr (.inr (some 3))]) rfl (Nat.le_of_ble_eq_true rfl) (c_R_rates _ _ q4.1 q4.2 hq4) rfl ?_
    refine x_if_ne C 52 dX7_readText_48 (by decide) h (fun h => ?_) (fun h => ?_)
    · refine x_iconst C dX7_readText_52 ?_
      refine x_istore_n C dX7_readText_53 (by decide) ?_
      refine x_loc [(0, .inr (.inr (some 0))), (1, .inr (.inr (some 3))), (2, .inl 0)] ⟨rfl, rfl, rfl, trivial⟩ ?_
      exact t_R_text_54 hd9 C hR fu _ _ h
    · exact x_returnV hR dX7_readText_51 h
def f_R_text (m : xM) : Option (xM) :=
     (Option.bind (f_S_def (xvw [3, 4, 5, 6, 7] m)) fun q0 =>
      (Option.bind (f_T_takeWord 10 (xvw [1, 2] (xmg [3, 4, 5, 6, 7] 5 m q0))) fun q1 =>
      (if xw q1.1 = 0 then some (xmg [1, 2] 2 (xmg [3, 4, 5, 6, 7] 5 m q0) q1.2)
      else (Option.bind (f_T_takeLast 0 9 (xvw [1, 2] (xmg [1, 2] 2 (xmg [3, 4, 5, 6, 7] 5 m q0) q1.2))) fun q2 =>
      f_R_text_31 (xu (xmg [1, 2] 2 (xmg [1, 2] 2 (xmg [3, 4, 5, 6, 7] 5 m q0) q1.2) q2.2) 3 6 q2.1)))))
set_option maxRecDepth 1000000 in
set_option maxHeartbeats 4000000 in
theorem t_R_text {Γ : xG} {d : Nat} (hd9 : 7 ≤ d) (C : xC Γ lay_R RX7 cX7_readText 3 d) {m9 : xM} (hR : xRv Γ lay_R cX7_readText m9) (m : xM) (h : f_R_text m = some m9) : xW Γ lay_R 3 0 [(0, .inr (.inr (some 0))), (1, .inr (.inr (some 3)))] [] m := by
  unfold f_R_text at h
  refine x_aload_n C dX7_readText_0 rfl ?_
  obtain ⟨q0, hq0, h⟩ := x_bind h
  refine x_callV C dX7_readText_1 (xin_13 _ (List.mem_of_getElem? (i := 8) rfl)) xy_X6_setDefaults (xi_X6_setDefaults) (xs_X6_setDefaults) [3, 4, 5, 6, 7] xv_45 (by omega) (by decide) (b := 0) rfl ⟨_, _, rfl⟩ (av := []) rfl (Nat.le_of_ble_eq_true rfl) (c_S_def _ _ _ hq0) rfl ?_
  refine x_aload_n C dX7_readText_4 rfl ?_
  refine x_getR C dX7_readText_5 fF_X7_9 rfl rfl ?_
  refine x_ldcS C "line" 10 dX7_readText_8 (List.mem_of_getElem? (i := 0) rfl) ?_
  obtain ⟨q1, hq1, h⟩ := x_bind h
  refine x_callV C dX7_readText_10 (xin_13 _ (List.mem_of_getElem? (i := 9) rfl)) xy_X8_takeWord (xi_X8_takeWord) (xs_X8_takeWord) [1, 2] xv_44 (by omega) (by decide) (b := 0) rfl ⟨_, _, rfl⟩ (av := [.inr (.inr (some 1010))]) rfl (Nat.le_of_ble_eq_true rfl) (c_T_takeWord _ 10 (by decide) _ q1.1 q1.2 hq1) rfl ?_
  refine x_if_ne C 17 dX7_readText_13 (by decide) h (fun h => ?_) (fun h => ?_)
  · refine x_aload_n C dX7_readText_17 rfl ?_
    refine x_aload_n C dX7_readText_18 rfl ?_
    refine x_getR C dX7_readText_19 fF_X7_9 rfl rfl ?_
    refine x_iconst C dX7_readText_22 ?_
    refine x_bipush C dX7_readText_23 (by decide) ?_
    obtain ⟨q2, hq2, h⟩ := x_bind h
    refine x_callV C dX7_readText_25 (xin_13 _ (List.mem_of_getElem? (i := 23) rfl)) xy_X8_takeLastNumber (xi_X8_takeLastNumber) (xs_X8_takeLastNumber) [1, 2] xv_44 (by omega) (by decide) (b := 0) rfl ⟨_, _, rfl⟩ (av := [.inl 0, .inl 9]) rfl (Nat.le_of_ble_eq_true rfl) (c_T_takeLast _ _ _ _ q2.1 q2.2 hq2) rfl ?_
    refine x_putI C dX7_readText_28 fF_X7_32 rfl rfl ?_
    refine x_loc [(0, .inr (.inr (some 0))), (1, .inr (.inr (some 3)))] ⟨rfl, rfl, trivial⟩ ?_
    exact t_R_text_31 hd9 C hR _ h
  · exact x_returnV hR dX7_readText_16 h
theorem c_R_text (l : Launch) (m m9 : xM) (h : f_R_text m = some m9) : xMet l yX7_readText cX7_readText 3 none 7 lay_R [.inr (.inr (some 0)), .inr (.inr (some 3))] m none m9 :=
  xMet_v (by decide +kernel) (Nat.le_of_ble_eq_true rfl) (fun Γ C hR hl9 => t_R_text (Nat.le_refl _) C hR m h)

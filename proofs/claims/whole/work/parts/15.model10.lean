/-! ===== yX11_readRate ===== -/
theorem fF_X11_13 : xF RX11 13 13 1 (.array .int) true := ⟨RX11, TX11, 26, tyX11, rfl, by decide, (xin_9 _ (List.mem_of_getElem? (i := 3) rfl)), rfl, inlX11, tyX11_ok, nmX11, rfl, rfl⟩
theorem xy_X11_readGreater : xY yX11_readGreater cX11_readGreater 5 (some .int) 3 := ⟨(xin_22 _ (List.mem_of_getElem? (i := 15) rfl)), (xin_1 _ (List.mem_of_getElem? (i := 5) rfl)), by decide, by decide, by decide +kernel⟩
theorem xi_X11_readGreater : Cond.instanceMethod yX11_readGreater ∈ wsL_law := (xin_22 _ (List.mem_of_getElem? (i := 13) rfl))
theorem xs_X11_readGreater : Cond.selects yX11_readGreater.cls yX11_readGreater yX11_readGreater ∈ wsL_law := (xin_22 _ (List.mem_of_getElem? (i := 14) rfl))
theorem dX11_readRate_0 : decode cX11_readRate 0 = .ok (.aload_n 0, 1) := by decide +kernel
theorem dX11_readRate_1 : decode cX11_readRate 1 = .ok (.getfield 13, 3) := by decide +kernel
theorem dX11_readRate_4 : decode cX11_readRate 4 = .ok (.bipush 11, 2) := by decide +kernel
theorem dX11_readRate_6 : decode cX11_readRate 6 = .ok (.iaload, 1) := by decide +kernel
theorem dX11_readRate_7 : decode cX11_readRate 7 = .ok (.istore_n 1, 1) := by decide +kernel
theorem dX11_readRate_8 : decode cX11_readRate 8 = .ok (.aload_n 0, 1) := by decide +kernel
theorem dX11_readRate_9 : decode cX11_readRate 9 = .ok (.iconst 4, 1) := by decide +kernel
theorem dX11_readRate_10 : decode cX11_readRate 10 = .ok (.bipush 80, 2) := by decide +kernel
theorem dX11_readRate_12 : decode cX11_readRate 12 = .ok (.iload_n 1, 1) := by decide +kernel
theorem dX11_readRate_13 : decode cX11_readRate 13 = .ok (.ifCond .ne 7, 3) := by decide +kernel
theorem dX11_readRate_16 : decode cX11_readRate 16 = .ok (.iconst 0, 1) := by decide +kernel
theorem dX11_readRate_17 : decode cX11_readRate 17 = .ok (.goto 14, 3) := by decide +kernel
theorem dX11_readRate_20 : decode cX11_readRate 20 = .ok (.aload_n 0, 1) := by decide +kernel
theorem dX11_readRate_21 : decode cX11_readRate 21 = .ok (.getfield 13, 3) := by decide +kernel
theorem dX11_readRate_24 : decode cX11_readRate 24 = .ok (.bipush 35, 2) := by decide +kernel
theorem dX11_readRate_26 : decode cX11_readRate 26 = .ok (.iload_n 1, 1) := by decide +kernel
theorem dX11_readRate_27 : decode cX11_readRate 27 = .ok (.iadd, 1) := by decide +kernel
theorem dX11_readRate_28 : decode cX11_readRate 28 = .ok (.iconst 1, 1) := by decide +kernel
theorem dX11_readRate_29 : decode cX11_readRate 29 = .ok (.isub, 1) := by decide +kernel
theorem dX11_readRate_30 : decode cX11_readRate 30 = .ok (.iaload, 1) := by decide +kernel
theorem dX11_readRate_31 : decode cX11_readRate 31 = .ok (.invokevirtual 342, 3) := by decide +kernel
theorem dX11_readRate_34 : decode cX11_readRate 34 = .ok (.istore_n 2, 1) := by decide +kernel
theorem dX11_readRate_35 : decode cX11_readRate 35 = .ok (.aload_n 0, 1) := by decide +kernel
theorem dX11_readRate_36 : decode cX11_readRate 36 = .ok (.iconst 1, 1) := by decide +kernel
theorem dX11_readRate_37 : decode cX11_readRate 37 = .ok (.bipush 9, 2) := by decide +kernel
theorem dX11_readRate_39 : decode cX11_readRate 39 = .ok (.iload_n 1, 1) := by decide +kernel
theorem dX11_readRate_40 : decode cX11_readRate 40 = .ok (.ifCond .ne 7, 3) := by decide +kernel
theorem dX11_readRate_43 : decode cX11_readRate 43 = .ok (.iconst 0, 1) := by decide +kernel
theorem dX11_readRate_44 : decode cX11_readRate 44 = .ok (.goto 14, 3) := by decide +kernel
theorem dX11_readRate_47 : decode cX11_readRate 47 = .ok (.aload_n 0, 1) := by decide +kernel
theorem dX11_readRate_48 : decode cX11_readRate 48 = .ok (.getfield 13, 3) := by decide +kernel
theorem dX11_readRate_51 : decode cX11_readRate 51 = .ok (.bipush 40, 2) := by decide +kernel
theorem dX11_readRate_53 : decode cX11_readRate 53 = .ok (.iload_n 1, 1) := by decide +kernel
theorem dX11_readRate_54 : decode cX11_readRate 54 = .ok (.iadd, 1) := by decide +kernel
theorem dX11_readRate_55 : decode cX11_readRate 55 = .ok (.iconst 1, 1) := by decide +kernel
theorem dX11_readRate_56 : decode cX11_readRate 56 = .ok (.isub, 1) := by decide +kernel
theorem dX11_readRate_57 : decode cX11_readRate 57 = .ok (.iaload, 1) := by decide +kernel
theorem dX11_readRate_58 : decode cX11_readRate 58 = .ok (.invokevirtual 342, 3) := by decide +kernel
theorem dX11_readRate_61 : decode cX11_readRate 61 = .ok (.istore_n 3, 1) := by decide +kernel
theorem dX11_readRate_62 : decode cX11_readRate 62 = .ok (.aload_n 0, 1) := by decide +kernel
theorem dX11_readRate_63 : decode cX11_readRate 63 = .ok (.getfield 301, 3) := by decide +kernel
theorem dX11_readRate_66 : decode cX11_readRate 66 = .ok (.ifCond .ne 34, 3) := by decide +kernel
theorem dX11_readRate_69 : decode cX11_readRate 69 = .ok (.aload_n 0, 1) := by decide +kernel
theorem dX11_readRate_70 : decode cX11_readRate 70 = .ok (.getfield 13, 3) := by decide +kernel
theorem dX11_readRate_73 : decode cX11_readRate 73 = .ok (.bipush 35, 2) := by decide +kernel
theorem dX11_readRate_75 : decode cX11_readRate 75 = .ok (.iload_n 1, 1) := by decide +kernel
theorem dX11_readRate_76 : decode cX11_readRate 76 = .ok (.iadd, 1) := by decide +kernel
theorem dX11_readRate_77 : decode cX11_readRate 77 = .ok (.iload_n 2, 1) := by decide +kernel
theorem dX11_readRate_78 : decode cX11_readRate 78 = .ok (.iastore, 1) := by decide +kernel
theorem dX11_readRate_79 : decode cX11_readRate 79 = .ok (.aload_n 0, 1) := by decide +kernel
theorem dX11_readRate_80 : decode cX11_readRate 80 = .ok (.getfield 13, 3) := by decide +kernel
theorem dX11_readRate_83 : decode cX11_readRate 83 = .ok (.bipush 40, 2) := by decide +kernel
theorem dX11_readRate_85 : decode cX11_readRate 85 = .ok (.iload_n 1, 1) := by decide +kernel
theorem dX11_readRate_86 : decode cX11_readRate 86 = .ok (.iadd, 1) := by decide +kernel
theorem dX11_readRate_87 : decode cX11_readRate 87 = .ok (.iload_n 3, 1) := by decide +kernel
theorem dX11_readRate_88 : decode cX11_readRate 88 = .ok (.iastore, 1) := by decide +kernel
theorem dX11_readRate_89 : decode cX11_readRate 89 = .ok (.aload_n 0, 1) := by decide +kernel
theorem dX11_readRate_90 : decode cX11_readRate 90 = .ok (.getfield 13, 3) := by decide +kernel
theorem dX11_readRate_93 : decode cX11_readRate 93 = .ok (.bipush 11, 2) := by decide +kernel
theorem dX11_readRate_95 : decode cX11_readRate 95 = .ok (.dup2, 1) := by decide +kernel
theorem dX11_readRate_96 : decode cX11_readRate 96 = .ok (.iaload, 1) := by decide +kernel
theorem dX11_readRate_97 : decode cX11_readRate 97 = .ok (.iconst 1, 1) := by decide +kernel
theorem dX11_readRate_98 : decode cX11_readRate 98 = .ok (.iadd, 1) := by decide +kernel
theorem dX11_readRate_99 : decode cX11_readRate 99 = .ok (.iastore, 1) := by decide +kernel
theorem dX11_readRate_100 : decode cX11_readRate 100 = .ok (.return_, 1) := by decide +kernel
def f_m_readRate_58 (x1 : Int) (x2 : Int) (s0 : Int) (s1 : Int) (s2 : Int) (m : xM) : Option (xM) :=
     (Option.bind (f_m_readGreater s2 s1 s0 m) fun q1 =>
      (if xw (q1.2 0 18) = 0 then (if xib (35 + x1) 3530 then (if xib (40 + x1) 3530 then (if xib 11 3530 then (if xib 11 3530 then some (xu (xu (xu q1.2 2 (xix (35 + x1)) x2) 2 (xix (40 + x1)) q1.1) 2 11 (((xu (xu q1.2 2 (xix (35 + x1)) x2) 2 (xix (40 + x1)) q1.1) 2 11) + 1))
      else none)
      else none)
      else none)
      else none)
      else some q1.2))
set_option maxRecDepth 1000000 in
set_option maxHeartbeats 4000000 in
theorem t_m_readRate_58 {Γ : xG} {d : Nat} (hd9 : 6 ≤ d) (C : xC Γ lay_M RX11 cX11_readRate 4 d) {m9 : xM} (hR : xRv Γ lay_M cX11_readRate m9) (x1 : Int) (x2 : Int) (s0 : Int) (s1 : Int) (s2 : Int) (m : xM) (h : f_m_readRate_58 x1 x2 s0 s1 s2 m = some m9) : xW Γ lay_M 4 58 [(0, .inr (.inr (some 0))), (1, .inl x1), (2, .inl x2)] [.inl s0, .inl s1, .inl s2, .inr (.inr (some 0))] m := by
  unfold f_m_readRate_58 at h
  obtain ⟨q1, hq1, h⟩ := x_bind h
  refine x_callVI C dX11_readRate_58 (xin_22 _ (List.mem_of_getElem? (i := 12) rfl)) xy_X11_readGreater (xi_X11_readGreater) (xs_X11_readGreater) (by omega) (by decide) (b := 0) rfl ⟨_, _, rfl⟩ (av := [.inl s2, .inl s1, .inl s0]) rfl (Nat.le_of_ble_eq_true rfl) (c_m_readGreater _ _ _ _ _ q1.1 q1.2 hq1) rfl ?_
  refine x_istore_n C dX11_readRate_61 (by decide) ?_
  refine x_aload_n C dX11_readRate_62 rfl ?_
  refine x_getI C dX11_readRate_63 fF_X11_301 rfl rfl ?_
  refine x_if_ne C 100 dX11_readRate_66 (by decide) h (fun h => ?_) (fun h => ?_)
  · exact x_returnV hR dX11_readRate_100 h
  · refine x_aload_n C dX11_readRate_69 rfl ?_
    refine x_getR C dX11_readRate_70 fF_X11_13 rfl rfl ?_
    refine x_bipush C dX11_readRate_73 (by decide) ?_
    refine x_iload_n C dX11_readRate_75 rfl ?_
    refine x_iadd C dX11_readRate_76 ?_
    refine x_iload_n C dX11_readRate_77 rfl ?_
    refine x_iastore C dX11_readRate_78 rfl h (fun h => ?_)
    refine x_aload_n C dX11_readRate_79 rfl ?_
    refine x_getR C dX11_readRate_80 fF_X11_13 rfl rfl ?_
    refine x_bipush C dX11_readRate_83 (by decide) ?_
    refine x_iload_n C dX11_readRate_85 rfl ?_
    refine x_iadd C dX11_readRate_86 ?_
    refine x_iload_n C dX11_readRate_87 rfl ?_
    refine x_iastore C dX11_readRate_88 rfl h (fun h => ?_)
    refine x_aload_n C dX11_readRate_89 rfl ?_
    refine x_getR C dX11_readRate_90 fF_X11_13 rfl rfl ?_
    refine x_bipush C dX11_readRate_93 (by decide) ?_
    refine x_dup2 C dX11_readRate_95 rfl rfl ?_
    refine x_iaload C dX11_readRate_96 rfl h (fun h => ?_)
    refine x_iconst C dX11_readRate_97 ?_
    refine x_iadd C dX11_readRate_98 ?_
    refine x_iastore C dX11_readRate_99 rfl h (fun h => ?_)
    exact x_returnV hR dX11_readRate_100 h
def f_m_readRate_31 (x1 : Int) (s0 : Int) (s1 : Int) (s2 : Int) (m : xM) : Option (xM) :=
     (Option.bind (f_m_readGreater s2 s1 s0 m) fun q0 =>
      (if xw x1 = 0 then f_m_readRate_58 x1 q0.1 0 9 1 q0.2
      else (if xib ((40 + x1) - 1) 3530 then f_m_readRate_58 x1 q0.1 (q0.2 2 (xix ((40 + x1) - 1))) 9 1 q0.2
      else none)))
set_option maxRecDepth 1000000 in
set_option maxHeartbeats 4000000 in
theorem t_m_readRate_31 {Γ : xG} {d : Nat} (hd9 : 6 ≤ d) (C : xC Γ lay_M RX11 cX11_readRate 4 d) {m9 : xM} (hR : xRv Γ lay_M cX11_readRate m9) (x1 : Int) (s0 : Int) (s1 : Int) (s2 : Int) (m : xM) (h : f_m_readRate_31 x1 s0 s1 s2 m = some m9) : xW Γ lay_M 4 31 [(0, .inr (.inr (some 0))), (1, .inl x1)] [.inl s0, .inl s1, .inl s2, .inr (.inr (some 0))] m := by
  unfold f_m_readRate_31 at h
  obtain ⟨q0, hq0, h⟩ := x_bind h
  refine x_callVI C dX11_readRate_31 (xin_22 _ (List.mem_of_getElem? (i := 12) rfl)) xy_X11_readGreater (xi_X11_readGreater) (xs_X11_readGreater) (by omega) (by decide) (b := 0) rfl ⟨_, _, rfl⟩ (av := [.inl s2, .inl s1, .inl s0]) rfl (Nat.le_of_ble_eq_true rfl) (c_m_readGreater _ _ _ _ _ q0.1 q0.2 hq0) rfl ?_
  refine x_istore_n C dX11_readRate_34 (by decide) ?_
  refine x_aload_n C dX11_readRate_35 rfl ?_
  refine x_iconst C dX11_readRate_36 ?_
  refine x_bipush C dX11_readRate_37 (by decide) ?_
  refine x_iload_n C dX11_readRate_39 rfl ?_
  refine x_if_ne C 47 dX11_readRate_40 (by decide) h (fun h => ?_) (fun h => ?_)
  · refine x_aload_n C dX11_readRate_47 rfl ?_
    refine x_getR C dX11_readRate_48 fF_X11_13 rfl rfl ?_
    refine x_bipush C dX11_readRate_51 (by decide) ?_
    refine x_iload_n C dX11_readRate_53 rfl ?_
    refine x_iadd C dX11_readRate_54 ?_
    refine x_iconst C dX11_readRate_55 ?_
    refine x_isub C dX11_readRate_56 ?_
    refine x_iaload C dX11_readRate_57 rfl h (fun h => ?_)
    refine x_loc [(0, .inr (.inr (some 0))), (1, .inl x1), (2, .inl q0.1)] ⟨rfl, rfl, rfl, trivial⟩ ?_
    exact t_m_readRate_58 hd9 C hR _ _ _ _ _ _ h
  · refine x_iconst C dX11_readRate_43 ?_
    refine x_goto C 58 dX11_readRate_44 (by decide) ?_
    refine x_loc [(0, .inr (.inr (some 0))), (1, .inl x1), (2, .inl q0.1)] ⟨rfl, rfl, rfl, trivial⟩ ?_
    exact t_m_readRate_58 hd9 C hR _ _ _ _ _ _ h
def f_m_readRate (m : xM) : Option (xM) :=
     (if xib 11 3530 then (if xw (m 2 11) = 0 then f_m_readRate_31 (m 2 11) 0 80 4 m
      else (if xib ((35 + (m 2 11)) - 1) 3530 then f_m_readRate_31 (m 2 11) (m 2 (xix ((35 + (m 2 11)) - 1))) 80 4 m
      else none))
      else none)
set_option maxRecDepth 1000000 in
set_option maxHeartbeats 4000000 in
theorem t_m_readRate {Γ : xG} {d : Nat} (hd9 : 6 ≤ d) (C : xC Γ lay_M RX11 cX11_readRate 4 d) {m9 : xM} (hR : xRv Γ lay_M cX11_readRate m9) (m : xM) (h : f_m_readRate m = some m9) : xW Γ lay_M 4 0 [(0, .inr (.inr (some 0)))] [] m := by
  unfold f_m_readRate at h
  refine x_aload_n C dX11_readRate_0 rfl ?_
  refine x_getR C dX11_readRate_1 fF_X11_13 rfl rfl ?_
  refine x_bipush C dX11_readRate_4 (by decide) ?_
  refine x_iaload C dX11_readRate_6 rfl h (fun h => ?_)
  refine x_istore_n C dX11_readRate_7 (by decide) ?_
  refine x_aload_n C dX11_readRate_8 rfl ?_
  refine x_iconst C dX11_readRate_9 ?_
  refine x_bipush C dX11_readRate_10 (by decide) ?_
  refine x_iload_n C dX11_readRate_12 rfl ?_
  refine x_if_ne C 20 dX11_readRate_13 (by decide) h (fun h => ?_) (fun h => ?_)
  · refine x_aload_n C dX11_readRate_20 rfl ?_
    refine x_getR C dX11_readRate_21 fF_X11_13 rfl rfl ?_
    refine x_bipush C dX11_readRate_24 (by decide) ?_
    refine x_iload_n C dX11_readRate_26 rfl ?_
    refine x_iadd C dX11_readRate_27 ?_
    refine x_iconst C dX11_readRate_28 ?_
    refine x_isub C dX11_readRate_29 ?_
    refine x_iaload C dX11_readRate_30 rfl h (fun h => ?_)
    refine x_loc [(0, .inr (.inr (some 0))), (1, .inl (m 2 11))] ⟨rfl, rfl, trivial⟩ ?_
    exact t_m_readRate_31 hd9 C hR _ _ _ _ _ h
  · refine x_iconst C dX11_readRate_16 ?_
    refine x_goto C 31 dX11_readRate_17 (by decide) ?_
    refine x_loc [(0, .inr (.inr (some 0))), (1, .inl (m 2 11))] ⟨rfl, rfl, trivial⟩ ?_
    exact t_m_readRate_31 hd9 C hR _ _ _ _ _ h
theorem c_m_readRate (l : Launch) (m m9 : xM) (h : f_m_readRate m = some m9) : xMet l yX11_readRate cX11_readRate 4 none 6 lay_M [.inr (.inr (some 0))] m none m9 :=
  xMet_v (by decide +kernel) (Nat.le_of_ble_eq_true rfl) (fun Γ C hR hl9 => t_m_readRate (Nat.le_refl _) C hR m h)
/-! ===== yX11_readTrain ===== -/
theorem xy_X11_readNumber : xY yX11_readNumber cX11_readNumber 4 (some .int) 2 := ⟨(xin_21 _ (List.mem_of_getElem? (i := 13) rfl)), (xin_1 _ (List.mem_of_getElem? (i := 5) rfl)), by decide, by decide, by decide +kernel⟩
theorem xi_X11_readNumber : Cond.instanceMethod yX11_readNumber ∈ wsL_law := (xin_21 _ (List.mem_of_getElem? (i := 11) rfl))
theorem xs_X11_readNumber : Cond.selects yX11_readNumber.cls yX11_readNumber yX11_readNumber ∈ wsL_law := (xin_21 _ (List.mem_of_getElem? (i := 12) rfl))
theorem dX11_readTrain_0 : decode cX11_readTrain 0 = .ok (.iconst 0, 1) := by decide +kernel
theorem dX11_readTrain_1 : decode cX11_readTrain 1 = .ok (.istore_n 1, 1) := by decide +kernel
theorem dX11_readTrain_2 : decode cX11_readTrain 2 = .ok (.iload_n 1, 1) := by decide +kernel
theorem dX11_readTrain_3 : decode cX11_readTrain 3 = .ok (.iconst 4, 1) := by decide +kernel
theorem dX11_readTrain_4 : decode cX11_readTrain 4 = .ok (.if_icmp .ge 46, 3) := by decide +kernel
theorem dX11_readTrain_7 : decode cX11_readTrain 7 = .ok (.aload_n 0, 1) := by decide +kernel
theorem dX11_readTrain_8 : decode cX11_readTrain 8 = .ok (.iconst 1, 1) := by decide +kernel
theorem dX11_readTrain_9 : decode cX11_readTrain 9 = .ok (.bipush 20, 2) := by decide +kernel
theorem dX11_readTrain_11 : decode cX11_readTrain 11 = .ok (.invokevirtual 345, 3) := by decide +kernel
theorem dX11_readTrain_14 : decode cX11_readTrain 14 = .ok (.istore_n 2, 1) := by decide +kernel
theorem dX11_readTrain_15 : decode cX11_readTrain 15 = .ok (.aload_n 0, 1) := by decide +kernel
theorem dX11_readTrain_16 : decode cX11_readTrain 16 = .ok (.getfield 13, 3) := by decide +kernel
theorem dX11_readTrain_19 : decode cX11_readTrain 19 = .ok (.bipush 21, 2) := by decide +kernel
theorem dX11_readTrain_21 : decode cX11_readTrain 21 = .ok (.iload_n 1, 1) := by decide +kernel
theorem dX11_readTrain_22 : decode cX11_readTrain 22 = .ok (.iadd, 1) := by decide +kernel
theorem dX11_readTrain_23 : decode cX11_readTrain 23 = .ok (.aload_n 0, 1) := by decide +kernel
theorem dX11_readTrain_24 : decode cX11_readTrain 24 = .ok (.getfield 301, 3) := by decide +kernel
theorem dX11_readTrain_27 : decode cX11_readTrain 27 = .ok (.ifCond .ne 7, 3) := by decide +kernel
theorem dX11_readTrain_30 : decode cX11_readTrain 30 = .ok (.iload_n 2, 1) := by decide +kernel
theorem dX11_readTrain_31 : decode cX11_readTrain 31 = .ok (.goto 12, 3) := by decide +kernel
theorem dX11_readTrain_34 : decode cX11_readTrain 34 = .ok (.aload_n 0, 1) := by decide +kernel
theorem dX11_readTrain_35 : decode cX11_readTrain 35 = .ok (.getfield 13, 3) := by decide +kernel
theorem dX11_readTrain_38 : decode cX11_readTrain 38 = .ok (.bipush 21, 2) := by decide +kernel
theorem dX11_readTrain_40 : decode cX11_readTrain 40 = .ok (.iload_n 1, 1) := by decide +kernel
theorem dX11_readTrain_41 : decode cX11_readTrain 41 = .ok (.iadd, 1) := by decide +kernel
theorem dX11_readTrain_42 : decode cX11_readTrain 42 = .ok (.iaload, 1) := by decide +kernel
theorem dX11_readTrain_43 : decode cX11_readTrain 43 = .ok (.iastore, 1) := by decide +kernel
theorem dX11_readTrain_44 : decode cX11_readTrain 44 = .ok (.iinc 1 1, 3) := by decide +kernel
theorem dX11_readTrain_47 : decode cX11_readTrain 47 = .ok (.goto (-45), 3) := by decide +kernel
theorem dX11_readTrain_50 : decode cX11_readTrain 50 = .ok (.return_, 1) := by decide +kernel
def f_m_readTrain_43 (k2 : Int → xM → Option (xM)) (x1 : Int) (s0 : Int) (s1 : Int) (m : xM) : Option (xM) :=
     (if xib s1 3530 then k2 (x1 + 1) (xu m 2 (xix s1) s0)
      else none)
set_option maxRecDepth 1000000 in
set_option maxHeartbeats 4000000 in
theorem t_m_readTrain_43 {Γ : xG} {d : Nat} (hd9 : 6 ≤ d) (C : xC Γ lay_M RX11 cX11_readTrain 3 d) {m9 : xM} (hR : xRv Γ lay_M cX11_readTrain m9) {k2 : Int → xM → Option (xM)} (hk2 : ∀ (x1 : Int) (m : xM), k2 x1 m = some m9 → xW Γ lay_M 3 2 [(0, .inr (.inr (some 0))), (1, .inl x1)] [] m) (x1 : Int) (s0 : Int) (s1 : Int) (m : xM) (h : f_m_readTrain_43 k2 x1 s0 s1 m = some m9) : xW Γ lay_M 3 43 [(0, .inr (.inr (some 0))), (1, .inl x1)] [.inl s0, .inl s1, .inr (.inr (some 2))] m := by
  unfold f_m_readTrain_43 at h
  refine x_iastore C dX11_readTrain_43 rfl h (fun h => ?_)
  refine x_iinc C dX11_readTrain_44 (by decide) rfl ?_
  refine x_goto C 2 dX11_readTrain_47 (by decide) ?_
  refine x_loc [(0, .inr (.inr (some 0))), (1, .inl (x1 + 1))] ⟨rfl, rfl, trivial⟩ ?_
  exact hk2 _ _ h
def f_m_readTrain_2 : Nat → Int → xM → Option (xM)
  | 0, _, _ => none
  | n + 1, x1, m =>
     (if xw x1 < xw 4 then (Option.bind (f_m_readNumber 1 20 m) fun q0 =>
      (if xw (q0.2 0 18) = 0 then f_m_readTrain_43 (f_m_readTrain_2 n) x1 q0.1 (21 + x1) q0.2
      else (if xib (21 + x1) 3530 then f_m_readTrain_43 (f_m_readTrain_2 n) x1 (q0.2 2 (xix (21 + x1))) (21 + x1) q0.2
      else none)))
      else some m)
set_option maxRecDepth 1000000 in
set_option maxHeartbeats 4000000 in
theorem t_m_readTrain_2 {Γ : xG} {d : Nat} (hd9 : 6 ≤ d) (C : xC Γ lay_M RX11 cX11_readTrain 3 d) {m9 : xM} (hR : xRv Γ lay_M cX11_readTrain m9) : ∀ (n : Nat) (x1 : Int) (m : xM), f_m_readTrain_2 n x1 m = some m9 → xW Γ lay_M 3 2 [(0, .inr (.inr (some 0))), (1, .inl x1)] [] m := by
  intro n
  induction n with
  | zero => intro _ _ h; cases h
  | succ n ih =>
    intro x1 m h
    rw [f_m_readTrain_2] at h
    refine x_iload_n C dX11_readTrain_2 rfl ?_
    refine x_iconst C dX11_readTrain_3 ?_
    refine x_icmp_ge C 50 dX11_readTrain_4 (by decide) h (fun h => ?_) (fun h => ?_)
    · exact x_returnV hR dX11_readTrain_50 h
    · refine x_aload_n C dX11_readTrain_7 rfl ?_
      refine x_iconst C dX11_readTrain_8 ?_
      refine x_bipush C dX11_readTrain_9 (by decide) ?_
      obtain ⟨q0, hq0, h⟩ := x_bind h
      refine x_callVI C dX11_readTrain_11 (xin_21 _ (List.mem_of_getElem? (i := 10) rfl)) xy_X11_readNumber (xi_X11_readNumber) (xs_X11_readNumber) (by omega) (by decide) (b := 0) rfl ⟨_, _, rfl⟩ (av := [.inl 1, .inl 20]) rfl (Nat.le_of_ble_eq_true rfl) (c_m_readNumber _ _ _ _ q0.1 q0.2 hq0) rfl ?_
      refine x_istore_n C dX11_readTrain_14 (by decide) ?_
      refine x_aload_n C dX11_readTrain_15 rfl ?_
      refine x_getR C dX11_readTrain_16 fF_X11_13 rfl rfl ?_
      refine x_bipush C dX11_readTrain_19 (by decide) ?_
      refine x_iload_n C dX11_readTrain_21 rfl ?_
      refine x_iadd C dX11_readTrain_22 ?_
      refine x_aload_n C dX11_readTrain_23 rfl ?_
      refine x_getI C dX11_readTrain_24 fF_X11_301 rfl rfl ?_
      refine x_if_ne C 34 dX11_readTrain_27 (by decide) h (fun h => ?_) (fun h => ?_)
      · refine x_aload_n C dX11_readTrain_34 rfl ?_
        refine x_getR C dX11_readTrain_35 fF_X11_13 rfl rfl ?_
        refine x_bipush C dX11_readTrain_38 (by decide) ?_
        refine x_iload_n C dX11_readTrain_40 rfl ?_
        refine x_iadd C dX11_readTrain_41 ?_
        refine x_iaload C dX11_readTrain_42 rfl h (fun h => ?_)
        refine x_loc [(0, .inr (.inr (some 0))), (1, .inl x1)] ⟨rfl, rfl, trivial⟩ ?_
        exact t_m_readTrain_43 hd9 C hR ih _ _ _ _ h
      · refine x_iload_n C dX11_readTrain_30 rfl ?_
        refine x_goto C 43 dX11_readTrain_31 (by decide) ?_
        refine x_loc [(0, .inr (.inr (some 0))), (1, .inl x1)] ⟨rfl, rfl, trivial⟩ ?_
        exact t_m_readTrain_43 hd9 C hR ih _ _ _ _ h
def f_m_readTrain (m : xM) : Option (xM) :=
     f_m_readTrain_2 fu 0 m
set_option maxRecDepth 1000000 in
set_option maxHeartbeats 4000000 in
theorem t_m_readTrain {Γ : xG} {d : Nat} (hd9 : 6 ≤ d) (C : xC Γ lay_M RX11 cX11_readTrain 3 d) {m9 : xM} (hR : xRv Γ lay_M cX11_readTrain m9) (m : xM) (h : f_m_readTrain m = some m9) : xW Γ lay_M 3 0 [(0, .inr (.inr (some 0)))] [] m := by
  unfold f_m_readTrain at h
  refine x_iconst C dX11_readTrain_0 ?_
  refine x_istore_n C dX11_readTrain_1 (by decide) ?_
  refine x_loc [(0, .inr (.inr (some 0))), (1, .inl 0)] ⟨rfl, rfl, trivial⟩ ?_
  exact t_m_readTrain_2 hd9 C hR fu _ _ h
theorem c_m_readTrain (l : Launch) (m m9 : xM) (h : f_m_readTrain m = some m9) : xMet l yX11_readTrain cX11_readTrain 3 none 6 lay_M [.inr (.inr (some 0))] m none m9 :=
  xMet_v (by decide +kernel) (Nat.le_of_ble_eq_true rfl) (fun Γ C hR hl9 => t_m_readTrain (Nat.le_refl _) C hR m h)
/-! ===== yX11_readDelay ===== -/
theorem dX11_readDelay_0 : decode cX11_readDelay 0 = .ok (.aload_n 0, 1) := by decide +kernel
theorem dX11_readDelay_1 : decode cX11_readDelay 1 = .ok (.iconst 1, 1) := by decide +kernel
theorem dX11_readDelay_2 : decode cX11_readDelay 2 = .ok (.bipush 9, 2) := by decide +kernel
theorem dX11_readDelay_4 : decode cX11_readDelay 4 = .ok (.invokevirtual 345, 3) := by decide +kernel
theorem dX11_readDelay_7 : decode cX11_readDelay 7 = .ok (.istore_n 1, 1) := by decide +kernel
theorem dX11_readDelay_8 : decode cX11_readDelay 8 = .ok (.aload_n 0, 1) := by decide +kernel
theorem dX11_readDelay_9 : decode cX11_readDelay 9 = .ok (.iconst 0, 1) := by decide +kernel
theorem dX11_readDelay_10 : decode cX11_readDelay 10 = .ok (.bipush 60, 2) := by decide +kernel
theorem dX11_readDelay_12 : decode cX11_readDelay 12 = .ok (.iconst 2, 1) := by decide +kernel
theorem dX11_readDelay_13 : decode cX11_readDelay 13 = .ok (.iload_n 1, 1) := by decide +kernel
theorem dX11_readDelay_14 : decode cX11_readDelay 14 = .ok (.imul, 1) := by decide +kernel
theorem dX11_readDelay_15 : decode cX11_readDelay 15 = .ok (.invokevirtual 342, 3) := by decide +kernel
theorem dX11_readDelay_18 : decode cX11_readDelay 18 = .ok (.istore_n 2, 1) := by decide +kernel
theorem dX11_readDelay_19 : decode cX11_readDelay 19 = .ok (.aload_n 0, 1) := by decide +kernel
theorem dX11_readDelay_20 : decode cX11_readDelay 20 = .ok (.getfield 301, 3) := by decide +kernel
theorem dX11_readDelay_23 : decode cX11_readDelay 23 = .ok (.ifCond .ne 19, 3) := by decide +kernel
theorem dX11_readDelay_26 : decode cX11_readDelay 26 = .ok (.aload_n 0, 1) := by decide +kernel
theorem dX11_readDelay_27 : decode cX11_readDelay 27 = .ok (.getfield 13, 3) := by decide +kernel
theorem dX11_readDelay_30 : decode cX11_readDelay 30 = .ok (.bipush 15, 2) := by decide +kernel
theorem dX11_readDelay_32 : decode cX11_readDelay 32 = .ok (.iload_n 1, 1) := by decide +kernel
theorem dX11_readDelay_33 : decode cX11_readDelay 33 = .ok (.iastore, 1) := by decide +kernel
theorem dX11_readDelay_34 : decode cX11_readDelay 34 = .ok (.aload_n 0, 1) := by decide +kernel
theorem dX11_readDelay_35 : decode cX11_readDelay 35 = .ok (.getfield 13, 3) := by decide +kernel
theorem dX11_readDelay_38 : decode cX11_readDelay 38 = .ok (.bipush 16, 2) := by decide +kernel
theorem dX11_readDelay_40 : decode cX11_readDelay 40 = .ok (.iload_n 2, 1) := by decide +kernel
theorem dX11_readDelay_41 : decode cX11_readDelay 41 = .ok (.iastore, 1) := by decide +kernel
theorem dX11_readDelay_42 : decode cX11_readDelay 42 = .ok (.return_, 1) := by decide +kernel
def f_m_readDelay (m : xM) : Option (xM) :=
     (Option.bind (f_m_readNumber 1 9 m) fun q0 =>
      (Option.bind (f_m_readGreater 0 60 (2 * q0.1) q0.2) fun q1 =>
      (if xw (q1.2 0 18) = 0 then (if xib 15 3530 then (if xib 16 3530 then some (xu (xu q1.2 2 15 q0.1) 2 16 q1.1)
      else none)
      else none)
      else some q1.2)))
set_option maxRecDepth 1000000 in
set_option maxHeartbeats 4000000 in
theorem t_m_readDelay {Γ : xG} {d : Nat} (hd9 : 6 ≤ d) (C : xC Γ lay_M RX11 cX11_readDelay 3 d) {m9 : xM} (hR : xRv Γ lay_M cX11_readDelay m9) (m : xM) (h : f_m_readDelay m = some m9) : xW Γ lay_M 3 0 [(0, .inr (.inr (some 0)))] [] m := by
  unfold f_m_readDelay at h
  refine x_aload_n C dX11_readDelay_0 rfl ?_
  refine x_iconst C dX11_readDelay_1 ?_
  refine x_bipush C dX11_readDelay_2 (by decide) ?_
  obtain ⟨q0, hq0, h⟩ := x_bind h
  refine x_callVI C dX11_readDelay_4 (xin_21 _ (List.mem_of_getElem? (i := 10) rfl)) xy_X11_readNumber (xi_X11_readNumber) (xs_X11_readNumber) (by omega) (by decide) (b := 0) rfl ⟨_, _, rfl⟩ (av := [.inl 1, .inl 9]) rfl (Nat.le_of_ble_eq_true rfl) (c_m_readNumber _ _ _ _ q0.1 q0.2 hq0) rfl ?_
  refine x_istore_n C dX11_readDelay_7 (by decide) ?_
  refine x_aload_n C dX11_readDelay_8 rfl ?_
  refine x_iconst C dX11_readDelay_9 ?_
  refine x_bipush C dX11_readDelay_10 (by decide) ?_
  refine x_iconst C dX11_readDelay_12 ?_
  refine x_iload_n C dX11_readDelay_13 rfl ?_
  refine x_imul C dX11_readDelay_14 ?_
  obtain ⟨q1, hq1, h⟩ := x_bind h
  refine x_callVI C dX11_readDelay_15 (xin_22 _ (List.mem_of_getElem? (i := 12) rfl)) xy_X11_readGreater (xi_X11_readGreater) (xs_X11_readGreater) (by omega) (by decide) (b := 0) rfl ⟨_, _, rfl⟩ (av := [.inl 0, .inl 60, .inl (2 * q0.1)]) rfl (Nat.le_of_ble_eq_true rfl) (c_m_readGreater _ _ _ _ _ q1.1 q1.2 hq1) rfl ?_
  refine x_istore_n C dX11_readDelay_18 (by decide) ?_
  refine x_aload_n C dX11_readDelay_19 rfl ?_
  refine x_getI C dX11_readDelay_20 fF_X11_301 rfl rfl ?_
  refine x_if_ne C 42 dX11_readDelay_23 (by decide) h (fun h => ?_) (fun h => ?_)
  · exact x_returnV hR dX11_readDelay_42 h
  · refine x_aload_n C dX11_readDelay_26 rfl ?_
    refine x_getR C dX11_readDelay_27 fF_X11_13 rfl rfl ?_
    refine x_bipush C dX11_readDelay_30 (by decide) ?_
    refine x_iload_n C dX11_readDelay_32 rfl ?_
    refine x_iastore C dX11_readDelay_33 rfl h (fun h => ?_)
    refine x_aload_n C dX11_readDelay_34 rfl ?_
    refine x_getR C dX11_readDelay_35 fF_X11_13 rfl rfl ?_
    refine x_bipush C dX11_readDelay_38 (by decide) ?_
    refine x_iload_n C dX11_readDelay_40 rfl ?_
    refine x_iastore C dX11_readDelay_41 rfl h (fun h => ?_)
    exact x_returnV hR dX11_readDelay_42 h
theorem c_m_readDelay (l : Launch) (m m9 : xM) (h : f_m_readDelay m = some m9) : xMet l yX11_readDelay cX11_readDelay 3 none 6 lay_M [.inr (.inr (some 0))] m none m9 :=
  xMet_v (by decide +kernel) (Nat.le_of_ble_eq_true rfl) (fun Γ C hR hl9 => t_m_readDelay (Nat.le_refl _) C hR m h)
/-! ===== yX11_readNoise ===== -/
theorem dX11_readNoise_0 : decode cX11_readNoise 0 = .ok (.aload_n 0, 1) := by decide +kernel
theorem dX11_readNoise_1 : decode cX11_readNoise 1 = .ok (.getfield 13, 3) := by decide +kernel
theorem dX11_readNoise_4 : decode cX11_readNoise 4 = .ok (.bipush 19, 2) := by decide +kernel
theorem dX11_readNoise_6 : decode cX11_readNoise 6 = .ok (.iconst 0, 1) := by decide +kernel
theorem dX11_readNoise_7 : decode cX11_readNoise 7 = .ok (.iastore, 1) := by decide +kernel
theorem dX11_readNoise_8 : decode cX11_readNoise 8 = .ok (.aload_n 0, 1) := by decide +kernel
theorem dX11_readNoise_9 : decode cX11_readNoise 9 = .ok (.aload_n 0, 1) := by decide +kernel
theorem dX11_readNoise_10 : decode cX11_readNoise 10 = .ok (.getfield 301, 3) := by decide +kernel
theorem dX11_readNoise_13 : decode cX11_readNoise 13 = .ok (.ifCond .ne 11, 3) := by decide +kernel
theorem dX11_readNoise_16 : decode cX11_readNoise 16 = .ok (.aload_n 0, 1) := by decide +kernel
theorem dX11_readNoise_17 : decode cX11_readNoise 17 = .ok (.getfield 292, 3) := by decide +kernel
theorem dX11_readNoise_20 : decode cX11_readNoise 20 = .ok (.iconst 2, 1) := by decide +kernel
theorem dX11_readNoise_21 : decode cX11_readNoise 21 = .ok (.if_icmp .ne 7, 3) := by decide +kernel
theorem dX11_readNoise_24 : decode cX11_readNoise 24 = .ok (.iconst 1, 1) := by decide +kernel
theorem dX11_readNoise_25 : decode cX11_readNoise 25 = .ok (.goto 4, 3) := by decide +kernel
theorem dX11_readNoise_28 : decode cX11_readNoise 28 = .ok (.iconst 0, 1) := by decide +kernel
theorem dX11_readNoise_29 : decode cX11_readNoise 29 = .ok (.iconst 1, 1) := by decide +kernel
theorem dX11_readNoise_30 : decode cX11_readNoise 30 = .ok (.invokevirtual 320, 3) := by decide +kernel
theorem dX11_readNoise_33 : decode cX11_readNoise 33 = .ok (.aload_n 0, 1) := by decide +kernel
theorem dX11_readNoise_34 : decode cX11_readNoise 34 = .ok (.getfield 301, 3) := by decide +kernel
theorem dX11_readNoise_37 : decode cX11_readNoise 37 = .ok (.ifCond .ne 99, 3) := by decide +kernel
theorem dX11_readNoise_40 : decode cX11_readNoise 40 = .ok (.aload_n 0, 1) := by decide +kernel
theorem dX11_readNoise_41 : decode cX11_readNoise 41 = .ok (.getfield 292, 3) := by decide +kernel
theorem dX11_readNoise_44 : decode cX11_readNoise 44 = .ok (.iconst 2, 1) := by decide +kernel
theorem dX11_readNoise_45 : decode cX11_readNoise 45 = .ok (.if_icmp .ne 91, 3) := by decide +kernel
theorem dX11_readNoise_48 : decode cX11_readNoise 48 = .ok (.aload_n 0, 1) := by decide +kernel
theorem dX11_readNoise_49 : decode cX11_readNoise 49 = .ok (.aload_n 0, 1) := by decide +kernel
theorem dX11_readNoise_50 : decode cX11_readNoise 50 = .ok (.invokevirtual 339, 3) := by decide +kernel
theorem dX11_readNoise_53 : decode cX11_readNoise 53 = .ok (.iconst 0, 1) := by decide +kernel
theorem dX11_readNoise_54 : decode cX11_readNoise 54 = .ok (.bipush 9, 2) := by decide +kernel
theorem dX11_readNoise_56 : decode cX11_readNoise 56 = .ok (.invokestatic 81, 3) := by decide +kernel
theorem dX11_readNoise_59 : decode cX11_readNoise 59 = .ok (.iconst 2, 1) := by decide +kernel
theorem dX11_readNoise_60 : decode cX11_readNoise 60 = .ok (.invokevirtual 320, 3) := by decide +kernel
theorem dX11_readNoise_63 : decode cX11_readNoise 63 = .ok (.aload_n 0, 1) := by decide +kernel
theorem dX11_readNoise_64 : decode cX11_readNoise 64 = .ok (.aload_n 0, 1) := by decide +kernel
theorem dX11_readNoise_65 : decode cX11_readNoise 65 = .ok (.getfield 301, 3) := by decide +kernel
theorem dX11_readNoise_68 : decode cX11_readNoise 68 = .ok (.ifCond .ne 15, 3) := by decide +kernel
theorem dX11_readNoise_71 : decode cX11_readNoise 71 = .ok (.aload_n 0, 1) := by decide +kernel
theorem dX11_readNoise_72 : decode cX11_readNoise 72 = .ok (.getfield 13, 3) := by decide +kernel
theorem dX11_readNoise_75 : decode cX11_readNoise 75 = .ok (.bipush 19, 2) := by decide +kernel
theorem dX11_readNoise_77 : decode cX11_readNoise 77 = .ok (.iaload, 1) := by decide +kernel
theorem dX11_readNoise_78 : decode cX11_readNoise 78 = .ok (.bipush 10, 2) := by decide +kernel
theorem dX11_readNoise_80 : decode cX11_readNoise 80 = .ok (.if_icmp .ge 7, 3) := by decide +kernel
theorem dX11_readNoise_83 : decode cX11_readNoise 83 = .ok (.iconst 1, 1) := by decide +kernel
theorem dX11_readNoise_84 : decode cX11_readNoise 84 = .ok (.goto 4, 3) := by decide +kernel
theorem dX11_readNoise_87 : decode cX11_readNoise 87 = .ok (.iconst 0, 1) := by decide +kernel
theorem dX11_readNoise_88 : decode cX11_readNoise 88 = .ok (.iconst 3, 1) := by decide +kernel
theorem dX11_readNoise_89 : decode cX11_readNoise 89 = .ok (.invokevirtual 320, 3) := by decide +kernel
theorem dX11_readNoise_92 : decode cX11_readNoise 92 = .ok (.aload_n 0, 1) := by decide +kernel
theorem dX11_readNoise_93 : decode cX11_readNoise 93 = .ok (.getfield 301, 3) := by decide +kernel
theorem dX11_readNoise_96 : decode cX11_readNoise 96 = .ok (.ifCond .ne 33, 3) := by decide +kernel
theorem dX11_readNoise_99 : decode cX11_readNoise 99 = .ok (.aload_n 0, 1) := by decide +kernel
theorem dX11_readNoise_100 : decode cX11_readNoise 100 = .ok (.getfield 13, 3) := by decide +kernel
theorem dX11_readNoise_103 : decode cX11_readNoise 103 = .ok (.bipush 25, 2) := by decide +kernel
theorem dX11_readNoise_105 : decode cX11_readNoise 105 = .ok (.aload_n 0, 1) := by decide +kernel
theorem dX11_readNoise_106 : decode cX11_readNoise 106 = .ok (.getfield 13, 3) := by decide +kernel
theorem dX11_readNoise_109 : decode cX11_readNoise 109 = .ok (.bipush 19, 2) := by decide +kernel
theorem dX11_readNoise_111 : decode cX11_readNoise 111 = .ok (.iaload, 1) := by decide +kernel
theorem dX11_readNoise_112 : decode cX11_readNoise 112 = .ok (.iadd, 1) := by decide +kernel
theorem dX11_readNoise_113 : decode cX11_readNoise 113 = .ok (.aload_n 0, 1) := by decide +kernel
theorem dX11_readNoise_114 : decode cX11_readNoise 114 = .ok (.invokevirtual 339, 3) := by decide +kernel
theorem dX11_readNoise_117 : decode cX11_readNoise 117 = .ok (.iastore, 1) := by decide +kernel
theorem dX11_readNoise_118 : decode cX11_readNoise 118 = .ok (.aload_n 0, 1) := by decide +kernel
theorem dX11_readNoise_119 : decode cX11_readNoise 119 = .ok (.getfield 13, 3) := by decide +kernel
theorem dX11_readNoise_122 : decode cX11_readNoise 122 = .ok (.bipush 19, 2) := by decide +kernel
theorem dX11_readNoise_124 : decode cX11_readNoise 124 = .ok (.dup2, 1) := by decide +kernel
theorem dX11_readNoise_125 : decode cX11_readNoise 125 = .ok (.iaload, 1) := by decide +kernel
theorem dX11_readNoise_126 : decode cX11_readNoise 126 = .ok (.iconst 1, 1) := by decide +kernel
theorem dX11_readNoise_127 : decode cX11_readNoise 127 = .ok (.iadd, 1) := by decide +kernel
theorem dX11_readNoise_128 : decode cX11_readNoise 128 = .ok (.iastore, 1) := by decide +kernel
theorem dX11_readNoise_129 : decode cX11_readNoise 129 = .ok (.aload_n 0, 1) := by decide +kernel
theorem dX11_readNoise_130 : decode cX11_readNoise 130 = .ok (.invokevirtual 324, 3) := by decide +kernel
theorem dX11_readNoise_133 : decode cX11_readNoise 133 = .ok (.goto (-100), 3) := by decide +kernel
theorem dX11_readNoise_136 : decode cX11_readNoise 136 = .ok (.return_, 1) := by decide +kernel
def f_m_readNoise_129 (k33 : xM → Option (xM)) (m : xM) : Option (xM) :=
     (Option.bind (f_m_advance m) fun q5 =>
      k33 q5)
set_option maxRecDepth 1000000 in
set_option maxHeartbeats 4000000 in
theorem t_m_readNoise_129 {Γ : xG} {d : Nat} (hd9 : 5 ≤ d) (C : xC Γ lay_M RX11 cX11_readNoise 1 d) {m9 : xM} (hR : xRv Γ lay_M cX11_readNoise m9) {k33 : xM → Option (xM)} (hk33 : ∀ (m : xM), k33 m = some m9 → xW Γ lay_M 1 33 [(0, .inr (.inr (some 0)))] [] m) (m : xM) (h : f_m_readNoise_129 k33 m = some m9) : xW Γ lay_M 1 129 [(0, .inr (.inr (some 0)))] [] m := by
  unfold f_m_readNoise_129 at h
  refine x_aload_n C dX11_readNoise_129 rfl ?_
  obtain ⟨q5, hq5, h⟩ := x_bind h
  refine x_callVI C dX11_readNoise_130 (xin_21 _ (List.mem_of_getElem? (i := 2) rfl)) xy_X11_advance (xi_X11_advance) (xs_X11_advance) (by omega) (by decide) (b := 0) rfl ⟨_, _, rfl⟩ (av := []) rfl (Nat.le_of_ble_eq_true rfl) (c_m_advance _ _ _ hq5) rfl ?_
  refine x_goto C 33 dX11_readNoise_133 (by decide) ?_
  refine x_loc [(0, .inr (.inr (some 0)))] ⟨rfl, trivial⟩ ?_
  exact hk33 _ h
def f_m_readNoise_88 (k33 : xM → Option (xM)) (s0 : Int) (m : xM) : Option (xM) :=
     (Option.bind (f_m_check s0 3 m) fun q4 =>
      (if xw (q4 0 18) = 0 then (if xib 19 3530 then (Option.bind (f_m_value q4) fun q6 =>
      (if xib (25 + (q4 2 19)) 3530 then (if xib 19 3530 then (if xib 19 3530 then f_m_readNoise_129 k33 (xu (xu q4 2 (xix (25 + (q4 2 19))) q6) 2 19 (((xu q4 2 (xix (25 + (q4 2 19))) q6) 2 19) + 1))
      else none)
      else none)
      else none))
      else none)
      else f_m_readNoise_129 k33 q4))
set_option maxRecDepth 1000000 in
set_option maxHeartbeats 4000000 in
theorem t_m_readNoise_88 {Γ : xG} {d : Nat} (hd9 : 5 ≤ d) (C : xC Γ lay_M RX11 cX11_readNoise 1 d) {m9 : xM} (hR : xRv Γ lay_M cX11_readNoise m9) {k33 : xM → Option (xM)} (hk33 : ∀ (m : xM), k33 m = some m9 → xW Γ lay_M 1 33 [(0, .inr (.inr (some 0)))] [] m) (s0 : Int) (m : xM) (h : f_m_readNoise_88 k33 s0 m = some m9) : xW Γ lay_M 1 88 [(0, .inr (.inr (some 0)))] [.inl s0, .inr (.inr (some 0))] m := by
  unfold f_m_readNoise_88 at h
  refine x_iconst C dX11_readNoise_88 ?_
  obtain ⟨q4, hq4, h⟩ := x_bind h
  refine x_callVI C dX11_readNoise_89 (xin_20 _ (List.mem_of_getElem? (i := 17) rfl)) xy_X11_check (xi_X11_check) (xs_X11_check) (by omega) (by decide) (b := 0) rfl ⟨_, _, rfl⟩ (av := [.inl s0, .inl 3]) rfl (Nat.le_of_ble_eq_true rfl) (c_m_check _ _ _ _ _ hq4) rfl ?_
  refine x_aload_n C dX11_readNoise_92 rfl ?_
  refine x_getI C dX11_readNoise_93 fF_X11_301 rfl rfl ?_
  refine x_if_ne C 129 dX11_readNoise_96 (by decide) h (fun h => ?_) (fun h => ?_)
  · refine x_loc [(0, .inr (.inr (some 0)))] ⟨rfl, trivial⟩ ?_
    exact t_m_readNoise_129 hd9 C hR hk33 _ h
  · refine x_aload_n C dX11_readNoise_99 rfl ?_
    refine x_getR C dX11_readNoise_100 fF_X11_13 rfl rfl ?_
    refine x_bipush C dX11_readNoise_103 (by decide) ?_
    refine x_aload_n C dX11_readNoise_105 rfl ?_
    refine x_getR C dX11_readNoise_106 fF_X11_13 rfl rfl ?_
    refine x_bipush C dX11_readNoise_109 (by decide) ?_
    refine x_iaload C dX11_readNoise_111 rfl h (fun h => ?_)
    refine x_iadd C dX11_readNoise_112 ?_
    refine x_aload_n C dX11_readNoise_113 rfl ?_
    obtain ⟨q6, hq6, h⟩ := x_bind h
    refine x_callVI C dX11_readNoise_114 (xin_21 _ (List.mem_of_getElem? (i := 14) rfl)) xy_X11_value (xi_X11_value) (xs_X11_value) (by omega) (by decide) (b := 0) rfl ⟨_, _, rfl⟩ (av := []) rfl (Nat.le_of_ble_eq_true rfl) (c_m_value _ _ _ hq6) rfl ?_
    refine x_iastore C dX11_readNoise_117 rfl h (fun h => ?_)
    refine x_aload_n C dX11_readNoise_118 rfl ?_
    refine x_getR C dX11_readNoise_119 fF_X11_13 rfl rfl ?_
    refine x_bipush C dX11_readNoise_122 (by decide) ?_
    refine x_dup2 C dX11_readNoise_124 rfl rfl ?_
    refine x_iaload C dX11_readNoise_125 rfl h (fun h => ?_)
    refine x_iconst C dX11_readNoise_126 ?_
    refine x_iadd C dX11_readNoise_127 ?_
    refine x_iastore C dX11_readNoise_128 rfl h (fun h => ?_)
    refine x_loc [(0, .inr (.inr (some 0)))] ⟨rfl, trivial⟩ ?_
    exact t_m_readNoise_129 hd9 C hR hk33 _ h
def f_m_readNoise_83 (k33 : xM → Option (xM)) (m : xM) : Option (xM) :=
     f_m_readNoise_88 k33 1 m
set_option maxRecDepth 1000000 in
set_option maxHeartbeats 4000000 in
theorem t_m_readNoise_83 {Γ : xG} {d : Nat} (hd9 : 5 ≤ d) (C : xC Γ lay_M RX11 cX11_readNoise 1 d) {m9 : xM} (hR : xRv Γ lay_M cX11_readNoise m9) {k33 : xM → Option (xM)} (hk33 : ∀ (m : xM), k33 m = some m9 → xW Γ lay_M 1 33 [(0, .inr (.inr (some 0)))] [] m) (m : xM) (h : f_m_readNoise_83 k33 m = some m9) : xW Γ lay_M 1 83 [(0, .inr (.inr (some 0)))] [.inr (.inr (some 0))] m := by
  unfold f_m_readNoise_83 at h
  refine x_iconst C dX11_readNoise_83 ?_
  refine x_goto C 88 dX11_readNoise_84 (by decide) ?_
  refine x_loc [(0, .inr (.inr (some 0)))] ⟨rfl, trivial⟩ ?_
  exact t_m_readNoise_88 hd9 C hR hk33 _ _ h
def f_m_readNoise_33 : Nat → xM → Option (xM)
  | 0, _ => none
  | n + 1, m =>
     (if xw (m 0 18) = 0 then (if xw (m 0 17) = xw 2 then (Option.bind (f_m_value m) fun q1 =>
      (Option.bind (f_m_inRange q1 0 9 (xvw [] m)) fun q2 =>
      (Option.bind (f_m_check q2 2 m) fun q3 =>
      (if xw (q3 0 18) = 0 then (if xib 19 3530 then (if xw (q3 2 19) < xw 10 then f_m_readNoise_83 (f_m_readNoise_33 n) q3
      else f_m_readNoise_88 (f_m_readNoise_33 n) 0 q3)
      else none)
      else f_m_readNoise_83 (f_m_readNoise_33 n) q3))))
      else some m)
      else some m)
set_option maxRecDepth 1000000 in
set_option maxHeartbeats 4000000 in
theorem t_m_readNoise_33 {Γ : xG} {d : Nat} (hd9 : 5 ≤ d) (C : xC Γ lay_M RX11 cX11_readNoise 1 d) {m9 : xM} (hR : xRv Γ lay_M cX11_readNoise m9) : ∀ (n : Nat) (m : xM), f_m_readNoise_33 n m = some m9 → xW Γ lay_M 1 33 [(0, .inr (.inr (some 0)))] [] m := by
  intro n
  induction n with
  | zero => intro _ h; cases h
  | succ n ih =>
    intro m h
    rw [f_m_readNoise_33] at h
    refine x_aload_n C dX11_readNoise_33 rfl ?_
    refine x_getI C dX11_readNoise_34 fF_X11_301 rfl rfl ?_
    refine x_if_ne C 136 dX11_readNoise_37 (by decide) h (fun h => ?_) (fun h => ?_)
    · exact x_returnV hR dX11_readNoise_136 h
    · refine x_aload_n C dX11_readNoise_40 rfl ?_
      refine x_getI C dX11_readNoise_41 fF_X11_292 rfl rfl ?_
      refine x_iconst C dX11_readNoise_44 ?_
      refine x_icmp_ne C 136 dX11_readNoise_45 (by decide) h (fun h => ?_) (fun h => ?_)
      · exact x_returnV hR dX11_readNoise_136 h
      · refine x_aload_n C dX11_readNoise_48 rfl ?_
        refine x_aload_n C dX11_readNoise_49 rfl ?_
        obtain ⟨q1, hq1, h⟩ := x_bind h
        refine x_callVI C dX11_readNoise_50 (xin_21 _ (List.mem_of_getElem? (i := 14) rfl)) xy_X11_value (xi_X11_value) (xs_X11_value) (by omega) (by decide) (b := 0) rfl ⟨_, _, rfl⟩ (av := []) rfl (Nat.le_of_ble_eq_true rfl) (c_m_value _ _ _ hq1) rfl ?_
        refine x_iconst C dX11_readNoise_53 ?_
        refine x_bipush C dX11_readNoise_54 (by decide) ?_
        obtain ⟨q2, hq2, h⟩ := x_bind h
        refine x_callSp C dX11_readNoise_56 (xin_18 _ (List.mem_of_getElem? (i := 19) rfl)) xy_X11_inRange (xt_X11_inRange) [] xv_49 (by omega) (by decide) (av := [.inl q1, .inl 0, .inl 9]) rfl (Nat.le_of_ble_eq_true rfl) (c_m_inRange _ _ _ _ _ _ hq2) rfl ?_
        refine x_iconst C dX11_readNoise_59 ?_
        obtain ⟨q3, hq3, h⟩ := x_bind h
        refine x_callVI C dX11_readNoise_60 (xin_20 _ (List.mem_of_getElem? (i := 17) rfl)) xy_X11_check (xi_X11_check) (xs_X11_check) (by omega) (by decide) (b := 0) rfl ⟨_, _, rfl⟩ (av := [.inl q2, .inl 2]) rfl (Nat.le_of_ble_eq_true rfl) (c_m_check _ _ _ _ _ hq3) rfl ?_
        refine x_aload_n C dX11_readNoise_63 rfl ?_
        refine x_aload_n C dX11_readNoise_64 rfl ?_
        refine x_getI C dX11_readNoise_65 fF_X11_301 rfl rfl ?_
        refine x_if_ne C 83 dX11_readNoise_68 (by decide) h (fun h => ?_) (fun h => ?_)
        · refine x_loc [(0, .inr (.inr (some 0)))] ⟨rfl, trivial⟩ ?_
          exact t_m_readNoise_83 hd9 C hR ih _ h
        · refine x_aload_n C dX11_readNoise_71 rfl ?_
          refine x_getR C dX11_readNoise_72 fF_X11_13 rfl rfl ?_
          refine x_bipush C dX11_readNoise_75 (by decide) ?_
          refine x_iaload C dX11_readNoise_77 rfl h (fun h => ?_)
          refine x_bipush C dX11_readNoise_78 (by decide) ?_
          refine x_icmp_ge C 87 dX11_readNoise_80 (by decide) h (fun h => ?_) (fun h => ?_)
          · refine x_iconst C dX11_readNoise_87 ?_
            refine x_loc [(0, .inr (.inr (some 0)))] ⟨rfl, trivial⟩ ?_
            exact t_m_readNoise_88 hd9 C hR ih _ _ h
          · refine x_loc [(0, .inr (.inr (some 0)))] ⟨rfl, trivial⟩ ?_
            exact t_m_readNoise_83 hd9 C hR ih _ h
def f_m_readNoise_29 (s0 : Int) (m : xM) : Option (xM) :=
     (Option.bind (f_m_check s0 1 m) fun q0 =>
      f_m_readNoise_33 fu q0)
set_option maxRecDepth 1000000 in
set_option maxHeartbeats 4000000 in
theorem t_m_readNoise_29 {Γ : xG} {d : Nat} (hd9 : 5 ≤ d) (C : xC Γ lay_M RX11 cX11_readNoise 1 d) {m9 : xM} (hR : xRv Γ lay_M cX11_readNoise m9) (s0 : Int) (m : xM) (h : f_m_readNoise_29 s0 m = some m9) : xW Γ lay_M 1 29 [(0, .inr (.inr (some 0)))] [.inl s0, .inr (.inr (some 0))] m := by
  unfold f_m_readNoise_29 at h
  refine x_iconst C dX11_readNoise_29 ?_
  obtain ⟨q0, hq0, h⟩ := x_bind h
  refine x_callVI C dX11_readNoise_30 (xin_20 _ (List.mem_of_getElem? (i := 17) rfl)) xy_X11_check (xi_X11_check) (xs_X11_check) (by omega) (by decide) (b := 0) rfl ⟨_, _, rfl⟩ (av := [.inl s0, .inl 1]) rfl (Nat.le_of_ble_eq_true rfl) (c_m_check _ _ _ _ _ hq0) rfl ?_
  refine x_loc [(0, .inr (.inr (some 0)))] ⟨rfl, trivial⟩ ?_
  exact t_m_readNoise_33 hd9 C hR fu _ h
def f_m_readNoise_24 (m : xM) : Option (xM) :=
     f_m_readNoise_29 1 m
set_option maxRecDepth 1000000 in
set_option maxHeartbeats 4000000 in
theorem t_m_readNoise_24 {Γ : xG} {d : Nat} (hd9 : 5 ≤ d) (C : xC Γ lay_M RX11 cX11_readNoise 1 d) {m9 : xM} (hR : xRv Γ lay_M cX11_readNoise m9) (m : xM) (h : f_m_readNoise_24 m = some m9) : xW Γ lay_M 1 24 [(0, .inr (.inr (some 0)))] [.inr (.inr (some 0))] m := by
  unfold f_m_readNoise_24 at h
  refine x_iconst C dX11_readNoise_24 ?_
  refine x_goto C 29 dX11_readNoise_25 (by decide) ?_
  refine x_loc [(0, .inr (.inr (some 0)))] ⟨rfl, trivial⟩ ?_
  exact t_m_readNoise_29 hd9 C hR _ _ h
def f_m_readNoise (m : xM) : Option (xM) :=
     (if xib 19 3530 then (if xw (m 0 18) = 0 then (if xw (m 0 17) = xw 2 then f_m_readNoise_24 (xu m 2 19 0)
      else f_m_readNoise_29 0 (xu m 2 19 0))
      else f_m_readNoise_24 (xu m 2 19 0))
      else none)
set_option maxRecDepth 1000000 in
set_option maxHeartbeats 4000000 in
theorem t_m_readNoise {Γ : xG} {d : Nat} (hd9 : 5 ≤ d) (C : xC Γ lay_M RX11 cX11_readNoise 1 d) {m9 : xM} (hR : xRv Γ lay_M cX11_readNoise m9) (m : xM) (h : f_m_readNoise m = some m9) : xW Γ lay_M 1 0 [(0, .inr (.inr (some 0)))] [] m := by
  unfold f_m_readNoise at h
  refine x_aload_n C dX11_readNoise_0 rfl ?_
  refine x_getR C dX11_readNoise_1 fF_X11_13 rfl rfl ?_
  refine x_bipush C dX11_readNoise_4 (by decide) ?_
  refine x_iconst C dX11_readNoise_6 ?_
  refine x_iastore C dX11_readNoise_7 rfl h (fun h => ?_)
  refine x_aload_n C dX11_readNoise_8 rfl ?_
  refine x_aload_n C dX11_readNoise_9 rfl ?_
  refine x_getI C dX11_readNoise_10 fF_X11_301 rfl rfl ?_
  refine x_if_ne C 24 dX11_readNoise_13 (by decide) h (fun h => ?_) (fun h => ?_)
  · refine x_loc [(0, .inr (.inr (some 0)))] ⟨rfl, trivial⟩ ?_
    exact t_m_readNoise_24 hd9 C hR _ h
  · refine x_aload_n C dX11_readNoise_16 rfl ?_
    refine x_getI C dX11_readNoise_17 fF_X11_292 rfl rfl ?_
    refine x_iconst C dX11_readNoise_20 ?_
    refine x_icmp_ne C 28 dX11_readNoise_21 (by decide) h (fun h => ?_) (fun h => ?_)
    · refine x_iconst C dX11_readNoise_28 ?_
      refine x_loc [(0, .inr (.inr (some 0)))] ⟨rfl, trivial⟩ ?_
      exact t_m_readNoise_29 hd9 C hR _ _ h
    · refine x_loc [(0, .inr (.inr (some 0)))] ⟨rfl, trivial⟩ ?_
      exact t_m_readNoise_24 hd9 C hR _ h
theorem c_m_readNoise (l : Launch) (m m9 : xM) (h : f_m_readNoise m = some m9) : xMet l yX11_readNoise cX11_readNoise 1 none 5 lay_M [.inr (.inr (some 0))] m none m9 :=
  xMet_v (by decide +kernel) (Nat.le_of_ble_eq_true rfl) (fun Γ C hR hl9 => t_m_readNoise (Nat.le_refl _) C hR m h)
/-! ===== yX11_readOne ===== -/
theorem dX11_readOne_0 : decode cX11_readOne 0 = .ok (.aload_n 0, 1) := by decide +kernel
theorem dX11_readOne_1 : decode cX11_readOne 1 = .ok (.iload_n 2, 1) := by decide +kernel
theorem dX11_readOne_2 : decode cX11_readOne 2 = .ok (.iload_n 3, 1) := by decide +kernel
theorem dX11_readOne_3 : decode cX11_readOne 3 = .ok (.invokevirtual 345, 3) := by decide +kernel
theorem dX11_readOne_6 : decode cX11_readOne 6 = .ok (.istore 4, 2) := by decide +kernel
theorem dX11_readOne_8 : decode cX11_readOne 8 = .ok (.aload_n 0, 1) := by decide +kernel
theorem dX11_readOne_9 : decode cX11_readOne 9 = .ok (.getfield 13, 3) := by decide +kernel
theorem dX11_readOne_12 : decode cX11_readOne 12 = .ok (.iload_n 1, 1) := by decide +kernel
theorem dX11_readOne_13 : decode cX11_readOne 13 = .ok (.aload_n 0, 1) := by decide +kernel
theorem dX11_readOne_14 : decode cX11_readOne 14 = .ok (.getfield 301, 3) := by decide +kernel
theorem dX11_readOne_17 : decode cX11_readOne 17 = .ok (.ifCond .ne 8, 3) := by decide +kernel
theorem dX11_readOne_20 : decode cX11_readOne 20 = .ok (.iload 4, 2) := by decide +kernel
theorem dX11_readOne_22 : decode cX11_readOne 22 = .ok (.goto 9, 3) := by decide +kernel
theorem dX11_readOne_25 : decode cX11_readOne 25 = .ok (.aload_n 0, 1) := by decide +kernel
theorem dX11_readOne_26 : decode cX11_readOne 26 = .ok (.getfield 13, 3) := by decide +kernel
theorem dX11_readOne_29 : decode cX11_readOne 29 = .ok (.iload_n 1, 1) := by decide +kernel
theorem dX11_readOne_30 : decode cX11_readOne 30 = .ok (.iaload, 1) := by decide +kernel
theorem dX11_readOne_31 : decode cX11_readOne 31 = .ok (.iastore, 1) := by decide +kernel
theorem dX11_readOne_32 : decode cX11_readOne 32 = .ok (.return_, 1) := by decide +kernel
def f_m_readOne_31 (f : Int) (a : Int) (b : Int) (s0 : Int) (s1 : Int) (m : xM) : Option (xM) :=
     (if xib s1 3530 then some (xu m 2 (xix s1) s0)
      else none)
set_option maxRecDepth 1000000 in
set_option maxHeartbeats 4000000 in
theorem t_m_readOne_31 {Γ : xG} {d : Nat} (hd9 : 6 ≤ d) (C : xC Γ lay_M RX11 cX11_readOne 5 d) (f : Int) (a : Int) (b : Int) {m9 : xM} (hR : xRv Γ lay_M cX11_readOne m9) (s0 : Int) (s1 : Int) (m : xM) (h : f_m_readOne_31 f a b s0 s1 m = some m9) : xW Γ lay_M 5 31 [] [.inl s0, .inl s1, .inr (.inr (some 2))] m := by
  unfold f_m_readOne_31 at h
  refine x_iastore C dX11_readOne_31 rfl h (fun h => ?_)
  exact x_returnV hR dX11_readOne_32 h
def f_m_readOne (f : Int) (a : Int) (b : Int) (m : xM) : Option (xM) :=
     (Option.bind (f_m_readNumber a b m) fun q0 =>
      (if xw (q0.2 0 18) = 0 then f_m_readOne_31 f a b q0.1 f q0.2
      else (if xib f 3530 then f_m_readOne_31 f a b (q0.2 2 (xix f)) f q0.2
      else none)))
set_option maxRecDepth 1000000 in
set_option maxHeartbeats 4000000 in
theorem t_m_readOne {Γ : xG} {d : Nat} (hd9 : 6 ≤ d) (C : xC Γ lay_M RX11 cX11_readOne 5 d) (f : Int) (a : Int) (b : Int) {m9 : xM} (hR : xRv Γ lay_M cX11_readOne m9) (m : xM) (h : f_m_readOne f a b m = some m9) : xW Γ lay_M 5 0 [(0, .inr (.inr (some 0))), (1, .inl f), (2, .inl a), (3, .inl b)] [] m := by
  unfold f_m_readOne at h
  refine x_aload_n C dX11_readOne_0 rfl ?_
  refine x_iload_n C dX11_readOne_1 rfl ?_
  refine x_iload_n C dX11_readOne_2 rfl ?_
  obtain ⟨q0, hq0, h⟩ := x_bind h
  refine x_callVI C dX11_readOne_3 (xin_21 _ (List.mem_of_getElem? (i := 10) rfl)) xy_X11_readNumber (xi_X11_readNumber) (xs_X11_readNumber) (by omega) (by decide) (b := 0) rfl ⟨_, _, rfl⟩ (av := [.inl a, .inl b]) rfl (Nat.le_of_ble_eq_true rfl) (c_m_readNumber _ _ _ _ q0.1 q0.2 hq0) rfl ?_
  refine x_istore C dX11_readOne_6 (by decide) ?_
  refine x_aload_n C dX11_readOne_8 rfl ?_
  refine x_getR C dX11_readOne_9 fF_X11_13 rfl rfl ?_
  refine x_iload_n C dX11_readOne_12 rfl ?_
  refine x_aload_n C dX11_readOne_13 rfl ?_
  refine x_getI C dX11_readOne_14 fF_X11_301 rfl rfl ?_
  refine x_if_ne C 25 dX11_readOne_17 (by decide) h (fun h => ?_) (fun h => ?_)
  · refine x_aload_n C dX11_readOne_25 rfl ?_
    refine x_getR C dX11_readOne_26 fF_X11_13 rfl rfl ?_
    refine x_iload_n C dX11_readOne_29 rfl ?_
    refine x_iaload C dX11_readOne_30 rfl h (fun h => ?_)
    refine x_loc [] trivial ?_
    exact t_m_readOne_31 hd9 C _ _ _ hR _ _ _ h
  · refine x_iload C dX11_readOne_20 rfl ?_
    refine x_goto C 31 dX11_readOne_22 (by decide) ?_
    refine x_loc [] trivial ?_
    exact t_m_readOne_31 hd9 C _ _ _ hR _ _ _ h
theorem c_m_readOne (l : Launch) (f : Int) (a : Int) (b : Int) (m m9 : xM) (h : f_m_readOne f a b m = some m9) : xMet l yX11_readOne cX11_readOne 5 none 6 lay_M [.inr (.inr (some 0)), .inl f, .inl a, .inl b] m none m9 :=
  xMet_v (by decide +kernel) (Nat.le_of_ble_eq_true rfl) (fun Γ C hR hl9 => t_m_readOne (Nat.le_refl _) C f a b hR m h)
/-! ===== yX11_readClause ===== -/
theorem xy_X11_accept : xY yX11_accept cX11_accept 3 (some .boolean) 1 := ⟨(xin_22 _ (List.mem_of_getElem? (i := 23) rfl)), (xin_1 _ (List.mem_of_getElem? (i := 5) rfl)), by decide, by decide, by decide +kernel⟩
theorem xi_X11_accept : Cond.instanceMethod yX11_accept ∈ wsL_law := (xin_22 _ (List.mem_of_getElem? (i := 21) rfl))
theorem xs_X11_accept : Cond.selects yX11_accept.cls yX11_accept yX11_accept ∈ wsL_law := (xin_22 _ (List.mem_of_getElem? (i := 22) rfl))
theorem xy_X11_expectWord : xY yX11_expectWord cX11_expectWord 2 none 1 := ⟨(xin_20 _ (List.mem_of_getElem? (i := 10) rfl)), (xin_1 _ (List.mem_of_getElem? (i := 5) rfl)), by decide, by decide, by decide +kernel⟩
theorem xi_X11_expectWord : Cond.instanceMethod yX11_expectWord ∈ wsL_law := (xin_20 _ (List.mem_of_getElem? (i := 8) rfl))
theorem xs_X11_expectWord : Cond.selects yX11_expectWord.cls yX11_expectWord yX11_expectWord ∈ wsL_law := (xin_20 _ (List.mem_of_getElem? (i := 9) rfl))
theorem xy_X11_readNoise : xY yX11_readNoise cX11_readNoise 1 none 0 := ⟨(xin_23 _ (List.mem_of_getElem? (i := 11) rfl)), (xin_1 _ (List.mem_of_getElem? (i := 5) rfl)), by decide, by decide, by decide +kernel⟩
theorem xi_X11_readNoise : Cond.instanceMethod yX11_readNoise ∈ wsL_law := (xin_23 _ (List.mem_of_getElem? (i := 9) rfl))
theorem xs_X11_readNoise : Cond.selects yX11_readNoise.cls yX11_readNoise yX11_readNoise ∈ wsL_law := (xin_23 _ (List.mem_of_getElem? (i := 10) rfl))
theorem xy_X11_expect : xY yX11_expect cX11_expect 2 none 1 := ⟨(xin_22 _ (List.mem_of_getElem? (i := 3) rfl)), (xin_1 _ (List.mem_of_getElem? (i := 5) rfl)), by decide, by decide, by decide +kernel⟩
theorem xi_X11_expect : Cond.instanceMethod yX11_expect ∈ wsL_law := (xin_22 _ (List.mem_of_getElem? (i := 1) rfl))
theorem xs_X11_expect : Cond.selects yX11_expect.cls yX11_expect yX11_expect ∈ wsL_law := (xin_22 _ (List.mem_of_getElem? (i := 2) rfl))
theorem xy_X11_readOne : xY yX11_readOne cX11_readOne 5 none 3 := ⟨(xin_21 _ (List.mem_of_getElem? (i := 9) rfl)), (xin_1 _ (List.mem_of_getElem? (i := 5) rfl)), by decide, by decide, by decide +kernel⟩
theorem xi_X11_readOne : Cond.instanceMethod yX11_readOne ∈ wsL_law := (xin_21 _ (List.mem_of_getElem? (i := 7) rfl))
theorem xs_X11_readOne : Cond.selects yX11_readOne.cls yX11_readOne yX11_readOne ∈ wsL_law := (xin_21 _ (List.mem_of_getElem? (i := 8) rfl))
theorem xy_X11_readDelay : xY yX11_readDelay cX11_readDelay 3 none 0 := ⟨(xin_23 _ (List.mem_of_getElem? (i := 7) rfl)), (xin_1 _ (List.mem_of_getElem? (i := 5) rfl)), by decide, by decide, by decide +kernel⟩
theorem xi_X11_readDelay : Cond.instanceMethod yX11_readDelay ∈ wsL_law := (xin_23 _ (List.mem_of_getElem? (i := 5) rfl))
theorem xs_X11_readDelay : Cond.selects yX11_readDelay.cls yX11_readDelay yX11_readDelay ∈ wsL_law := (xin_23 _ (List.mem_of_getElem? (i := 6) rfl))
theorem xy_X11_readTrain : xY yX11_readTrain cX11_readTrain 3 none 0 := ⟨(xin_23 _ (List.mem_of_getElem? (i := 3) rfl)), (xin_1 _ (List.mem_of_getElem? (i := 5) rfl)), by decide, by decide, by decide +kernel⟩
theorem xi_X11_readTrain : Cond.instanceMethod yX11_readTrain ∈ wsL_law := (xin_23 _ (List.mem_of_getElem? (i := 1) rfl))
theorem xs_X11_readTrain : Cond.selects yX11_readTrain.cls yX11_readTrain yX11_readTrain ∈ wsL_law := (xin_23 _ (List.mem_of_getElem? (i := 2) rfl))
theorem dX11_readClause_0 : decode cX11_readClause 0 = .ok (.aload_n 0, 1) := by decide +kernel
theorem dX11_readClause_1 : decode cX11_readClause 1 = .ok (.ldc_w 348, 3) := by decide +kernel
theorem dX11_readClause_4 : decode cX11_readClause 4 = .ok (.invokevirtual 349, 3) := by decide +kernel
theorem dX11_readClause_7 : decode cX11_readClause 7 = .ok (.ifCond .eq 10, 3) := by decide +kernel
theorem dX11_readClause_10 : decode cX11_readClause 10 = .ok (.aload_n 0, 1) := by decide +kernel
theorem dX11_readClause_11 : decode cX11_readClause 11 = .ok (.invokevirtual 352, 3) := by decide +kernel
theorem dX11_readClause_14 : decode cX11_readClause 14 = .ok (.goto 140, 3) := by decide +kernel
theorem dX11_readClause_17 : decode cX11_readClause 17 = .ok (.aload_n 0, 1) := by decide +kernel
theorem dX11_readClause_18 : decode cX11_readClause 18 = .ok (.ldc_w 355, 3) := by decide +kernel
theorem dX11_readClause_21 : decode cX11_readClause 21 = .ok (.invokevirtual 349, 3) := by decide +kernel
theorem dX11_readClause_24 : decode cX11_readClause 24 = .ok (.ifCond .eq 15, 3) := by decide +kernel
theorem dX11_readClause_27 : decode cX11_readClause 27 = .ok (.aload_n 0, 1) := by decide +kernel
theorem dX11_readClause_28 : decode cX11_readClause 28 = .ok (.bipush 12, 2) := by decide +kernel
theorem dX11_readClause_30 : decode cX11_readClause 30 = .ok (.iconst 0, 1) := by decide +kernel
theorem dX11_readClause_31 : decode cX11_readClause 31 = .ok (.bipush 9, 2) := by decide +kernel
theorem dX11_readClause_33 : decode cX11_readClause 33 = .ok (.invokevirtual 357, 3) := by decide +kernel
theorem dX11_readClause_36 : decode cX11_readClause 36 = .ok (.goto 118, 3) := by decide +kernel
theorem dX11_readClause_39 : decode cX11_readClause 39 = .ok (.aload_n 0, 1) := by decide +kernel
theorem dX11_readClause_40 : decode cX11_readClause 40 = .ok (.ldc_w 361, 3) := by decide +kernel
theorem dX11_readClause_43 : decode cX11_readClause 43 = .ok (.invokevirtual 349, 3) := by decide +kernel
theorem dX11_readClause_46 : decode cX11_readClause 46 = .ok (.ifCond .eq 15, 3) := by decide +kernel
theorem dX11_readClause_49 : decode cX11_readClause 49 = .ok (.aload_n 0, 1) := by decide +kernel
theorem dX11_readClause_50 : decode cX11_readClause 50 = .ok (.bipush 13, 2) := by decide +kernel
theorem dX11_readClause_52 : decode cX11_readClause 52 = .ok (.iconst 0, 1) := by decide +kernel
theorem dX11_readClause_53 : decode cX11_readClause 53 = .ok (.bipush 50, 2) := by decide +kernel
theorem dX11_readClause_55 : decode cX11_readClause 55 = .ok (.invokevirtual 357, 3) := by decide +kernel
theorem dX11_readClause_58 : decode cX11_readClause 58 = .ok (.goto 96, 3) := by decide +kernel
theorem dX11_readClause_61 : decode cX11_readClause 61 = .ok (.aload_n 0, 1) := by decide +kernel
theorem dX11_readClause_62 : decode cX11_readClause 62 = .ok (.ldc_w 363, 3) := by decide +kernel
theorem dX11_readClause_65 : decode cX11_readClause 65 = .ok (.invokevirtual 349, 3) := by decide +kernel
theorem dX11_readClause_68 : decode cX11_readClause 68 = .ok (.ifCond .eq 15, 3) := by decide +kernel
theorem dX11_readClause_71 : decode cX11_readClause 71 = .ok (.aload_n 0, 1) := by decide +kernel
theorem dX11_readClause_72 : decode cX11_readClause 72 = .ok (.bipush 14, 2) := by decide +kernel
theorem dX11_readClause_74 : decode cX11_readClause 74 = .ok (.iconst 1, 1) := by decide +kernel
theorem dX11_readClause_75 : decode cX11_readClause 75 = .ok (.bipush 7, 2) := by decide +kernel
theorem dX11_readClause_77 : decode cX11_readClause 77 = .ok (.invokevirtual 357, 3) := by decide +kernel
theorem dX11_readClause_80 : decode cX11_readClause 80 = .ok (.goto 74, 3) := by decide +kernel
theorem dX11_readClause_83 : decode cX11_readClause 83 = .ok (.aload_n 0, 1) := by decide +kernel
theorem dX11_readClause_84 : decode cX11_readClause 84 = .ok (.ldc_w 365, 3) := by decide +kernel
theorem dX11_readClause_87 : decode cX11_readClause 87 = .ok (.invokevirtual 349, 3) := by decide +kernel
theorem dX11_readClause_90 : decode cX11_readClause 90 = .ok (.ifCond .eq 10, 3) := by decide +kernel
theorem dX11_readClause_93 : decode cX11_readClause 93 = .ok (.aload_n 0, 1) := by decide +kernel
theorem dX11_readClause_94 : decode cX11_readClause 94 = .ok (.invokevirtual 367, 3) := by decide +kernel
theorem dX11_readClause_97 : decode cX11_readClause 97 = .ok (.goto 57, 3) := by decide +kernel
theorem dX11_readClause_100 : decode cX11_readClause 100 = .ok (.aload_n 0, 1) := by decide +kernel
theorem dX11_readClause_101 : decode cX11_readClause 101 = .ok (.ldc_w 370, 3) := by decide +kernel
theorem dX11_readClause_104 : decode cX11_readClause 104 = .ok (.invokevirtual 349, 3) := by decide +kernel
theorem dX11_readClause_107 : decode cX11_readClause 107 = .ok (.ifCond .eq 14, 3) := by decide +kernel
theorem dX11_readClause_110 : decode cX11_readClause 110 = .ok (.aload_n 0, 1) := by decide +kernel
theorem dX11_readClause_111 : decode cX11_readClause 111 = .ok (.bipush 17, 2) := by decide +kernel
theorem dX11_readClause_113 : decode cX11_readClause 113 = .ok (.iconst 1, 1) := by decide +kernel
theorem dX11_readClause_114 : decode cX11_readClause 114 = .ok (.iconst 5, 1) := by decide +kernel
theorem dX11_readClause_115 : decode cX11_readClause 115 = .ok (.invokevirtual 357, 3) := by decide +kernel
theorem dX11_readClause_118 : decode cX11_readClause 118 = .ok (.goto 36, 3) := by decide +kernel
theorem dX11_readClause_121 : decode cX11_readClause 121 = .ok (.aload_n 0, 1) := by decide +kernel
theorem dX11_readClause_122 : decode cX11_readClause 122 = .ok (.ldc_w 371, 3) := by decide +kernel
theorem dX11_readClause_125 : decode cX11_readClause 125 = .ok (.invokevirtual 349, 3) := by decide +kernel
theorem dX11_readClause_128 : decode cX11_readClause 128 = .ok (.ifCond .eq 15, 3) := by decide +kernel
theorem dX11_readClause_131 : decode cX11_readClause 131 = .ok (.aload_n 0, 1) := by decide +kernel
theorem dX11_readClause_132 : decode cX11_readClause 132 = .ok (.bipush 18, 2) := by decide +kernel
theorem dX11_readClause_134 : decode cX11_readClause 134 = .ok (.iconst 1, 1) := by decide +kernel
theorem dX11_readClause_135 : decode cX11_readClause 135 = .ok (.bipush 50, 2) := by decide +kernel
theorem dX11_readClause_137 : decode cX11_readClause 137 = .ok (.invokevirtual 357, 3) := by decide +kernel
theorem dX11_readClause_140 : decode cX11_readClause 140 = .ok (.goto 14, 3) := by decide +kernel
theorem dX11_readClause_143 : decode cX11_readClause 143 = .ok (.aload_n 0, 1) := by decide +kernel
theorem dX11_readClause_144 : decode cX11_readClause 144 = .ok (.ldc_w 373, 3) := by decide +kernel
theorem dX11_readClause_147 : decode cX11_readClause 147 = .ok (.invokevirtual 375, 3) := by decide +kernel
theorem dX11_readClause_150 : decode cX11_readClause 150 = .ok (.aload_n 0, 1) := by decide +kernel
theorem dX11_readClause_151 : decode cX11_readClause 151 = .ok (.invokevirtual 378, 3) := by decide +kernel
theorem dX11_readClause_154 : decode cX11_readClause 154 = .ok (.aload_n 0, 1) := by decide +kernel
theorem dX11_readClause_155 : decode cX11_readClause 155 = .ok (.bipush 59, 2) := by decide +kernel
theorem dX11_readClause_157 : decode cX11_readClause 157 = .ok (.invokevirtual 381, 3) := by decide +kernel
theorem dX11_readClause_160 : decode cX11_readClause 160 = .ok (.return_, 1) := by decide +kernel
def f_m_readClause_154 (m : xM) : Option (xM) :=
     (Option.bind (f_m_expect 59 m) fun q9 =>
      some q9)
set_option maxRecDepth 1000000 in
set_option maxHeartbeats 4000000 in
theorem t_m_readClause_154 {Γ : xG} {d : Nat} (hd9 : 7 ≤ d) (C : xC Γ lay_M RX11 cX11_readClause 1 d) {m9 : xM} (hR : xRv Γ lay_M cX11_readClause m9) (m : xM) (h : f_m_readClause_154 m = some m9) : xW Γ lay_M 1 154 [(0, .inr (.inr (some 0)))] [] m := by
  unfold f_m_readClause_154 at h
  refine x_aload_n C dX11_readClause_154 rfl ?_
  refine x_bipush C dX11_readClause_155 (by decide) ?_
  obtain ⟨q9, hq9, h⟩ := x_bind h
  refine x_callVI C dX11_readClause_157 (xin_22 _ (List.mem_of_getElem? (i := 0) rfl)) xy_X11_expect (xi_X11_expect) (xs_X11_expect) (by omega) (by decide) (b := 0) rfl ⟨_, _, rfl⟩ (av := [.inl 59]) rfl (Nat.le_of_ble_eq_true rfl) (c_m_expect _ _ _ _ hq9) rfl ?_
  exact x_returnV hR dX11_readClause_160 h
def f_m_readClause (m : xM) : Option (xM) :=
     (Option.bind (f_m_accept 12 m) fun q0 =>
      (if xw q0.1 = 0 then (Option.bind (f_m_accept 13 q0.2) fun q1 =>
      (if xw q1.1 = 0 then (Option.bind (f_m_accept 14 q1.2) fun q2 =>
      (if xw q2.1 = 0 then (Option.bind (f_m_accept 15 q2.2) fun q3 =>
      (if xw q3.1 = 0 then (Option.bind (f_m_accept 16 q3.2) fun q4 =>
      (if xw q4.1 = 0 then (Option.bind (f_m_accept 17 q4.2) fun q5 =>
      (if xw q5.1 = 0 then (Option.bind (f_m_accept 18 q5.2) fun q6 =>
      (if xw q6.1 = 0 then (Option.bind (f_m_expectWord 19 q6.2) fun q7 =>
      (Option.bind (f_m_readNoise q7) fun q8 =>
      f_m_readClause_154 q8))
      else (Option.bind (f_m_readOne 18 1 50 q6.2) fun q10 =>
      f_m_readClause_154 q10)))
      else (Option.bind (f_m_readOne 17 1 5 q5.2) fun q11 =>
      f_m_readClause_154 q11)))
      else (Option.bind (f_m_readDelay q4.2) fun q12 =>
      f_m_readClause_154 q12)))
      else (Option.bind (f_m_readOne 14 1 7 q3.2) fun q13 =>
      f_m_readClause_154 q13)))
      else (Option.bind (f_m_readOne 13 0 50 q2.2) fun q14 =>
      f_m_readClause_154 q14)))
      else (Option.bind (f_m_readOne 12 0 9 q1.2) fun q15 =>
      f_m_readClause_154 q15)))
      else (Option.bind (f_m_readTrain q0.2) fun q16 =>
      f_m_readClause_154 q16)))
set_option maxRecDepth 1000000 in
set_option maxHeartbeats 4000000 in
theorem t_m_readClause {Γ : xG} {d : Nat} (hd9 : 7 ≤ d) (C : xC Γ lay_M RX11 cX11_readClause 1 d) {m9 : xM} (hR : xRv Γ lay_M cX11_readClause m9) (m : xM) (h : f_m_readClause m = some m9) : xW Γ lay_M 1 0 [(0, .inr (.inr (some 0)))] [] m := by
  unfold f_m_readClause at h
  refine x_aload_n C dX11_readClause_0 rfl ?_
  refine x_ldcSW C "train" 12 dX11_readClause_1 (List.mem_of_getElem? (i := 35) rfl) ?_
  obtain ⟨q0, hq0, h⟩ := x_bind h
  refine x_callVI C dX11_readClause_4 (xin_22 _ (List.mem_of_getElem? (i := 20) rfl)) xy_X11_accept (xi_X11_accept) (xs_X11_accept) (by omega) (by decide) (b := 0) rfl ⟨_, _, rfl⟩ (av := [.inr (.inr (some 1012))]) rfl (Nat.le_of_ble_eq_true rfl) (c_m_accept _ 12 (by decide) _ q0.1 q0.2 hq0) rfl ?_
  refine x_if_eq C 17 dX11_readClause_7 (by decide) h (fun h => ?_) (fun h => ?_)
  · refine x_aload_n C dX11_readClause_17 rfl ?_
    refine x_ldcSW C "retries" 13 dX11_readClause_18 (List.mem_of_getElem? (i := 36) rfl) ?_
    obtain ⟨q1, hq1, h⟩ := x_bind h
    refine x_callVI C dX11_readClause_21 (xin_22 _ (List.mem_of_getElem? (i := 20) rfl)) xy_X11_accept (xi_X11_accept) (xs_X11_accept) (by omega) (by decide) (b := 0) rfl ⟨_, _, rfl⟩ (av := [.inr (.inr (some 1013))]) rfl (Nat.le_of_ble_eq_true rfl) (c_m_accept _ 13 (by decide) _ q1.1 q1.2 hq1) rfl ?_
    refine x_if_eq C 39 dX11_readClause_24 (by decide) h (fun h => ?_) (fun h => ?_)
    · refine x_aload_n C dX11_readClause_39 rfl ?_
      refine x_ldcSW C "hold" 14 dX11_readClause_40 (List.mem_of_getElem? (i := 37) rfl) ?_
      obtain ⟨q2, hq2, h⟩ := x_bind h
      refine x_callVI C dX11_readClause_43 (xin_22 _ (List.mem_of_getElem? (i := 20) rfl)) xy_X11_accept (xi_X11_accept) (xs_X11_accept) (by omega) (by decide) (b := 0) rfl ⟨_, _, rfl⟩ (av := [.inr (.inr (some 1014))]) rfl (Nat.le_of_ble_eq_true rfl) (c_m_accept _ 14 (by decide) _ q2.1 q2.2 hq2) rfl ?_
      refine x_if_eq C 61 dX11_readClause_46 (by decide) h (fun h => ?_) (fun h => ?_)
      · refine x_aload_n C dX11_readClause_61 rfl ?_
        refine x_ldcSW C "window" 15 dX11_readClause_62 (List.mem_of_getElem? (i := 38) rfl) ?_
        obtain ⟨q3, hq3, h⟩ := x_bind h
        refine x_callVI C dX11_readClause_65 (xin_22 _ (List.mem_of_getElem? (i := 20) rfl)) xy_X11_accept (xi_X11_accept) (xs_X11_accept) (by omega) (by decide) (b := 0) rfl ⟨_, _, rfl⟩ (av := [.inr (.inr (some 1015))]) rfl (Nat.le_of_ble_eq_true rfl) (c_m_accept _ 15 (by decide) _ q3.1 q3.2 hq3) rfl ?_
        refine x_if_eq C 83 dX11_readClause_68 (by decide) h (fun h => ?_) (fun h => ?_)
        · refine x_aload_n C dX11_readClause_83 rfl ?_
          refine x_ldcSW C "delay" 16 dX11_readClause_84 (List.mem_of_getElem? (i := 39) rfl) ?_
          obtain ⟨q4, hq4, h⟩ := x_bind h
          refine x_callVI C dX11_readClause_87 (xin_22 _ (List.mem_of_getElem? (i := 20) rfl)) xy_X11_accept (xi_X11_accept) (xs_X11_accept) (by omega) (by decide) (b := 0) rfl ⟨_, _, rfl⟩ (av := [.inr (.inr (some 1016))]) rfl (Nat.le_of_ble_eq_true rfl) (c_m_accept _ 16 (by decide) _ q4.1 q4.2 hq4) rfl ?_
          refine x_if_eq C 100 dX11_readClause_90 (by decide) h (fun h => ?_) (fun h => ?_)
          · refine x_aload_n C dX11_readClause_100 rfl ?_
            refine x_ldcSW C "limit" 17 dX11_readClause_101 (List.mem_of_getElem? (i := 40) rfl) ?_
            obtain ⟨q5, hq5, h⟩ := x_bind h
            refine x_callVI C dX11_readClause_104 (xin_22 _ (List.mem_of_getElem? (i := 20) rfl)) xy_X11_accept (xi_X11_accept) (xs_X11_accept) (by omega) (by decide) (b := 0) rfl ⟨_, _, rfl⟩ (av := [.inr (.inr (some 1017))]) rfl (Nat.le_of_ble_eq_true rfl) (c_m_accept _ 17 (by decide) _ q5.1 q5.2 hq5) rfl ?_
            refine x_if_eq C 121 dX11_readClause_107 (by decide) h (fun h => ?_) (fun h => ?_)
            · refine x_aload_n C dX11_readClause_121 rfl ?_
              refine x_ldcSW C "patience" 18 dX11_readClause_122 (List.mem_of_getElem? (i := 41) rfl) ?_
              obtain ⟨q6, hq6, h⟩ := x_bind h
              refine x_callVI C dX11_readClause_125 (xin_22 _ (List.mem_of_getElem? (i := 20) rfl)) xy_X11_accept (xi_X11_accept) (xs_X11_accept) (by omega) (by decide) (b := 0) rfl ⟨_, _, rfl⟩ (av := [.inr (.inr (some 1018))]) rfl (Nat.le_of_ble_eq_true rfl) (c_m_accept _ 18 (by decide) _ q6.1 q6.2 hq6) rfl ?_
              refine x_if_eq C 143 dX11_readClause_128 (by decide) h (fun h => ?_) (fun h => ?_)
              · refine x_aload_n C dX11_readClause_143 rfl ?_
                refine x_ldcSW C "noise" 19 dX11_readClause_144 (List.mem_of_getElem? (i := 42) rfl) ?_
                obtain ⟨q7, hq7, h⟩ := x_bind h
                refine x_callVI C dX11_readClause_147 (xin_20 _ (List.mem_of_getElem? (i := 7) rfl)) xy_X11_expectWord (xi_X11_expectWord) (xs_X11_expectWord) (by omega) (by decide) (b := 0) rfl ⟨_, _, rfl⟩ (av := [.inr (.inr (some 1019))]) rfl (Nat.le_of_ble_eq_true rfl) (c_m_expectWord _ 19 (by decide) _ _ hq7) rfl ?_
                refine x_aload_n C dX11_readClause_150 rfl ?_
                obtain ⟨q8, hq8, h⟩ := x_bind h
                refine x_callVI C dX11_readClause_151 (xin_23 _ (List.mem_of_getElem? (i := 8) rfl)) xy_X11_readNoise (xi_X11_readNoise) (xs_X11_readNoise) (by omega) (by decide) (b := 0) rfl ⟨_, _, rfl⟩ (av := []) rfl (Nat.le_of_ble_eq_true rfl) (c_m_readNoise _ _ _ hq8) rfl ?_
                refine x_loc [(0, .inr (.inr (some 0)))] ⟨rfl, trivial⟩ ?_
                exact t_m_readClause_154 hd9 C hR _ h
              · refine x_aload_n C dX11_readClause_131 rfl ?_
                refine x_bipush C dX11_readClause_132 (by decide) ?_
                refine x_iconst C dX11_readClause_134 ?_
                refine x_bipush C dX11_readClause_135 (by decide) ?_
                obtain ⟨q10, hq10, h⟩ := x_bind h
                refine x_callVI C dX11_readClause_137 (xin_21 _ (List.mem_of_getElem? (i := 6) rfl)) xy_X11_readOne (xi_X11_readOne) (xs_X11_readOne) (by omega) (by decide) (b := 0) rfl ⟨_, _, rfl⟩ (av := [.inl 18, .inl 1, .inl 50]) rfl (Nat.le_of_ble_eq_true rfl) (c_m_readOne _ _ _ _ _ _ hq10) rfl ?_
                refine x_goto C 154 dX11_readClause_140 (by decide) ?_
                refine x_loc [(0, .inr (.inr (some 0)))] ⟨rfl, trivial⟩ ?_
                exact t_m_readClause_154 hd9 C hR _ h
            · refine x_aload_n C dX11_readClause_110 rfl ?_
              refine x_bipush C dX11_readClause_111 (by decide) ?_
              refine x_iconst C dX11_readClause_113 ?_
              refine x_iconst C dX11_readClause_114 ?_
              obtain ⟨q11, hq11, h⟩ := x_bind h
              refine x_callVI C dX11_readClause_115 (xin_21 _ (List.mem_of_getElem? (i := 6) rfl)) xy_X11_readOne (xi_X11_readOne) (xs_X11_readOne) (by omega) (by decide) (b := 0) rfl ⟨_, _, rfl⟩ (av := [.inl 17, .inl 1, .inl 5]) rfl (Nat.le_of_ble_eq_true rfl) (c_m_readOne _ _ _ _ _ _ hq11) rfl ?_
              refine x_goto C 154 dX11_readClause_118 (by decide) ?_
              refine x_loc [(0, .inr (.inr (some 0)))] ⟨rfl, trivial⟩ ?_
              exact t_m_readClause_154 hd9 C hR _ h
          · refine x_aload_n C dX11_readClause_93 rfl ?_
            obtain ⟨q12, hq12, h⟩ := x_bind h
            refine x_callVI C dX11_readClause_94 (xin_23 _ (List.mem_of_getElem? (i := 4) rfl)) xy_X11_readDelay (xi_X11_readDelay) (xs_X11_readDelay) (by omega) (by decide) (b := 0) rfl ⟨_, _, rfl⟩ (av := []) rfl (Nat.le_of_ble_eq_true rfl) (c_m_readDelay _ _ _ hq12) rfl ?_
            refine x_goto C 154 dX11_readClause_97 (by decide) ?_
            refine x_loc [(0, .inr (.inr (some 0)))] ⟨rfl, trivial⟩ ?_
            exact t_m_readClause_154 hd9 C hR _ h
        · refine x_aload_n C dX11_readClause_71 rfl ?_
          refine x_bipush C dX11_readClause_72 (by decide) ?_
          refine x_iconst C dX11_readClause_74 ?_
          refine x_bipush C dX11_readClause_75 (by decide) ?_
          obtain ⟨q13, hq13, h⟩ := x_bind h
          refine x_callVI C dX11_readClause_77 (xin_21 _ (List.mem_of_getElem? (i := 6) rfl)) xy_X11_readOne (xi_X11_readOne) (xs_X11_readOne) (by omega) (by decide) (b := 0) rfl ⟨_, _, rfl⟩ (av := [.inl 14, .inl 1, .inl 7]) rfl (Nat.le_of_ble_eq_true rfl) (c_m_readOne _ _ _ _ _ _ hq13) rfl ?_
          refine x_goto C 154 dX11_readClause_80 (by decide) ?_
          refine x_loc [(0, .inr (.inr (some 0)))] ⟨rfl, trivial⟩ ?_
          exact t_m_readClause_154 hd9 C hR _ h
      · refine x_aload_n C dX11_readClause_49 rfl ?_
        refine x_bipush C dX11_readClause_50 (by decide) ?_
        refine x_iconst C dX11_readClause_52 ?_
        refine x_bipush C dX11_readClause_53 (by decide) ?_
        obtain ⟨q14, hq14, h⟩ := x_bind h
        refine x_callVI C dX11_readClause_55 (xin_21 _ (List.mem_of_getElem? (i := 6) rfl)) xy_X11_readOne (xi_X11_readOne) (xs_X11_readOne) (by omega) (by decide) (b := 0) rfl ⟨_, _, rfl⟩ (av := [.inl 13, .inl 0, .inl 50]) rfl (Nat.le_of_ble_eq_true rfl) (c_m_readOne _ _ _ _ _ _ hq14) rfl ?_
        refine x_goto C 154 dX11_readClause_58 (by decide) ?_
        refine x_loc [(0, .inr (.inr (some 0)))] ⟨rfl, trivial⟩ ?_
        exact t_m_readClause_154 hd9 C hR _ h
    · refine x_aload_n C dX11_readClause_27 rfl ?_
      refine x_bipush C dX11_readClause_28 (by decide) ?_
      refine x_iconst C dX11_readClause_30 ?_
      refine x_bipush C dX11_readClause_31 (by decide) ?_
      obtain ⟨q15, hq15, h⟩ := x_bind h
      refine x_callVI C dX11_readClause_33 (xin_21 _ (List.mem_of_getElem? (i := 6) rfl)) xy_X11_readOne (xi_X11_readOne) (xs_X11_readOne) (by omega) (by decide) (b := 0) rfl ⟨_, _, rfl⟩ (av := [.inl 12, .inl 0, .inl 9]) rfl (Nat.le_of_ble_eq_true rfl) (c_m_readOne _ _ _ _ _ _ hq15) rfl ?_
      refine x_goto C 154 dX11_readClause_36 (by decide) ?_
      refine x_loc [(0, .inr (.inr (some 0)))] ⟨rfl, trivial⟩ ?_
      exact t_m_readClause_154 hd9 C hR _ h
  · refine x_aload_n C dX11_readClause_10 rfl ?_
    obtain ⟨q16, hq16, h⟩ := x_bind h
    refine x_callVI C dX11_readClause_11 (xin_23 _ (List.mem_of_getElem? (i := 0) rfl)) xy_X11_readTrain (xi_X11_readTrain) (xs_X11_readTrain) (by omega) (by decide) (b := 0) rfl ⟨_, _, rfl⟩ (av := []) rfl (Nat.le_of_ble_eq_true rfl) (c_m_readTrain _ _ _ hq16) rfl ?_
    refine x_goto C 154 dX11_readClause_14 (by decide) ?_
    refine x_loc [(0, .inr (.inr (some 0)))] ⟨rfl, trivial⟩ ?_
    exact t_m_readClause_154 hd9 C hR _ h
theorem c_m_readClause (l : Launch) (m m9 : xM) (h : f_m_readClause m = some m9) : xMet l yX11_readClause cX11_readClause 1 none 7 lay_M [.inr (.inr (some 0))] m none m9 :=
  xMet_v (by decide +kernel) (Nat.le_of_ble_eq_true rfl) (fun Γ C hR hl9 => t_m_readClause (Nat.le_refl _) C hR m h)
/-! ===== yX11_readAll ===== -/
theorem xy_X11_readRate : xY yX11_readRate cX11_readRate 4 none 0 := ⟨(xin_22 _ (List.mem_of_getElem? (i := 11) rfl)), (xin_1 _ (List.mem_of_getElem? (i := 5) rfl)), by decide, by decide, by decide +kernel⟩
theorem xi_X11_readRate : Cond.instanceMethod yX11_readRate ∈ wsL_law := (xin_22 _ (List.mem_of_getElem? (i := 9) rfl))
theorem xs_X11_readRate : Cond.selects yX11_readRate.cls yX11_readRate yX11_readRate ∈ wsL_law := (xin_22 _ (List.mem_of_getElem? (i := 10) rfl))
theorem xy_X11_readClause : xY yX11_readClause cX11_readClause 1 none 0 := ⟨(xin_22 _ (List.mem_of_getElem? (i := 19) rfl)), (xin_1 _ (List.mem_of_getElem? (i := 5) rfl)), by decide, by decide, by decide +kernel⟩
theorem xi_X11_readClause : Cond.instanceMethod yX11_readClause ∈ wsL_law := (xin_22 _ (List.mem_of_getElem? (i := 17) rfl))
theorem xs_X11_readClause : Cond.selects yX11_readClause.cls yX11_readClause yX11_readClause ∈ wsL_law := (xin_22 _ (List.mem_of_getElem? (i := 18) rfl))
theorem dX11_readAll_0 : decode cX11_readAll 0 = .ok (.aload_n 0, 1) := by decide +kernel
theorem dX11_readAll_1 : decode cX11_readAll 1 = .ok (.ldc_w 384, 3) := by decide +kernel
theorem dX11_readAll_4 : decode cX11_readAll 4 = .ok (.invokevirtual 375, 3) := by decide +kernel
theorem dX11_readAll_7 : decode cX11_readAll 7 = .ok (.aload_n 0, 1) := by decide +kernel
theorem dX11_readAll_8 : decode cX11_readAll 8 = .ok (.iconst 2, 1) := by decide +kernel
theorem dX11_readAll_9 : decode cX11_readAll 9 = .ok (.iconst 0, 1) := by decide +kernel
theorem dX11_readAll_10 : decode cX11_readAll 10 = .ok (.bipush 9, 2) := by decide +kernel
theorem dX11_readAll_12 : decode cX11_readAll 12 = .ok (.invokevirtual 357, 3) := by decide +kernel
theorem dX11_readAll_15 : decode cX11_readAll 15 = .ok (.aload_n 0, 1) := by decide +kernel
theorem dX11_readAll_16 : decode cX11_readAll 16 = .ok (.bipush 59, 2) := by decide +kernel
theorem dX11_readAll_18 : decode cX11_readAll 18 = .ok (.invokevirtual 381, 3) := by decide +kernel
theorem dX11_readAll_21 : decode cX11_readAll 21 = .ok (.aload_n 0, 1) := by decide +kernel
theorem dX11_readAll_22 : decode cX11_readAll 22 = .ok (.ldc_w 386, 3) := by decide +kernel
theorem dX11_readAll_25 : decode cX11_readAll 25 = .ok (.invokevirtual 375, 3) := by decide +kernel
theorem dX11_readAll_28 : decode cX11_readAll 28 = .ok (.aload_n 0, 1) := by decide +kernel
theorem dX11_readAll_29 : decode cX11_readAll 29 = .ok (.invokevirtual 388, 3) := by decide +kernel
theorem dX11_readAll_32 : decode cX11_readAll 32 = .ok (.aload_n 0, 1) := by decide +kernel
theorem dX11_readAll_33 : decode cX11_readAll 33 = .ok (.getfield 301, 3) := by decide +kernel
theorem dX11_readAll_36 : decode cX11_readAll 36 = .ok (.ifCond .ne 44, 3) := by decide +kernel
theorem dX11_readAll_39 : decode cX11_readAll 39 = .ok (.aload_n 0, 1) := by decide +kernel
theorem dX11_readAll_40 : decode cX11_readAll 40 = .ok (.bipush 44, 2) := by decide +kernel
theorem dX11_readAll_42 : decode cX11_readAll 42 = .ok (.invokevirtual 327, 3) := by decide +kernel
theorem dX11_readAll_45 : decode cX11_readAll 45 = .ok (.ifCond .eq 35, 3) := by decide +kernel
theorem dX11_readAll_48 : decode cX11_readAll 48 = .ok (.aload_n 0, 1) := by decide +kernel
theorem dX11_readAll_49 : decode cX11_readAll 49 = .ok (.aload_n 0, 1) := by decide +kernel
theorem dX11_readAll_50 : decode cX11_readAll 50 = .ok (.getfield 13, 3) := by decide +kernel
theorem dX11_readAll_53 : decode cX11_readAll 53 = .ok (.bipush 11, 2) := by decide +kernel
theorem dX11_readAll_55 : decode cX11_readAll 55 = .ok (.iaload, 1) := by decide +kernel
theorem dX11_readAll_56 : decode cX11_readAll 56 = .ok (.iconst 5, 1) := by decide +kernel
theorem dX11_readAll_57 : decode cX11_readAll 57 = .ok (.if_icmp .ge 7, 3) := by decide +kernel
theorem dX11_readAll_60 : decode cX11_readAll 60 = .ok (.iconst 1, 1) := by decide +kernel
theorem dX11_readAll_61 : decode cX11_readAll 61 = .ok (.goto 4, 3) := by decide +kernel
theorem dX11_readAll_64 : decode cX11_readAll 64 = .ok (.iconst 0, 1) := by decide +kernel
theorem dX11_readAll_65 : decode cX11_readAll 65 = .ok (.iconst 3, 1) := by decide +kernel
theorem dX11_readAll_66 : decode cX11_readAll 66 = .ok (.invokevirtual 320, 3) := by decide +kernel
theorem dX11_readAll_69 : decode cX11_readAll 69 = .ok (.aload_n 0, 1) := by decide +kernel
theorem dX11_readAll_70 : decode cX11_readAll 70 = .ok (.invokevirtual 324, 3) := by decide +kernel
theorem dX11_readAll_73 : decode cX11_readAll 73 = .ok (.aload_n 0, 1) := by decide +kernel
theorem dX11_readAll_74 : decode cX11_readAll 74 = .ok (.invokevirtual 388, 3) := by decide +kernel
theorem dX11_readAll_77 : decode cX11_readAll 77 = .ok (.goto (-45), 3) := by decide +kernel
theorem dX11_readAll_80 : decode cX11_readAll 80 = .ok (.aload_n 0, 1) := by decide +kernel
theorem dX11_readAll_81 : decode cX11_readAll 81 = .ok (.bipush 59, 2) := by decide +kernel
theorem dX11_readAll_83 : decode cX11_readAll 83 = .ok (.invokevirtual 381, 3) := by decide +kernel
theorem dX11_readAll_86 : decode cX11_readAll 86 = .ok (.aload_n 0, 1) := by decide +kernel
theorem dX11_readAll_87 : decode cX11_readAll 87 = .ok (.getfield 301, 3) := by decide +kernel
theorem dX11_readAll_90 : decode cX11_readAll 90 = .ok (.ifCond .ne 17, 3) := by decide +kernel
theorem dX11_readAll_93 : decode cX11_readAll 93 = .ok (.aload_n 0, 1) := by decide +kernel
theorem dX11_readAll_94 : decode cX11_readAll 94 = .ok (.getfield 292, 3) := by decide +kernel
theorem dX11_readAll_97 : decode cX11_readAll 97 = .ok (.ifCond .eq 10, 3) := by decide +kernel
theorem dX11_readAll_100 : decode cX11_readAll 100 = .ok (.aload_n 0, 1) := by decide +kernel
theorem dX11_readAll_101 : decode cX11_readAll 101 = .ok (.invokevirtual 391, 3) := by decide +kernel
theorem dX11_readAll_104 : decode cX11_readAll 104 = .ok (.goto (-18), 3) := by decide +kernel
theorem dX11_readAll_107 : decode cX11_readAll 107 = .ok (.return_, 1) := by decide +kernel
def f_m_readAll_86 : Nat → xM → Option (xM)
  | 0, _ => none
  | n + 1, m =>
     (if xw (m 0 18) = 0 then (if xw (m 0 17) = 0 then some m
      else (Option.bind (f_m_readClause m) fun q6 =>
      f_m_readAll_86 n q6))
      else some m)
set_option maxRecDepth 1000000 in
set_option maxHeartbeats 4000000 in
theorem t_m_readAll_86 {Γ : xG} {d : Nat} (hd9 : 8 ≤ d) (C : xC Γ lay_M RX11 cX11_readAll 1 d) {m9 : xM} (hR : xRv Γ lay_M cX11_readAll m9) : ∀ (n : Nat) (m : xM), f_m_readAll_86 n m = some m9 → xW Γ lay_M 1 86 [(0, .inr (.inr (some 0)))] [] m := by
  intro n
  induction n with
  | zero => intro _ h; cases h
  | succ n ih =>
    intro m h
    rw [f_m_readAll_86] at h
    refine x_aload_n C dX11_readAll_86 rfl ?_
    refine x_getI C dX11_readAll_87 fF_X11_301 rfl rfl ?_
    refine x_if_ne C 107 dX11_readAll_90 (by decide) h (fun h => ?_) (fun h => ?_)
    · exact x_returnV hR dX11_readAll_107 h
    · refine x_aload_n C dX11_readAll_93 rfl ?_
      refine x_getI C dX11_readAll_94 fF_X11_292 rfl rfl ?_
      refine x_if_eq C 107 dX11_readAll_97 (by decide) h (fun h => ?_) (fun h => ?_)
      · exact x_returnV hR dX11_readAll_107 h
      · refine x_aload_n C dX11_readAll_100 rfl ?_
        obtain ⟨q6, hq6, h⟩ := x_bind h
        refine x_callVI C dX11_readAll_101 (xin_22 _ (List.mem_of_getElem? (i := 16) rfl)) xy_X11_readClause (xi_X11_readClause) (xs_X11_readClause) (by omega) (by decide) (b := 0) rfl ⟨_, _, rfl⟩ (av := []) rfl (Nat.le_of_ble_eq_true rfl) (c_m_readClause _ _ _ hq6) rfl ?_
        refine x_goto C 86 dX11_readAll_104 (by decide) ?_
        refine x_loc [(0, .inr (.inr (some 0)))] ⟨rfl, trivial⟩ ?_
        exact ih _ h
def f_m_readAll_80 (m : xM) : Option (xM) :=
     (Option.bind (f_m_expect 59 m) fun q5 =>
      f_m_readAll_86 fu q5)
set_option maxRecDepth 1000000 in
set_option maxHeartbeats 4000000 in
theorem t_m_readAll_80 {Γ : xG} {d : Nat} (hd9 : 8 ≤ d) (C : xC Γ lay_M RX11 cX11_readAll 1 d) {m9 : xM} (hR : xRv Γ lay_M cX11_readAll m9) (m : xM) (h : f_m_readAll_80 m = some m9) : xW Γ lay_M 1 80 [(0, .inr (.inr (some 0)))] [] m := by
  unfold f_m_readAll_80 at h
  refine x_aload_n C dX11_readAll_80 rfl ?_
  refine x_bipush C dX11_readAll_81 (by decide) ?_
  obtain ⟨q5, hq5, h⟩ := x_bind h
  refine x_callVI C dX11_readAll_83 (xin_22 _ (List.mem_of_getElem? (i := 0) rfl)) xy_X11_expect (xi_X11_expect) (xs_X11_expect) (by omega) (by decide) (b := 0) rfl ⟨_, _, rfl⟩ (av := [.inl 59]) rfl (Nat.le_of_ble_eq_true rfl) (c_m_expect _ _ _ _ hq5) rfl ?_
  refine x_loc [(0, .inr (.inr (some 0)))] ⟨rfl, trivial⟩ ?_
  exact t_m_readAll_86 hd9 C hR fu _ h
def f_m_readAll_65 (k32 : xM → Option (xM)) (s0 : Int) (m : xM) : Option (xM) :=
     (Option.bind (f_m_check s0 3 m) fun q8 =>
      (Option.bind (f_m_advance q8) fun q9 =>
      (Option.bind (f_m_readRate q9) fun q10 =>
      k32 q10)))
set_option maxRecDepth 1000000 in
set_option maxHeartbeats 4000000 in
theorem t_m_readAll_65 {Γ : xG} {d : Nat} (hd9 : 8 ≤ d) (C : xC Γ lay_M RX11 cX11_readAll 1 d) {m9 : xM} (hR : xRv Γ lay_M cX11_readAll m9) {k32 : xM → Option (xM)} (hk32 : ∀ (m : xM), k32 m = some m9 → xW Γ lay_M 1 32 [(0, .inr (.inr (some 0)))] [] m) (s0 : Int) (m : xM) (h : f_m_readAll_65 k32 s0 m = some m9) : xW Γ lay_M 1 65 [(0, .inr (.inr (some 0)))] [.inl s0, .inr (.inr (some 0))] m := by
  unfold f_m_readAll_65 at h
  refine x_iconst C dX11_readAll_65 ?_
  obtain ⟨q8, hq8, h⟩ := x_bind h
  refine x_callVI C dX11_readAll_66 (xin_20 _ (List.mem_of_getElem? (i := 17) rfl)) xy_X11_check (xi_X11_check) (xs_X11_check) (by omega) (by decide) (b := 0) rfl ⟨_, _, rfl⟩ (av := [.inl s0, .inl 3]) rfl (Nat.le_of_ble_eq_true rfl) (c_m_check _ _ _ _ _ hq8) rfl ?_
  refine x_aload_n C dX11_readAll_69 rfl ?_
  obtain ⟨q9, hq9, h⟩ := x_bind h
  refine x_callVI C dX11_readAll_70 (xin_21 _ (List.mem_of_getElem? (i := 2) rfl)) xy_X11_advance (xi_X11_advance) (xs_X11_advance) (by omega) (by decide) (b := 0) rfl ⟨_, _, rfl⟩ (av := []) rfl (Nat.le_of_ble_eq_true rfl) (c_m_advance _ _ _ hq9) rfl ?_
  refine x_aload_n C dX11_readAll_73 rfl ?_
  obtain ⟨q10, hq10, h⟩ := x_bind h
  refine x_callVI C dX11_readAll_74 (xin_22 _ (List.mem_of_getElem? (i := 8) rfl)) xy_X11_readRate (xi_X11_readRate) (xs_X11_readRate) (by omega) (by decide) (b := 0) rfl ⟨_, _, rfl⟩ (av := []) rfl (Nat.le_of_ble_eq_true rfl) (c_m_readRate _ _ _ hq10) rfl ?_
  refine x_goto C 32 dX11_readAll_77 (by decide) ?_
  refine x_loc [(0, .inr (.inr (some 0)))] ⟨rfl, trivial⟩ ?_
  exact hk32 _ h
def f_m_readAll_32 : Nat → xM → Option (xM)
  | 0, _ => none
  | n + 1, m =>
     (if xw (m 0 18) = 0 then (Option.bind (f_m_isSymbol 44 m) fun q7 =>
      (if xw q7 = 0 then f_m_readAll_80 m
      else (if xib 11 3530 then (if xw (m 2 11) < xw 5 then f_m_readAll_65 (f_m_readAll_32 n) 1 m
      else f_m_readAll_65 (f_m_readAll_32 n) 0 m)
      else none)))
      else f_m_readAll_80 m)
set_option maxRecDepth 1000000 in
set_option maxHeartbeats 4000000 in
theorem t_m_readAll_32 {Γ : xG} {d : Nat} (hd9 : 8 ≤ d) (C : xC Γ lay_M RX11 cX11_readAll 1 d) {m9 : xM} (hR : xRv Γ lay_M cX11_readAll m9) : ∀ (n : Nat) (m : xM), f_m_readAll_32 n m = some m9 → xW Γ lay_M 1 32 [(0, .inr (.inr (some 0)))] [] m := by
  intro n
  induction n with
  | zero => intro _ h; cases h
  | succ n ih =>
    intro m h
    rw [f_m_readAll_32] at h
    refine x_aload_n C dX11_readAll_32 rfl ?_
    refine x_getI C dX11_readAll_33 fF_X11_301 rfl rfl ?_
    refine x_if_ne C 80 dX11_readAll_36 (by decide) h (fun h => ?_) (fun h => ?_)
    · refine x_loc [(0, .inr (.inr (some 0)))] ⟨rfl, trivial⟩ ?_
      exact t_m_readAll_80 hd9 C hR _ h
    · refine x_aload_n C dX11_readAll_39 rfl ?_
      refine x_bipush C dX11_readAll_40 (by decide) ?_
      obtain ⟨q7, hq7, h⟩ := x_bind h
      refine x_callVI C dX11_readAll_42 (xin_22 _ (List.mem_of_getElem? (i := 4) rfl)) xy_X11_isSymbol (xi_X11_isSymbol) (xs_X11_isSymbol) (by omega) (by decide) (b := 0) rfl ⟨_, _, rfl⟩ (av := [.inl 44]) rfl (Nat.le_of_ble_eq_true rfl) (c_m_isSymbol _ _ _ _ hq7) rfl ?_
      refine x_if_eq C 80 dX11_readAll_45 (by decide) h (fun h => ?_) (fun h => ?_)
      · refine x_loc [(0, .inr (.inr (some 0)))] ⟨rfl, trivial⟩ ?_
        exact t_m_readAll_80 hd9 C hR _ h
      · refine x_aload_n C dX11_readAll_48 rfl ?_
        refine x_aload_n C dX11_readAll_49 rfl ?_
        refine x_getR C dX11_readAll_50 fF_X11_13 rfl rfl ?_
        refine x_bipush C dX11_readAll_53 (by decide) ?_
        refine x_iaload C dX11_readAll_55 rfl h (fun h => ?_)
        refine x_iconst C dX11_readAll_56 ?_
        refine x_icmp_ge C 64 dX11_readAll_57 (by decide) h (fun h => ?_) (fun h => ?_)
        · refine x_iconst C dX11_readAll_64 ?_
          refine x_loc [(0, .inr (.inr (some 0)))] ⟨rfl, trivial⟩ ?_
          exact t_m_readAll_65 hd9 C hR ih _ _ h
        · refine x_iconst C dX11_readAll_60 ?_
          refine x_goto C 65 dX11_readAll_61 (by decide) ?_
          refine x_loc [(0, .inr (.inr (some 0)))] ⟨rfl, trivial⟩ ?_
          exact t_m_readAll_65 hd9 C hR ih _ _ h
def f_m_readAll (m : xM) : Option (xM) :=
     (Option.bind (f_m_expectWord 10 m) fun q0 =>
      (Option.bind (f_m_readOne 2 0 9 q0) fun q1 =>
      (Option.bind (f_m_expect 59 q1) fun q2 =>
      (Option.bind (f_m_expectWord 11 q2) fun q3 =>
      (Option.bind (f_m_readRate q3) fun q4 =>
      f_m_readAll_32 fu q4)))))
set_option maxRecDepth 1000000 in
set_option maxHeartbeats 4000000 in
theorem t_m_readAll {Γ : xG} {d : Nat} (hd9 : 8 ≤ d) (C : xC Γ lay_M RX11 cX11_readAll 1 d) {m9 : xM} (hR : xRv Γ lay_M cX11_readAll m9) (m : xM) (h : f_m_readAll m = some m9) : xW Γ lay_M 1 0 [(0, .inr (.inr (some 0)))] [] m := by
  unfold f_m_readAll at h
  refine x_aload_n C dX11_readAll_0 rfl ?_
  refine x_ldcSW C "line" 10 dX11_readAll_1 (List.mem_of_getElem? (i := 33) rfl) ?_
  obtain ⟨q0, hq0, h⟩ := x_bind h
  refine x_callVI C dX11_readAll_4 (xin_20 _ (List.mem_of_getElem? (i := 7) rfl)) xy_X11_expectWord (xi_X11_expectWord) (xs_X11_expectWord) (by omega) (by decide) (b := 0) rfl ⟨_, _, rfl⟩ (av := [.inr (.inr (some 1010))]) rfl (Nat.le_of_ble_eq_true rfl) (c_m_expectWord _ 10 (by decide) _ _ hq0) rfl ?_
  refine x_aload_n C dX11_readAll_7 rfl ?_
  refine x_iconst C dX11_readAll_8 ?_
  refine x_iconst C dX11_readAll_9 ?_
  refine x_bipush C dX11_readAll_10 (by decide) ?_
  obtain ⟨q1, hq1, h⟩ := x_bind h
  refine x_callVI C dX11_readAll_12 (xin_21 _ (List.mem_of_getElem? (i := 6) rfl)) xy_X11_readOne (xi_X11_readOne) (xs_X11_readOne) (by omega) (by decide) (b := 0) rfl ⟨_, _, rfl⟩ (av := [.inl 2, .inl 0, .inl 9]) rfl (Nat.le_of_ble_eq_true rfl) (c_m_readOne _ _ _ _ _ _ hq1) rfl ?_
  refine x_aload_n C dX11_readAll_15 rfl ?_
  refine x_bipush C dX11_readAll_16 (by decide) ?_
  obtain ⟨q2, hq2, h⟩ := x_bind h
  refine x_callVI C dX11_readAll_18 (xin_22 _ (List.mem_of_getElem? (i := 0) rfl)) xy_X11_expect (xi_X11_expect) (xs_X11_expect) (by omega) (by decide) (b := 0) rfl ⟨_, _, rfl⟩ (av := [.inl 59]) rfl (Nat.le_of_ble_eq_true rfl) (c_m_expect _ _ _ _ hq2) rfl ?_
  refine x_aload_n C dX11_readAll_21 rfl ?_
  refine x_ldcSW C "rates" 11 dX11_readAll_22 (List.mem_of_getElem? (i := 34) rfl) ?_
  obtain ⟨q3, hq3, h⟩ := x_bind h
  refine x_callVI C dX11_readAll_25 (xin_20 _ (List.mem_of_getElem? (i := 7) rfl)) xy_X11_expectWord (xi_X11_expectWord) (xs_X11_expectWord) (by omega) (by decide) (b := 0) rfl ⟨_, _, rfl⟩ (av := [.inr (.inr (some 1011))]) rfl (Nat.le_of_ble_eq_true rfl) (c_m_expectWord _ 11 (by decide) _ _ hq3) rfl ?_
  refine x_aload_n C dX11_readAll_28 rfl ?_
  obtain ⟨q4, hq4, h⟩ := x_bind h
  refine x_callVI C dX11_readAll_29 (xin_22 _ (List.mem_of_getElem? (i := 8) rfl)) xy_X11_readRate (xi_X11_readRate) (xs_X11_readRate) (by omega) (by decide) (b := 0) rfl ⟨_, _, rfl⟩ (av := []) rfl (Nat.le_of_ble_eq_true rfl) (c_m_readRate _ _ _ hq4) rfl ?_
  refine x_loc [(0, .inr (.inr (some 0)))] ⟨rfl, trivial⟩ ?_
  exact t_m_readAll_32 hd9 C hR fu _ h
theorem c_m_readAll (l : Launch) (m m9 : xM) (h : f_m_readAll m = some m9) : xMet l yX11_readAll cX11_readAll 1 none 8 lay_M [.inr (.inr (some 0))] m none m9 :=
  xMet_v (by decide +kernel) (Nat.le_of_ble_eq_true rfl) (fun Γ C hR hl9 => t_m_readAll (Nat.le_refl _) C hR m h)

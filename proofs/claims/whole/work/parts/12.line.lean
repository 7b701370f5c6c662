theorem fF_X3_12 : xF RX3 12 5 1 (.object "ModemLink$End") true := ⟨RX3, TX3, 17, tyX3, rfl, by decide, (xin_4 _ (List.mem_of_getElem? (i := 1) rfl)), rfl, inlX3, tyX3_ok, nmX3, rfl, rfl⟩
theorem fF_X3_18 : xF RX3 18 5 2 (.object "ModemLink$End") true := ⟨RX3, TX3, 17, tyX3, rfl, by decide, (xin_4 _ (List.mem_of_getElem? (i := 2) rfl)), rfl, inlX3, tyX3_ok, nmX3, rfl, rfl⟩
theorem dX3_endOf_0 : decode cX3_endOf 0 = .ok (.iload_n 1, 1) := by decide +kernel
theorem dX3_endOf_1 : decode cX3_endOf 1 = .ok (.ifCond .ne 10, 3) := by decide +kernel
theorem dX3_endOf_4 : decode cX3_endOf 4 = .ok (.aload_n 0, 1) := by decide +kernel
theorem dX3_endOf_5 : decode cX3_endOf 5 = .ok (.getfield 12, 3) := by decide +kernel
theorem dX3_endOf_8 : decode cX3_endOf 8 = .ok (.goto 7, 3) := by decide +kernel
theorem dX3_endOf_11 : decode cX3_endOf 11 = .ok (.aload_n 0, 1) := by decide +kernel
theorem dX3_endOf_12 : decode cX3_endOf 12 = .ok (.getfield 18, 3) := by decide +kernel
theorem dX3_endOf_15 : decode cX3_endOf 15 = .ok (.areturn, 1) := by decide +kernel
theorem c_endOf0 (l : Launch) (e : Int) (m : xM) (h : xw e = 0) : xMet l yX3_endOf cX3_endOf 2 (some (.object "ModemLink$End")) 1 lay_eo [.inr (.inr (some 0)), .inl e] m (some (.inr (.inr (some 2)))) m :=
  xMet_a (by decide +kernel) (Nat.le_of_ble_eq_true rfl) (fun Γ C hR _ => by
    refine x_iload_n C dX3_endOf_0 rfl ?_
    refine x_if_neN C 11 dX3_endOf_1 (by decide) h ?_
    refine x_aload_n C dX3_endOf_4 rfl ?_
    refine x_getR C dX3_endOf_5 fF_X3_12 rfl rfl ?_
    refine x_goto C 15 dX3_endOf_8 (by decide) ?_
    exact x_areturn hR dX3_endOf_15)
theorem c_endOf1 (l : Launch) (e : Int) (m : xM) (h : ¬ xw e = 0) : xMet l yX3_endOf cX3_endOf 2 (some (.object "ModemLink$End")) 1 lay_eo [.inr (.inr (some 0)), .inl e] m (some (.inr (.inr (some 3)))) m :=
  xMet_a (by decide +kernel) (Nat.le_of_ble_eq_true rfl) (fun Γ C hR _ => by
    refine x_iload_n C dX3_endOf_0 rfl ?_
    refine x_if_neT C 11 dX3_endOf_1 (by decide) h ?_
    refine x_aload_n C dX3_endOf_11 rfl ?_
    refine x_getR C dX3_endOf_12 fF_X3_18 rfl rfl ?_
    exact x_areturn hR dX3_endOf_15)
/-! ===== the line ===== -/
theorem xy_X1_copyFrom : xY yX1_copyFrom cX1_copyFrom 2 none 1 := ⟨(xin_35 _ (List.mem_of_getElem? (i := 21) rfl)), (xin_4 _ (List.mem_of_getElem? (i := 0) rfl)), by decide, by decide, by decide +kernel⟩
theorem xi_X1_copyFrom : Cond.instanceMethod yX1_copyFrom ∈ wsL_law := (xin_35 _ (List.mem_of_getElem? (i := 19) rfl))
theorem xs_X1_copyFrom : Cond.selects yX1_copyFrom.cls yX1_copyFrom yX1_copyFrom ∈ wsL_law := (xin_35 _ (List.mem_of_getElem? (i := 20) rfl))
theorem xv_11 : xview lay_LL lay_E2 [1, 2, 3, 4, 5, 6, 7, 8, 9, 10, 11, 34, 35, 36, 37, 38, 39, 40, 41, 42, 43, 44] := xview_of (by decide +kernel)
theorem xv_12 : xview lay_LL lay_E2 [12, 13, 14, 15, 16, 17, 18, 19, 20, 21, 22, 45, 46, 47, 48, 49, 50, 51, 52, 53, 54, 55] := xview_of (by decide +kernel)
theorem fF_X3_24 : xF RX3 24 5 3 (.object "ModemLink$Wire") true := ⟨RX3, TX3, 17, tyX3, rfl, by decide, (xin_4 _ (List.mem_of_getElem? (i := 6) rfl)), rfl, inlX3, tyX3_ok, nmX3, rfl, rfl⟩
theorem xy_X9_copyFrom : xY yX9_copyFrom cX9_copyFrom 2 none 1 := ⟨(xin_36 _ (List.mem_of_getElem? (i := 9) rfl)), (xin_4 _ (List.mem_of_getElem? (i := 5) rfl)), by decide, by decide, by decide +kernel⟩
theorem xi_X9_copyFrom : Cond.instanceMethod yX9_copyFrom ∈ wsL_law := (xin_36 _ (List.mem_of_getElem? (i := 7) rfl))
theorem xs_X9_copyFrom : Cond.selects yX9_copyFrom.cls yX9_copyFrom yX9_copyFrom ∈ wsL_law := (xin_36 _ (List.mem_of_getElem? (i := 8) rfl))
theorem xv_13 : xview lay_LL lay_Wi2 [23, 24, 25, 26, 27, 56, 57, 58, 59, 60] := xview_of (by decide +kernel)
theorem fF_X3_31 : xF RX3 31 5 4 (.object "ModemLink$Log") true := ⟨RX3, TX3, 17, tyX3, rfl, by decide, (xin_4 _ (List.mem_of_getElem? (i := 10) rfl)), rfl, inlX3, tyX3_ok, nmX3, rfl, rfl⟩
theorem xy_X4_copyFrom : xY yX4_copyFrom cX4_copyFrom 2 none 1 := ⟨(xin_36 _ (List.mem_of_getElem? (i := 16) rfl)), (xin_4 _ (List.mem_of_getElem? (i := 9) rfl)), by decide, by decide, by decide +kernel⟩
theorem xi_X4_copyFrom : Cond.instanceMethod yX4_copyFrom ∈ wsL_law := (xin_36 _ (List.mem_of_getElem? (i := 14) rfl))
theorem xs_X4_copyFrom : Cond.selects yX4_copyFrom.cls yX4_copyFrom yX4_copyFrom ∈ wsL_law := (xin_36 _ (List.mem_of_getElem? (i := 15) rfl))
theorem xv_14 : xview lay_LL lay_G2 [28, 29, 61, 62] := xview_of (by decide +kernel)
theorem fF_X3_35 : xF RX3 35 5 5 (.array .int) true := ⟨RX3, TX3, 17, tyX3, rfl, by decide, (xin_4 _ (List.mem_of_getElem? (i := 11) rfl)), rfl, inlX3, tyX3_ok, nmX3, rfl, rfl⟩
theorem fF_X3_61 : xF RX3 61 5 7 .int false := ⟨RX3, TX3, 17, tyX3, rfl, by decide, (xin_7 _ (List.mem_of_getElem? (i := 21) rfl)), rfl, inlX3, tyX3_ok, nmX3, rfl, rfl⟩
theorem fF_X3_64 : xF RX3 64 5 8 .int false := ⟨RX3, TX3, 17, tyX3, rfl, by decide, (xin_7 _ (List.mem_of_getElem? (i := 22) rfl)), rfl, inlX3, tyX3_ok, nmX3, rfl, rfl⟩
theorem fF_X3_72 : xF RX3 72 5 9 .int false := ⟨RX3, TX3, 17, tyX3, rfl, by decide, (xin_8 _ (List.mem_of_getElem? (i := 0) rfl)), rfl, inlX3, tyX3_ok, nmX3, rfl, rfl⟩
theorem fF_X3_73 : xF RX3 73 5 10 .int false := ⟨RX3, TX3, 17, tyX3, rfl, by decide, (xin_8 _ (List.mem_of_getElem? (i := 1) rfl)), rfl, inlX3, tyX3_ok, nmX3, rfl, rfl⟩
theorem fF_X3_98 : xF RX3 98 5 11 .int false := ⟨RX3, TX3, 17, tyX3, rfl, by decide, (xin_35 _ (List.mem_of_getElem? (i := 14) rfl)), rfl, inlX3, tyX3_ok, nmX3, rfl, rfl⟩
theorem fF_X3_101 : xF RX3 101 5 12 .int false := ⟨RX3, TX3, 17, tyX3, rfl, by decide, (xin_35 _ (List.mem_of_getElem? (i := 15) rfl)), rfl, inlX3, tyX3_ok, nmX3, rfl, rfl⟩
theorem fF_X3_104 : xF RX3 104 5 13 .int false := ⟨RX3, TX3, 17, tyX3, rfl, by decide, (xin_35 _ (List.mem_of_getElem? (i := 16) rfl)), rfl, inlX3, tyX3_ok, nmX3, rfl, rfl⟩
theorem fF_X3_107 : xF RX3 107 5 14 .int false := ⟨RX3, TX3, 17, tyX3, rfl, by decide, (xin_35 _ (List.mem_of_getElem? (i := 17) rfl)), rfl, inlX3, tyX3_ok, nmX3, rfl, rfl⟩
theorem fF_X3_76 : xF RX3 76 5 15 .int false := ⟨RX3, TX3, 17, tyX3, rfl, by decide, (xin_8 _ (List.mem_of_getElem? (i := 2) rfl)), rfl, inlX3, tyX3_ok, nmX3, rfl, rfl⟩
theorem fF_X3_79 : xF RX3 79 5 16 .int false := ⟨RX3, TX3, 17, tyX3, rfl, by decide, (xin_8 _ (List.mem_of_getElem? (i := 3) rfl)), rfl, inlX3, tyX3_ok, nmX3, rfl, rfl⟩
theorem dX3_copyFrom_0 : decode cX3_copyFrom 0 = .ok (.aload_n 0, 1) := by decide +kernel
theorem dX3_copyFrom_1 : decode cX3_copyFrom 1 = .ok (.getfield 12, 3) := by decide +kernel
theorem dX3_copyFrom_4 : decode cX3_copyFrom 4 = .ok (.aload_n 1, 1) := by decide +kernel
theorem dX3_copyFrom_5 : decode cX3_copyFrom 5 = .ok (.getfield 12, 3) := by decide +kernel
theorem dX3_copyFrom_8 : decode cX3_copyFrom 8 = .ok (.invokevirtual 82, 3) := by decide +kernel
theorem dX3_copyFrom_11 : decode cX3_copyFrom 11 = .ok (.aload_n 0, 1) := by decide +kernel
theorem dX3_copyFrom_12 : decode cX3_copyFrom 12 = .ok (.getfield 18, 3) := by decide +kernel
theorem dX3_copyFrom_15 : decode cX3_copyFrom 15 = .ok (.aload_n 1, 1) := by decide +kernel
theorem dX3_copyFrom_16 : decode cX3_copyFrom 16 = .ok (.getfield 18, 3) := by decide +kernel
theorem dX3_copyFrom_19 : decode cX3_copyFrom 19 = .ok (.invokevirtual 82, 3) := by decide +kernel
theorem dX3_copyFrom_22 : decode cX3_copyFrom 22 = .ok (.aload_n 0, 1) := by decide +kernel
theorem dX3_copyFrom_23 : decode cX3_copyFrom 23 = .ok (.getfield 24, 3) := by decide +kernel
theorem dX3_copyFrom_26 : decode cX3_copyFrom 26 = .ok (.aload_n 1, 1) := by decide +kernel
theorem dX3_copyFrom_27 : decode cX3_copyFrom 27 = .ok (.getfield 24, 3) := by decide +kernel
theorem dX3_copyFrom_30 : decode cX3_copyFrom 30 = .ok (.invokevirtual 86, 3) := by decide +kernel
theorem dX3_copyFrom_33 : decode cX3_copyFrom 33 = .ok (.aload_n 0, 1) := by decide +kernel
theorem dX3_copyFrom_34 : decode cX3_copyFrom 34 = .ok (.getfield 31, 3) := by decide +kernel
theorem dX3_copyFrom_37 : decode cX3_copyFrom 37 = .ok (.aload_n 1, 1) := by decide +kernel
theorem dX3_copyFrom_38 : decode cX3_copyFrom 38 = .ok (.getfield 31, 3) := by decide +kernel
theorem dX3_copyFrom_41 : decode cX3_copyFrom 41 = .ok (.invokevirtual 89, 3) := by decide +kernel
theorem dX3_copyFrom_44 : decode cX3_copyFrom 44 = .ok (.aload_n 1, 1) := by decide +kernel
theorem dX3_copyFrom_45 : decode cX3_copyFrom 45 = .ok (.getfield 35, 3) := by decide +kernel
theorem dX3_copyFrom_48 : decode cX3_copyFrom 48 = .ok (.iconst 0, 1) := by decide +kernel
theorem dX3_copyFrom_49 : decode cX3_copyFrom 49 = .ok (.aload_n 0, 1) := by decide +kernel
theorem dX3_copyFrom_50 : decode cX3_copyFrom 50 = .ok (.getfield 35, 3) := by decide +kernel
theorem dX3_copyFrom_53 : decode cX3_copyFrom 53 = .ok (.iconst 0, 1) := by decide +kernel
theorem dX3_copyFrom_54 : decode cX3_copyFrom 54 = .ok (.bipush 11, 2) := by decide +kernel
theorem dX3_copyFrom_56 : decode cX3_copyFrom 56 = .ok (.invokestatic 92, 3) := by decide +kernel
theorem dX3_copyFrom_59 : decode cX3_copyFrom 59 = .ok (.aload_n 0, 1) := by decide +kernel
theorem dX3_copyFrom_60 : decode cX3_copyFrom 60 = .ok (.aload_n 1, 1) := by decide +kernel
theorem dX3_copyFrom_61 : decode cX3_copyFrom 61 = .ok (.getfield 61, 3) := by decide +kernel
theorem dX3_copyFrom_64 : decode cX3_copyFrom 64 = .ok (.putfield 61, 3) := by decide +kernel
theorem dX3_copyFrom_67 : decode cX3_copyFrom 67 = .ok (.aload_n 0, 1) := by decide +kernel
theorem dX3_copyFrom_68 : decode cX3_copyFrom 68 = .ok (.aload_n 1, 1) := by decide +kernel
theorem dX3_copyFrom_69 : decode cX3_copyFrom 69 = .ok (.getfield 64, 3) := by decide +kernel
theorem dX3_copyFrom_72 : decode cX3_copyFrom 72 = .ok (.putfield 64, 3) := by decide +kernel
theorem dX3_copyFrom_75 : decode cX3_copyFrom 75 = .ok (.aload_n 0, 1) := by decide +kernel
theorem dX3_copyFrom_76 : decode cX3_copyFrom 76 = .ok (.aload_n 1, 1) := by decide +kernel
theorem dX3_copyFrom_77 : decode cX3_copyFrom 77 = .ok (.getfield 72, 3) := by decide +kernel
theorem dX3_copyFrom_80 : decode cX3_copyFrom 80 = .ok (.putfield 72, 3) := by decide +kernel
theorem dX3_copyFrom_83 : decode cX3_copyFrom 83 = .ok (.aload_n 0, 1) := by decide +kernel
theorem dX3_copyFrom_84 : decode cX3_copyFrom 84 = .ok (.aload_n 1, 1) := by decide +kernel
theorem dX3_copyFrom_85 : decode cX3_copyFrom 85 = .ok (.getfield 73, 3) := by decide +kernel
theorem dX3_copyFrom_88 : decode cX3_copyFrom 88 = .ok (.putfield 73, 3) := by decide +kernel
theorem dX3_copyFrom_91 : decode cX3_copyFrom 91 = .ok (.aload_n 0, 1) := by decide +kernel
theorem dX3_copyFrom_92 : decode cX3_copyFrom 92 = .ok (.aload_n 1, 1) := by decide +kernel
theorem dX3_copyFrom_93 : decode cX3_copyFrom 93 = .ok (.getfield 98, 3) := by decide +kernel
theorem dX3_copyFrom_96 : decode cX3_copyFrom 96 = .ok (.putfield 98, 3) := by decide +kernel
theorem dX3_copyFrom_99 : decode cX3_copyFrom 99 = .ok (.aload_n 0, 1) := by decide +kernel
theorem dX3_copyFrom_100 : decode cX3_copyFrom 100 = .ok (.aload_n 1, 1) := by decide +kernel
theorem dX3_copyFrom_101 : decode cX3_copyFrom 101 = .ok (.getfield 101, 3) := by decide +kernel
theorem dX3_copyFrom_104 : decode cX3_copyFrom 104 = .ok (.putfield 101, 3) := by decide +kernel
theorem dX3_copyFrom_107 : decode cX3_copyFrom 107 = .ok (.aload_n 0, 1) := by decide +kernel
theorem dX3_copyFrom_108 : decode cX3_copyFrom 108 = .ok (.aload_n 1, 1) := by decide +kernel
theorem dX3_copyFrom_109 : decode cX3_copyFrom 109 = .ok (.getfield 104, 3) := by decide +kernel
theorem dX3_copyFrom_112 : decode cX3_copyFrom 112 = .ok (.putfield 104, 3) := by decide +kernel
theorem dX3_copyFrom_115 : decode cX3_copyFrom 115 = .ok (.aload_n 0, 1) := by decide +kernel
theorem dX3_copyFrom_116 : decode cX3_copyFrom 116 = .ok (.aload_n 1, 1) := by decide +kernel
theorem dX3_copyFrom_117 : decode cX3_copyFrom 117 = .ok (.getfield 107, 3) := by decide +kernel
theorem dX3_copyFrom_120 : decode cX3_copyFrom 120 = .ok (.putfield 107, 3) := by decide +kernel
theorem dX3_copyFrom_123 : decode cX3_copyFrom 123 = .ok (.aload_n 0, 1) := by decide +kernel
theorem dX3_copyFrom_124 : decode cX3_copyFrom 124 = .ok (.aload_n 1, 1) := by decide +kernel
theorem dX3_copyFrom_125 : decode cX3_copyFrom 125 = .ok (.getfield 76, 3) := by decide +kernel
theorem dX3_copyFrom_128 : decode cX3_copyFrom 128 = .ok (.putfield 76, 3) := by decide +kernel
theorem dX3_copyFrom_131 : decode cX3_copyFrom 131 = .ok (.aload_n 0, 1) := by decide +kernel
theorem dX3_copyFrom_132 : decode cX3_copyFrom 132 = .ok (.aload_n 1, 1) := by decide +kernel
theorem dX3_copyFrom_133 : decode cX3_copyFrom 133 = .ok (.getfield 79, 3) := by decide +kernel
theorem dX3_copyFrom_136 : decode cX3_copyFrom 136 = .ok (.putfield 79, 3) := by decide +kernel
theorem dX3_copyFrom_139 : decode cX3_copyFrom 139 = .ok (.return_, 1) := by decide +kernel
def f_L_cp_123 (m : xM) : Option (xM) :=
     some (xu (xu m 0 15 (m 33 15)) 0 16 (m 33 16))
set_option maxRecDepth 1000000 in
set_option maxHeartbeats 4000000 in
theorem t_L_cp_123 {Γ : xG} {d : Nat} (hd9 : 3 ≤ d) (C : xC Γ lay_LL RX3 cX3_copyFrom 2 d) {m9 : xM} (hR : xRv Γ lay_LL cX3_copyFrom m9) (m : xM) (h : f_L_cp_123 m = some m9) : xW Γ lay_LL 2 123 [(0, .inr (.inr (some 0))), (1, .inr (.inr (some 33)))] [] m := by
  unfold f_L_cp_123 at h
  refine x_aload_n C dX3_copyFrom_123 rfl ?_
  refine x_aload_n C dX3_copyFrom_124 rfl ?_
  refine x_getI C dX3_copyFrom_125 fF_X3_76 rfl rfl ?_
  refine x_putI C dX3_copyFrom_128 fF_X3_76 rfl rfl ?_
  refine x_aload_n C dX3_copyFrom_131 rfl ?_
  refine x_aload_n C dX3_copyFrom_132 rfl ?_
  refine x_getI C dX3_copyFrom_133 fF_X3_79 rfl rfl ?_
  refine x_putI C dX3_copyFrom_136 fF_X3_79 rfl rfl ?_
  exact x_returnV hR dX3_copyFrom_139 h
def f_L_cp_99 (m : xM) : Option (xM) :=
     f_L_cp_123 (xu (xu (xu m 0 12 (m 33 12)) 0 13 (m 33 13)) 0 14 (m 33 14))
set_option maxRecDepth 1000000 in
set_option maxHeartbeats 4000000 in
theorem t_L_cp_99 {Γ : xG} {d : Nat} (hd9 : 3 ≤ d) (C : xC Γ lay_LL RX3 cX3_copyFrom 2 d) {m9 : xM} (hR : xRv Γ lay_LL cX3_copyFrom m9) (m : xM) (h : f_L_cp_99 m = some m9) : xW Γ lay_LL 2 99 [(0, .inr (.inr (some 0))), (1, .inr (.inr (some 33)))] [] m := by
  unfold f_L_cp_99 at h
  refine x_aload_n C dX3_copyFrom_99 rfl ?_
  refine x_aload_n C dX3_copyFrom_100 rfl ?_
  refine x_getI C dX3_copyFrom_101 fF_X3_101 rfl rfl ?_
  refine x_putI C dX3_copyFrom_104 fF_X3_101 rfl rfl ?_
  refine x_aload_n C dX3_copyFrom_107 rfl ?_
  refine x_aload_n C dX3_copyFrom_108 rfl ?_
  refine x_getI C dX3_copyFrom_109 fF_X3_104 rfl rfl ?_
  refine x_putI C dX3_copyFrom_112 fF_X3_104 rfl rfl ?_
  refine x_aload_n C dX3_copyFrom_115 rfl ?_
  refine x_aload_n C dX3_copyFrom_116 rfl ?_
  refine x_getI C dX3_copyFrom_117 fF_X3_107 rfl rfl ?_
  refine x_putI C dX3_copyFrom_120 fF_X3_107 rfl rfl ?_
  refine x_loc [(0, .inr (.inr (some 0))), (1, .inr (.inr (some 33)))] ⟨rfl, rfl, trivial⟩ ?_
  exact t_L_cp_123 hd9 C hR _ h
def f_L_cp_67 (m : xM) : Option (xM) :=
     f_L_cp_99 (xu (xu (xu (xu m 0 8 (m 33 8)) 0 9 (m 33 9)) 0 10 (m 33 10)) 0 11 (m 33 11))
set_option maxRecDepth 1000000 in
set_option maxHeartbeats 4000000 in
theorem t_L_cp_67 {Γ : xG} {d : Nat} (hd9 : 3 ≤ d) (C : xC Γ lay_LL RX3 cX3_copyFrom 2 d) {m9 : xM} (hR : xRv Γ lay_LL cX3_copyFrom m9) (m : xM) (h : f_L_cp_67 m = some m9) : xW Γ lay_LL 2 67 [(0, .inr (.inr (some 0))), (1, .inr (.inr (some 33)))] [] m := by
  unfold f_L_cp_67 at h
  refine x_aload_n C dX3_copyFrom_67 rfl ?_
  refine x_aload_n C dX3_copyFrom_68 rfl ?_
  refine x_getI C dX3_copyFrom_69 fF_X3_64 rfl rfl ?_
  refine x_putI C dX3_copyFrom_72 fF_X3_64 rfl rfl ?_
  refine x_aload_n C dX3_copyFrom_75 rfl ?_
  refine x_aload_n C dX3_copyFrom_76 rfl ?_
  refine x_getI C dX3_copyFrom_77 fF_X3_72 rfl rfl ?_
  refine x_putI C dX3_copyFrom_80 fF_X3_72 rfl rfl ?_
  refine x_aload_n C dX3_copyFrom_83 rfl ?_
  refine x_aload_n C dX3_copyFrom_84 rfl ?_
  refine x_getI C dX3_copyFrom_85 fF_X3_73 rfl rfl ?_
  refine x_putI C dX3_copyFrom_88 fF_X3_73 rfl rfl ?_
  refine x_aload_n C dX3_copyFrom_91 rfl ?_
  refine x_aload_n C dX3_copyFrom_92 rfl ?_
  refine x_getI C dX3_copyFrom_93 fF_X3_98 rfl rfl ?_
  refine x_putI C dX3_copyFrom_96 fF_X3_98 rfl rfl ?_
  refine x_loc [(0, .inr (.inr (some 0))), (1, .inr (.inr (some 33)))] ⟨rfl, rfl, trivial⟩ ?_
  exact t_L_cp_99 hd9 C hR _ h
def f_L_cp_44 (m : xM) : Option (xM) :=
     (if xcb 0 0 11 11 11 then f_L_cp_67 (xu (xcp m 63 30 (0) (0) (11)) 0 7 ((xcp m 63 30 (0) (0) (11)) 33 7))
      else none)
set_option maxRecDepth 1000000 in
set_option maxHeartbeats 4000000 in
theorem t_L_cp_44 {Γ : xG} {d : Nat} (hd9 : 3 ≤ d) (C : xC Γ lay_LL RX3 cX3_copyFrom 2 d) {m9 : xM} (hR : xRv Γ lay_LL cX3_copyFrom m9) (m : xM) (h : f_L_cp_44 m = some m9) : xW Γ lay_LL 2 44 [(0, .inr (.inr (some 0))), (1, .inr (.inr (some 33)))] [] m := by
  unfold f_L_cp_44 at h
  refine x_aload_n C dX3_copyFrom_44 rfl ?_
  refine x_getR C dX3_copyFrom_45 fF_X3_35 rfl rfl ?_
  refine x_iconst C dX3_copyFrom_48 ?_
  refine x_aload_n C dX3_copyFrom_49 rfl ?_
  refine x_getR C dX3_copyFrom_50 fF_X3_35 rfl rfl ?_
  refine x_iconst C dX3_copyFrom_53 ?_
  refine x_bipush C dX3_copyFrom_54 (by decide) ?_
  refine x_copy C dX3_copyFrom_56 (xin_35 _ (List.mem_of_getElem? (i := 13) rfl)) gm_copy_n gm_copy_s gm_copy_i (by omega) (Nat.le_of_ble_eq_true rfl) rfl rfl h (fun h => ?_)
  refine x_aload_n C dX3_copyFrom_59 rfl ?_
  refine x_aload_n C dX3_copyFrom_60 rfl ?_
  refine x_getI C dX3_copyFrom_61 fF_X3_61 rfl rfl ?_
  refine x_putI C dX3_copyFrom_64 fF_X3_61 rfl rfl ?_
  refine x_loc [(0, .inr (.inr (some 0))), (1, .inr (.inr (some 33)))] ⟨rfl, rfl, trivial⟩ ?_
  exact t_L_cp_67 hd9 C hR _ h
def f_L_cp_22 (m : xM) : Option (xM) :=
     (Option.bind (f_W_cp (xvw [23, 24, 25, 26, 27, 56, 57, 58, 59, 60] m)) fun q2 =>
      (Option.bind (f_G_cp (xvw [28, 29, 61, 62] (xmg [23, 24, 25, 26, 27, 56, 57, 58, 59, 60] 10 m q2))) fun q3 =>
      f_L_cp_44 (xmg [28, 29, 61, 62] 4 (xmg [23, 24, 25, 26, 27, 56, 57, 58, 59, 60] 10 m q2) q3)))
set_option maxRecDepth 1000000 in
set_option maxHeartbeats 4000000 in
theorem t_L_cp_22 {Γ : xG} {d : Nat} (hd9 : 3 ≤ d) (C : xC Γ lay_LL RX3 cX3_copyFrom 2 d) {m9 : xM} (hR : xRv Γ lay_LL cX3_copyFrom m9) (m : xM) (h : f_L_cp_22 m = some m9) : xW Γ lay_LL 2 22 [(0, .inr (.inr (some 0))), (1, .inr (.inr (some 33)))] [] m := by
  unfold f_L_cp_22 at h
  refine x_aload_n C dX3_copyFrom_22 rfl ?_
  refine x_getR C dX3_copyFrom_23 fF_X3_24 rfl rfl ?_
  refine x_aload_n C dX3_copyFrom_26 rfl ?_
  refine x_getR C dX3_copyFrom_27 fF_X3_24 rfl rfl ?_
  obtain ⟨q2, hq2, h⟩ := x_bind h
  refine x_callV C dX3_copyFrom_30 (xin_36 _ (List.mem_of_getElem? (i := 6) rfl)) xy_X9_copyFrom (xi_X9_copyFrom) (xs_X9_copyFrom) [23, 24, 25, 26, 27, 56, 57, 58, 59, 60] xv_13 (by omega) (by decide) (b := 0) rfl ⟨_, _, rfl⟩ (av := [.inr (.inr (some 5))]) rfl (Nat.le_of_ble_eq_true rfl) (c_W_cp _ _ _ hq2) rfl ?_
  refine x_aload_n C dX3_copyFrom_33 rfl ?_
  refine x_getR C dX3_copyFrom_34 fF_X3_31 rfl rfl ?_
  refine x_aload_n C dX3_copyFrom_37 rfl ?_
  refine x_getR C dX3_copyFrom_38 fF_X3_31 rfl rfl ?_
  obtain ⟨q3, hq3, h⟩ := x_bind h
  refine x_callV C dX3_copyFrom_41 (xin_36 _ (List.mem_of_getElem? (i := 13) rfl)) xy_X4_copyFrom (xi_X4_copyFrom) (xs_X4_copyFrom) [28, 29, 61, 62] xv_14 (by omega) (by decide) (b := 0) rfl ⟨_, _, rfl⟩ (av := [.inr (.inr (some 2))]) rfl (Nat.le_of_ble_eq_true rfl) (c_G_cp _ _ _ hq3) rfl ?_
  refine x_loc [(0, .inr (.inr (some 0))), (1, .inr (.inr (some 33)))] ⟨rfl, rfl, trivial⟩ ?_
  exact t_L_cp_44 hd9 C hR _ h
def f_L_cp_11 (m : xM) : Option (xM) :=
     (Option.bind (f_E_cp (xvw [12, 13, 14, 15, 16, 17, 18, 19, 20, 21, 22, 45, 46, 47, 48, 49, 50, 51, 52, 53, 54, 55] m)) fun q1 =>
      f_L_cp_22 (xmg [12, 13, 14, 15, 16, 17, 18, 19, 20, 21, 22, 45, 46, 47, 48, 49, 50, 51, 52, 53, 54, 55] 22 m q1))
set_option maxRecDepth 1000000 in
set_option maxHeartbeats 4000000 in
theorem t_L_cp_11 {Γ : xG} {d : Nat} (hd9 : 3 ≤ d) (C : xC Γ lay_LL RX3 cX3_copyFrom 2 d) {m9 : xM} (hR : xRv Γ lay_LL cX3_copyFrom m9) (m : xM) (h : f_L_cp_11 m = some m9) : xW Γ lay_LL 2 11 [(0, .inr (.inr (some 0))), (1, .inr (.inr (some 33)))] [] m := by
  unfold f_L_cp_11 at h
  refine x_aload_n C dX3_copyFrom_11 rfl ?_
  refine x_getR C dX3_copyFrom_12 fF_X3_18 rfl rfl ?_
  refine x_aload_n C dX3_copyFrom_15 rfl ?_
  refine x_getR C dX3_copyFrom_16 fF_X3_18 rfl rfl ?_
  obtain ⟨q1, hq1, h⟩ := x_bind h
  refine x_callV C dX3_copyFrom_19 (xin_35 _ (List.mem_of_getElem? (i := 18) rfl)) xy_X1_copyFrom (xi_X1_copyFrom) (xs_X1_copyFrom) [12, 13, 14, 15, 16, 17, 18, 19, 20, 21, 22, 45, 46, 47, 48, 49, 50, 51, 52, 53, 54, 55] xv_12 (by omega) (by decide) (b := 0) rfl ⟨_, _, rfl⟩ (av := [.inr (.inr (some 11))]) rfl (Nat.le_of_ble_eq_true rfl) (c_E_cp _ _ _ hq1) rfl ?_
  refine x_loc [(0, .inr (.inr (some 0))), (1, .inr (.inr (some 33)))] ⟨rfl, rfl, trivial⟩ ?_
  exact t_L_cp_22 hd9 C hR _ h
def f_L_cp (m : xM) : Option (xM) :=
     (Option.bind (f_E_cp (xvw [1, 2, 3, 4, 5, 6, 7, 8, 9, 10, 11, 34, 35, 36, 37, 38, 39, 40, 41, 42, 43, 44] m)) fun q0 =>
      f_L_cp_11 (xmg [1, 2, 3, 4, 5, 6, 7, 8, 9, 10, 11, 34, 35, 36, 37, 38, 39, 40, 41, 42, 43, 44] 22 m q0))
set_option maxRecDepth 1000000 in
set_option maxHeartbeats 4000000 in
theorem t_L_cp {Γ : xG} {d : Nat} (hd9 : 3 ≤ d) (C : xC Γ lay_LL RX3 cX3_copyFrom 2 d) {m9 : xM} (hR : xRv Γ lay_LL cX3_copyFrom m9) (m : xM) (h : f_L_cp m = some m9) : xW Γ lay_LL 2 0 [(0, .inr (.inr (some 0))), (1, .inr (.inr (some 33)))] [] m := by
  unfold f_L_cp at h
  refine x_aload_n C dX3_copyFrom_0 rfl ?_
  refine x_getR C dX3_copyFrom_1 fF_X3_12 rfl rfl ?_
  refine x_aload_n C dX3_copyFrom_4 rfl ?_
  refine x_getR C dX3_copyFrom_5 fF_X3_12 rfl rfl ?_
  obtain ⟨q0, hq0, h⟩ := x_bind h
  refine x_callV C dX3_copyFrom_8 (xin_35 _ (List.mem_of_getElem? (i := 18) rfl)) xy_X1_copyFrom (xi_X1_copyFrom) (xs_X1_copyFrom) [1, 2, 3, 4, 5, 6, 7, 8, 9, 10, 11, 34, 35, 36, 37, 38, 39, 40, 41, 42, 43, 44] xv_11 (by omega) (by decide) (b := 0) rfl ⟨_, _, rfl⟩ (av := [.inr (.inr (some 11))]) rfl (Nat.le_of_ble_eq_true rfl) (c_E_cp _ _ _ hq0) rfl ?_
  refine x_loc [(0, .inr (.inr (some 0))), (1, .inr (.inr (some 33)))] ⟨rfl, rfl, trivial⟩ ?_
  exact t_L_cp_11 hd9 C hR _ h
theorem c_L_cp (l : Launch) (m m9 : xM) (h : f_L_cp m = some m9) : xMet l yX3_copyFrom cX3_copyFrom 2 none 3 lay_LL [.inr (.inr (some 0)), .inr (.inr (some 33))] m none m9 :=
  xMet_v (by decide +kernel) (Nat.le_of_ble_eq_true rfl) (fun Γ C hR _ => t_L_cp (Nat.le_refl _) C hR m h)
theorem xy_X1_begin : xY yX1_begin cX1_begin 1 none 0 := ⟨(xin_8 _ (List.mem_of_getElem? (i := 7) rfl)), (xin_4 _ (List.mem_of_getElem? (i := 0) rfl)), by decide, by decide, by decide +kernel⟩
theorem xi_X1_begin : Cond.instanceMethod yX1_begin ∈ wsL_law := (xin_8 _ (List.mem_of_getElem? (i := 5) rfl))
theorem xs_X1_begin : Cond.selects yX1_begin.cls yX1_begin yX1_begin ∈ wsL_law := (xin_8 _ (List.mem_of_getElem? (i := 6) rfl))
theorem xv_15 : xview lay_L0 lay_E [1, 2, 3, 4, 5, 6, 7, 8, 9, 10, 11] := xview_of (by decide +kernel)
theorem xv_16 : xview lay_L0 lay_E [12, 13, 14, 15, 16, 17, 18, 19, 20, 21, 22] := xview_of (by decide +kernel)
theorem fF_X3_53 : xF RX3 53 11 5 .int false := ⟨RX9, TX9, 6, tyX9, rfl, by decide, (xin_7 _ (List.mem_of_getElem? (i := 18) rfl)), rfl, inlX9, tyX9_ok, nmX9, rfl, rfl⟩
theorem fF_X3_57 : xF RX3 57 6 1 .int false := ⟨RX4, TX4, 3, tyX4, rfl, by decide, (xin_7 _ (List.mem_of_getElem? (i := 19) rfl)), rfl, inlX4, tyX4_ok, nmX4, rfl, rfl⟩
theorem fF_X3_60 : xF RX3 60 6 2 .int false := ⟨RX4, TX4, 3, tyX4, rfl, by decide, (xin_7 _ (List.mem_of_getElem? (i := 20) rfl)), rfl, inlX4, tyX4_ok, nmX4, rfl, rfl⟩
theorem fF_X3_46 : xF RX3 46 5 0 (.object "ModemLink$Setup") true := ⟨RX3, TX3, 17, tyX3, rfl, by decide, (xin_4 _ (List.mem_of_getElem? (i := 16) rfl)), rfl, inlX3, tyX3_ok, nmX3, rfl, rfl⟩
theorem fF_X3_67 : xF RX3 67 8 6 .int false := ⟨RX6, TX6, 14, tyX6, rfl, by decide, (xin_7 _ (List.mem_of_getElem? (i := 23) rfl)), rfl, inlX6, tyX6_ok, nmX6, rfl, rfl⟩
theorem dX3_begin_0 : decode cX3_begin 0 = .ok (.aload_n 0, 1) := by decide +kernel
theorem dX3_begin_1 : decode cX3_begin 1 = .ok (.getfield 12, 3) := by decide +kernel
theorem dX3_begin_4 : decode cX3_begin 4 = .ok (.invokevirtual 50, 3) := by decide +kernel
theorem dX3_begin_7 : decode cX3_begin 7 = .ok (.aload_n 0, 1) := by decide +kernel
theorem dX3_begin_8 : decode cX3_begin 8 = .ok (.getfield 18, 3) := by decide +kernel
theorem dX3_begin_11 : decode cX3_begin 11 = .ok (.invokevirtual 50, 3) := by decide +kernel
theorem dX3_begin_14 : decode cX3_begin 14 = .ok (.aload_n 0, 1) := by decide +kernel
theorem dX3_begin_15 : decode cX3_begin 15 = .ok (.getfield 24, 3) := by decide +kernel
theorem dX3_begin_18 : decode cX3_begin 18 = .ok (.iconst 0, 1) := by decide +kernel
theorem dX3_begin_19 : decode cX3_begin 19 = .ok (.putfield 53, 3) := by decide +kernel
theorem dX3_begin_22 : decode cX3_begin 22 = .ok (.aload_n 0, 1) := by decide +kernel
theorem dX3_begin_23 : decode cX3_begin 23 = .ok (.getfield 31, 3) := by decide +kernel
theorem dX3_begin_26 : decode cX3_begin 26 = .ok (.iconst 0, 1) := by decide +kernel
theorem dX3_begin_27 : decode cX3_begin 27 = .ok (.putfield 57, 3) := by decide +kernel
theorem dX3_begin_30 : decode cX3_begin 30 = .ok (.aload_n 0, 1) := by decide +kernel
theorem dX3_begin_31 : decode cX3_begin 31 = .ok (.getfield 31, 3) := by decide +kernel
theorem dX3_begin_34 : decode cX3_begin 34 = .ok (.iconst 0, 1) := by decide +kernel
theorem dX3_begin_35 : decode cX3_begin 35 = .ok (.putfield 60, 3) := by decide +kernel
theorem dX3_begin_38 : decode cX3_begin 38 = .ok (.iconst 0, 1) := by decide +kernel
theorem dX3_begin_39 : decode cX3_begin 39 = .ok (.istore_n 1, 1) := by decide +kernel
theorem dX3_begin_40 : decode cX3_begin 40 = .ok (.iload_n 1, 1) := by decide +kernel
theorem dX3_begin_41 : decode cX3_begin 41 = .ok (.aload_n 0, 1) := by decide +kernel
theorem dX3_begin_42 : decode cX3_begin 42 = .ok (.getfield 35, 3) := by decide +kernel
theorem dX3_begin_45 : decode cX3_begin 45 = .ok (.arraylength, 1) := by decide +kernel
theorem dX3_begin_46 : decode cX3_begin 46 = .ok (.if_icmp .ge 16, 3) := by decide +kernel
theorem dX3_begin_49 : decode cX3_begin 49 = .ok (.aload_n 0, 1) := by decide +kernel
theorem dX3_begin_50 : decode cX3_begin 50 = .ok (.getfield 35, 3) := by decide +kernel
theorem dX3_begin_53 : decode cX3_begin 53 = .ok (.iload_n 1, 1) := by decide +kernel
theorem dX3_begin_54 : decode cX3_begin 54 = .ok (.iconst 0, 1) := by decide +kernel
theorem dX3_begin_55 : decode cX3_begin 55 = .ok (.iastore, 1) := by decide +kernel
theorem dX3_begin_56 : decode cX3_begin 56 = .ok (.iinc 1 1, 3) := by decide +kernel
theorem dX3_begin_59 : decode cX3_begin 59 = .ok (.goto (-19), 3) := by decide +kernel
theorem dX3_begin_62 : decode cX3_begin 62 = .ok (.aload_n 0, 1) := by decide +kernel
theorem dX3_begin_63 : decode cX3_begin 63 = .ok (.iconst 0, 1) := by decide +kernel
theorem dX3_begin_64 : decode cX3_begin 64 = .ok (.putfield 61, 3) := by decide +kernel
theorem dX3_begin_67 : decode cX3_begin 67 = .ok (.aload_n 0, 1) := by decide +kernel
theorem dX3_begin_68 : decode cX3_begin 68 = .ok (.iconst 0, 1) := by decide +kernel
theorem dX3_begin_69 : decode cX3_begin 69 = .ok (.putfield 64, 3) := by decide +kernel
theorem dX3_begin_72 : decode cX3_begin 72 = .ok (.aload_n 0, 1) := by decide +kernel
theorem dX3_begin_73 : decode cX3_begin 73 = .ok (.aload_n 0, 1) := by decide +kernel
theorem dX3_begin_74 : decode cX3_begin 74 = .ok (.getfield 46, 3) := by decide +kernel
theorem dX3_begin_77 : decode cX3_begin 77 = .ok (.getfield 67, 3) := by decide +kernel
theorem dX3_begin_80 : decode cX3_begin 80 = .ok (.putfield 72, 3) := by decide +kernel
theorem dX3_begin_83 : decode cX3_begin 83 = .ok (.aload_n 0, 1) := by decide +kernel
theorem dX3_begin_84 : decode cX3_begin 84 = .ok (.iconst 0, 1) := by decide +kernel
theorem dX3_begin_85 : decode cX3_begin 85 = .ok (.putfield 73, 3) := by decide +kernel
theorem dX3_begin_88 : decode cX3_begin 88 = .ok (.aload_n 0, 1) := by decide +kernel
theorem dX3_begin_89 : decode cX3_begin 89 = .ok (.iconst 0, 1) := by decide +kernel
theorem dX3_begin_90 : decode cX3_begin 90 = .ok (.putfield 76, 3) := by decide +kernel
theorem dX3_begin_93 : decode cX3_begin 93 = .ok (.aload_n 0, 1) := by decide +kernel
theorem dX3_begin_94 : decode cX3_begin 94 = .ok (.iconst 0, 1) := by decide +kernel
theorem dX3_begin_95 : decode cX3_begin 95 = .ok (.putfield 79, 3) := by decide +kernel
theorem dX3_begin_98 : decode cX3_begin 98 = .ok (.return_, 1) := by decide +kernel
def f_L_begin_93 (m : xM) : Option (xM) :=
     some (xu m 0 16 0)
set_option maxRecDepth 1000000 in
set_option maxHeartbeats 4000000 in
theorem t_L_begin_93 {Γ : xG} {d : Nat} (hd9 : 3 ≤ d) (C : xC Γ lay_L0 RX3 cX3_begin 2 d) {m9 : xM} (hR : xRv Γ lay_L0 cX3_begin m9) (m : xM) (h : f_L_begin_93 m = some m9) : xW Γ lay_L0 2 93 [(0, .inr (.inr (some 0)))] [] m := by
  unfold f_L_begin_93 at h
  refine x_aload_n C dX3_begin_93 rfl ?_
  refine x_iconst C dX3_begin_94 ?_
  refine x_putI C dX3_begin_95 fF_X3_79 rfl rfl ?_
  exact x_returnV hR dX3_begin_98 h
def f_L_begin_62 (m : xM) : Option (xM) :=
     f_L_begin_93 (xu (xu (xu (xu (xu m 0 7 0) 0 8 0) 0 9 (m 33 6)) 0 10 0) 0 15 0)
set_option maxRecDepth 1000000 in
set_option maxHeartbeats 4000000 in
theorem t_L_begin_62 {Γ : xG} {d : Nat} (hd9 : 3 ≤ d) (C : xC Γ lay_L0 RX3 cX3_begin 2 d) {m9 : xM} (hR : xRv Γ lay_L0 cX3_begin m9) (m : xM) (h : f_L_begin_62 m = some m9) : xW Γ lay_L0 2 62 [(0, .inr (.inr (some 0)))] [] m := by
  unfold f_L_begin_62 at h
  refine x_aload_n C dX3_begin_62 rfl ?_
  refine x_iconst C dX3_begin_63 ?_
  refine x_putI C dX3_begin_64 fF_X3_61 rfl rfl ?_
  refine x_aload_n C dX3_begin_67 rfl ?_
  refine x_iconst C dX3_begin_68 ?_
  refine x_putI C dX3_begin_69 fF_X3_64 rfl rfl ?_
  refine x_aload_n C dX3_begin_72 rfl ?_
  refine x_aload_n C dX3_begin_73 rfl ?_
  refine x_getR C dX3_begin_74 fF_X3_46 rfl rfl ?_
  refine x_getI C dX3_begin_77 fF_X3_67 rfl rfl ?_
  refine x_putI C dX3_begin_80 fF_X3_72 rfl rfl ?_
  refine x_aload_n C dX3_begin_83 rfl ?_
  refine x_iconst C dX3_begin_84 ?_
  refine x_putI C dX3_begin_85 fF_X3_73 rfl rfl ?_
  refine x_aload_n C dX3_begin_88 rfl ?_
  refine x_iconst C dX3_begin_89 ?_
  refine x_putI C dX3_begin_90 fF_X3_76 rfl rfl ?_
  refine x_loc [(0, .inr (.inr (some 0)))] ⟨rfl, trivial⟩ ?_
  exact t_L_begin_93 hd9 C hR _ h
def f_L_begin_40 : Nat → Int → xM → Option (xM)
  | 0, _, _ => none
  | n + 1, x1, m =>
     (if xw x1 < xw 11 then (if xib x1 11 then f_L_begin_40 n (x1 + 1) (xu m 30 (xix x1) 0)
      else none)
      else f_L_begin_62 m)
set_option maxRecDepth 1000000 in
set_option maxHeartbeats 4000000 in
theorem t_L_begin_40 {Γ : xG} {d : Nat} (hd9 : 3 ≤ d) (C : xC Γ lay_L0 RX3 cX3_begin 2 d) {m9 : xM} (hR : xRv Γ lay_L0 cX3_begin m9) : ∀ (n : Nat) (x1 : Int) (m : xM), f_L_begin_40 n x1 m = some m9 → xW Γ lay_L0 2 40 [(0, .inr (.inr (some 0))), (1, .inl x1)] [] m := by
  intro n
  induction n with
  | zero => intro _ _ h; cases h
  | succ n ih =>
    intro x1 m h
    rw [f_L_begin_40] at h
    refine x_iload_n C dX3_begin_40 rfl ?_
    refine x_aload_n C dX3_begin_41 rfl ?_
    refine x_getR C dX3_begin_42 fF_X3_35 rfl rfl ?_
    refine x_len C dX3_begin_45 rfl ?_
    refine x_icmp_ge C 62 dX3_begin_46 (by decide) h (fun h => ?_) (fun h => ?_)
    · refine x_loc [(0, .inr (.inr (some 0)))] ⟨rfl, trivial⟩ ?_
      exact t_L_begin_62 hd9 C hR _ h
    · refine x_aload_n C dX3_begin_49 rfl ?_
      refine x_getR C dX3_begin_50 fF_X3_35 rfl rfl ?_
      refine x_iload_n C dX3_begin_53 rfl ?_
      refine x_iconst C dX3_begin_54 ?_
      refine x_iastore C dX3_begin_55 rfl h (fun h => ?_)
      refine x_iinc C dX3_begin_56 (by decide) rfl ?_
      refine x_goto C 40 dX3_begin_59 (by decide) ?_
      refine x_loc [(0, .inr (.inr (some 0))), (1, .inl (x1 + 1))] ⟨rfl, rfl, trivial⟩ ?_
      exact ih _ _ h
def f_L_begin_14 (m : xM) : Option (xM) :=
     f_L_begin_40 fu 0 (xu (xu (xu m 23 5 0) 28 1 0) 28 2 0)
set_option maxRecDepth 1000000 in
set_option maxHeartbeats 4000000 in
theorem t_L_begin_14 {Γ : xG} {d : Nat} (hd9 : 3 ≤ d) (C : xC Γ lay_L0 RX3 cX3_begin 2 d) {m9 : xM} (hR : xRv Γ lay_L0 cX3_begin m9) (m : xM) (h : f_L_begin_14 m = some m9) : xW Γ lay_L0 2 14 [(0, .inr (.inr (some 0)))] [] m := by
  unfold f_L_begin_14 at h
  refine x_aload_n C dX3_begin_14 rfl ?_
  refine x_getR C dX3_begin_15 fF_X3_24 rfl rfl ?_
  refine x_iconst C dX3_begin_18 ?_
  refine x_putI C dX3_begin_19 fF_X3_53 rfl rfl ?_
  refine x_aload_n C dX3_begin_22 rfl ?_
  refine x_getR C dX3_begin_23 fF_X3_31 rfl rfl ?_
  refine x_iconst C dX3_begin_26 ?_
  refine x_putI C dX3_begin_27 fF_X3_57 rfl rfl ?_
  refine x_aload_n C dX3_begin_30 rfl ?_
  refine x_getR C dX3_begin_31 fF_X3_31 rfl rfl ?_
  refine x_iconst C dX3_begin_34 ?_
  refine x_putI C dX3_begin_35 fF_X3_60 rfl rfl ?_
  refine x_iconst C dX3_begin_38 ?_
  refine x_istore_n C dX3_begin_39 (by decide) ?_
  refine x_loc [(0, .inr (.inr (some 0))), (1, .inl 0)] ⟨rfl, rfl, trivial⟩ ?_
  exact t_L_begin_40 hd9 C hR fu _ _ h
def f_L_begin (m : xM) : Option (xM) :=
     (Option.bind (f_E_begin (xvw [1, 2, 3, 4, 5, 6, 7, 8, 9, 10, 11] m)) fun q0 =>
      (Option.bind (f_E_begin (xvw [12, 13, 14, 15, 16, 17, 18, 19, 20, 21, 22] (xmg [1, 2, 3, 4, 5, 6, 7, 8, 9, 10, 11] 11 m q0))) fun q1 =>
      f_L_begin_14 (xmg [12, 13, 14, 15, 16, 17, 18, 19, 20, 21, 22] 11 (xmg [1, 2, 3, 4, 5, 6, 7, 8, 9, 10, 11] 11 m q0) q1)))
set_option maxRecDepth 1000000 in
set_option maxHeartbeats 4000000 in
theorem t_L_begin {Γ : xG} {d : Nat} (hd9 : 3 ≤ d) (C : xC Γ lay_L0 RX3 cX3_begin 2 d) {m9 : xM} (hR : xRv Γ lay_L0 cX3_begin m9) (m : xM) (h : f_L_begin m = some m9) : xW Γ lay_L0 2 0 [(0, .inr (.inr (some 0)))] [] m := by
  unfold f_L_begin at h
  refine x_aload_n C dX3_begin_0 rfl ?_
  refine x_getR C dX3_begin_1 fF_X3_12 rfl rfl ?_
  obtain ⟨q0, hq0, h⟩ := x_bind h
  refine x_callV C dX3_begin_4 (xin_8 _ (List.mem_of_getElem? (i := 4) rfl)) xy_X1_begin (xi_X1_begin) (xs_X1_begin) [1, 2, 3, 4, 5, 6, 7, 8, 9, 10, 11] xv_15 (by omega) (by decide) (b := 0) rfl ⟨_, _, rfl⟩ (av := []) rfl (Nat.le_of_ble_eq_true rfl) (c_E_begin _ _ _ hq0) rfl ?_
  refine x_aload_n C dX3_begin_7 rfl ?_
  refine x_getR C dX3_begin_8 fF_X3_18 rfl rfl ?_
  obtain ⟨q1, hq1, h⟩ := x_bind h
  refine x_callV C dX3_begin_11 (xin_8 _ (List.mem_of_getElem? (i := 4) rfl)) xy_X1_begin (xi_X1_begin) (xs_X1_begin) [12, 13, 14, 15, 16, 17, 18, 19, 20, 21, 22] xv_16 (by omega) (by decide) (b := 0) rfl ⟨_, _, rfl⟩ (av := []) rfl (Nat.le_of_ble_eq_true rfl) (c_E_begin _ _ _ hq1) rfl ?_
  refine x_loc [(0, .inr (.inr (some 0)))] ⟨rfl, trivial⟩ ?_
  exact t_L_begin_14 hd9 C hR _ h
theorem c_L_begin (l : Launch) (m m9 : xM) (h : f_L_begin m = some m9) : xMet l yX3_begin cX3_begin 2 none 3 lay_L0 [.inr (.inr (some 0))] m none m9 :=
  xMet_v (by decide +kernel) (Nat.le_of_ble_eq_true rfl) (fun Γ C hR _ => t_L_begin (Nat.le_refl _) C hR m h)
theorem xy_X4_add : xY yX4_add cX4_add 6 none 4 := ⟨(xin_38 _ (List.mem_of_getElem? (i := 18) rfl)), (xin_4 _ (List.mem_of_getElem? (i := 9) rfl)), by decide, by decide, by decide +kernel⟩
theorem xi_X4_add : Cond.instanceMethod yX4_add ∈ wsL_law := (xin_38 _ (List.mem_of_getElem? (i := 16) rfl))
theorem xs_X4_add : Cond.selects yX4_add.cls yX4_add yX4_add ∈ wsL_law := (xin_38 _ (List.mem_of_getElem? (i := 17) rfl))
theorem xv_17 : xview lay_L0 lay_G [28, 29] := xview_of (by decide +kernel)
theorem dX3_note_0 : decode cX3_note 0 = .ok (.aload_n 0, 1) := by decide +kernel
theorem dX3_note_1 : decode cX3_note 1 = .ok (.getfield 31, 3) := by decide +kernel
theorem dX3_note_4 : decode cX3_note 4 = .ok (.aload_n 0, 1) := by decide +kernel
theorem dX3_note_5 : decode cX3_note 5 = .ok (.getfield 61, 3) := by decide +kernel
theorem dX3_note_8 : decode cX3_note 8 = .ok (.iload_n 1, 1) := by decide +kernel
theorem dX3_note_9 : decode cX3_note 9 = .ok (.iload_n 2, 1) := by decide +kernel
theorem dX3_note_10 : decode cX3_note 10 = .ok (.aload_n 0, 1) := by decide +kernel
theorem dX3_note_11 : decode cX3_note 11 = .ok (.getfield 64, 3) := by decide +kernel
theorem dX3_note_14 : decode cX3_note 14 = .ok (.iconst 2, 1) := by decide +kernel
theorem dX3_note_15 : decode cX3_note 15 = .ok (.if_icmp .ne 10, 3) := by decide +kernel
theorem dX3_note_18 : decode cX3_note 18 = .ok (.aload_n 0, 1) := by decide +kernel
theorem dX3_note_19 : decode cX3_note 19 = .ok (.getfield 73, 3) := by decide +kernel
theorem dX3_note_22 : decode cX3_note 22 = .ok (.goto 4, 3) := by decide +kernel
theorem dX3_note_25 : decode cX3_note 25 = .ok (.iconst (-1), 1) := by decide +kernel
theorem dX3_note_26 : decode cX3_note 26 = .ok (.invokevirtual 195, 3) := by decide +kernel
theorem dX3_note_29 : decode cX3_note 29 = .ok (.return_, 1) := by decide +kernel
def f_L_note_26 (k : Int) (z : Int) (s0 : Int) (s1 : Int) (s2 : Int) (s3 : Int) (m : xM) : Option (xM) :=
     (Option.bind (f_G_add s3 s2 s1 s0 (xvw [28, 29] m)) fun q0 =>
      some (xmg [28, 29] 2 m q0))
set_option maxRecDepth 1000000 in
set_option maxHeartbeats 4000000 in
theorem t_L_note_26 {Γ : xG} {d : Nat} (hd9 : 3 ≤ d) (C : xC Γ lay_L0 RX3 cX3_note 3 d) (k : Int) (z : Int) {m9 : xM} (hR : xRv Γ lay_L0 cX3_note m9) (s0 : Int) (s1 : Int) (s2 : Int) (s3 : Int) (m : xM) (h : f_L_note_26 k z s0 s1 s2 s3 m = some m9) : xW Γ lay_L0 3 26 [] [.inl s0, .inl s1, .inl s2, .inl s3, .inr (.inr (some 28))] m := by
  unfold f_L_note_26 at h
  obtain ⟨q0, hq0, h⟩ := x_bind h
  refine x_callV C dX3_note_26 (xin_38 _ (List.mem_of_getElem? (i := 15) rfl)) xy_X4_add (xi_X4_add) (xs_X4_add) [28, 29] xv_17 (by omega) (by decide) (b := 0) rfl ⟨_, _, rfl⟩ (av := [.inl s3, .inl s2, .inl s1, .inl s0]) rfl (Nat.le_of_ble_eq_true rfl) (c_G_add _ _ _ _ _ _ _ hq0) rfl ?_
  exact x_returnV hR dX3_note_29 h
def f_L_note (k : Int) (z : Int) (m : xM) : Option (xM) :=
     (if xw (m 0 8) = xw 2 then f_L_note_26 k z (m 0 10) z k (m 0 7) m
      else f_L_note_26 k z (-1) z k (m 0 7) m)
set_option maxRecDepth 1000000 in
set_option maxHeartbeats 4000000 in
theorem t_L_note {Γ : xG} {d : Nat} (hd9 : 3 ≤ d) (C : xC Γ lay_L0 RX3 cX3_note 3 d) (k : Int) (z : Int) {m9 : xM} (hR : xRv Γ lay_L0 cX3_note m9) (m : xM) (h : f_L_note k z m = some m9) : xW Γ lay_L0 3 0 [(0, .inr (.inr (some 0))), (1, .inl k), (2, .inl z)] [] m := by
  unfold f_L_note at h
  refine x_aload_n C dX3_note_0 rfl ?_
  refine x_getR C dX3_note_1 fF_X3_31 rfl rfl ?_
  refine x_aload_n C dX3_note_4 rfl ?_
  refine x_getI C dX3_note_5 fF_X3_61 rfl rfl ?_
  refine x_iload_n C dX3_note_8 rfl ?_
  refine x_iload_n C dX3_note_9 rfl ?_
  refine x_aload_n C dX3_note_10 rfl ?_
  refine x_getI C dX3_note_11 fF_X3_64 rfl rfl ?_
  refine x_iconst C dX3_note_14 ?_
  refine x_icmp_ne C 25 dX3_note_15 (by decide) h (fun h => ?_) (fun h => ?_)
  · refine x_iconst C dX3_note_25 ?_
    refine x_loc [] trivial ?_
    exact t_L_note_26 hd9 C _ _ hR _ _ _ _ _ h
  · refine x_aload_n C dX3_note_18 rfl ?_
    refine x_getI C dX3_note_19 fF_X3_73 rfl rfl ?_
    refine x_goto C 26 dX3_note_22 (by decide) ?_
    refine x_loc [] trivial ?_
    exact t_L_note_26 hd9 C _ _ hR _ _ _ _ _ h
theorem c_L_note (l : Launch) (k : Int) (z : Int) (m m9 : xM) (h : f_L_note k z m = some m9) : xMet l yX3_note cX3_note 3 none 3 lay_L0 [.inr (.inr (some 0)), .inl k, .inl z] m none m9 :=
  xMet_v (by decide +kernel) (Nat.le_of_ble_eq_true rfl) (fun Γ C hR _ => t_L_note (Nat.le_refl _) C k z hR m h)
theorem xv_18 : xview lay_L1 lay_G [28, 29] := xview_of (by decide +kernel)
set_option maxRecDepth 1000000 in
set_option maxHeartbeats 4000000 in
theorem t_L_note_26_1 {Γ : xG} {d : Nat} (hd9 : 3 ≤ d) (C : xC Γ lay_L1 RX3 cX3_note 3 d) (k : Int) (z : Int) {m9 : xM} (hR : xRv Γ lay_L1 cX3_note m9) (s0 : Int) (s1 : Int) (s2 : Int) (s3 : Int) (m : xM) (h : f_L_note_26 k z s0 s1 s2 s3 m = some m9) : xW Γ lay_L1 3 26 [] [.inl s0, .inl s1, .inl s2, .inl s3, .inr (.inr (some 28))] m := by
  unfold f_L_note_26 at h
  obtain ⟨q0, hq0, h⟩ := x_bind h
  refine x_callV C dX3_note_26 (xin_38 _ (List.mem_of_getElem? (i := 15) rfl)) xy_X4_add (xi_X4_add) (xs_X4_add) [28, 29] xv_18 (by omega) (by decide) (b := 0) rfl ⟨_, _, rfl⟩ (av := [.inl s3, .inl s2, .inl s1, .inl s0]) rfl (Nat.le_of_ble_eq_true rfl) (c_G_add _ _ _ _ _ _ _ hq0) rfl ?_
  exact x_returnV hR dX3_note_29 h
set_option maxRecDepth 1000000 in
set_option maxHeartbeats 4000000 in
theorem t_L_note_1 {Γ : xG} {d : Nat} (hd9 : 3 ≤ d) (C : xC Γ lay_L1 RX3 cX3_note 3 d) (k : Int) (z : Int) {m9 : xM} (hR : xRv Γ lay_L1 cX3_note m9) (m : xM) (h : f_L_note k z m = some m9) : xW Γ lay_L1 3 0 [(0, .inr (.inr (some 0))), (1, .inl k), (2, .inl z)] [] m := by
  unfold f_L_note at h
  refine x_aload_n C dX3_note_0 rfl ?_
  refine x_getR C dX3_note_1 fF_X3_31 rfl rfl ?_
  refine x_aload_n C dX3_note_4 rfl ?_
  refine x_getI C dX3_note_5 fF_X3_61 rfl rfl ?_
  refine x_iload_n C dX3_note_8 rfl ?_
  refine x_iload_n C dX3_note_9 rfl ?_
  refine x_aload_n C dX3_note_10 rfl ?_
  refine x_getI C dX3_note_11 fF_X3_64 rfl rfl ?_
  refine x_iconst C dX3_note_14 ?_
  refine x_icmp_ne C 25 dX3_note_15 (by decide) h (fun h => ?_) (fun h => ?_)
  · refine x_iconst C dX3_note_25 ?_
    refine x_loc [] trivial ?_
    exact t_L_note_26_1 hd9 C _ _ hR _ _ _ _ _ h
  · refine x_aload_n C dX3_note_18 rfl ?_
    refine x_getI C dX3_note_19 fF_X3_73 rfl rfl ?_
    refine x_goto C 26 dX3_note_22 (by decide) ?_
    refine x_loc [] trivial ?_
    exact t_L_note_26_1 hd9 C _ _ hR _ _ _ _ _ h
theorem c_L_note_1 (l : Launch) (k : Int) (z : Int) (m m9 : xM) (h : f_L_note k z m = some m9) : xMet l yX3_note cX3_note 3 none 3 lay_L1 [.inr (.inr (some 0)), .inl k, .inl z] m none m9 :=
  xMet_v (by decide +kernel) (Nat.le_of_ble_eq_true rfl) (fun Γ C hR _ => t_L_note_1 (Nat.le_refl _) C k z hR m h)
theorem xy_X1_loseAll : xY yX1_loseAll cX1_loseAll 1 none 0 := ⟨(xin_38 _ (List.mem_of_getElem? (i := 6) rfl)), (xin_4 _ (List.mem_of_getElem? (i := 0) rfl)), by decide, by decide, by decide +kernel⟩
theorem xi_X1_loseAll : Cond.instanceMethod yX1_loseAll ∈ wsL_law := (xin_38 _ (List.mem_of_getElem? (i := 4) rfl))
theorem xs_X1_loseAll : Cond.selects yX1_loseAll.cls yX1_loseAll yX1_loseAll ∈ wsL_law := (xin_38 _ (List.mem_of_getElem? (i := 5) rfl))
theorem xy_X3_note : xY yX3_note cX3_note 3 none 2 := ⟨(xin_38 _ (List.mem_of_getElem? (i := 14) rfl)), (xin_1 _ (List.mem_of_getElem? (i := 20) rfl)), by decide, by decide, by decide +kernel⟩
theorem xi_X3_note : Cond.instanceMethod yX3_note ∈ wsL_law := (xin_38 _ (List.mem_of_getElem? (i := 12) rfl))
theorem xs_X3_note : Cond.selects yX3_note.cls yX3_note yX3_note ∈ wsL_law := (xin_38 _ (List.mem_of_getElem? (i := 13) rfl))
theorem dX3_cut_0 : decode cX3_cut 0 = .ok (.aload_n 0, 1) := by decide +kernel
theorem dX3_cut_1 : decode cX3_cut 1 = .ok (.iconst 0, 1) := by decide +kernel
theorem dX3_cut_2 : decode cX3_cut 2 = .ok (.putfield 64, 3) := by decide +kernel
theorem dX3_cut_5 : decode cX3_cut 5 = .ok (.aload_n 0, 1) := by decide +kernel
theorem dX3_cut_6 : decode cX3_cut 6 = .ok (.getfield 12, 3) := by decide +kernel
theorem dX3_cut_9 : decode cX3_cut 9 = .ok (.invokevirtual 189, 3) := by decide +kernel
theorem dX3_cut_12 : decode cX3_cut 12 = .ok (.aload_n 0, 1) := by decide +kernel
theorem dX3_cut_13 : decode cX3_cut 13 = .ok (.getfield 18, 3) := by decide +kernel
theorem dX3_cut_16 : decode cX3_cut 16 = .ok (.invokevirtual 189, 3) := by decide +kernel
theorem dX3_cut_19 : decode cX3_cut 19 = .ok (.aload_n 0, 1) := by decide +kernel
theorem dX3_cut_20 : decode cX3_cut 20 = .ok (.getfield 24, 3) := by decide +kernel
theorem dX3_cut_23 : decode cX3_cut 23 = .ok (.iconst 0, 1) := by decide +kernel
theorem dX3_cut_24 : decode cX3_cut 24 = .ok (.putfield 53, 3) := by decide +kernel
theorem dX3_cut_27 : decode cX3_cut 27 = .ok (.aload_n 0, 1) := by decide +kernel
theorem dX3_cut_28 : decode cX3_cut 28 = .ok (.getfield 35, 3) := by decide +kernel
theorem dX3_cut_31 : decode cX3_cut 31 = .ok (.bipush 7, 2) := by decide +kernel
theorem dX3_cut_33 : decode cX3_cut 33 = .ok (.dup2, 1) := by decide +kernel
theorem dX3_cut_34 : decode cX3_cut 34 = .ok (.iaload, 1) := by decide +kernel
theorem dX3_cut_35 : decode cX3_cut 35 = .ok (.iconst 1, 1) := by decide +kernel
theorem dX3_cut_36 : decode cX3_cut 36 = .ok (.iadd, 1) := by decide +kernel
theorem dX3_cut_37 : decode cX3_cut 37 = .ok (.iastore, 1) := by decide +kernel
theorem dX3_cut_38 : decode cX3_cut 38 = .ok (.aload_n 0, 1) := by decide +kernel
theorem dX3_cut_39 : decode cX3_cut 39 = .ok (.iconst 5, 1) := by decide +kernel
theorem dX3_cut_40 : decode cX3_cut 40 = .ok (.iconst (-1), 1) := by decide +kernel
theorem dX3_cut_41 : decode cX3_cut 41 = .ok (.invokevirtual 179, 3) := by decide +kernel
theorem dX3_cut_44 : decode cX3_cut 44 = .ok (.return_, 1) := by decide +kernel
def f_L_cut_19 (m : xM) : Option (xM) :=
     (if xib 7 11 then (if xib 7 11 then (Option.bind (f_L_note 5 (-1) (xu (xu m 23 5 0) 30 7 ((m 30 7) + 1))) fun q2 =>
      some q2)
      else none)
      else none)
set_option maxRecDepth 1000000 in
set_option maxHeartbeats 4000000 in
theorem t_L_cut_19 {Γ : xG} {d : Nat} (hd9 : 4 ≤ d) (C : xC Γ lay_L0 RX3 cX3_cut 1 d) {m9 : xM} (hR : xRv Γ lay_L0 cX3_cut m9) (m : xM) (h : f_L_cut_19 m = some m9) : xW Γ lay_L0 1 19 [(0, .inr (.inr (some 0)))] [] m := by
  unfold f_L_cut_19 at h
  refine x_aload_n C dX3_cut_19 rfl ?_
  refine x_getR C dX3_cut_20 fF_X3_24 rfl rfl ?_
  refine x_iconst C dX3_cut_23 ?_
  refine x_putI C dX3_cut_24 fF_X3_53 rfl rfl ?_
  refine x_aload_n C dX3_cut_27 rfl ?_
  refine x_getR C dX3_cut_28 fF_X3_35 rfl rfl ?_
  refine x_bipush C dX3_cut_31 (by decide) ?_
  refine x_dup2 C dX3_cut_33 rfl rfl ?_
  refine x_iaload C dX3_cut_34 rfl h (fun h => ?_)
  refine x_iconst C dX3_cut_35 ?_
  refine x_iadd C dX3_cut_36 ?_
  refine x_iastore C dX3_cut_37 rfl h (fun h => ?_)
  refine x_aload_n C dX3_cut_38 rfl ?_
  refine x_iconst C dX3_cut_39 ?_
  refine x_iconst C dX3_cut_40 ?_
  obtain ⟨q2, hq2, h⟩ := x_bind h
  refine x_callVI C dX3_cut_41 (xin_38 _ (List.mem_of_getElem? (i := 11) rfl)) xy_X3_note (xi_X3_note) (xs_X3_note) (by omega) (by decide) (b := 0) rfl ⟨_, _, rfl⟩ (av := [.inl 5, .inl (-1)]) rfl (Nat.le_of_ble_eq_true rfl) (c_L_note _ _ _ _ _ hq2) rfl ?_
  exact x_returnV hR dX3_cut_44 h
def f_L_cut (m : xM) : Option (xM) :=
     (Option.bind (f_E_lose (xvw [1, 2, 3, 4, 5, 6, 7, 8, 9, 10, 11] (xu m 0 8 0))) fun q0 =>
      (Option.bind (f_E_lose (xvw [12, 13, 14, 15, 16, 17, 18, 19, 20, 21, 22] (xmg [1, 2, 3, 4, 5, 6, 7, 8, 9, 10, 11] 11 (xu m 0 8 0) q0))) fun q1 =>
      f_L_cut_19 (xmg [12, 13, 14, 15, 16, 17, 18, 19, 20, 21, 22] 11 (xmg [1, 2, 3, 4, 5, 6, 7, 8, 9, 10, 11] 11 (xu m 0 8 0) q0) q1)))
set_option maxRecDepth 1000000 in
set_option maxHeartbeats 4000000 in
theorem t_L_cut {Γ : xG} {d : Nat} (hd9 : 4 ≤ d) (C : xC Γ lay_L0 RX3 cX3_cut 1 d) {m9 : xM} (hR : xRv Γ lay_L0 cX3_cut m9) (m : xM) (h : f_L_cut m = some m9) : xW Γ lay_L0 1 0 [(0, .inr (.inr (some 0)))] [] m := by
  unfold f_L_cut at h
  refine x_aload_n C dX3_cut_0 rfl ?_
  refine x_iconst C dX3_cut_1 ?_
  refine x_putI C dX3_cut_2 fF_X3_64 rfl rfl ?_
  refine x_aload_n C dX3_cut_5 rfl ?_
  refine x_getR C dX3_cut_6 fF_X3_12 rfl rfl ?_
  obtain ⟨q0, hq0, h⟩ := x_bind h
  refine x_callV C dX3_cut_9 (xin_38 _ (List.mem_of_getElem? (i := 3) rfl)) xy_X1_loseAll (xi_X1_loseAll) (xs_X1_loseAll) [1, 2, 3, 4, 5, 6, 7, 8, 9, 10, 11] xv_15 (by omega) (by decide) (b := 0) rfl ⟨_, _, rfl⟩ (av := []) rfl (Nat.le_of_ble_eq_true rfl) (c_E_lose _ _ _ hq0) rfl ?_
  refine x_aload_n C dX3_cut_12 rfl ?_
  refine x_getR C dX3_cut_13 fF_X3_18 rfl rfl ?_
  obtain ⟨q1, hq1, h⟩ := x_bind h
  refine x_callV C dX3_cut_16 (xin_38 _ (List.mem_of_getElem? (i := 3) rfl)) xy_X1_loseAll (xi_X1_loseAll) (xs_X1_loseAll) [12, 13, 14, 15, 16, 17, 18, 19, 20, 21, 22] xv_16 (by omega) (by decide) (b := 0) rfl ⟨_, _, rfl⟩ (av := []) rfl (Nat.le_of_ble_eq_true rfl) (c_E_lose _ _ _ hq1) rfl ?_
  refine x_loc [(0, .inr (.inr (some 0)))] ⟨rfl, trivial⟩ ?_
  exact t_L_cut_19 hd9 C hR _ h
theorem c_L_cut (l : Launch) (m m9 : xM) (h : f_L_cut m = some m9) : xMet l yX3_cut cX3_cut 1 none 4 lay_L0 [.inr (.inr (some 0))] m none m9 :=
  xMet_v (by decide +kernel) (Nat.le_of_ble_eq_true rfl) (fun Γ C hR _ => t_L_cut (Nat.le_refl _) C hR m h)
theorem xy_X6_stepTicks : xY yX6_stepTicks cX6_stepTicks 2 (some .int) 1 := ⟨(xin_37 _ (List.mem_of_getElem? (i := 22) rfl)), (xin_1 _ (List.mem_of_getElem? (i := 15) rfl)), by decide, by decide, by decide +kernel⟩
theorem xi_X6_stepTicks : Cond.instanceMethod yX6_stepTicks ∈ wsL_law := (xin_37 _ (List.mem_of_getElem? (i := 20) rfl))
theorem xs_X6_stepTicks : Cond.selects yX6_stepTicks.cls yX6_stepTicks yX6_stepTicks ∈ wsL_law := (xin_37 _ (List.mem_of_getElem? (i := 21) rfl))
theorem xv_19 : xview lay_L0 lay_S [33, 34, 35, 36, 37] := xview_of (by decide +kernel)
theorem dX3_beginStep_0 : decode cX3_beginStep 0 = .ok (.aload_n 0, 1) := by decide +kernel
theorem dX3_beginStep_1 : decode cX3_beginStep 1 = .ok (.iload_n 1, 1) := by decide +kernel
theorem dX3_beginStep_2 : decode cX3_beginStep 2 = .ok (.putfield 98, 3) := by decide +kernel
theorem dX3_beginStep_5 : decode cX3_beginStep 5 = .ok (.aload_n 0, 1) := by decide +kernel
theorem dX3_beginStep_6 : decode cX3_beginStep 6 = .ok (.aload_n 0, 1) := by decide +kernel
theorem dX3_beginStep_7 : decode cX3_beginStep 7 = .ok (.getfield 46, 3) := by decide +kernel
theorem dX3_beginStep_10 : decode cX3_beginStep 10 = .ok (.iload_n 1, 1) := by decide +kernel
theorem dX3_beginStep_11 : decode cX3_beginStep 11 = .ok (.invokevirtual 161, 3) := by decide +kernel
theorem dX3_beginStep_14 : decode cX3_beginStep 14 = .ok (.putfield 101, 3) := by decide +kernel
theorem dX3_beginStep_17 : decode cX3_beginStep 17 = .ok (.return_, 1) := by decide +kernel
def f_L_beginStep (z : Int) (m : xM) : Option (xM) :=
     (Option.bind (f_S_step z (xvw [33, 34, 35, 36, 37] (xu m 0 11 z))) fun q0 =>
      some (xu (xu m 0 11 z) 0 12 q0))
set_option maxRecDepth 1000000 in
set_option maxHeartbeats 4000000 in
theorem t_L_beginStep {Γ : xG} {d : Nat} (hd9 : 2 ≤ d) (C : xC Γ lay_L0 RX3 cX3_beginStep 2 d) (z : Int) {m9 : xM} (hR : xRv Γ lay_L0 cX3_beginStep m9) (m : xM) (h : f_L_beginStep z m = some m9) : xW Γ lay_L0 2 0 [(0, .inr (.inr (some 0))), (1, .inl z)] [] m := by
  unfold f_L_beginStep at h
  refine x_aload_n C dX3_beginStep_0 rfl ?_
  refine x_iload_n C dX3_beginStep_1 rfl ?_
  refine x_putI C dX3_beginStep_2 fF_X3_98 rfl rfl ?_
  refine x_aload_n C dX3_beginStep_5 rfl ?_
  refine x_aload_n C dX3_beginStep_6 rfl ?_
  refine x_getR C dX3_beginStep_7 fF_X3_46 rfl rfl ?_
  refine x_iload_n C dX3_beginStep_10 rfl ?_
  obtain ⟨q0, hq0, h⟩ := x_bind h
  refine x_callVp C dX3_beginStep_11 (xin_37 _ (List.mem_of_getElem? (i := 19) rfl)) xy_X6_stepTicks (xi_X6_stepTicks) (xs_X6_stepTicks) [33, 34, 35, 36, 37] xv_19 (by omega) (by decide) (b := 0) rfl ⟨_, _, rfl⟩ (av := [.inl z]) rfl (Nat.le_of_ble_eq_true rfl) (c_S_step _ _ _ _ hq0) rfl ?_
  refine x_putI C dX3_beginStep_14 fF_X3_101 rfl rfl ?_
  exact x_returnV hR dX3_beginStep_17 h
theorem c_L_beginStep (l : Launch) (z : Int) (m m9 : xM) (h : f_L_beginStep z m = some m9) : xMet l yX3_beginStep cX3_beginStep 2 none 2 lay_L0 [.inr (.inr (some 0)), .inl z] m none m9 :=
  xMet_v (by decide +kernel) (Nat.le_of_ble_eq_true rfl) (fun Γ C hR _ => t_L_beginStep (Nat.le_refl _) C z hR m h)
theorem xy_X3_beginStep : xY yX3_beginStep cX3_beginStep 2 none 1 := ⟨(xin_37 _ (List.mem_of_getElem? (i := 18) rfl)), (xin_1 _ (List.mem_of_getElem? (i := 20) rfl)), by decide, by decide, by decide +kernel⟩
theorem xi_X3_beginStep : Cond.instanceMethod yX3_beginStep ∈ wsL_law := (xin_37 _ (List.mem_of_getElem? (i := 16) rfl))
theorem xs_X3_beginStep : Cond.selects yX3_beginStep.cls yX3_beginStep yX3_beginStep ∈ wsL_law := (xin_37 _ (List.mem_of_getElem? (i := 17) rfl))
theorem dX3_beginTraining_0 : decode cX3_beginTraining 0 = .ok (.aload_n 0, 1) := by decide +kernel
theorem dX3_beginTraining_1 : decode cX3_beginTraining 1 = .ok (.iconst 1, 1) := by decide +kernel
theorem dX3_beginTraining_2 : decode cX3_beginTraining 2 = .ok (.putfield 64, 3) := by decide +kernel
theorem dX3_beginTraining_5 : decode cX3_beginTraining 5 = .ok (.aload_n 0, 1) := by decide +kernel
theorem dX3_beginTraining_6 : decode cX3_beginTraining 6 = .ok (.iconst 0, 1) := by decide +kernel
theorem dX3_beginTraining_7 : decode cX3_beginTraining 7 = .ok (.putfield 104, 3) := by decide +kernel
theorem dX3_beginTraining_10 : decode cX3_beginTraining 10 = .ok (.aload_n 0, 1) := by decide +kernel
theorem dX3_beginTraining_11 : decode cX3_beginTraining 11 = .ok (.iload_n 1, 1) := by decide +kernel
theorem dX3_beginTraining_12 : decode cX3_beginTraining 12 = .ok (.invokevirtual 158, 3) := by decide +kernel
theorem dX3_beginTraining_15 : decode cX3_beginTraining 15 = .ok (.return_, 1) := by decide +kernel
def f_L_beginTraining (z : Int) (m : xM) : Option (xM) :=
     (Option.bind (f_L_beginStep z (xu (xu m 0 8 1) 0 13 0)) fun q0 =>
      some q0)
set_option maxRecDepth 1000000 in
set_option maxHeartbeats 4000000 in
theorem t_L_beginTraining {Γ : xG} {d : Nat} (hd9 : 3 ≤ d) (C : xC Γ lay_L0 RX3 cX3_beginTraining 2 d) (z : Int) {m9 : xM} (hR : xRv Γ lay_L0 cX3_beginTraining m9) (m : xM) (h : f_L_beginTraining z m = some m9) : xW Γ lay_L0 2 0 [(0, .inr (.inr (some 0))), (1, .inl z)] [] m := by
  unfold f_L_beginTraining at h
  refine x_aload_n C dX3_beginTraining_0 rfl ?_
  refine x_iconst C dX3_beginTraining_1 ?_
  refine x_putI C dX3_beginTraining_2 fF_X3_64 rfl rfl ?_
  refine x_aload_n C dX3_beginTraining_5 rfl ?_
  refine x_iconst C dX3_beginTraining_6 ?_
  refine x_putI C dX3_beginTraining_7 fF_X3_104 rfl rfl ?_
  refine x_aload_n C dX3_beginTraining_10 rfl ?_
  refine x_iload_n C dX3_beginTraining_11 rfl ?_
  obtain ⟨q0, hq0, h⟩ := x_bind h
  refine x_callVI C dX3_beginTraining_12 (xin_37 _ (List.mem_of_getElem? (i := 15) rfl)) xy_X3_beginStep (xi_X3_beginStep) (xs_X3_beginStep) (by omega) (by decide) (b := 0) rfl ⟨_, _, rfl⟩ (av := [.inl z]) rfl (Nat.le_of_ble_eq_true rfl) (c_L_beginStep _ _ _ _ hq0) rfl ?_
  exact x_returnV hR dX3_beginTraining_15 h
theorem c_L_beginTraining (l : Launch) (z : Int) (m m9 : xM) (h : f_L_beginTraining z m = some m9) : xMet l yX3_beginTraining cX3_beginTraining 2 none 3 lay_L0 [.inr (.inr (some 0)), .inl z] m none m9 :=
  xMet_v (by decide +kernel) (Nat.le_of_ble_eq_true rfl) (fun Γ C hR _ => t_L_beginTraining (Nat.le_refl _) C z hR m h)
theorem xy_X6_greatestRate : xY yX6_greatestRate cX6_greatestRate 4 (some .int) 1 := ⟨(xin_32 _ (List.mem_of_getElem? (i := 17) rfl)), (xin_1 _ (List.mem_of_getElem? (i := 15) rfl)), by decide, by decide, by decide +kernel⟩
theorem xi_X6_greatestRate : Cond.instanceMethod yX6_greatestRate ∈ wsL_law := (xin_32 _ (List.mem_of_getElem? (i := 15) rfl))
theorem xs_X6_greatestRate : Cond.selects yX6_greatestRate.cls yX6_greatestRate yX6_greatestRate ∈ wsL_law := (xin_32 _ (List.mem_of_getElem? (i := 16) rfl))
theorem fF_X3_152 : xF RX3 152 3 7 .int false := ⟨RX1, TX1, 11, tyX1, rfl, by decide, (xin_38 _ (List.mem_of_getElem? (i := 23) rfl)), rfl, inlX1, tyX1_ok, nmX1, rfl, rfl⟩
theorem xy_X1_comeOnline : xY yX1_comeOnline cX1_comeOnline 2 none 1 := ⟨(xin_39 _ (List.mem_of_getElem? (i := 4) rfl)), (xin_4 _ (List.mem_of_getElem? (i := 0) rfl)), by decide, by decide, by decide +kernel⟩
theorem xi_X1_comeOnline : Cond.instanceMethod yX1_comeOnline ∈ wsL_law := (xin_39 _ (List.mem_of_getElem? (i := 2) rfl))
theorem xs_X1_comeOnline : Cond.selects yX1_comeOnline.cls yX1_comeOnline yX1_comeOnline ∈ wsL_law := (xin_39 _ (List.mem_of_getElem? (i := 3) rfl))
theorem xy_X3_cut : xY yX3_cut cX3_cut 1 none 0 := ⟨(xin_38 _ (List.mem_of_getElem? (i := 2) rfl)), (xin_1 _ (List.mem_of_getElem? (i := 20) rfl)), by decide, by decide, by decide +kernel⟩
theorem xi_X3_cut : Cond.instanceMethod yX3_cut ∈ wsL_law := (xin_38 _ (List.mem_of_getElem? (i := 0) rfl))
theorem xs_X3_cut : Cond.selects yX3_cut.cls yX3_cut yX3_cut ∈ wsL_law := (xin_38 _ (List.mem_of_getElem? (i := 1) rfl))
theorem dX3_comeOnline_0 : decode cX3_comeOnline 0 = .ok (.aload_n 0, 1) := by decide +kernel
theorem dX3_comeOnline_1 : decode cX3_comeOnline 1 = .ok (.getfield 46, 3) := by decide +kernel
theorem dX3_comeOnline_4 : decode cX3_comeOnline 4 = .ok (.aload_n 0, 1) := by decide +kernel
theorem dX3_comeOnline_5 : decode cX3_comeOnline 5 = .ok (.getfield 72, 3) := by decide +kernel
theorem dX3_comeOnline_8 : decode cX3_comeOnline 8 = .ok (.invokevirtual 174, 3) := by decide +kernel
theorem dX3_comeOnline_11 : decode cX3_comeOnline 11 = .ok (.istore_n 1, 1) := by decide +kernel
theorem dX3_comeOnline_12 : decode cX3_comeOnline 12 = .ok (.iload_n 1, 1) := by decide +kernel
theorem dX3_comeOnline_13 : decode cX3_comeOnline 13 = .ok (.iconst (-1), 1) := by decide +kernel
theorem dX3_comeOnline_14 : decode cX3_comeOnline 14 = .ok (.if_icmp .ne 8, 3) := by decide +kernel
theorem dX3_comeOnline_17 : decode cX3_comeOnline 17 = .ok (.aload_n 0, 1) := by decide +kernel
theorem dX3_comeOnline_18 : decode cX3_comeOnline 18 = .ok (.invokevirtual 168, 3) := by decide +kernel
theorem dX3_comeOnline_21 : decode cX3_comeOnline 21 = .ok (.return_, 1) := by decide +kernel
theorem dX3_comeOnline_22 : decode cX3_comeOnline 22 = .ok (.aload_n 0, 1) := by decide +kernel
theorem dX3_comeOnline_23 : decode cX3_comeOnline 23 = .ok (.iconst 2, 1) := by decide +kernel
theorem dX3_comeOnline_24 : decode cX3_comeOnline 24 = .ok (.putfield 64, 3) := by decide +kernel
theorem dX3_comeOnline_27 : decode cX3_comeOnline 27 = .ok (.aload_n 0, 1) := by decide +kernel
theorem dX3_comeOnline_28 : decode cX3_comeOnline 28 = .ok (.iload_n 1, 1) := by decide +kernel
theorem dX3_comeOnline_29 : decode cX3_comeOnline 29 = .ok (.putfield 73, 3) := by decide +kernel
theorem dX3_comeOnline_32 : decode cX3_comeOnline 32 = .ok (.aload_n 0, 1) := by decide +kernel
theorem dX3_comeOnline_33 : decode cX3_comeOnline 33 = .ok (.iconst 0, 1) := by decide +kernel
theorem dX3_comeOnline_34 : decode cX3_comeOnline 34 = .ok (.putfield 76, 3) := by decide +kernel
theorem dX3_comeOnline_37 : decode cX3_comeOnline 37 = .ok (.aload_n 0, 1) := by decide +kernel
theorem dX3_comeOnline_38 : decode cX3_comeOnline 38 = .ok (.iconst 0, 1) := by decide +kernel
theorem dX3_comeOnline_39 : decode cX3_comeOnline 39 = .ok (.putfield 79, 3) := by decide +kernel
theorem dX3_comeOnline_42 : decode cX3_comeOnline 42 = .ok (.aload_n 0, 1) := by decide +kernel
theorem dX3_comeOnline_43 : decode cX3_comeOnline 43 = .ok (.getfield 12, 3) := by decide +kernel
theorem dX3_comeOnline_46 : decode cX3_comeOnline 46 = .ok (.aload_n 0, 1) := by decide +kernel
theorem dX3_comeOnline_47 : decode cX3_comeOnline 47 = .ok (.getfield 18, 3) := by decide +kernel
theorem dX3_comeOnline_50 : decode cX3_comeOnline 50 = .ok (.getfield 152, 3) := by decide +kernel
theorem dX3_comeOnline_53 : decode cX3_comeOnline 53 = .ok (.invokevirtual 177, 3) := by decide +kernel
theorem dX3_comeOnline_56 : decode cX3_comeOnline 56 = .ok (.aload_n 0, 1) := by decide +kernel
theorem dX3_comeOnline_57 : decode cX3_comeOnline 57 = .ok (.getfield 18, 3) := by decide +kernel
theorem dX3_comeOnline_60 : decode cX3_comeOnline 60 = .ok (.aload_n 0, 1) := by decide +kernel
theorem dX3_comeOnline_61 : decode cX3_comeOnline 61 = .ok (.getfield 12, 3) := by decide +kernel
theorem dX3_comeOnline_64 : decode cX3_comeOnline 64 = .ok (.getfield 152, 3) := by decide +kernel
theorem dX3_comeOnline_67 : decode cX3_comeOnline 67 = .ok (.invokevirtual 177, 3) := by decide +kernel
theorem dX3_comeOnline_70 : decode cX3_comeOnline 70 = .ok (.aload_n 0, 1) := by decide +kernel
theorem dX3_comeOnline_71 : decode cX3_comeOnline 71 = .ok (.getfield 35, 3) := by decide +kernel
theorem dX3_comeOnline_74 : decode cX3_comeOnline 74 = .ok (.bipush 8, 2) := by decide +kernel
theorem dX3_comeOnline_76 : decode cX3_comeOnline 76 = .ok (.dup2, 1) := by decide +kernel
theorem dX3_comeOnline_77 : decode cX3_comeOnline 77 = .ok (.iaload, 1) := by decide +kernel
theorem dX3_comeOnline_78 : decode cX3_comeOnline 78 = .ok (.iconst 1, 1) := by decide +kernel
theorem dX3_comeOnline_79 : decode cX3_comeOnline 79 = .ok (.iadd, 1) := by decide +kernel
theorem dX3_comeOnline_80 : decode cX3_comeOnline 80 = .ok (.iastore, 1) := by decide +kernel
theorem dX3_comeOnline_81 : decode cX3_comeOnline 81 = .ok (.aload_n 0, 1) := by decide +kernel
theorem dX3_comeOnline_82 : decode cX3_comeOnline 82 = .ok (.iconst 1, 1) := by decide +kernel
theorem dX3_comeOnline_83 : decode cX3_comeOnline 83 = .ok (.iconst (-1), 1) := by decide +kernel
theorem dX3_comeOnline_84 : decode cX3_comeOnline 84 = .ok (.invokevirtual 179, 3) := by decide +kernel
theorem dX3_comeOnline_87 : decode cX3_comeOnline 87 = .ok (.return_, 1) := by decide +kernel
def f_L_comeOnline_81 (m : xM) : Option (xM) :=
     (Option.bind (f_L_note 1 (-1) m) fun q3 =>
      some q3)
set_option maxRecDepth 1000000 in
set_option maxHeartbeats 4000000 in
theorem t_L_comeOnline_81 {Γ : xG} {d : Nat} (hd9 : 5 ≤ d) (C : xC Γ lay_L0 RX3 cX3_comeOnline 2 d) {m9 : xM} (hR : xRv Γ lay_L0 cX3_comeOnline m9) (m : xM) (h : f_L_comeOnline_81 m = some m9) : xW Γ lay_L0 2 81 [(0, .inr (.inr (some 0)))] [] m := by
  unfold f_L_comeOnline_81 at h
  refine x_aload_n C dX3_comeOnline_81 rfl ?_
  refine x_iconst C dX3_comeOnline_82 ?_
  refine x_iconst C dX3_comeOnline_83 ?_
  obtain ⟨q3, hq3, h⟩ := x_bind h
  refine x_callVI C dX3_comeOnline_84 (xin_38 _ (List.mem_of_getElem? (i := 11) rfl)) xy_X3_note (xi_X3_note) (xs_X3_note) (by omega) (by decide) (b := 0) rfl ⟨_, _, rfl⟩ (av := [.inl 1, .inl (-1)]) rfl (Nat.le_of_ble_eq_true rfl) (c_L_note _ _ _ _ _ hq3) rfl ?_
  exact x_returnV hR dX3_comeOnline_87 h
def f_L_comeOnline_56 (m : xM) : Option (xM) :=
     (Option.bind (f_E_online (m 1 7) (xvw [12, 13, 14, 15, 16, 17, 18, 19, 20, 21, 22] m)) fun q2 =>
      (if xib 8 11 then (if xib 8 11 then f_L_comeOnline_81 (xu (xmg [12, 13, 14, 15, 16, 17, 18, 19, 20, 21, 22] 11 m q2) 30 8 (((xmg [12, 13, 14, 15, 16, 17, 18, 19, 20, 21, 22] 11 m q2) 30 8) + 1))
      else none)
      else none))
set_option maxRecDepth 1000000 in
set_option maxHeartbeats 4000000 in
theorem t_L_comeOnline_56 {Γ : xG} {d : Nat} (hd9 : 5 ≤ d) (C : xC Γ lay_L0 RX3 cX3_comeOnline 2 d) {m9 : xM} (hR : xRv Γ lay_L0 cX3_comeOnline m9) (m : xM) (h : f_L_comeOnline_56 m = some m9) : xW Γ lay_L0 2 56 [(0, .inr (.inr (some 0)))] [] m := by
  unfold f_L_comeOnline_56 at h
  refine x_aload_n C dX3_comeOnline_56 rfl ?_
  refine x_getR C dX3_comeOnline_57 fF_X3_18 rfl rfl ?_
  refine x_aload_n C dX3_comeOnline_60 rfl ?_
  refine x_getR C dX3_comeOnline_61 fF_X3_12 rfl rfl ?_
  refine x_getI C dX3_comeOnline_64 fF_X3_152 rfl rfl ?_
  obtain ⟨q2, hq2, h⟩ := x_bind h
  refine x_callV C dX3_comeOnline_67 (xin_39 _ (List.mem_of_getElem? (i := 1) rfl)) xy_X1_comeOnline (xi_X1_comeOnline) (xs_X1_comeOnline) [12, 13, 14, 15, 16, 17, 18, 19, 20, 21, 22] xv_16 (by omega) (by decide) (b := 0) rfl ⟨_, _, rfl⟩ (av := [.inl (m 1 7)]) rfl (Nat.le_of_ble_eq_true rfl) (c_E_online _ _ _ _ hq2) rfl ?_
  refine x_aload_n C dX3_comeOnline_70 rfl ?_
  refine x_getR C dX3_comeOnline_71 fF_X3_35 rfl rfl ?_
  refine x_bipush C dX3_comeOnline_74 (by decide) ?_
  refine x_dup2 C dX3_comeOnline_76 rfl rfl ?_
  refine x_iaload C dX3_comeOnline_77 rfl h (fun h => ?_)
  refine x_iconst C dX3_comeOnline_78 ?_
  refine x_iadd C dX3_comeOnline_79 ?_
  refine x_iastore C dX3_comeOnline_80 rfl h (fun h => ?_)
  refine x_loc [(0, .inr (.inr (some 0)))] ⟨rfl, trivial⟩ ?_
  exact t_L_comeOnline_81 hd9 C hR _ h
def f_L_comeOnline (m : xM) : Option (xM) :=
     (Option.bind (f_S_greatest (m 0 9) (xvw [33, 34, 35, 36, 37] m)) fun q0 =>
      (if xw q0 = xw (-1) then (Option.bind (f_L_cut m) fun q4 =>
      some q4)
      else (Option.bind (f_E_online (m 12 7) (xvw [1, 2, 3, 4, 5, 6, 7, 8, 9, 10, 11] (xu (xu (xu (xu m 0 8 2) 0 10 q0) 0 15 0) 0 16 0))) fun q1 =>
      f_L_comeOnline_56 (xmg [1, 2, 3, 4, 5, 6, 7, 8, 9, 10, 11] 11 (xu (xu (xu (xu m 0 8 2) 0 10 q0) 0 15 0) 0 16 0) q1))))
set_option maxRecDepth 1000000 in
set_option maxHeartbeats 4000000 in
theorem t_L_comeOnline {Γ : xG} {d : Nat} (hd9 : 5 ≤ d) (C : xC Γ lay_L0 RX3 cX3_comeOnline 2 d) {m9 : xM} (hR : xRv Γ lay_L0 cX3_comeOnline m9) (m : xM) (h : f_L_comeOnline m = some m9) : xW Γ lay_L0 2 0 [(0, .inr (.inr (some 0)))] [] m := by
  unfold f_L_comeOnline at h
  refine x_aload_n C dX3_comeOnline_0 rfl ?_
  refine x_getR C dX3_comeOnline_1 fF_X3_46 rfl rfl ?_
  refine x_aload_n C dX3_comeOnline_4 rfl ?_
  refine x_getI C dX3_comeOnline_5 fF_X3_72 rfl rfl ?_
  obtain ⟨q0, hq0, h⟩ := x_bind h
  refine x_callVp C dX3_comeOnline_8 (xin_39 _ (List.mem_of_getElem? (i := 0) rfl)) xy_X6_greatestRate (xi_X6_greatestRate) (xs_X6_greatestRate) [33, 34, 35, 36, 37] xv_19 (by omega) (by decide) (b := 0) rfl ⟨_, _, rfl⟩ (av := [.inl (m 0 9)]) rfl (Nat.le_of_ble_eq_true rfl) (c_S_greatest _ _ _ _ hq0) rfl ?_
  refine x_istore_n C dX3_comeOnline_11 (by decide) ?_
  refine x_iload_n C dX3_comeOnline_12 rfl ?_
  refine x_iconst C dX3_comeOnline_13 ?_
  refine x_icmp_ne C 22 dX3_comeOnline_14 (by decide) h (fun h => ?_) (fun h => ?_)
  · refine x_aload_n C dX3_comeOnline_22 rfl ?_
    refine x_iconst C dX3_comeOnline_23 ?_
    refine x_putI C dX3_comeOnline_24 fF_X3_64 rfl rfl ?_
    refine x_aload_n C dX3_comeOnline_27 rfl ?_
    refine x_iload_n C dX3_comeOnline_28 rfl ?_
    refine x_putI C dX3_comeOnline_29 fF_X3_73 rfl rfl ?_
    refine x_aload_n C dX3_comeOnline_32 rfl ?_
    refine x_iconst C dX3_comeOnline_33 ?_
    refine x_putI C dX3_comeOnline_34 fF_X3_76 rfl rfl ?_
    refine x_aload_n C dX3_comeOnline_37 rfl ?_
    refine x_iconst C dX3_comeOnline_38 ?_
    refine x_putI C dX3_comeOnline_39 fF_X3_79 rfl rfl ?_
    refine x_aload_n C dX3_comeOnline_42 rfl ?_
    refine x_getR C dX3_comeOnline_43 fF_X3_12 rfl rfl ?_
    refine x_aload_n C dX3_comeOnline_46 rfl ?_
    refine x_getR C dX3_comeOnline_47 fF_X3_18 rfl rfl ?_
    refine x_getI C dX3_comeOnline_50 fF_X3_152 rfl rfl ?_
    obtain ⟨q1, hq1, h⟩ := x_bind h
    refine x_callV C dX3_comeOnline_53 (xin_39 _ (List.mem_of_getElem? (i := 1) rfl)) xy_X1_comeOnline (xi_X1_comeOnline) (xs_X1_comeOnline) [1, 2, 3, 4, 5, 6, 7, 8, 9, 10, 11] xv_15 (by omega) (by decide) (b := 0) rfl ⟨_, _, rfl⟩ (av := [.inl (m 12 7)]) rfl (Nat.le_of_ble_eq_true rfl) (c_E_online _ _ _ _ hq1) rfl ?_
    refine x_loc [(0, .inr (.inr (some 0)))] ⟨rfl, trivial⟩ ?_
    exact t_L_comeOnline_56 hd9 C hR _ h
  · refine x_aload_n C dX3_comeOnline_17 rfl ?_
    obtain ⟨q4, hq4, h⟩ := x_bind h
    refine x_callVI C dX3_comeOnline_18 (xin_37 _ (List.mem_of_getElem? (i := 23) rfl)) xy_X3_cut (xi_X3_cut) (xs_X3_cut) (by omega) (by decide) (b := 0) rfl ⟨_, _, rfl⟩ (av := []) rfl (Nat.le_of_ble_eq_true rfl) (c_L_cut _ _ _ hq4) rfl ?_
    exact x_returnV hR dX3_comeOnline_21 h
theorem c_L_comeOnline (l : Launch) (m m9 : xM) (h : f_L_comeOnline m = some m9) : xMet l yX3_comeOnline cX3_comeOnline 2 none 5 lay_L0 [.inr (.inr (some 0))] m none m9 :=
  xMet_v (by decide +kernel) (Nat.le_of_ble_eq_true rfl) (fun Γ C hR _ => t_L_comeOnline (Nat.le_refl _) C hR m h)
theorem xy_X3_comeOnline : xY yX3_comeOnline cX3_comeOnline 2 none 0 := ⟨(xin_38 _ (List.mem_of_getElem? (i := 22) rfl)), (xin_1 _ (List.mem_of_getElem? (i := 20) rfl)), by decide, by decide, by decide +kernel⟩
theorem xi_X3_comeOnline : Cond.instanceMethod yX3_comeOnline ∈ wsL_law := (xin_38 _ (List.mem_of_getElem? (i := 20) rfl))
theorem xs_X3_comeOnline : Cond.selects yX3_comeOnline.cls yX3_comeOnline yX3_comeOnline ∈ wsL_law := (xin_38 _ (List.mem_of_getElem? (i := 21) rfl))
theorem fF_X3_165 : xF RX3 165 8 7 .int false := ⟨RX6, TX6, 14, tyX6, rfl, by decide, (xin_37 _ (List.mem_of_getElem? (i := 14) rfl)), rfl, inlX6, tyX6_ok, nmX6, rfl, rfl⟩
theorem dX3_train_0 : decode cX3_train 0 = .ok (.aload_n 0, 1) := by decide +kernel
theorem dX3_train_1 : decode cX3_train 1 = .ok (.getfield 72, 3) := by decide +kernel
theorem dX3_train_4 : decode cX3_train 4 = .ok (.ifCond .ne 40, 3) := by decide +kernel
theorem dX3_train_7 : decode cX3_train 7 = .ok (.aload_n 0, 1) := by decide +kernel
theorem dX3_train_8 : decode cX3_train 8 = .ok (.aload_n 0, 1) := by decide +kernel
theorem dX3_train_9 : decode cX3_train 9 = .ok (.getfield 98, 3) := by decide +kernel
theorem dX3_train_12 : decode cX3_train 12 = .ok (.invokevirtual 158, 3) := by decide +kernel
theorem dX3_train_15 : decode cX3_train 15 = .ok (.aload_n 0, 1) := by decide +kernel
theorem dX3_train_16 : decode cX3_train 16 = .ok (.dup, 1) := by decide +kernel
theorem dX3_train_17 : decode cX3_train 17 = .ok (.getfield 104, 3) := by decide +kernel
theorem dX3_train_20 : decode cX3_train 20 = .ok (.iconst 1, 1) := by decide +kernel
theorem dX3_train_21 : decode cX3_train 21 = .ok (.iadd, 1) := by decide +kernel
theorem dX3_train_22 : decode cX3_train 22 = .ok (.putfield 104, 3) := by decide +kernel
theorem dX3_train_25 : decode cX3_train 25 = .ok (.aload_n 0, 1) := by decide +kernel
theorem dX3_train_26 : decode cX3_train 26 = .ok (.getfield 104, 3) := by decide +kernel
theorem dX3_train_29 : decode cX3_train 29 = .ok (.aload_n 0, 1) := by decide +kernel
theorem dX3_train_30 : decode cX3_train 30 = .ok (.getfield 46, 3) := by decide +kernel
theorem dX3_train_33 : decode cX3_train 33 = .ok (.getfield 165, 3) := by decide +kernel
theorem dX3_train_36 : decode cX3_train 36 = .ok (.if_icmp .le 7, 3) := by decide +kernel
theorem dX3_train_39 : decode cX3_train 39 = .ok (.aload_n 0, 1) := by decide +kernel
theorem dX3_train_40 : decode cX3_train 40 = .ok (.invokevirtual 168, 3) := by decide +kernel
theorem dX3_train_43 : decode cX3_train 43 = .ok (.return_, 1) := by decide +kernel
theorem dX3_train_44 : decode cX3_train 44 = .ok (.aload_n 0, 1) := by decide +kernel
theorem dX3_train_45 : decode cX3_train 45 = .ok (.dup, 1) := by decide +kernel
theorem dX3_train_46 : decode cX3_train 46 = .ok (.getfield 101, 3) := by decide +kernel
theorem dX3_train_49 : decode cX3_train 49 = .ok (.iconst 1, 1) := by decide +kernel
theorem dX3_train_50 : decode cX3_train 50 = .ok (.isub, 1) := by decide +kernel
theorem dX3_train_51 : decode cX3_train 51 = .ok (.putfield 101, 3) := by decide +kernel
theorem dX3_train_54 : decode cX3_train 54 = .ok (.aload_n 0, 1) := by decide +kernel
theorem dX3_train_55 : decode cX3_train 55 = .ok (.getfield 101, 3) := by decide +kernel
theorem dX3_train_58 : decode cX3_train 58 = .ok (.ifCond .le 4, 3) := by decide +kernel
theorem dX3_train_61 : decode cX3_train 61 = .ok (.return_, 1) := by decide +kernel
theorem dX3_train_62 : decode cX3_train 62 = .ok (.aload_n 0, 1) := by decide +kernel
theorem dX3_train_63 : decode cX3_train 63 = .ok (.getfield 98, 3) := by decide +kernel
theorem dX3_train_66 : decode cX3_train 66 = .ok (.iconst 1, 1) := by decide +kernel
theorem dX3_train_67 : decode cX3_train 67 = .ok (.iadd, 1) := by decide +kernel
theorem dX3_train_68 : decode cX3_train 68 = .ok (.iconst 4, 1) := by decide +kernel
theorem dX3_train_69 : decode cX3_train 69 = .ok (.if_icmp .ge 16, 3) := by decide +kernel
theorem dX3_train_72 : decode cX3_train 72 = .ok (.aload_n 0, 1) := by decide +kernel
theorem dX3_train_73 : decode cX3_train 73 = .ok (.aload_n 0, 1) := by decide +kernel
theorem dX3_train_74 : decode cX3_train 74 = .ok (.getfield 98, 3) := by decide +kernel
theorem dX3_train_77 : decode cX3_train 77 = .ok (.iconst 1, 1) := by decide +kernel
theorem dX3_train_78 : decode cX3_train 78 = .ok (.iadd, 1) := by decide +kernel
theorem dX3_train_79 : decode cX3_train 79 = .ok (.invokevirtual 158, 3) := by decide +kernel
theorem dX3_train_82 : decode cX3_train 82 = .ok (.goto 7, 3) := by decide +kernel
theorem dX3_train_85 : decode cX3_train 85 = .ok (.aload_n 0, 1) := by decide +kernel
theorem dX3_train_86 : decode cX3_train 86 = .ok (.invokevirtual 171, 3) := by decide +kernel
theorem dX3_train_89 : decode cX3_train 89 = .ok (.return_, 1) := by decide +kernel
def f_L_train (m : xM) : Option (xM) :=
     (if xw (m 0 9) = 0 then (Option.bind (f_L_beginStep (m 0 11) m) fun q2 =>
      (if xw (q2 33 7) < xw ((q2 0 13) + 1) then (Option.bind (f_L_cut (xu q2 0 13 ((q2 0 13) + 1))) fun q3 =>
      some q3)
      else some (xu q2 0 13 ((q2 0 13) + 1))))
      else (if 0 < xw ((m 0 12) - 1) then some (xu m 0 12 ((m 0 12) - 1))
      else (if xw ((m 0 11) + 1) < xw 4 then (Option.bind (f_L_beginStep ((m 0 11) + 1) (xu m 0 12 ((m 0 12) - 1))) fun q1 =>
      some q1)
      else (Option.bind (f_L_comeOnline (xu m 0 12 ((m 0 12) - 1))) fun q0 =>
      some q0))))
set_option maxRecDepth 1000000 in
set_option maxHeartbeats 4000000 in
theorem t_L_train {Γ : xG} {d : Nat} (hd9 : 6 ≤ d) (C : xC Γ lay_L0 RX3 cX3_train 1 d) {m9 : xM} (hR : xRv Γ lay_L0 cX3_train m9) (m : xM) (h : f_L_train m = some m9) : xW Γ lay_L0 1 0 [(0, .inr (.inr (some 0)))] [] m := by
  unfold f_L_train at h
  refine x_aload_n C dX3_train_0 rfl ?_
  refine x_getI C dX3_train_1 fF_X3_72 rfl rfl ?_
  refine x_if_ne C 44 dX3_train_4 (by decide) h (fun h => ?_) (fun h => ?_)
  · refine x_aload_n C dX3_train_44 rfl ?_
    refine x_dup C dX3_train_45 rfl ?_
    refine x_getI C dX3_train_46 fF_X3_101 rfl rfl ?_
    refine x_iconst C dX3_train_49 ?_
    refine x_isub C dX3_train_50 ?_
    refine x_putI C dX3_train_51 fF_X3_101 rfl rfl ?_
    refine x_aload_n C dX3_train_54 rfl ?_
    refine x_getI C dX3_train_55 fF_X3_101 rfl rfl ?_
    refine x_if_le C 62 dX3_train_58 (by decide) h (fun h => ?_) (fun h => ?_)
    · refine x_aload_n C dX3_train_62 rfl ?_
      refine x_getI C dX3_train_63 fF_X3_98 rfl rfl ?_
      refine x_iconst C dX3_train_66 ?_
      refine x_iadd C dX3_train_67 ?_
      refine x_iconst C dX3_train_68 ?_
      refine x_icmp_ge C 85 dX3_train_69 (by decide) h (fun h => ?_) (fun h => ?_)
      · refine x_aload_n C dX3_train_85 rfl ?_
        obtain ⟨q0, hq0, h⟩ := x_bind h
        refine x_callVI C dX3_train_86 (xin_38 _ (List.mem_of_getElem? (i := 19) rfl)) xy_X3_comeOnline (xi_X3_comeOnline) (xs_X3_comeOnline) (by omega) (by decide) (b := 0) rfl ⟨_, _, rfl⟩ (av := []) rfl (Nat.le_of_ble_eq_true rfl) (c_L_comeOnline _ _ _ hq0) rfl ?_
        exact x_returnV hR dX3_train_89 h
      · refine x_aload_n C dX3_train_72 rfl ?_
        refine x_aload_n C dX3_train_73 rfl ?_
        refine x_getI C dX3_train_74 fF_X3_98 rfl rfl ?_
        refine x_iconst C dX3_train_77 ?_
        refine x_iadd C dX3_train_78 ?_
        obtain ⟨q1, hq1, h⟩ := x_bind h
        refine x_callVI C dX3_train_79 (xin_37 _ (List.mem_of_getElem? (i := 15) rfl)) xy_X3_beginStep (xi_X3_beginStep) (xs_X3_beginStep) (by omega) (by decide) (b := 0) rfl ⟨_, _, rfl⟩ (av := [.inl ((m 0 11) + 1)]) rfl (Nat.le_of_ble_eq_true rfl) (c_L_beginStep _ _ _ _ hq1) rfl ?_
        refine x_goto C 89 dX3_train_82 (by decide) ?_
        exact x_returnV hR dX3_train_89 h
    · exact x_returnV hR dX3_train_61 h
  · refine x_aload_n C dX3_train_7 rfl ?_
    refine x_aload_n C dX3_train_8 rfl ?_
    refine x_getI C dX3_train_9 fF_X3_98 rfl rfl ?_
    obtain ⟨q2, hq2, h⟩ := x_bind h
    refine x_callVI C dX3_train_12 (xin_37 _ (List.mem_of_getElem? (i := 15) rfl)) xy_X3_beginStep (xi_X3_beginStep) (xs_X3_beginStep) (by omega) (by decide) (b := 0) rfl ⟨_, _, rfl⟩ (av := [.inl (m 0 11)]) rfl (Nat.le_of_ble_eq_true rfl) (c_L_beginStep _ _ _ _ hq2) rfl ?_
    refine x_aload_n C dX3_train_15 rfl ?_
    refine x_dup C dX3_train_16 rfl ?_
    refine x_getI C dX3_train_17 fF_X3_104 rfl rfl ?_
    refine x_iconst C dX3_train_20 ?_
    refine x_iadd C dX3_train_21 ?_
    refine x_putI C dX3_train_22 fF_X3_104 rfl rfl ?_
    refine x_aload_n C dX3_train_25 rfl ?_
    refine x_getI C dX3_train_26 fF_X3_104 rfl rfl ?_
    refine x_aload_n C dX3_train_29 rfl ?_
    refine x_getR C dX3_train_30 fF_X3_46 rfl rfl ?_
    refine x_getI C dX3_train_33 fF_X3_165 rfl rfl ?_
    refine x_icmp_le C 43 dX3_train_36 (by decide) h (fun h => ?_) (fun h => ?_)
    · exact x_returnV hR dX3_train_43 h
    · refine x_aload_n C dX3_train_39 rfl ?_
      obtain ⟨q3, hq3, h⟩ := x_bind h
      refine x_callVI C dX3_train_40 (xin_37 _ (List.mem_of_getElem? (i := 23) rfl)) xy_X3_cut (xi_X3_cut) (xs_X3_cut) (by omega) (by decide) (b := 0) rfl ⟨_, _, rfl⟩ (av := []) rfl (Nat.le_of_ble_eq_true rfl) (c_L_cut _ _ _ hq3) rfl ?_
      exact x_returnV hR dX3_train_43 h
theorem c_L_train (l : Launch) (m m9 : xM) (h : f_L_train m = some m9) : xMet l yX3_train cX3_train 1 none 6 lay_L0 [.inr (.inr (some 0))] m none m9 :=
  xMet_v (by decide +kernel) (Nat.le_of_ble_eq_true rfl) (fun Γ C hR _ => t_L_train (Nat.le_refl _) C hR m h)
theorem fF_X3_186 : xF RX3 186 8 8 .int false := ⟨RX6, TX6, 14, tyX6, rfl, by decide, (xin_40 _ (List.mem_of_getElem? (i := 5) rfl)), rfl, inlX6, tyX6_ok, nmX6, rfl, rfl⟩
theorem dX3_cutAfterHold_0 : decode cX3_cutAfterHold 0 = .ok (.aload_n 0, 1) := by decide +kernel
theorem dX3_cutAfterHold_1 : decode cX3_cutAfterHold 1 = .ok (.getfield 107, 3) := by decide +kernel
theorem dX3_cutAfterHold_4 : decode cX3_cutAfterHold 4 = .ok (.aload_n 0, 1) := by decide +kernel
theorem dX3_cutAfterHold_5 : decode cX3_cutAfterHold 5 = .ok (.getfield 46, 3) := by decide +kernel
theorem dX3_cutAfterHold_8 : decode cX3_cutAfterHold 8 = .ok (.getfield 186, 3) := by decide +kernel
theorem dX3_cutAfterHold_11 : decode cX3_cutAfterHold 11 = .ok (.if_icmp .le 7, 3) := by decide +kernel
theorem dX3_cutAfterHold_14 : decode cX3_cutAfterHold 14 = .ok (.aload_n 0, 1) := by decide +kernel
theorem dX3_cutAfterHold_15 : decode cX3_cutAfterHold 15 = .ok (.invokevirtual 168, 3) := by decide +kernel
theorem dX3_cutAfterHold_18 : decode cX3_cutAfterHold 18 = .ok (.return_, 1) := by decide +kernel
def f_L_hold (m : xM) : Option (xM) :=
     (if xw (m 33 8) < xw (m 0 14) then (Option.bind (f_L_cut m) fun q0 =>
      some q0)
      else some m)
set_option maxRecDepth 1000000 in
set_option maxHeartbeats 4000000 in
theorem t_L_hold {Γ : xG} {d : Nat} (hd9 : 5 ≤ d) (C : xC Γ lay_L0 RX3 cX3_cutAfterHold 1 d) {m9 : xM} (hR : xRv Γ lay_L0 cX3_cutAfterHold m9) (m : xM) (h : f_L_hold m = some m9) : xW Γ lay_L0 1 0 [(0, .inr (.inr (some 0)))] [] m := by
  unfold f_L_hold at h
  refine x_aload_n C dX3_cutAfterHold_0 rfl ?_
  refine x_getI C dX3_cutAfterHold_1 fF_X3_107 rfl rfl ?_
  refine x_aload_n C dX3_cutAfterHold_4 rfl ?_
  refine x_getR C dX3_cutAfterHold_5 fF_X3_46 rfl rfl ?_
  refine x_getI C dX3_cutAfterHold_8 fF_X3_186 rfl rfl ?_
  refine x_icmp_le C 18 dX3_cutAfterHold_11 (by decide) h (fun h => ?_) (fun h => ?_)
  · exact x_returnV hR dX3_cutAfterHold_18 h
  · refine x_aload_n C dX3_cutAfterHold_14 rfl ?_
    obtain ⟨q0, hq0, h⟩ := x_bind h
    refine x_callVI C dX3_cutAfterHold_15 (xin_37 _ (List.mem_of_getElem? (i := 23) rfl)) xy_X3_cut (xi_X3_cut) (xs_X3_cut) (by omega) (by decide) (b := 0) rfl ⟨_, _, rfl⟩ (av := []) rfl (Nat.le_of_ble_eq_true rfl) (c_L_cut _ _ _ hq0) rfl ?_
    exact x_returnV hR dX3_cutAfterHold_18 h
theorem c_L_hold (l : Launch) (m m9 : xM) (h : f_L_hold m = some m9) : xMet l yX3_cutAfterHold cX3_cutAfterHold 1 none 5 lay_L0 [.inr (.inr (some 0))] m none m9 :=
  xMet_v (by decide +kernel) (Nat.le_of_ble_eq_true rfl) (fun Γ C hR _ => t_L_hold (Nat.le_refl _) C hR m h)
theorem xy_X3_cutAfterHold : xY yX3_cutAfterHold cX3_cutAfterHold 1 none 0 := ⟨(xin_40 _ (List.mem_of_getElem? (i := 4) rfl)), (xin_1 _ (List.mem_of_getElem? (i := 20) rfl)), by decide, by decide, by decide +kernel⟩
theorem xi_X3_cutAfterHold : Cond.instanceMethod yX3_cutAfterHold ∈ wsL_law := (xin_40 _ (List.mem_of_getElem? (i := 2) rfl))
theorem xs_X3_cutAfterHold : Cond.selects yX3_cutAfterHold.cls yX3_cutAfterHold yX3_cutAfterHold ∈ wsL_law := (xin_40 _ (List.mem_of_getElem? (i := 3) rfl))
theorem xy_X3_beginTraining : xY yX3_beginTraining cX3_beginTraining 2 none 1 := ⟨(xin_40 _ (List.mem_of_getElem? (i := 0) rfl)), (xin_1 _ (List.mem_of_getElem? (i := 20) rfl)), by decide, by decide, by decide +kernel⟩
theorem xi_X3_beginTraining : Cond.instanceMethod yX3_beginTraining ∈ wsL_law := (xin_39 _ (List.mem_of_getElem? (i := 22) rfl))
theorem xs_X3_beginTraining : Cond.selects yX3_beginTraining.cls yX3_beginTraining yX3_beginTraining ∈ wsL_law := (xin_39 _ (List.mem_of_getElem? (i := 23) rfl))
theorem dX3_waitForCarrier_0 : decode cX3_waitForCarrier 0 = .ok (.aload_n 0, 1) := by decide +kernel
theorem dX3_waitForCarrier_1 : decode cX3_waitForCarrier 1 = .ok (.getfield 72, 3) := by decide +kernel
theorem dX3_waitForCarrier_4 : decode cX3_waitForCarrier 4 = .ok (.ifCond .eq 9, 3) := by decide +kernel
theorem dX3_waitForCarrier_7 : decode cX3_waitForCarrier 7 = .ok (.aload_n 0, 1) := by decide +kernel
theorem dX3_waitForCarrier_8 : decode cX3_waitForCarrier 8 = .ok (.iconst 2, 1) := by decide +kernel
theorem dX3_waitForCarrier_9 : decode cX3_waitForCarrier 9 = .ok (.invokevirtual 155, 3) := by decide +kernel
theorem dX3_waitForCarrier_12 : decode cX3_waitForCarrier 12 = .ok (.return_, 1) := by decide +kernel
theorem dX3_waitForCarrier_13 : decode cX3_waitForCarrier 13 = .ok (.aload_n 0, 1) := by decide +kernel
theorem dX3_waitForCarrier_14 : decode cX3_waitForCarrier 14 = .ok (.dup, 1) := by decide +kernel
theorem dX3_waitForCarrier_15 : decode cX3_waitForCarrier 15 = .ok (.getfield 107, 3) := by decide +kernel
theorem dX3_waitForCarrier_18 : decode cX3_waitForCarrier 18 = .ok (.iconst 1, 1) := by decide +kernel
theorem dX3_waitForCarrier_19 : decode cX3_waitForCarrier 19 = .ok (.iadd, 1) := by decide +kernel
theorem dX3_waitForCarrier_20 : decode cX3_waitForCarrier 20 = .ok (.putfield 107, 3) := by decide +kernel
theorem dX3_waitForCarrier_23 : decode cX3_waitForCarrier 23 = .ok (.aload_n 0, 1) := by decide +kernel
theorem dX3_waitForCarrier_24 : decode cX3_waitForCarrier 24 = .ok (.invokevirtual 183, 3) := by decide +kernel
theorem dX3_waitForCarrier_27 : decode cX3_waitForCarrier 27 = .ok (.return_, 1) := by decide +kernel
def f_L_wait (m : xM) : Option (xM) :=
     (if xw (m 0 9) = 0 then (Option.bind (f_L_hold (xu m 0 14 ((m 0 14) + 1))) fun q0 =>
      some q0)
      else (Option.bind (f_L_beginTraining 2 m) fun q1 =>
      some q1))
set_option maxRecDepth 1000000 in
set_option maxHeartbeats 4000000 in
theorem t_L_wait {Γ : xG} {d : Nat} (hd9 : 6 ≤ d) (C : xC Γ lay_L0 RX3 cX3_waitForCarrier 1 d) {m9 : xM} (hR : xRv Γ lay_L0 cX3_waitForCarrier m9) (m : xM) (h : f_L_wait m = some m9) : xW Γ lay_L0 1 0 [(0, .inr (.inr (some 0)))] [] m := by
  unfold f_L_wait at h
  refine x_aload_n C dX3_waitForCarrier_0 rfl ?_
  refine x_getI C dX3_waitForCarrier_1 fF_X3_72 rfl rfl ?_
  refine x_if_eq C 13 dX3_waitForCarrier_4 (by decide) h (fun h => ?_) (fun h => ?_)
  · refine x_aload_n C dX3_waitForCarrier_13 rfl ?_
    refine x_dup C dX3_waitForCarrier_14 rfl ?_
    refine x_getI C dX3_waitForCarrier_15 fF_X3_107 rfl rfl ?_
    refine x_iconst C dX3_waitForCarrier_18 ?_
    refine x_iadd C dX3_waitForCarrier_19 ?_
    refine x_putI C dX3_waitForCarrier_20 fF_X3_107 rfl rfl ?_
    refine x_aload_n C dX3_waitForCarrier_23 rfl ?_
    obtain ⟨q0, hq0, h⟩ := x_bind h
    refine x_callVI C dX3_waitForCarrier_24 (xin_40 _ (List.mem_of_getElem? (i := 1) rfl)) xy_X3_cutAfterHold (xi_X3_cutAfterHold) (xs_X3_cutAfterHold) (by omega) (by decide) (b := 0) rfl ⟨_, _, rfl⟩ (av := []) rfl (Nat.le_of_ble_eq_true rfl) (c_L_hold _ _ _ hq0) rfl ?_
    exact x_returnV hR dX3_waitForCarrier_27 h
  · refine x_aload_n C dX3_waitForCarrier_7 rfl ?_
    refine x_iconst C dX3_waitForCarrier_8 ?_
    obtain ⟨q1, hq1, h⟩ := x_bind h
    refine x_callVI C dX3_waitForCarrier_9 (xin_39 _ (List.mem_of_getElem? (i := 21) rfl)) xy_X3_beginTraining (xi_X3_beginTraining) (xs_X3_beginTraining) (by omega) (by decide) (b := 0) rfl ⟨_, _, rfl⟩ (av := [.inl 2]) rfl (Nat.le_of_ble_eq_true rfl) (c_L_beginTraining _ _ _ _ hq1) rfl ?_
    exact x_returnV hR dX3_waitForCarrier_12 h
theorem c_L_wait (l : Launch) (m m9 : xM) (h : f_L_wait m = some m9) : xMet l yX3_waitForCarrier cX3_waitForCarrier 1 none 6 lay_L0 [.inr (.inr (some 0))] m none m9 :=
  xMet_v (by decide +kernel) (Nat.le_of_ble_eq_true rfl) (fun Γ C hR _ => t_L_wait (Nat.le_refl _) C hR m h)
theorem dX3_loseCarrier_0 : decode cX3_loseCarrier 0 = .ok (.aload_n 0, 1) := by decide +kernel
theorem dX3_loseCarrier_1 : decode cX3_loseCarrier 1 = .ok (.iconst 3, 1) := by decide +kernel
theorem dX3_loseCarrier_2 : decode cX3_loseCarrier 2 = .ok (.putfield 64, 3) := by decide +kernel
theorem dX3_loseCarrier_5 : decode cX3_loseCarrier 5 = .ok (.aload_n 0, 1) := by decide +kernel
theorem dX3_loseCarrier_6 : decode cX3_loseCarrier 6 = .ok (.iconst 1, 1) := by decide +kernel
theorem dX3_loseCarrier_7 : decode cX3_loseCarrier 7 = .ok (.putfield 107, 3) := by decide +kernel
theorem dX3_loseCarrier_10 : decode cX3_loseCarrier 10 = .ok (.aload_n 0, 1) := by decide +kernel
theorem dX3_loseCarrier_11 : decode cX3_loseCarrier 11 = .ok (.getfield 24, 3) := by decide +kernel
theorem dX3_loseCarrier_14 : decode cX3_loseCarrier 14 = .ok (.iconst 0, 1) := by decide +kernel
theorem dX3_loseCarrier_15 : decode cX3_loseCarrier 15 = .ok (.putfield 53, 3) := by decide +kernel
theorem dX3_loseCarrier_18 : decode cX3_loseCarrier 18 = .ok (.aload_n 0, 1) := by decide +kernel
theorem dX3_loseCarrier_19 : decode cX3_loseCarrier 19 = .ok (.getfield 35, 3) := by decide +kernel
theorem dX3_loseCarrier_22 : decode cX3_loseCarrier 22 = .ok (.bipush 6, 2) := by decide +kernel
theorem dX3_loseCarrier_24 : decode cX3_loseCarrier 24 = .ok (.dup2, 1) := by decide +kernel
theorem dX3_loseCarrier_25 : decode cX3_loseCarrier 25 = .ok (.iaload, 1) := by decide +kernel
theorem dX3_loseCarrier_26 : decode cX3_loseCarrier 26 = .ok (.iconst 1, 1) := by decide +kernel
theorem dX3_loseCarrier_27 : decode cX3_loseCarrier 27 = .ok (.iadd, 1) := by decide +kernel
theorem dX3_loseCarrier_28 : decode cX3_loseCarrier 28 = .ok (.iastore, 1) := by decide +kernel
theorem dX3_loseCarrier_29 : decode cX3_loseCarrier 29 = .ok (.aload_n 0, 1) := by decide +kernel
theorem dX3_loseCarrier_30 : decode cX3_loseCarrier 30 = .ok (.iconst 4, 1) := by decide +kernel
theorem dX3_loseCarrier_31 : decode cX3_loseCarrier 31 = .ok (.iconst (-1), 1) := by decide +kernel
theorem dX3_loseCarrier_32 : decode cX3_loseCarrier 32 = .ok (.invokevirtual 179, 3) := by decide +kernel
theorem dX3_loseCarrier_35 : decode cX3_loseCarrier 35 = .ok (.aload_n 0, 1) := by decide +kernel
theorem dX3_loseCarrier_36 : decode cX3_loseCarrier 36 = .ok (.invokevirtual 183, 3) := by decide +kernel
theorem dX3_loseCarrier_39 : decode cX3_loseCarrier 39 = .ok (.return_, 1) := by decide +kernel
def f_L_loseCarrier_29 (m : xM) : Option (xM) :=
     (Option.bind (f_L_note 4 (-1) m) fun q0 =>
      (Option.bind (f_L_hold q0) fun q1 =>
      some q1))
set_option maxRecDepth 1000000 in
set_option maxHeartbeats 4000000 in
theorem t_L_loseCarrier_29 {Γ : xG} {d : Nat} (hd9 : 6 ≤ d) (C : xC Γ lay_L0 RX3 cX3_loseCarrier 1 d) {m9 : xM} (hR : xRv Γ lay_L0 cX3_loseCarrier m9) (m : xM) (h : f_L_loseCarrier_29 m = some m9) : xW Γ lay_L0 1 29 [(0, .inr (.inr (some 0)))] [] m := by
  unfold f_L_loseCarrier_29 at h
  refine x_aload_n C dX3_loseCarrier_29 rfl ?_
  refine x_iconst C dX3_loseCarrier_30 ?_
  refine x_iconst C dX3_loseCarrier_31 ?_
  obtain ⟨q0, hq0, h⟩ := x_bind h
  refine x_callVI C dX3_loseCarrier_32 (xin_38 _ (List.mem_of_getElem? (i := 11) rfl)) xy_X3_note (xi_X3_note) (xs_X3_note) (by omega) (by decide) (b := 0) rfl ⟨_, _, rfl⟩ (av := [.inl 4, .inl (-1)]) rfl (Nat.le_of_ble_eq_true rfl) (c_L_note _ _ _ _ _ hq0) rfl ?_
  refine x_aload_n C dX3_loseCarrier_35 rfl ?_
  obtain ⟨q1, hq1, h⟩ := x_bind h
  refine x_callVI C dX3_loseCarrier_36 (xin_40 _ (List.mem_of_getElem? (i := 1) rfl)) xy_X3_cutAfterHold (xi_X3_cutAfterHold) (xs_X3_cutAfterHold) (by omega) (by decide) (b := 0) rfl ⟨_, _, rfl⟩ (av := []) rfl (Nat.le_of_ble_eq_true rfl) (c_L_hold _ _ _ hq1) rfl ?_
  exact x_returnV hR dX3_loseCarrier_39 h
def f_L_loseCarrier (m : xM) : Option (xM) :=
     (if xib 6 11 then (if xib 6 11 then f_L_loseCarrier_29 (xu (xu (xu (xu m 0 8 3) 0 14 1) 23 5 0) 30 6 ((m 30 6) + 1))
      else none)
      else none)
set_option maxRecDepth 1000000 in
set_option maxHeartbeats 4000000 in
theorem t_L_loseCarrier {Γ : xG} {d : Nat} (hd9 : 6 ≤ d) (C : xC Γ lay_L0 RX3 cX3_loseCarrier 1 d) {m9 : xM} (hR : xRv Γ lay_L0 cX3_loseCarrier m9) (m : xM) (h : f_L_loseCarrier m = some m9) : xW Γ lay_L0 1 0 [(0, .inr (.inr (some 0)))] [] m := by
  unfold f_L_loseCarrier at h
  refine x_aload_n C dX3_loseCarrier_0 rfl ?_
  refine x_iconst C dX3_loseCarrier_1 ?_
  refine x_putI C dX3_loseCarrier_2 fF_X3_64 rfl rfl ?_
  refine x_aload_n C dX3_loseCarrier_5 rfl ?_
  refine x_iconst C dX3_loseCarrier_6 ?_
  refine x_putI C dX3_loseCarrier_7 fF_X3_107 rfl rfl ?_
  refine x_aload_n C dX3_loseCarrier_10 rfl ?_
  refine x_getR C dX3_loseCarrier_11 fF_X3_24 rfl rfl ?_
  refine x_iconst C dX3_loseCarrier_14 ?_
  refine x_putI C dX3_loseCarrier_15 fF_X3_53 rfl rfl ?_
  refine x_aload_n C dX3_loseCarrier_18 rfl ?_
  refine x_getR C dX3_loseCarrier_19 fF_X3_35 rfl rfl ?_
  refine x_bipush C dX3_loseCarrier_22 (by decide) ?_
  refine x_dup2 C dX3_loseCarrier_24 rfl rfl ?_
  refine x_iaload C dX3_loseCarrier_25 rfl h (fun h => ?_)
  refine x_iconst C dX3_loseCarrier_26 ?_
  refine x_iadd C dX3_loseCarrier_27 ?_
  refine x_iastore C dX3_loseCarrier_28 rfl h (fun h => ?_)
  refine x_loc [(0, .inr (.inr (some 0)))] ⟨rfl, trivial⟩ ?_
  exact t_L_loseCarrier_29 hd9 C hR _ h
theorem c_L_loseCarrier (l : Launch) (m m9 : xM) (h : f_L_loseCarrier m = some m9) : xMet l yX3_loseCarrier cX3_loseCarrier 1 none 6 lay_L0 [.inr (.inr (some 0))] m none m9 :=
  xMet_v (by decide +kernel) (Nat.le_of_ble_eq_true rfl) (fun Γ C hR _ => t_L_loseCarrier (Nat.le_refl _) C hR m h)
theorem fF_X3_117 : xF RX3 117 3 5 .int false := ⟨RX1, TX1, 11, tyX1, rfl, by decide, (xin_37 _ (List.mem_of_getElem? (i := 3) rfl)), rfl, inlX1, tyX1_ok, nmX1, rfl, rfl⟩
theorem fF_X3_120 : xF RX3 120 3 2 (.object "ModemLink$Frames") true := ⟨RX1, TX1, 11, tyX1, rfl, by decide, (xin_37 _ (List.mem_of_getElem? (i := 4) rfl)), rfl, inlX1, tyX1_ok, nmX1, rfl, rfl⟩
theorem xy_X2_bytesFrom : xY yX2_bytesFrom cX2_bytesFrom 4 (some .int) 1 := ⟨(xin_53 _ (List.mem_of_getElem? (i := 1) rfl)), (xin_5 _ (List.mem_of_getElem? (i := 0) rfl)), by decide, by decide, by decide +kernel⟩
theorem xi_X2_bytesFrom : Cond.instanceMethod yX2_bytesFrom ∈ wsL_law := (xin_52 _ (List.mem_of_getElem? (i := 23) rfl))
theorem xs_X2_bytesFrom : Cond.selects yX2_bytesFrom.cls yX2_bytesFrom yX2_bytesFrom ∈ wsL_law := (xin_53 _ (List.mem_of_getElem? (i := 0) rfl))
theorem xv_20 : xview lay_L0 lay_F [4, 5, 6, 7] := xview_of (by decide +kernel)
theorem xv_21 : xview lay_L0 lay_F [15, 16, 17, 18] := xview_of (by decide +kernel)
theorem dX3_unreceivedBytes_0 : decode cX3_unreceivedBytes 0 = .ok (.aload_n 0, 1) := by decide +kernel
theorem dX3_unreceivedBytes_1 : decode cX3_unreceivedBytes 1 = .ok (.getfield 12, 3) := by decide +kernel
theorem dX3_unreceivedBytes_4 : decode cX3_unreceivedBytes 4 = .ok (.getfield 117, 3) := by decide +kernel
theorem dX3_unreceivedBytes_7 : decode cX3_unreceivedBytes 7 = .ok (.aload_n 0, 1) := by decide +kernel
theorem dX3_unreceivedBytes_8 : decode cX3_unreceivedBytes 8 = .ok (.getfield 12, 3) := by decide +kernel
theorem dX3_unreceivedBytes_11 : decode cX3_unreceivedBytes 11 = .ok (.getfield 120, 3) := by decide +kernel
theorem dX3_unreceivedBytes_14 : decode cX3_unreceivedBytes 14 = .ok (.aload_n 0, 1) := by decide +kernel
theorem dX3_unreceivedBytes_15 : decode cX3_unreceivedBytes 15 = .ok (.getfield 18, 3) := by decide +kernel
theorem dX3_unreceivedBytes_18 : decode cX3_unreceivedBytes 18 = .ok (.getfield 152, 3) := by decide +kernel
theorem dX3_unreceivedBytes_21 : decode cX3_unreceivedBytes 21 = .ok (.invokevirtual 192, 3) := by decide +kernel
theorem dX3_unreceivedBytes_24 : decode cX3_unreceivedBytes 24 = .ok (.iadd, 1) := by decide +kernel
theorem dX3_unreceivedBytes_25 : decode cX3_unreceivedBytes 25 = .ok (.aload_n 0, 1) := by decide +kernel
theorem dX3_unreceivedBytes_26 : decode cX3_unreceivedBytes 26 = .ok (.getfield 18, 3) := by decide +kernel
theorem dX3_unreceivedBytes_29 : decode cX3_unreceivedBytes 29 = .ok (.getfield 117, 3) := by decide +kernel
theorem dX3_unreceivedBytes_32 : decode cX3_unreceivedBytes 32 = .ok (.iadd, 1) := by decide +kernel
theorem dX3_unreceivedBytes_33 : decode cX3_unreceivedBytes 33 = .ok (.aload_n 0, 1) := by decide +kernel
theorem dX3_unreceivedBytes_34 : decode cX3_unreceivedBytes 34 = .ok (.getfield 18, 3) := by decide +kernel
theorem dX3_unreceivedBytes_37 : decode cX3_unreceivedBytes 37 = .ok (.getfield 120, 3) := by decide +kernel
theorem dX3_unreceivedBytes_40 : decode cX3_unreceivedBytes 40 = .ok (.aload_n 0, 1) := by decide +kernel
theorem dX3_unreceivedBytes_41 : decode cX3_unreceivedBytes 41 = .ok (.getfield 12, 3) := by decide +kernel
theorem dX3_unreceivedBytes_44 : decode cX3_unreceivedBytes 44 = .ok (.getfield 152, 3) := by decide +kernel
theorem dX3_unreceivedBytes_47 : decode cX3_unreceivedBytes 47 = .ok (.invokevirtual 192, 3) := by decide +kernel
theorem dX3_unreceivedBytes_50 : decode cX3_unreceivedBytes 50 = .ok (.iadd, 1) := by decide +kernel
theorem dX3_unreceivedBytes_51 : decode cX3_unreceivedBytes 51 = .ok (.ireturn, 1) := by decide +kernel
def f_L_unreceived (m : xM) : Option (Int) :=
     (Option.bind (f_F_bytes (m 12 7) (xvw [4, 5, 6, 7] m)) fun q0 =>
      (Option.bind (f_F_bytes (m 1 7) (xvw [15, 16, 17, 18] m)) fun q1 =>
      some ((((m 1 5) + q0) + (m 12 5)) + q1)))
set_option maxRecDepth 1000000 in
set_option maxHeartbeats 4000000 in
theorem t_L_unreceived {Γ : xG} {d : Nat} (hd9 : 4 ≤ d) (C : xC Γ lay_L0 RX3 cX3_unreceivedBytes 1 d) {r : Int} {m : xM} (hR : xRi Γ lay_L0 cX3_unreceivedBytes r m) (h : f_L_unreceived m = some r) : xW Γ lay_L0 1 0 [(0, .inr (.inr (some 0)))] [] m := by
  unfold f_L_unreceived at h
  refine x_aload_n C dX3_unreceivedBytes_0 rfl ?_
  refine x_getR C dX3_unreceivedBytes_1 fF_X3_12 rfl rfl ?_
  refine x_getI C dX3_unreceivedBytes_4 fF_X3_117 rfl rfl ?_
  refine x_aload_n C dX3_unreceivedBytes_7 rfl ?_
  refine x_getR C dX3_unreceivedBytes_8 fF_X3_12 rfl rfl ?_
  refine x_getR C dX3_unreceivedBytes_11 fF_X3_120 rfl rfl ?_
  refine x_aload_n C dX3_unreceivedBytes_14 rfl ?_
  refine x_getR C dX3_unreceivedBytes_15 fF_X3_18 rfl rfl ?_
  refine x_getI C dX3_unreceivedBytes_18 fF_X3_152 rfl rfl ?_
  obtain ⟨q0, hq0, h⟩ := x_bind h
  refine x_callVp C dX3_unreceivedBytes_21 (xin_52 _ (List.mem_of_getElem? (i := 22) rfl)) xy_X2_bytesFrom (xi_X2_bytesFrom) (xs_X2_bytesFrom) [4, 5, 6, 7] xv_20 (by omega) (by decide) (b := 0) rfl ⟨_, _, rfl⟩ (av := [.inl (m 12 7)]) rfl (Nat.le_of_ble_eq_true rfl) (c_F_bytes _ _ _ _ hq0) rfl ?_
  refine x_iadd C dX3_unreceivedBytes_24 ?_
  refine x_aload_n C dX3_unreceivedBytes_25 rfl ?_
  refine x_getR C dX3_unreceivedBytes_26 fF_X3_18 rfl rfl ?_
  refine x_getI C dX3_unreceivedBytes_29 fF_X3_117 rfl rfl ?_
  refine x_iadd C dX3_unreceivedBytes_32 ?_
  refine x_aload_n C dX3_unreceivedBytes_33 rfl ?_
  refine x_getR C dX3_unreceivedBytes_34 fF_X3_18 rfl rfl ?_
  refine x_getR C dX3_unreceivedBytes_37 fF_X3_120 rfl rfl ?_
  refine x_aload_n C dX3_unreceivedBytes_40 rfl ?_
  refine x_getR C dX3_unreceivedBytes_41 fF_X3_12 rfl rfl ?_
  refine x_getI C dX3_unreceivedBytes_44 fF_X3_152 rfl rfl ?_
  obtain ⟨q1, hq1, h⟩ := x_bind h
  refine x_callVp C dX3_unreceivedBytes_47 (xin_52 _ (List.mem_of_getElem? (i := 22) rfl)) xy_X2_bytesFrom (xi_X2_bytesFrom) (xs_X2_bytesFrom) [15, 16, 17, 18] xv_21 (by omega) (by decide) (b := 0) rfl ⟨_, _, rfl⟩ (av := [.inl (m 1 7)]) rfl (Nat.le_of_ble_eq_true rfl) (c_F_bytes _ _ _ _ hq1) rfl ?_
  refine x_iadd C dX3_unreceivedBytes_50 ?_
  exact x_ireturnP hR dX3_unreceivedBytes_51 h
theorem c_L_unreceived (l : Launch) (m : xM) (r : Int) (h : f_L_unreceived m = some r) : xMet l yX3_unreceivedBytes cX3_unreceivedBytes 1 (some .int) 4 lay_L0 [.inr (.inr (some 0))] m (some (.inl r)) m :=
  xMet_i (by decide +kernel) (Nat.le_of_ble_eq_true rfl) (fun Γ C hR _ => t_L_unreceived (Nat.le_refl _) C hR h)
theorem dX3_fall_0 : decode cX3_fall 0 = .ok (.aload_n 0, 1) := by decide +kernel
theorem dX3_fall_1 : decode cX3_fall 1 = .ok (.getfield 73, 3) := by decide +kernel
theorem dX3_fall_4 : decode cX3_fall 4 = .ok (.ifCond .gt 8, 3) := by decide +kernel
theorem dX3_fall_7 : decode cX3_fall 7 = .ok (.aload_n 0, 1) := by decide +kernel
theorem dX3_fall_8 : decode cX3_fall 8 = .ok (.invokevirtual 168, 3) := by decide +kernel
theorem dX3_fall_11 : decode cX3_fall 11 = .ok (.return_, 1) := by decide +kernel
theorem dX3_fall_12 : decode cX3_fall 12 = .ok (.aload_n 0, 1) := by decide +kernel
theorem dX3_fall_13 : decode cX3_fall 13 = .ok (.dup, 1) := by decide +kernel
theorem dX3_fall_14 : decode cX3_fall 14 = .ok (.getfield 73, 3) := by decide +kernel
theorem dX3_fall_17 : decode cX3_fall 17 = .ok (.iconst 1, 1) := by decide +kernel
theorem dX3_fall_18 : decode cX3_fall 18 = .ok (.isub, 1) := by decide +kernel
theorem dX3_fall_19 : decode cX3_fall 19 = .ok (.putfield 73, 3) := by decide +kernel
theorem dX3_fall_22 : decode cX3_fall 22 = .ok (.aload_n 0, 1) := by decide +kernel
theorem dX3_fall_23 : decode cX3_fall 23 = .ok (.iconst 0, 1) := by decide +kernel
theorem dX3_fall_24 : decode cX3_fall 24 = .ok (.putfield 76, 3) := by decide +kernel
theorem dX3_fall_27 : decode cX3_fall 27 = .ok (.aload_n 0, 1) := by decide +kernel
theorem dX3_fall_28 : decode cX3_fall 28 = .ok (.iconst 0, 1) := by decide +kernel
theorem dX3_fall_29 : decode cX3_fall 29 = .ok (.putfield 79, 3) := by decide +kernel
theorem dX3_fall_32 : decode cX3_fall 32 = .ok (.aload_n 0, 1) := by decide +kernel
theorem dX3_fall_33 : decode cX3_fall 33 = .ok (.getfield 35, 3) := by decide +kernel
theorem dX3_fall_36 : decode cX3_fall 36 = .ok (.iconst 4, 1) := by decide +kernel
theorem dX3_fall_37 : decode cX3_fall 37 = .ok (.dup2, 1) := by decide +kernel
theorem dX3_fall_38 : decode cX3_fall 38 = .ok (.iaload, 1) := by decide +kernel
theorem dX3_fall_39 : decode cX3_fall 39 = .ok (.iconst 1, 1) := by decide +kernel
theorem dX3_fall_40 : decode cX3_fall 40 = .ok (.iadd, 1) := by decide +kernel
theorem dX3_fall_41 : decode cX3_fall 41 = .ok (.iastore, 1) := by decide +kernel
theorem dX3_fall_42 : decode cX3_fall 42 = .ok (.aload_n 0, 1) := by decide +kernel
theorem dX3_fall_43 : decode cX3_fall 43 = .ok (.iconst 2, 1) := by decide +kernel
theorem dX3_fall_44 : decode cX3_fall 44 = .ok (.iconst (-1), 1) := by decide +kernel
theorem dX3_fall_45 : decode cX3_fall 45 = .ok (.invokevirtual 179, 3) := by decide +kernel
theorem dX3_fall_48 : decode cX3_fall 48 = .ok (.return_, 1) := by decide +kernel
def f_L_fall_42 (m : xM) : Option (xM) :=
     (Option.bind (f_L_note 2 (-1) m) fun q0 =>
      some q0)
set_option maxRecDepth 1000000 in
set_option maxHeartbeats 4000000 in
theorem t_L_fall_42 {Γ : xG} {d : Nat} (hd9 : 5 ≤ d) (C : xC Γ lay_L0 RX3 cX3_fall 1 d) {m9 : xM} (hR : xRv Γ lay_L0 cX3_fall m9) (m : xM) (h : f_L_fall_42 m = some m9) : xW Γ lay_L0 1 42 [(0, .inr (.inr (some 0)))] [] m := by
  unfold f_L_fall_42 at h
  refine x_aload_n C dX3_fall_42 rfl ?_
  refine x_iconst C dX3_fall_43 ?_
  refine x_iconst C dX3_fall_44 ?_
  obtain ⟨q0, hq0, h⟩ := x_bind h
  refine x_callVI C dX3_fall_45 (xin_38 _ (List.mem_of_getElem? (i := 11) rfl)) xy_X3_note (xi_X3_note) (xs_X3_note) (by omega) (by decide) (b := 0) rfl ⟨_, _, rfl⟩ (av := [.inl 2, .inl (-1)]) rfl (Nat.le_of_ble_eq_true rfl) (c_L_note _ _ _ _ _ hq0) rfl ?_
  exact x_returnV hR dX3_fall_48 h
def f_L_fall (m : xM) : Option (xM) :=
     (if 0 < xw (m 0 10) then (if xib 4 11 then (if xib 4 11 then f_L_fall_42 (xu (xu (xu (xu m 0 10 ((m 0 10) - 1)) 0 15 0) 0 16 0) 30 4 ((m 30 4) + 1))
      else none)
      else none)
      else (Option.bind (f_L_cut m) fun q1 =>
      some q1))
set_option maxRecDepth 1000000 in
set_option maxHeartbeats 4000000 in
theorem t_L_fall {Γ : xG} {d : Nat} (hd9 : 5 ≤ d) (C : xC Γ lay_L0 RX3 cX3_fall 1 d) {m9 : xM} (hR : xRv Γ lay_L0 cX3_fall m9) (m : xM) (h : f_L_fall m = some m9) : xW Γ lay_L0 1 0 [(0, .inr (.inr (some 0)))] [] m := by
  unfold f_L_fall at h
  refine x_aload_n C dX3_fall_0 rfl ?_
  refine x_getI C dX3_fall_1 fF_X3_73 rfl rfl ?_
  refine x_if_gt C 12 dX3_fall_4 (by decide) h (fun h => ?_) (fun h => ?_)
  · refine x_aload_n C dX3_fall_12 rfl ?_
    refine x_dup C dX3_fall_13 rfl ?_
    refine x_getI C dX3_fall_14 fF_X3_73 rfl rfl ?_
    refine x_iconst C dX3_fall_17 ?_
    refine x_isub C dX3_fall_18 ?_
    refine x_putI C dX3_fall_19 fF_X3_73 rfl rfl ?_
    refine x_aload_n C dX3_fall_22 rfl ?_
    refine x_iconst C dX3_fall_23 ?_
    refine x_putI C dX3_fall_24 fF_X3_76 rfl rfl ?_
    refine x_aload_n C dX3_fall_27 rfl ?_
    refine x_iconst C dX3_fall_28 ?_
    refine x_putI C dX3_fall_29 fF_X3_79 rfl rfl ?_
    refine x_aload_n C dX3_fall_32 rfl ?_
    refine x_getR C dX3_fall_33 fF_X3_35 rfl rfl ?_
    refine x_iconst C dX3_fall_36 ?_
    refine x_dup2 C dX3_fall_37 rfl rfl ?_
    refine x_iaload C dX3_fall_38 rfl h (fun h => ?_)
    refine x_iconst C dX3_fall_39 ?_
    refine x_iadd C dX3_fall_40 ?_
    refine x_iastore C dX3_fall_41 rfl h (fun h => ?_)
    refine x_loc [(0, .inr (.inr (some 0)))] ⟨rfl, trivial⟩ ?_
    exact t_L_fall_42 hd9 C hR _ h
  · refine x_aload_n C dX3_fall_7 rfl ?_
    obtain ⟨q1, hq1, h⟩ := x_bind h
    refine x_callVI C dX3_fall_8 (xin_37 _ (List.mem_of_getElem? (i := 23) rfl)) xy_X3_cut (xi_X3_cut) (xs_X3_cut) (by omega) (by decide) (b := 0) rfl ⟨_, _, rfl⟩ (av := []) rfl (Nat.le_of_ble_eq_true rfl) (c_L_cut _ _ _ hq1) rfl ?_
    exact x_returnV hR dX3_fall_11 h
theorem c_L_fall (l : Launch) (m m9 : xM) (h : f_L_fall m = some m9) : xMet l yX3_fall cX3_fall 1 none 5 lay_L0 [.inr (.inr (some 0))] m none m9 :=
  xMet_v (by decide +kernel) (Nat.le_of_ble_eq_true rfl) (fun Γ C hR _ => t_L_fall (Nat.le_refl _) C hR m h)
theorem xy_X3_endOf : xY yX3_endOf cX3_endOf 2 (some (.object "ModemLink$End")) 1 := ⟨(xin_27 _ (List.mem_of_getElem? (i := 6) rfl)), (xin_1 _ (List.mem_of_getElem? (i := 20) rfl)), by decide, by decide, by decide +kernel⟩
theorem xi_X3_endOf : Cond.instanceMethod yX3_endOf ∈ wsL_law := (xin_27 _ (List.mem_of_getElem? (i := 4) rfl))
theorem xs_X3_endOf : Cond.selects yX3_endOf.cls yX3_endOf yX3_endOf ∈ wsL_law := (xin_27 _ (List.mem_of_getElem? (i := 5) rfl))
theorem xv_22 : xview lay_L0 lay_eo [0, 33, 1, 12, 23, 28, 30, 31] := xview_of (by decide +kernel)
theorem fF_X3_255 : xF RX3 255 4 5 .int false := ⟨RX2, TX2, 6, tyX2, rfl, by decide, (xin_42 _ (List.mem_of_getElem? (i := 6) rfl)), rfl, inlX2, tyX2_ok, nmX2, rfl, rfl⟩
theorem fF_X3_258 : xF RX3 258 4 2 (.array .int) true := ⟨RX2, TX2, 6, tyX2, rfl, by decide, (xin_42 _ (List.mem_of_getElem? (i := 7) rfl)), rfl, inlX2, tyX2_ok, nmX2, rfl, rfl⟩
theorem fF_X3_261 : xF RX3 261 8 11 .int false := ⟨RX6, TX6, 14, tyX6, rfl, by decide, (xin_42 _ (List.mem_of_getElem? (i := 8) rfl)), rfl, inlX6, tyX6_ok, nmX6, rfl, rfl⟩
theorem fF_X3_264 : xF RX3 264 3 10 .boolean false := ⟨RX1, TX1, 11, tyX1, rfl, by decide, (xin_33 _ (List.mem_of_getElem? (i := 19) rfl)), rfl, inlX1, tyX1_ok, nmX1, rfl, rfl⟩
theorem fF_X3_268 : xF RX3 268 8 12 .int false := ⟨RX6, TX6, 14, tyX6, rfl, by decide, (xin_42 _ (List.mem_of_getElem? (i := 9) rfl)), rfl, inlX6, tyX6_ok, nmX6, rfl, rfl⟩
theorem xy_X3_fall : xY yX3_fall cX3_fall 1 none 0 := ⟨(xin_42 _ (List.mem_of_getElem? (i := 13) rfl)), (xin_1 _ (List.mem_of_getElem? (i := 20) rfl)), by decide, by decide, by decide +kernel⟩
theorem xi_X3_fall : Cond.instanceMethod yX3_fall ∈ wsL_law := (xin_42 _ (List.mem_of_getElem? (i := 11) rfl))
theorem xs_X3_fall : Cond.selects yX3_fall.cls yX3_fall yX3_fall ∈ wsL_law := (xin_42 _ (List.mem_of_getElem? (i := 12) rfl))
theorem dX3_checkTimer_0 : decode cX3_checkTimer 0 = .ok (.aload_n 0, 1) := by decide +kernel
theorem dX3_checkTimer_1 : decode cX3_checkTimer 1 = .ok (.iload_n 1, 1) := by decide +kernel
theorem dX3_checkTimer_2 : decode cX3_checkTimer 2 = .ok (.invokevirtual 226, 3) := by decide +kernel
theorem dX3_checkTimer_5 : decode cX3_checkTimer 5 = .ok (.astore_n 2, 1) := by decide +kernel
theorem dX3_checkTimer_6 : decode cX3_checkTimer 6 = .ok (.aload_n 2, 1) := by decide +kernel
theorem dX3_checkTimer_7 : decode cX3_checkTimer 7 = .ok (.getfield 120, 3) := by decide +kernel
theorem dX3_checkTimer_10 : decode cX3_checkTimer 10 = .ok (.astore_n 3, 1) := by decide +kernel
theorem dX3_checkTimer_11 : decode cX3_checkTimer 11 = .ok (.aload_n 3, 1) := by decide +kernel
theorem dX3_checkTimer_12 : decode cX3_checkTimer 12 = .ok (.getfield 255, 3) := by decide +kernel
theorem dX3_checkTimer_15 : decode cX3_checkTimer 15 = .ok (.ifCond .eq 28, 3) := by decide +kernel
theorem dX3_checkTimer_18 : decode cX3_checkTimer 18 = .ok (.aload_n 0, 1) := by decide +kernel
theorem dX3_checkTimer_19 : decode cX3_checkTimer 19 = .ok (.getfield 61, 3) := by decide +kernel
theorem dX3_checkTimer_22 : decode cX3_checkTimer 22 = .ok (.aload_n 3, 1) := by decide +kernel
theorem dX3_checkTimer_23 : decode cX3_checkTimer 23 = .ok (.getfield 258, 3) := by decide +kernel
theorem dX3_checkTimer_26 : decode cX3_checkTimer 26 = .ok (.aload_n 3, 1) := by decide +kernel
theorem dX3_checkTimer_27 : decode cX3_checkTimer 27 = .ok (.iconst 0, 1) := by decide +kernel
theorem dX3_checkTimer_28 : decode cX3_checkTimer 28 = .ok (.invokevirtual 240, 3) := by decide +kernel
theorem dX3_checkTimer_31 : decode cX3_checkTimer 31 = .ok (.iaload, 1) := by decide +kernel
theorem dX3_checkTimer_32 : decode cX3_checkTimer 32 = .ok (.isub, 1) := by decide +kernel
theorem dX3_checkTimer_33 : decode cX3_checkTimer 33 = .ok (.aload_n 0, 1) := by decide +kernel
theorem dX3_checkTimer_34 : decode cX3_checkTimer 34 = .ok (.getfield 46, 3) := by decide +kernel
theorem dX3_checkTimer_37 : decode cX3_checkTimer 37 = .ok (.getfield 261, 3) := by decide +kernel
theorem dX3_checkTimer_40 : decode cX3_checkTimer 40 = .ok (.if_icmp .ge 4, 3) := by decide +kernel
theorem dX3_checkTimer_43 : decode cX3_checkTimer 43 = .ok (.return_, 1) := by decide +kernel
theorem dX3_checkTimer_44 : decode cX3_checkTimer 44 = .ok (.aload_n 3, 1) := by decide +kernel
theorem dX3_checkTimer_45 : decode cX3_checkTimer 45 = .ok (.iconst 0, 1) := by decide +kernel
theorem dX3_checkTimer_46 : decode cX3_checkTimer 46 = .ok (.putfield 255, 3) := by decide +kernel
theorem dX3_checkTimer_49 : decode cX3_checkTimer 49 = .ok (.aload_n 2, 1) := by decide +kernel
theorem dX3_checkTimer_50 : decode cX3_checkTimer 50 = .ok (.iconst 1, 1) := by decide +kernel
theorem dX3_checkTimer_51 : decode cX3_checkTimer 51 = .ok (.putfield 264, 3) := by decide +kernel
theorem dX3_checkTimer_54 : decode cX3_checkTimer 54 = .ok (.aload_n 0, 1) := by decide +kernel
theorem dX3_checkTimer_55 : decode cX3_checkTimer 55 = .ok (.dup, 1) := by decide +kernel
theorem dX3_checkTimer_56 : decode cX3_checkTimer 56 = .ok (.getfield 76, 3) := by decide +kernel
theorem dX3_checkTimer_59 : decode cX3_checkTimer 59 = .ok (.iconst 1, 1) := by decide +kernel
theorem dX3_checkTimer_60 : decode cX3_checkTimer 60 = .ok (.iadd, 1) := by decide +kernel
theorem dX3_checkTimer_61 : decode cX3_checkTimer 61 = .ok (.putfield 76, 3) := by decide +kernel
theorem dX3_checkTimer_64 : decode cX3_checkTimer 64 = .ok (.aload_n 0, 1) := by decide +kernel
theorem dX3_checkTimer_65 : decode cX3_checkTimer 65 = .ok (.iconst 0, 1) := by decide +kernel
theorem dX3_checkTimer_66 : decode cX3_checkTimer 66 = .ok (.putfield 79, 3) := by decide +kernel
theorem dX3_checkTimer_69 : decode cX3_checkTimer 69 = .ok (.aload_n 0, 1) := by decide +kernel
theorem dX3_checkTimer_70 : decode cX3_checkTimer 70 = .ok (.getfield 35, 3) := by decide +kernel
theorem dX3_checkTimer_73 : decode cX3_checkTimer 73 = .ok (.iconst 3, 1) := by decide +kernel
theorem dX3_checkTimer_74 : decode cX3_checkTimer 74 = .ok (.dup2, 1) := by decide +kernel
theorem dX3_checkTimer_75 : decode cX3_checkTimer 75 = .ok (.iaload, 1) := by decide +kernel
theorem dX3_checkTimer_76 : decode cX3_checkTimer 76 = .ok (.iconst 1, 1) := by decide +kernel
theorem dX3_checkTimer_77 : decode cX3_checkTimer 77 = .ok (.iadd, 1) := by decide +kernel
theorem dX3_checkTimer_78 : decode cX3_checkTimer 78 = .ok (.iastore, 1) := by decide +kernel
theorem dX3_checkTimer_79 : decode cX3_checkTimer 79 = .ok (.aload_n 0, 1) := by decide +kernel
theorem dX3_checkTimer_80 : decode cX3_checkTimer 80 = .ok (.bipush 6, 2) := by decide +kernel
theorem dX3_checkTimer_82 : decode cX3_checkTimer 82 = .ok (.iload_n 1, 1) := by decide +kernel
theorem dX3_checkTimer_83 : decode cX3_checkTimer 83 = .ok (.invokevirtual 179, 3) := by decide +kernel
theorem dX3_checkTimer_86 : decode cX3_checkTimer 86 = .ok (.aload_n 0, 1) := by decide +kernel
theorem dX3_checkTimer_87 : decode cX3_checkTimer 87 = .ok (.getfield 76, 3) := by decide +kernel
theorem dX3_checkTimer_90 : decode cX3_checkTimer 90 = .ok (.aload_n 0, 1) := by decide +kernel
theorem dX3_checkTimer_91 : decode cX3_checkTimer 91 = .ok (.getfield 46, 3) := by decide +kernel
theorem dX3_checkTimer_94 : decode cX3_checkTimer 94 = .ok (.getfield 268, 3) := by decide +kernel
theorem dX3_checkTimer_97 : decode cX3_checkTimer 97 = .ok (.if_icmp .lt 7, 3) := by decide +kernel
theorem dX3_checkTimer_100 : decode cX3_checkTimer 100 = .ok (.aload_n 0, 1) := by decide +kernel
theorem dX3_checkTimer_101 : decode cX3_checkTimer 101 = .ok (.invokevirtual 271, 3) := by decide +kernel
theorem dX3_checkTimer_104 : decode cX3_checkTimer 104 = .ok (.return_, 1) := by decide +kernel
def f_L_timer_69 (e : Int) (m : xM) : Option (xM) :=
     (if xib 3 11 then (if xib 3 11 then (Option.bind (f_L_note 6 e (xu m 30 3 ((m 30 3) + 1))) fun q2 =>
      (if xw (q2 0 15) < xw (q2 33 12) then some q2
      else (Option.bind (f_L_fall q2) fun q3 =>
      some q3)))
      else none)
      else none)
set_option maxRecDepth 1000000 in
set_option maxHeartbeats 4000000 in
theorem t_L_timer_69 {Γ : xG} {d : Nat} (hd9 : 6 ≤ d) (C : xC Γ lay_L0 RX3 cX3_checkTimer 4 d) (e : Int) (e_e : xw e = 0) {m9 : xM} (hR : xRv Γ lay_L0 cX3_checkTimer m9) (m : xM) (h : f_L_timer_69 e m = some m9) : xW Γ lay_L0 4 69 [(0, .inr (.inr (some 0))), (1, .inl e)] [] m := by
  unfold f_L_timer_69 at h
  refine x_aload_n C dX3_checkTimer_69 rfl ?_
  refine x_getR C dX3_checkTimer_70 fF_X3_35 rfl rfl ?_
  refine x_iconst C dX3_checkTimer_73 ?_
  refine x_dup2 C dX3_checkTimer_74 rfl rfl ?_
  refine x_iaload C dX3_checkTimer_75 rfl h (fun h => ?_)
  refine x_iconst C dX3_checkTimer_76 ?_
  refine x_iadd C dX3_checkTimer_77 ?_
  refine x_iastore C dX3_checkTimer_78 rfl h (fun h => ?_)
  refine x_aload_n C dX3_checkTimer_79 rfl ?_
  refine x_bipush C dX3_checkTimer_80 (by decide) ?_
  refine x_iload_n C dX3_checkTimer_82 rfl ?_
  obtain ⟨q2, hq2, h⟩ := x_bind h
  refine x_callVI C dX3_checkTimer_83 (xin_38 _ (List.mem_of_getElem? (i := 11) rfl)) xy_X3_note (xi_X3_note) (xs_X3_note) (by omega) (by decide) (b := 0) rfl ⟨_, _, rfl⟩ (av := [.inl 6, .inl e]) rfl (Nat.le_of_ble_eq_true rfl) (c_L_note _ _ _ _ _ hq2) rfl ?_
  refine x_aload_n C dX3_checkTimer_86 rfl ?_
  refine x_getI C dX3_checkTimer_87 fF_X3_76 rfl rfl ?_
  refine x_aload_n C dX3_checkTimer_90 rfl ?_
  refine x_getR C dX3_checkTimer_91 fF_X3_46 rfl rfl ?_
  refine x_getI C dX3_checkTimer_94 fF_X3_268 rfl rfl ?_
  refine x_icmp_lt C 104 dX3_checkTimer_97 (by decide) h (fun h => ?_) (fun h => ?_)
  · exact x_returnV hR dX3_checkTimer_104 h
  · refine x_aload_n C dX3_checkTimer_100 rfl ?_
    obtain ⟨q3, hq3, h⟩ := x_bind h
    refine x_callVI C dX3_checkTimer_101 (xin_42 _ (List.mem_of_getElem? (i := 10) rfl)) xy_X3_fall (xi_X3_fall) (xs_X3_fall) (by omega) (by decide) (b := 0) rfl ⟨_, _, rfl⟩ (av := []) rfl (Nat.le_of_ble_eq_true rfl) (c_L_fall _ _ _ hq3) rfl ?_
    exact x_returnV hR dX3_checkTimer_104 h
def f_L_timer (e : Int) (m : xM) : Option (xM) :=
     (if xw (m 4 5) = 0 then some m
      else (Option.bind (f_F_slot 0 (xvw [4, 5, 6, 7] m)) fun q1 =>
      (if xib q1 7 then (if xw ((m 0 7) - (m 7 (xix q1))) < xw (m 33 11) then some m
      else f_L_timer_69 e (xu (xu (xu (xu m 4 5 0) 1 10 1) 0 15 ((m 0 15) + 1)) 0 16 0))
      else none)))
set_option maxRecDepth 1000000 in
set_option maxHeartbeats 4000000 in
theorem t_L_timer {Γ : xG} {d : Nat} (hd9 : 6 ≤ d) (C : xC Γ lay_L0 RX3 cX3_checkTimer 4 d) (e : Int) (e_e : xw e = 0) {m9 : xM} (hR : xRv Γ lay_L0 cX3_checkTimer m9) (m : xM) (h : f_L_timer e m = some m9) : xW Γ lay_L0 4 0 [(0, .inr (.inr (some 0))), (1, .inl e)] [] m := by
  unfold f_L_timer at h
  refine x_aload_n C dX3_checkTimer_0 rfl ?_
  refine x_iload_n C dX3_checkTimer_1 rfl ?_
  refine x_callVp C dX3_checkTimer_2 (xin_41 _ (List.mem_of_getElem? (i := 7) rfl)) xy_X3_endOf (xi_X3_endOf) (xs_X3_endOf) [0, 33, 1, 12, 23, 28, 30, 31] xv_22 (by omega) (by decide) (b := 0) rfl ⟨_, _, rfl⟩ (av := [.inl e]) rfl (Nat.le_of_ble_eq_true rfl) (c_endOf0 _ _ _ (by first | decide | assumption | exact xw_1m0 (by assumption) | exact xw_1m1 (by assumption) | exact xw_ne1 (by assumption) | exact xw_n1m0 (by assumption))) rfl ?_
  refine x_astore_n C dX3_checkTimer_5 (by decide) ?_
  refine x_aload_n C dX3_checkTimer_6 rfl ?_
  refine x_getR C dX3_checkTimer_7 fF_X3_120 rfl rfl ?_
  refine x_astore_n C dX3_checkTimer_10 (by decide) ?_
  refine x_aload_n C dX3_checkTimer_11 rfl ?_
  refine x_getI C dX3_checkTimer_12 fF_X3_255 rfl rfl ?_
  refine x_if_eq C 43 dX3_checkTimer_15 (by decide) h (fun h => ?_) (fun h => ?_)
  · exact x_returnV hR dX3_checkTimer_43 h
  · refine x_aload_n C dX3_checkTimer_18 rfl ?_
    refine x_getI C dX3_checkTimer_19 fF_X3_61 rfl rfl ?_
    refine x_aload_n C dX3_checkTimer_22 rfl ?_
    refine x_getR C dX3_checkTimer_23 fF_X3_258 rfl rfl ?_
    refine x_aload_n C dX3_checkTimer_26 rfl ?_
    refine x_iconst C dX3_checkTimer_27 ?_
    obtain ⟨q1, hq1, h⟩ := x_bind h
    refine x_callVp C dX3_checkTimer_28 (xin_41 _ (List.mem_of_getElem? (i := 16) rfl)) xy_X2_slotOf (xi_X2_slotOf) (xs_X2_slotOf) [4, 5, 6, 7] xv_20 (by omega) (by decide) (b := 0) rfl ⟨_, _, rfl⟩ (av := [.inl 0]) rfl (Nat.le_of_ble_eq_true rfl) (c_F_slot _ _ _ _ hq1) rfl ?_
    refine x_iaload C dX3_checkTimer_31 rfl h (fun h => ?_)
    refine x_isub C dX3_checkTimer_32 ?_
    refine x_aload_n C dX3_checkTimer_33 rfl ?_
    refine x_getR C dX3_checkTimer_34 fF_X3_46 rfl rfl ?_
    refine x_getI C dX3_checkTimer_37 fF_X3_261 rfl rfl ?_
    refine x_icmp_ge C 44 dX3_checkTimer_40 (by decide) h (fun h => ?_) (fun h => ?_)
    · refine x_aload_n C dX3_checkTimer_44 rfl ?_
      refine x_iconst C dX3_checkTimer_45 ?_
      refine x_putI C dX3_checkTimer_46 fF_X3_255 rfl rfl ?_
      refine x_aload_n C dX3_checkTimer_49 rfl ?_
      refine x_iconst C dX3_checkTimer_50 ?_
      refine x_putZ C dX3_checkTimer_51 fF_X3_264 rfl rfl (by decide) ?_
      refine x_aload_n C dX3_checkTimer_54 rfl ?_
      refine x_dup C dX3_checkTimer_55 rfl ?_
      refine x_getI C dX3_checkTimer_56 fF_X3_76 rfl rfl ?_
      refine x_iconst C dX3_checkTimer_59 ?_
      refine x_iadd C dX3_checkTimer_60 ?_
      refine x_putI C dX3_checkTimer_61 fF_X3_76 rfl rfl ?_
      refine x_aload_n C dX3_checkTimer_64 rfl ?_
      refine x_iconst C dX3_checkTimer_65 ?_
      refine x_putI C dX3_checkTimer_66 fF_X3_79 rfl rfl ?_
      refine x_loc [(0, .inr (.inr (some 0))), (1, .inl e)] ⟨rfl, rfl, trivial⟩ ?_
      exact t_L_timer_69 hd9 C _ e_e hR _ h
    · exact x_returnV hR dX3_checkTimer_43 h
theorem c_L_timer (l : Launch) (e : Int) (e_e : xw e = 0) (m m9 : xM) (h : f_L_timer e m = some m9) : xMet l yX3_checkTimer cX3_checkTimer 4 none 6 lay_L0 [.inr (.inr (some 0)), .inl e] m none m9 :=
  xMet_v (by decide +kernel) (Nat.le_of_ble_eq_true rfl) (fun Γ C hR _ => t_L_timer (Nat.le_refl _) C e e_e hR m h)
theorem xv_23 : xview lay_L1 lay_eo [0, 33, 12, 1, 23, 28, 30, 31] := xview_of (by decide +kernel)
theorem xv_24 : xview lay_L1 lay_F [4, 5, 6, 7] := xview_of (by decide +kernel)
theorem xv_25 : xview lay_L1 lay_L0 [0, 12, 13, 14, 15, 16, 17, 18, 19, 20, 21, 22, 1, 2, 3, 4, 5, 6, 7, 8, 9, 10, 11, 23, 24, 25, 26, 27, 28, 29, 30, 31, 32, 33, 34, 35, 36, 37] := xview_of (by decide +kernel)
set_option maxRecDepth 1000000 in
set_option maxHeartbeats 4000000 in
theorem t_L_timer_69_1 {Γ : xG} {d : Nat} (hd9 : 6 ≤ d) (C : xC Γ lay_L1 RX3 cX3_checkTimer 4 d) (e : Int) (e_e : xw e = 1) {m9 : xM} (hR : xRv Γ lay_L1 cX3_checkTimer m9) (m : xM) (h : f_L_timer_69 e m = some m9) : xW Γ lay_L1 4 69 [(0, .inr (.inr (some 0))), (1, .inl e)] [] m := by
  unfold f_L_timer_69 at h
  refine x_aload_n C dX3_checkTimer_69 rfl ?_
  refine x_getR C dX3_checkTimer_70 fF_X3_35 rfl rfl ?_
  refine x_iconst C dX3_checkTimer_73 ?_
  refine x_dup2 C dX3_checkTimer_74 rfl rfl ?_
  refine x_iaload C dX3_checkTimer_75 rfl h (fun h => ?_)
  refine x_iconst C dX3_checkTimer_76 ?_
  refine x_iadd C dX3_checkTimer_77 ?_
  refine x_iastore C dX3_checkTimer_78 rfl h (fun h => ?_)
  refine x_aload_n C dX3_checkTimer_79 rfl ?_
  refine x_bipush C dX3_checkTimer_80 (by decide) ?_
  refine x_iload_n C dX3_checkTimer_82 rfl ?_
  obtain ⟨q2, hq2, h⟩ := x_bind h
  refine x_callVI C dX3_checkTimer_83 (xin_38 _ (List.mem_of_getElem? (i := 11) rfl)) xy_X3_note (xi_X3_note) (xs_X3_note) (by omega) (by decide) (b := 0) rfl ⟨_, _, rfl⟩ (av := [.inl 6, .inl e]) rfl (Nat.le_of_ble_eq_true rfl) (c_L_note_1 _ _ _ _ _ hq2) rfl ?_
  refine x_aload_n C dX3_checkTimer_86 rfl ?_
  refine x_getI C dX3_checkTimer_87 fF_X3_76 rfl rfl ?_
  refine x_aload_n C dX3_checkTimer_90 rfl ?_
  refine x_getR C dX3_checkTimer_91 fF_X3_46 rfl rfl ?_
  refine x_getI C dX3_checkTimer_94 fF_X3_268 rfl rfl ?_
  refine x_icmp_lt C 104 dX3_checkTimer_97 (by decide) h (fun h => ?_) (fun h => ?_)
  · exact x_returnV hR dX3_checkTimer_104 h
  · refine x_aload_n C dX3_checkTimer_100 rfl ?_
    obtain ⟨q3, hq3, h⟩ := x_bind h
    refine x_callV C dX3_checkTimer_101 (xin_42 _ (List.mem_of_getElem? (i := 10) rfl)) xy_X3_fall (xi_X3_fall) (xs_X3_fall) [0, 12, 13, 14, 15, 16, 17, 18, 19, 20, 21, 22, 1, 2, 3, 4, 5, 6, 7, 8, 9, 10, 11, 23, 24, 25, 26, 27, 28, 29, 30, 31, 32, 33, 34, 35, 36, 37] xv_25 (by omega) (by decide) (b := 0) rfl ⟨_, _, rfl⟩ (av := []) rfl (Nat.le_of_ble_eq_true rfl) (c_L_fall _ _ _ hq3) rfl ?_
    exact x_returnV hR dX3_checkTimer_104 h
set_option maxRecDepth 1000000 in
set_option maxHeartbeats 4000000 in
theorem t_L_timer_1 {Γ : xG} {d : Nat} (hd9 : 6 ≤ d) (C : xC Γ lay_L1 RX3 cX3_checkTimer 4 d) (e : Int) (e_e : xw e = 1) {m9 : xM} (hR : xRv Γ lay_L1 cX3_checkTimer m9) (m : xM) (h : f_L_timer e m = some m9) : xW Γ lay_L1 4 0 [(0, .inr (.inr (some 0))), (1, .inl e)] [] m := by
  unfold f_L_timer at h
  refine x_aload_n C dX3_checkTimer_0 rfl ?_
  refine x_iload_n C dX3_checkTimer_1 rfl ?_
  refine x_callVp C dX3_checkTimer_2 (xin_41 _ (List.mem_of_getElem? (i := 7) rfl)) xy_X3_endOf (xi_X3_endOf) (xs_X3_endOf) [0, 33, 12, 1, 23, 28, 30, 31] xv_23 (by omega) (by decide) (b := 0) rfl ⟨_, _, rfl⟩ (av := [.inl e]) rfl (Nat.le_of_ble_eq_true rfl) (c_endOf1 _ _ _ (by first | decide | assumption | exact xw_1m0 (by assumption) | exact xw_1m1 (by assumption) | exact xw_ne1 (by assumption) | exact xw_n1m0 (by assumption))) rfl ?_
  refine x_astore_n C dX3_checkTimer_5 (by decide) ?_
  refine x_aload_n C dX3_checkTimer_6 rfl ?_
  refine x_getR C dX3_checkTimer_7 fF_X3_120 rfl rfl ?_
  refine x_astore_n C dX3_checkTimer_10 (by decide) ?_
  refine x_aload_n C dX3_checkTimer_11 rfl ?_
  refine x_getI C dX3_checkTimer_12 fF_X3_255 rfl rfl ?_
  refine x_if_eq C 43 dX3_checkTimer_15 (by decide) h (fun h => ?_) (fun h => ?_)
  · exact x_returnV hR dX3_checkTimer_43 h
  · refine x_aload_n C dX3_checkTimer_18 rfl ?_
    refine x_getI C dX3_checkTimer_19 fF_X3_61 rfl rfl ?_
    refine x_aload_n C dX3_checkTimer_22 rfl ?_
    refine x_getR C dX3_checkTimer_23 fF_X3_258 rfl rfl ?_
    refine x_aload_n C dX3_checkTimer_26 rfl ?_
    refine x_iconst C dX3_checkTimer_27 ?_
    obtain ⟨q1, hq1, h⟩ := x_bind h
    refine x_callVp C dX3_checkTimer_28 (xin_41 _ (List.mem_of_getElem? (i := 16) rfl)) xy_X2_slotOf (xi_X2_slotOf) (xs_X2_slotOf) [4, 5, 6, 7] xv_24 (by omega) (by decide) (b := 0) rfl ⟨_, _, rfl⟩ (av := [.inl 0]) rfl (Nat.le_of_ble_eq_true rfl) (c_F_slot _ _ _ _ hq1) rfl ?_
    refine x_iaload C dX3_checkTimer_31 rfl h (fun h => ?_)
    refine x_isub C dX3_checkTimer_32 ?_
    refine x_aload_n C dX3_checkTimer_33 rfl ?_
    refine x_getR C dX3_checkTimer_34 fF_X3_46 rfl rfl ?_
    refine x_getI C dX3_checkTimer_37 fF_X3_261 rfl rfl ?_
    refine x_icmp_ge C 44 dX3_checkTimer_40 (by decide) h (fun h => ?_) (fun h => ?_)
    · refine x_aload_n C dX3_checkTimer_44 rfl ?_
      refine x_iconst C dX3_checkTimer_45 ?_
      refine x_putI C dX3_checkTimer_46 fF_X3_255 rfl rfl ?_
      refine x_aload_n C dX3_checkTimer_49 rfl ?_
      refine x_iconst C dX3_checkTimer_50 ?_
      refine x_putZ C dX3_checkTimer_51 fF_X3_264 rfl rfl (by decide) ?_
      refine x_aload_n C dX3_checkTimer_54 rfl ?_
      refine x_dup C dX3_checkTimer_55 rfl ?_
      refine x_getI C dX3_checkTimer_56 fF_X3_76 rfl rfl ?_
      refine x_iconst C dX3_checkTimer_59 ?_
      refine x_iadd C dX3_checkTimer_60 ?_
      refine x_putI C dX3_checkTimer_61 fF_X3_76 rfl rfl ?_
      refine x_aload_n C dX3_checkTimer_64 rfl ?_
      refine x_iconst C dX3_checkTimer_65 ?_
      refine x_putI C dX3_checkTimer_66 fF_X3_79 rfl rfl ?_
      refine x_loc [(0, .inr (.inr (some 0))), (1, .inl e)] ⟨rfl, rfl, trivial⟩ ?_
      exact t_L_timer_69_1 hd9 C _ e_e hR _ h
    · exact x_returnV hR dX3_checkTimer_43 h
theorem c_L_timer_1 (l : Launch) (e : Int) (e_e : xw e = 1) (m m9 : xM) (h : f_L_timer e m = some m9) : xMet l yX3_checkTimer cX3_checkTimer 4 none 6 lay_L1 [.inr (.inr (some 0)), .inl e] m none m9 :=
  xMet_v (by decide +kernel) (Nat.le_of_ble_eq_true rfl) (fun Γ C hR _ => t_L_timer_1 (Nat.le_refl _) C e e_e hR m h)
theorem fF_X3_274 : xF RX3 274 8 13 .int false := ⟨RX6, TX6, 14, tyX6, rfl, by decide, (xin_42 _ (List.mem_of_getElem? (i := 18) rfl)), rfl, inlX6, tyX6_ok, nmX6, rfl, rfl⟩
theorem xy_X6_canRiseFrom : xY yX6_canRiseFrom cX6_canRiseFrom 4 (some .boolean) 2 := ⟨(xin_42 _ (List.mem_of_getElem? (i := 22) rfl)), (xin_1 _ (List.mem_of_getElem? (i := 15) rfl)), by decide, by decide, by decide +kernel⟩
theorem xi_X6_canRiseFrom : Cond.instanceMethod yX6_canRiseFrom ∈ wsL_law := (xin_42 _ (List.mem_of_getElem? (i := 20) rfl))
theorem xs_X6_canRiseFrom : Cond.selects yX6_canRiseFrom.cls yX6_canRiseFrom yX6_canRiseFrom ∈ wsL_law := (xin_42 _ (List.mem_of_getElem? (i := 21) rfl))
theorem dX3_rise_0 : decode cX3_rise 0 = .ok (.aload_n 0, 1) := by decide +kernel
theorem dX3_rise_1 : decode cX3_rise 1 = .ok (.getfield 79, 3) := by decide +kernel
theorem dX3_rise_4 : decode cX3_rise 4 = .ok (.aload_n 0, 1) := by decide +kernel
theorem dX3_rise_5 : decode cX3_rise 5 = .ok (.getfield 46, 3) := by decide +kernel
theorem dX3_rise_8 : decode cX3_rise 8 = .ok (.getfield 274, 3) := by decide +kernel
theorem dX3_rise_11 : decode cX3_rise 11 = .ok (.if_icmp .lt 21, 3) := by decide +kernel
theorem dX3_rise_14 : decode cX3_rise 14 = .ok (.aload_n 0, 1) := by decide +kernel
theorem dX3_rise_15 : decode cX3_rise 15 = .ok (.getfield 46, 3) := by decide +kernel
theorem dX3_rise_18 : decode cX3_rise 18 = .ok (.aload_n 0, 1) := by decide +kernel
theorem dX3_rise_19 : decode cX3_rise 19 = .ok (.getfield 73, 3) := by decide +kernel
theorem dX3_rise_22 : decode cX3_rise 22 = .ok (.aload_n 0, 1) := by decide +kernel
theorem dX3_rise_23 : decode cX3_rise 23 = .ok (.getfield 72, 3) := by decide +kernel
theorem dX3_rise_26 : decode cX3_rise 26 = .ok (.invokevirtual 277, 3) := by decide +kernel
theorem dX3_rise_29 : decode cX3_rise 29 = .ok (.ifCond .ne 4, 3) := by decide +kernel
theorem dX3_rise_32 : decode cX3_rise 32 = .ok (.return_, 1) := by decide +kernel
theorem dX3_rise_33 : decode cX3_rise 33 = .ok (.aload_n 0, 1) := by decide +kernel
theorem dX3_rise_34 : decode cX3_rise 34 = .ok (.dup, 1) := by decide +kernel
theorem dX3_rise_35 : decode cX3_rise 35 = .ok (.getfield 73, 3) := by decide +kernel
theorem dX3_rise_38 : decode cX3_rise 38 = .ok (.iconst 1, 1) := by decide +kernel
theorem dX3_rise_39 : decode cX3_rise 39 = .ok (.iadd, 1) := by decide +kernel
theorem dX3_rise_40 : decode cX3_rise 40 = .ok (.putfield 73, 3) := by decide +kernel
theorem dX3_rise_43 : decode cX3_rise 43 = .ok (.aload_n 0, 1) := by decide +kernel
theorem dX3_rise_44 : decode cX3_rise 44 = .ok (.iconst 0, 1) := by decide +kernel
theorem dX3_rise_45 : decode cX3_rise 45 = .ok (.putfield 79, 3) := by decide +kernel
theorem dX3_rise_48 : decode cX3_rise 48 = .ok (.aload_n 0, 1) := by decide +kernel
theorem dX3_rise_49 : decode cX3_rise 49 = .ok (.getfield 35, 3) := by decide +kernel
theorem dX3_rise_52 : decode cX3_rise 52 = .ok (.iconst 5, 1) := by decide +kernel
theorem dX3_rise_53 : decode cX3_rise 53 = .ok (.dup2, 1) := by decide +kernel
theorem dX3_rise_54 : decode cX3_rise 54 = .ok (.iaload, 1) := by decide +kernel
theorem dX3_rise_55 : decode cX3_rise 55 = .ok (.iconst 1, 1) := by decide +kernel
theorem dX3_rise_56 : decode cX3_rise 56 = .ok (.iadd, 1) := by decide +kernel
theorem dX3_rise_57 : decode cX3_rise 57 = .ok (.iastore, 1) := by decide +kernel
theorem dX3_rise_58 : decode cX3_rise 58 = .ok (.aload_n 0, 1) := by decide +kernel
theorem dX3_rise_59 : decode cX3_rise 59 = .ok (.iconst 3, 1) := by decide +kernel
theorem dX3_rise_60 : decode cX3_rise 60 = .ok (.iconst (-1), 1) := by decide +kernel
theorem dX3_rise_61 : decode cX3_rise 61 = .ok (.invokevirtual 179, 3) := by decide +kernel
theorem dX3_rise_64 : decode cX3_rise 64 = .ok (.return_, 1) := by decide +kernel
def f_L_rise_58 (m : xM) : Option (xM) :=
     (Option.bind (f_L_note 3 (-1) m) fun q1 =>
      some q1)
set_option maxRecDepth 1000000 in
set_option maxHeartbeats 4000000 in
theorem t_L_rise_58 {Γ : xG} {d : Nat} (hd9 : 4 ≤ d) (C : xC Γ lay_L0 RX3 cX3_rise 1 d) {m9 : xM} (hR : xRv Γ lay_L0 cX3_rise m9) (m : xM) (h : f_L_rise_58 m = some m9) : xW Γ lay_L0 1 58 [(0, .inr (.inr (some 0)))] [] m := by
  unfold f_L_rise_58 at h
  refine x_aload_n C dX3_rise_58 rfl ?_
  refine x_iconst C dX3_rise_59 ?_
  refine x_iconst C dX3_rise_60 ?_
  obtain ⟨q1, hq1, h⟩ := x_bind h
  refine x_callVI C dX3_rise_61 (xin_38 _ (List.mem_of_getElem? (i := 11) rfl)) xy_X3_note (xi_X3_note) (xs_X3_note) (by omega) (by decide) (b := 0) rfl ⟨_, _, rfl⟩ (av := [.inl 3, .inl (-1)]) rfl (Nat.le_of_ble_eq_true rfl) (c_L_note _ _ _ _ _ hq1) rfl ?_
  exact x_returnV hR dX3_rise_64 h
def f_L_rise (m : xM) : Option (xM) :=
     (if xw (m 0 16) < xw (m 33 13) then some m
      else (Option.bind (f_S_rise (m 0 10) (m 0 9) (xvw [33, 34, 35, 36, 37] m)) fun q0 =>
      (if xw q0 = 0 then some m
      else (if xib 5 11 then (if xib 5 11 then f_L_rise_58 (xu (xu (xu m 0 10 ((m 0 10) + 1)) 0 16 0) 30 5 ((m 30 5) + 1))
      else none)
      else none))))
set_option maxRecDepth 1000000 in
set_option maxHeartbeats 4000000 in
theorem t_L_rise {Γ : xG} {d : Nat} (hd9 : 4 ≤ d) (C : xC Γ lay_L0 RX3 cX3_rise 1 d) {m9 : xM} (hR : xRv Γ lay_L0 cX3_rise m9) (m : xM) (h : f_L_rise m = some m9) : xW Γ lay_L0 1 0 [(0, .inr (.inr (some 0)))] [] m := by
  unfold f_L_rise at h
  refine x_aload_n C dX3_rise_0 rfl ?_
  refine x_getI C dX3_rise_1 fF_X3_79 rfl rfl ?_
  refine x_aload_n C dX3_rise_4 rfl ?_
  refine x_getR C dX3_rise_5 fF_X3_46 rfl rfl ?_
  refine x_getI C dX3_rise_8 fF_X3_274 rfl rfl ?_
  refine x_icmp_lt C 32 dX3_rise_11 (by decide) h (fun h => ?_) (fun h => ?_)
  · exact x_returnV hR dX3_rise_32 h
  · refine x_aload_n C dX3_rise_14 rfl ?_
    refine x_getR C dX3_rise_15 fF_X3_46 rfl rfl ?_
    refine x_aload_n C dX3_rise_18 rfl ?_
    refine x_getI C dX3_rise_19 fF_X3_73 rfl rfl ?_
    refine x_aload_n C dX3_rise_22 rfl ?_
    refine x_getI C dX3_rise_23 fF_X3_72 rfl rfl ?_
    obtain ⟨q0, hq0, h⟩ := x_bind h
    refine x_callVp C dX3_rise_26 (xin_42 _ (List.mem_of_getElem? (i := 19) rfl)) xy_X6_canRiseFrom (xi_X6_canRiseFrom) (xs_X6_canRiseFrom) [33, 34, 35, 36, 37] xv_19 (by omega) (by decide) (b := 0) rfl ⟨_, _, rfl⟩ (av := [.inl (m 0 10), .inl (m 0 9)]) rfl (Nat.le_of_ble_eq_true rfl) (c_S_rise _ _ _ _ _ hq0) rfl ?_
    refine x_if_ne C 33 dX3_rise_29 (by decide) h (fun h => ?_) (fun h => ?_)
    · refine x_aload_n C dX3_rise_33 rfl ?_
      refine x_dup C dX3_rise_34 rfl ?_
      refine x_getI C dX3_rise_35 fF_X3_73 rfl rfl ?_
      refine x_iconst C dX3_rise_38 ?_
      refine x_iadd C dX3_rise_39 ?_
      refine x_putI C dX3_rise_40 fF_X3_73 rfl rfl ?_
      refine x_aload_n C dX3_rise_43 rfl ?_
      refine x_iconst C dX3_rise_44 ?_
      refine x_putI C dX3_rise_45 fF_X3_79 rfl rfl ?_
      refine x_aload_n C dX3_rise_48 rfl ?_
      refine x_getR C dX3_rise_49 fF_X3_35 rfl rfl ?_
      refine x_iconst C dX3_rise_52 ?_
      refine x_dup2 C dX3_rise_53 rfl rfl ?_
      refine x_iaload C dX3_rise_54 rfl h (fun h => ?_)
      refine x_iconst C dX3_rise_55 ?_
      refine x_iadd C dX3_rise_56 ?_
      refine x_iastore C dX3_rise_57 rfl h (fun h => ?_)
      refine x_loc [(0, .inr (.inr (some 0)))] ⟨rfl, trivial⟩ ?_
      exact t_L_rise_58 hd9 C hR _ h
    · exact x_returnV hR dX3_rise_32 h
theorem c_L_rise (l : Launch) (m m9 : xM) (h : f_L_rise m = some m9) : xMet l yX3_rise cX3_rise 1 none 4 lay_L0 [.inr (.inr (some 0))] m none m9 :=
  xMet_v (by decide +kernel) (Nat.le_of_ble_eq_true rfl) (fun Γ C hR _ => t_L_rise (Nat.le_refl _) C hR m h)
theorem fF_X3_124 : xF RX3 124 4 4 .int false := ⟨RX2, TX2, 6, tyX2, rfl, by decide, (xin_37 _ (List.mem_of_getElem? (i := 5) rfl)), rfl, inlX2, tyX2_ok, nmX2, rfl, rfl⟩
theorem fF_X3_230 : xF RX3 230 4 3 .int false := ⟨RX2, TX2, 6, tyX2, rfl, by decide, (xin_41 _ (List.mem_of_getElem? (i := 6) rfl)), rfl, inlX2, tyX2_ok, nmX2, rfl, rfl⟩
theorem dX3_acceptAcknowledgement_0 : decode cX3_acceptAcknowledgement 0 = .ok (.aload_n 0, 1) := by decide +kernel
theorem dX3_acceptAcknowledgement_1 : decode cX3_acceptAcknowledgement 1 = .ok (.iload_n 1, 1) := by decide +kernel
theorem dX3_acceptAcknowledgement_2 : decode cX3_acceptAcknowledgement 2 = .ok (.invokevirtual 226, 3) := by decide +kernel
theorem dX3_acceptAcknowledgement_5 : decode cX3_acceptAcknowledgement 5 = .ok (.getfield 120, 3) := by decide +kernel
theorem dX3_acceptAcknowledgement_8 : decode cX3_acceptAcknowledgement 8 = .ok (.astore_n 3, 1) := by decide +kernel
theorem dX3_acceptAcknowledgement_9 : decode cX3_acceptAcknowledgement 9 = .ok (.aload_n 3, 1) := by decide +kernel
theorem dX3_acceptAcknowledgement_10 : decode cX3_acceptAcknowledgement 10 = .ok (.getfield 124, 3) := by decide +kernel
theorem dX3_acceptAcknowledgement_13 : decode cX3_acceptAcknowledgement 13 = .ok (.ifCond .le 30, 3) := by decide +kernel
theorem dX3_acceptAcknowledgement_16 : decode cX3_acceptAcknowledgement 16 = .ok (.aload_n 3, 1) := by decide +kernel
theorem dX3_acceptAcknowledgement_17 : decode cX3_acceptAcknowledgement 17 = .ok (.getfield 230, 3) := by decide +kernel
theorem dX3_acceptAcknowledgement_20 : decode cX3_acceptAcknowledgement 20 = .ok (.iload_n 2, 1) := by decide +kernel
theorem dX3_acceptAcknowledgement_21 : decode cX3_acceptAcknowledgement 21 = .ok (.if_icmp .ne 22, 3) := by decide +kernel
theorem dX3_acceptAcknowledgement_24 : decode cX3_acceptAcknowledgement 24 = .ok (.aload_n 3, 1) := by decide +kernel
theorem dX3_acceptAcknowledgement_25 : decode cX3_acceptAcknowledgement 25 = .ok (.invokevirtual 233, 3) := by decide +kernel
theorem dX3_acceptAcknowledgement_28 : decode cX3_acceptAcknowledgement 28 = .ok (.aload_n 0, 1) := by decide +kernel
theorem dX3_acceptAcknowledgement_29 : decode cX3_acceptAcknowledgement 29 = .ok (.iconst 0, 1) := by decide +kernel
theorem dX3_acceptAcknowledgement_30 : decode cX3_acceptAcknowledgement 30 = .ok (.putfield 76, 3) := by decide +kernel
theorem dX3_acceptAcknowledgement_33 : decode cX3_acceptAcknowledgement 33 = .ok (.aload_n 0, 1) := by decide +kernel
theorem dX3_acceptAcknowledgement_34 : decode cX3_acceptAcknowledgement 34 = .ok (.dup, 1) := by decide +kernel
theorem dX3_acceptAcknowledgement_35 : decode cX3_acceptAcknowledgement 35 = .ok (.getfield 79, 3) := by decide +kernel
theorem dX3_acceptAcknowledgement_38 : decode cX3_acceptAcknowledgement 38 = .ok (.iconst 1, 1) := by decide +kernel
theorem dX3_acceptAcknowledgement_39 : decode cX3_acceptAcknowledgement 39 = .ok (.iadd, 1) := by decide +kernel
theorem dX3_acceptAcknowledgement_40 : decode cX3_acceptAcknowledgement 40 = .ok (.putfield 79, 3) := by decide +kernel
theorem dX3_acceptAcknowledgement_43 : decode cX3_acceptAcknowledgement 43 = .ok (.return_, 1) := by decide +kernel
def f_L_ack (e : Int) (b : Int) (m : xM) : Option (xM) :=
     (if 0 < xw (m 4 4) then (if xw (m 4 3) = xw b then (Option.bind (f_F_forget1 (xvw [4, 5, 6, 7] m)) fun q1 =>
      some (xu (xu (xmg [4, 5, 6, 7] 4 m q1) 0 15 0) 0 16 (((xmg [4, 5, 6, 7] 4 m q1) 0 16) + 1)))
      else some m)
      else some m)
set_option maxRecDepth 1000000 in
set_option maxHeartbeats 4000000 in
theorem t_L_ack {Γ : xG} {d : Nat} (hd9 : 2 ≤ d) (C : xC Γ lay_L0 RX3 cX3_acceptAcknowledgement 4 d) (e : Int) (b : Int) (e_e : xw e = 0) {m9 : xM} (hR : xRv Γ lay_L0 cX3_acceptAcknowledgement m9) (m : xM) (h : f_L_ack e b m = some m9) : xW Γ lay_L0 4 0 [(0, .inr (.inr (some 0))), (1, .inl e), (2, .inl b)] [] m := by
  unfold f_L_ack at h
  refine x_aload_n C dX3_acceptAcknowledgement_0 rfl ?_
  refine x_iload_n C dX3_acceptAcknowledgement_1 rfl ?_
  refine x_callVp C dX3_acceptAcknowledgement_2 (xin_41 _ (List.mem_of_getElem? (i := 7) rfl)) xy_X3_endOf (xi_X3_endOf) (xs_X3_endOf) [0, 33, 1, 12, 23, 28, 30, 31] xv_22 (by omega) (by decide) (b := 0) rfl ⟨_, _, rfl⟩ (av := [.inl e]) rfl (Nat.le_of_ble_eq_true rfl) (c_endOf0 _ _ _ (by first | decide | assumption | exact xw_1m0 (by assumption) | exact xw_1m1 (by assumption) | exact xw_ne1 (by assumption) | exact xw_n1m0 (by assumption))) rfl ?_
  refine x_getR C dX3_acceptAcknowledgement_5 fF_X3_120 rfl rfl ?_
  refine x_astore_n C dX3_acceptAcknowledgement_8 (by decide) ?_
  refine x_aload_n C dX3_acceptAcknowledgement_9 rfl ?_
  refine x_getI C dX3_acceptAcknowledgement_10 fF_X3_124 rfl rfl ?_
  refine x_if_le C 43 dX3_acceptAcknowledgement_13 (by decide) h (fun h => ?_) (fun h => ?_)
  · exact x_returnV hR dX3_acceptAcknowledgement_43 h
  · refine x_aload_n C dX3_acceptAcknowledgement_16 rfl ?_
    refine x_getI C dX3_acceptAcknowledgement_17 fF_X3_230 rfl rfl ?_
    refine x_iload_n C dX3_acceptAcknowledgement_20 rfl ?_
    refine x_icmp_ne C 43 dX3_acceptAcknowledgement_21 (by decide) h (fun h => ?_) (fun h => ?_)
    · exact x_returnV hR dX3_acceptAcknowledgement_43 h
    · refine x_aload_n C dX3_acceptAcknowledgement_24 rfl ?_
      obtain ⟨q1, hq1, h⟩ := x_bind h
      refine x_callV C dX3_acceptAcknowledgement_25 (xin_41 _ (List.mem_of_getElem? (i := 8) rfl)) xy_X2_forgetFirst (xi_X2_forgetFirst) (xs_X2_forgetFirst) [4, 5, 6, 7] xv_20 (by omega) (by decide) (b := 0) rfl ⟨_, _, rfl⟩ (av := []) rfl (Nat.le_of_ble_eq_true rfl) (c_F_forget1 _ _ _ hq1) rfl ?_
      refine x_aload_n C dX3_acceptAcknowledgement_28 rfl ?_
      refine x_iconst C dX3_acceptAcknowledgement_29 ?_
      refine x_putI C dX3_acceptAcknowledgement_30 fF_X3_76 rfl rfl ?_
      refine x_aload_n C dX3_acceptAcknowledgement_33 rfl ?_
      refine x_dup C dX3_acceptAcknowledgement_34 rfl ?_
      refine x_getI C dX3_acceptAcknowledgement_35 fF_X3_79 rfl rfl ?_
      refine x_iconst C dX3_acceptAcknowledgement_38 ?_
      refine x_iadd C dX3_acceptAcknowledgement_39 ?_
      refine x_putI C dX3_acceptAcknowledgement_40 fF_X3_79 rfl rfl ?_
      exact x_returnV hR dX3_acceptAcknowledgement_43 h
theorem c_L_ack (l : Launch) (e : Int) (b : Int) (e_e : xw e = 0) (m m9 : xM) (h : f_L_ack e b m = some m9) : xMet l yX3_acceptAcknowledgement cX3_acceptAcknowledgement 4 none 2 lay_L0 [.inr (.inr (some 0)), .inl e, .inl b] m none m9 :=
  xMet_v (by decide +kernel) (Nat.le_of_ble_eq_true rfl) (fun Γ C hR _ => t_L_ack (Nat.le_refl _) C e b e_e hR m h)
set_option maxRecDepth 1000000 in
set_option maxHeartbeats 4000000 in
theorem t_L_ack_1 {Γ : xG} {d : Nat} (hd9 : 2 ≤ d) (C : xC Γ lay_L1 RX3 cX3_acceptAcknowledgement 4 d) (e : Int) (b : Int) (e_e : xw e = 1) {m9 : xM} (hR : xRv Γ lay_L1 cX3_acceptAcknowledgement m9) (m : xM) (h : f_L_ack e b m = some m9) : xW Γ lay_L1 4 0 [(0, .inr (.inr (some 0))), (1, .inl e), (2, .inl b)] [] m := by
  unfold f_L_ack at h
  refine x_aload_n C dX3_acceptAcknowledgement_0 rfl ?_
  refine x_iload_n C dX3_acceptAcknowledgement_1 rfl ?_
  refine x_callVp C dX3_acceptAcknowledgement_2 (xin_41 _ (List.mem_of_getElem? (i := 7) rfl)) xy_X3_endOf (xi_X3_endOf) (xs_X3_endOf) [0, 33, 12, 1, 23, 28, 30, 31] xv_23 (by omega) (by decide) (b := 0) rfl ⟨_, _, rfl⟩ (av := [.inl e]) rfl (Nat.le_of_ble_eq_true rfl) (c_endOf1 _ _ _ (by first | decide | assumption | exact xw_1m0 (by assumption) | exact xw_1m1 (by assumption) | exact xw_ne1 (by assumption) | exact xw_n1m0 (by assumption))) rfl ?_
  refine x_getR C dX3_acceptAcknowledgement_5 fF_X3_120 rfl rfl ?_
  refine x_astore_n C dX3_acceptAcknowledgement_8 (by decide) ?_
  refine x_aload_n C dX3_acceptAcknowledgement_9 rfl ?_
  refine x_getI C dX3_acceptAcknowledgement_10 fF_X3_124 rfl rfl ?_
  refine x_if_le C 43 dX3_acceptAcknowledgement_13 (by decide) h (fun h => ?_) (fun h => ?_)
  · exact x_returnV hR dX3_acceptAcknowledgement_43 h
  · refine x_aload_n C dX3_acceptAcknowledgement_16 rfl ?_
    refine x_getI C dX3_acceptAcknowledgement_17 fF_X3_230 rfl rfl ?_
    refine x_iload_n C dX3_acceptAcknowledgement_20 rfl ?_
    refine x_icmp_ne C 43 dX3_acceptAcknowledgement_21 (by decide) h (fun h => ?_) (fun h => ?_)
    · exact x_returnV hR dX3_acceptAcknowledgement_43 h
    · refine x_aload_n C dX3_acceptAcknowledgement_24 rfl ?_
      obtain ⟨q1, hq1, h⟩ := x_bind h
      refine x_callV C dX3_acceptAcknowledgement_25 (xin_41 _ (List.mem_of_getElem? (i := 8) rfl)) xy_X2_forgetFirst (xi_X2_forgetFirst) (xs_X2_forgetFirst) [4, 5, 6, 7] xv_24 (by omega) (by decide) (b := 0) rfl ⟨_, _, rfl⟩ (av := []) rfl (Nat.le_of_ble_eq_true rfl) (c_F_forget1 _ _ _ hq1) rfl ?_
      refine x_aload_n C dX3_acceptAcknowledgement_28 rfl ?_
      refine x_iconst C dX3_acceptAcknowledgement_29 ?_
      refine x_putI C dX3_acceptAcknowledgement_30 fF_X3_76 rfl rfl ?_
      refine x_aload_n C dX3_acceptAcknowledgement_33 rfl ?_
      refine x_dup C dX3_acceptAcknowledgement_34 rfl ?_
      refine x_getI C dX3_acceptAcknowledgement_35 fF_X3_79 rfl rfl ?_
      refine x_iconst C dX3_acceptAcknowledgement_38 ?_
      refine x_iadd C dX3_acceptAcknowledgement_39 ?_
      refine x_putI C dX3_acceptAcknowledgement_40 fF_X3_79 rfl rfl ?_
      exact x_returnV hR dX3_acceptAcknowledgement_43 h
theorem c_L_ack_1 (l : Launch) (e : Int) (b : Int) (e_e : xw e = 1) (m m9 : xM) (h : f_L_ack e b m = some m9) : xMet l yX3_acceptAcknowledgement cX3_acceptAcknowledgement 4 none 2 lay_L1 [.inr (.inr (some 0)), .inl e, .inl b] m none m9 :=
  xMet_v (by decide +kernel) (Nat.le_of_ble_eq_true rfl) (fun Γ C hR _ => t_L_ack_1 (Nat.le_refl _) C e b e_e hR m h)
theorem fF_X3_243 : xF RX3 243 4 1 (.array .int) true := ⟨RX2, TX2, 6, tyX2, rfl, by decide, (xin_41 _ (List.mem_of_getElem? (i := 14) rfl)), rfl, inlX2, tyX2_ok, nmX2, rfl, rfl⟩
theorem xy_X9_put : xY yX9_put cX9_put 6 none 4 := ⟨(xin_42 _ (List.mem_of_getElem? (i := 1) rfl)), (xin_4 _ (List.mem_of_getElem? (i := 5) rfl)), by decide, by decide, by decide +kernel⟩
theorem xi_X9_put : Cond.instanceMethod yX9_put ∈ wsL_law := (xin_41 _ (List.mem_of_getElem? (i := 23) rfl))
theorem xs_X9_put : Cond.selects yX9_put.cls yX9_put yX9_put ∈ wsL_law := (xin_42 _ (List.mem_of_getElem? (i := 0) rfl))
theorem xv_26 : xview lay_L0 lay_Wi [23, 24, 25, 26, 27] := xview_of (by decide +kernel)
theorem fF_X3_246 : xF RX3 246 4 0 (.array .int) true := ⟨RX2, TX2, 6, tyX2, rfl, by decide, (xin_41 _ (List.mem_of_getElem? (i := 15) rfl)), rfl, inlX2, tyX2_ok, nmX2, rfl, rfl⟩
theorem xy_X1_read : xY yX1_read cX1_read 2 none 1 := ⟨(xin_41 _ (List.mem_of_getElem? (i := 20) rfl)), (xin_4 _ (List.mem_of_getElem? (i := 0) rfl)), by decide, by decide, by decide +kernel⟩
theorem xi_X1_read : Cond.instanceMethod yX1_read ∈ wsL_law := (xin_41 _ (List.mem_of_getElem? (i := 18) rfl))
theorem xs_X1_read : Cond.selects yX1_read.cls yX1_read yX1_read ∈ wsL_law := (xin_41 _ (List.mem_of_getElem? (i := 19) rfl))
theorem fF_X3_236 : xF RX3 236 3 4 (.object "ModemLink$Dictionary") true := ⟨RX1, TX1, 11, tyX1, rfl, by decide, (xin_41 _ (List.mem_of_getElem? (i := 13) rfl)), rfl, inlX1, tyX1_ok, nmX1, rfl, rfl⟩
theorem fF_X3_239 : xF RX3 239 2 1 .int false := ⟨RX0, TX0, 2, tyX0, rfl, by decide, (xin_33 _ (List.mem_of_getElem? (i := 20) rfl)), rfl, inlX0, tyX0_ok, nmX0, rfl, rfl⟩
theorem dX3_acceptFrame_0 : decode cX3_acceptFrame 0 = .ok (.aload_n 0, 1) := by decide +kernel
theorem dX3_acceptFrame_1 : decode cX3_acceptFrame 1 = .ok (.iload_n 1, 1) := by decide +kernel
theorem dX3_acceptFrame_2 : decode cX3_acceptFrame 2 = .ok (.invokevirtual 226, 3) := by decide +kernel
theorem dX3_acceptFrame_5 : decode cX3_acceptFrame 5 = .ok (.getfield 120, 3) := by decide +kernel
theorem dX3_acceptFrame_8 : decode cX3_acceptFrame 8 = .ok (.astore 4, 2) := by decide +kernel
theorem dX3_acceptFrame_10 : decode cX3_acceptFrame 10 = .ok (.aload_n 0, 1) := by decide +kernel
theorem dX3_acceptFrame_11 : decode cX3_acceptFrame 11 = .ok (.iconst 1, 1) := by decide +kernel
theorem dX3_acceptFrame_12 : decode cX3_acceptFrame 12 = .ok (.iload_n 1, 1) := by decide +kernel
theorem dX3_acceptFrame_13 : decode cX3_acceptFrame 13 = .ok (.isub, 1) := by decide +kernel
theorem dX3_acceptFrame_14 : decode cX3_acceptFrame 14 = .ok (.invokevirtual 226, 3) := by decide +kernel
theorem dX3_acceptFrame_17 : decode cX3_acceptFrame 17 = .ok (.astore 5, 2) := by decide +kernel
theorem dX3_acceptFrame_19 : decode cX3_acceptFrame 19 = .ok (.iload_n 2, 1) := by decide +kernel
theorem dX3_acceptFrame_20 : decode cX3_acceptFrame 20 = .ok (.aload 4, 2) := by decide +kernel
theorem dX3_acceptFrame_22 : decode cX3_acceptFrame 22 = .ok (.getfield 230, 3) := by decide +kernel
theorem dX3_acceptFrame_25 : decode cX3_acceptFrame 25 = .ok (.isub, 1) := by decide +kernel
theorem dX3_acceptFrame_26 : decode cX3_acceptFrame 26 = .ok (.istore 6, 2) := by decide +kernel
theorem dX3_acceptFrame_28 : decode cX3_acceptFrame 28 = .ok (.iload 6, 2) := by decide +kernel
theorem dX3_acceptFrame_30 : decode cX3_acceptFrame 30 = .ok (.ifCond .lt 17, 3) := by decide +kernel
theorem dX3_acceptFrame_33 : decode cX3_acceptFrame 33 = .ok (.iload 6, 2) := by decide +kernel
theorem dX3_acceptFrame_35 : decode cX3_acceptFrame 35 = .ok (.aload 4, 2) := by decide +kernel
theorem dX3_acceptFrame_37 : decode cX3_acceptFrame 37 = .ok (.getfield 124, 3) := by decide +kernel
theorem dX3_acceptFrame_40 : decode cX3_acceptFrame 40 = .ok (.if_icmp .ge 7, 3) := by decide +kernel
theorem dX3_acceptFrame_43 : decode cX3_acceptFrame 43 = .ok (.iconst 1, 1) := by decide +kernel
theorem dX3_acceptFrame_44 : decode cX3_acceptFrame 44 = .ok (.goto 4, 3) := by decide +kernel
theorem dX3_acceptFrame_47 : decode cX3_acceptFrame 47 = .ok (.iconst 0, 1) := by decide +kernel
theorem dX3_acceptFrame_48 : decode cX3_acceptFrame 48 = .ok (.istore 7, 2) := by decide +kernel
theorem dX3_acceptFrame_50 : decode cX3_acceptFrame 50 = .ok (.iload_n 3, 1) := by decide +kernel
theorem dX3_acceptFrame_51 : decode cX3_acceptFrame 51 = .ok (.iconst 2, 1) := by decide +kernel
theorem dX3_acceptFrame_52 : decode cX3_acceptFrame 52 = .ok (.iand, 1) := by decide +kernel
theorem dX3_acceptFrame_53 : decode cX3_acceptFrame 53 = .ok (.ifCond .ne 17, 3) := by decide +kernel
theorem dX3_acceptFrame_56 : decode cX3_acceptFrame 56 = .ok (.iload_n 2, 1) := by decide +kernel
theorem dX3_acceptFrame_57 : decode cX3_acceptFrame 57 = .ok (.aload 5, 2) := by decide +kernel
theorem dX3_acceptFrame_59 : decode cX3_acceptFrame 59 = .ok (.getfield 152, 3) := by decide +kernel
theorem dX3_acceptFrame_62 : decode cX3_acceptFrame 62 = .ok (.if_icmp .ne 8, 3) := by decide +kernel
theorem dX3_acceptFrame_65 : decode cX3_acceptFrame 65 = .ok (.iload 7, 2) := by decide +kernel
theorem dX3_acceptFrame_67 : decode cX3_acceptFrame 67 = .ok (.ifCond .ne 14, 3) := by decide +kernel
theorem dX3_acceptFrame_70 : decode cX3_acceptFrame 70 = .ok (.aload_n 0, 1) := by decide +kernel
theorem dX3_acceptFrame_71 : decode cX3_acceptFrame 71 = .ok (.getfield 35, 3) := by decide +kernel
theorem dX3_acceptFrame_74 : decode cX3_acceptFrame 74 = .ok (.iconst 2, 1) := by decide +kernel
theorem dX3_acceptFrame_75 : decode cX3_acceptFrame 75 = .ok (.dup2, 1) := by decide +kernel
theorem dX3_acceptFrame_76 : decode cX3_acceptFrame 76 = .ok (.iaload, 1) := by decide +kernel
theorem dX3_acceptFrame_77 : decode cX3_acceptFrame 77 = .ok (.iconst 1, 1) := by decide +kernel
theorem dX3_acceptFrame_78 : decode cX3_acceptFrame 78 = .ok (.iadd, 1) := by decide +kernel
theorem dX3_acceptFrame_79 : decode cX3_acceptFrame 79 = .ok (.iastore, 1) := by decide +kernel
theorem dX3_acceptFrame_80 : decode cX3_acceptFrame 80 = .ok (.return_, 1) := by decide +kernel
theorem dX3_acceptFrame_81 : decode cX3_acceptFrame 81 = .ok (.iload_n 3, 1) := by decide +kernel
theorem dX3_acceptFrame_82 : decode cX3_acceptFrame 82 = .ok (.iconst 4, 1) := by decide +kernel
theorem dX3_acceptFrame_83 : decode cX3_acceptFrame 83 = .ok (.iand, 1) := by decide +kernel
theorem dX3_acceptFrame_84 : decode cX3_acceptFrame 84 = .ok (.ifCond .eq 7, 3) := by decide +kernel
theorem dX3_acceptFrame_87 : decode cX3_acceptFrame 87 = .ok (.iconst 1, 1) := by decide +kernel
theorem dX3_acceptFrame_88 : decode cX3_acceptFrame 88 = .ok (.goto 4, 3) := by decide +kernel
theorem dX3_acceptFrame_91 : decode cX3_acceptFrame 91 = .ok (.iconst 0, 1) := by decide +kernel
theorem dX3_acceptFrame_92 : decode cX3_acceptFrame 92 = .ok (.istore 8, 2) := by decide +kernel
theorem dX3_acceptFrame_94 : decode cX3_acceptFrame 94 = .ok (.iload 8, 2) := by decide +kernel
theorem dX3_acceptFrame_96 : decode cX3_acceptFrame 96 = .ok (.ifCond .eq 12, 3) := by decide +kernel
theorem dX3_acceptFrame_99 : decode cX3_acceptFrame 99 = .ok (.aload 5, 2) := by decide +kernel
theorem dX3_acceptFrame_101 : decode cX3_acceptFrame 101 = .ok (.getfield 236, 3) := by decide +kernel
theorem dX3_acceptFrame_104 : decode cX3_acceptFrame 104 = .ok (.iconst 0, 1) := by decide +kernel
theorem dX3_acceptFrame_105 : decode cX3_acceptFrame 105 = .ok (.putfield 239, 3) := by decide +kernel
theorem dX3_acceptFrame_108 : decode cX3_acceptFrame 108 = .ok (.aload 4, 2) := by decide +kernel
theorem dX3_acceptFrame_110 : decode cX3_acceptFrame 110 = .ok (.iload 6, 2) := by decide +kernel
theorem dX3_acceptFrame_112 : decode cX3_acceptFrame 112 = .ok (.invokevirtual 240, 3) := by decide +kernel
theorem dX3_acceptFrame_115 : decode cX3_acceptFrame 115 = .ok (.istore 9, 2) := by decide +kernel
theorem dX3_acceptFrame_117 : decode cX3_acceptFrame 117 = .ok (.iconst 0, 1) := by decide +kernel
theorem dX3_acceptFrame_118 : decode cX3_acceptFrame 118 = .ok (.istore 10, 2) := by decide +kernel
theorem dX3_acceptFrame_120 : decode cX3_acceptFrame 120 = .ok (.iload 10, 2) := by decide +kernel
theorem dX3_acceptFrame_122 : decode cX3_acceptFrame 122 = .ok (.aload 4, 2) := by decide +kernel
theorem dX3_acceptFrame_124 : decode cX3_acceptFrame 124 = .ok (.getfield 243, 3) := by decide +kernel
theorem dX3_acceptFrame_127 : decode cX3_acceptFrame 127 = .ok (.iload 9, 2) := by decide +kernel
theorem dX3_acceptFrame_129 : decode cX3_acceptFrame 129 = .ok (.iaload, 1) := by decide +kernel
theorem dX3_acceptFrame_130 : decode cX3_acceptFrame 130 = .ok (.if_icmp .ge 35, 3) := by decide +kernel
theorem dX3_acceptFrame_133 : decode cX3_acceptFrame 133 = .ok (.iload 10, 2) := by decide +kernel
theorem dX3_acceptFrame_135 : decode cX3_acceptFrame 135 = .ok (.bipush 8, 2) := by decide +kernel
theorem dX3_acceptFrame_137 : decode cX3_acceptFrame 137 = .ok (.if_icmp .ge 28, 3) := by decide +kernel
theorem dX3_acceptFrame_140 : decode cX3_acceptFrame 140 = .ok (.aload 5, 2) := by decide +kernel
theorem dX3_acceptFrame_142 : decode cX3_acceptFrame 142 = .ok (.aload 4, 2) := by decide +kernel
theorem dX3_acceptFrame_144 : decode cX3_acceptFrame 144 = .ok (.getfield 246, 3) := by decide +kernel
theorem dX3_acceptFrame_147 : decode cX3_acceptFrame 147 = .ok (.iload 9, 2) := by decide +kernel
theorem dX3_acceptFrame_149 : decode cX3_acceptFrame 149 = .ok (.bipush 8, 2) := by decide +kernel
theorem dX3_acceptFrame_151 : decode cX3_acceptFrame 151 = .ok (.imul, 1) := by decide +kernel
theorem dX3_acceptFrame_152 : decode cX3_acceptFrame 152 = .ok (.iload 10, 2) := by decide +kernel
theorem dX3_acceptFrame_154 : decode cX3_acceptFrame 154 = .ok (.iadd, 1) := by decide +kernel
theorem dX3_acceptFrame_155 : decode cX3_acceptFrame 155 = .ok (.iaload, 1) := by decide +kernel
theorem dX3_acceptFrame_156 : decode cX3_acceptFrame 156 = .ok (.invokevirtual 249, 3) := by decide +kernel
theorem dX3_acceptFrame_159 : decode cX3_acceptFrame 159 = .ok (.iinc 10 1, 3) := by decide +kernel
theorem dX3_acceptFrame_162 : decode cX3_acceptFrame 162 = .ok (.goto (-42), 3) := by decide +kernel
theorem dX3_acceptFrame_165 : decode cX3_acceptFrame 165 = .ok (.aload_n 0, 1) := by decide +kernel
theorem dX3_acceptFrame_166 : decode cX3_acceptFrame 166 = .ok (.getfield 35, 3) := by decide +kernel
theorem dX3_acceptFrame_169 : decode cX3_acceptFrame 169 = .ok (.bipush 10, 2) := by decide +kernel
theorem dX3_acceptFrame_171 : decode cX3_acceptFrame 171 = .ok (.dup2, 1) := by decide +kernel
theorem dX3_acceptFrame_172 : decode cX3_acceptFrame 172 = .ok (.iaload, 1) := by decide +kernel
theorem dX3_acceptFrame_173 : decode cX3_acceptFrame 173 = .ok (.aload 4, 2) := by decide +kernel
theorem dX3_acceptFrame_175 : decode cX3_acceptFrame 175 = .ok (.getfield 243, 3) := by decide +kernel
theorem dX3_acceptFrame_178 : decode cX3_acceptFrame 178 = .ok (.iload 9, 2) := by decide +kernel
theorem dX3_acceptFrame_180 : decode cX3_acceptFrame 180 = .ok (.iaload, 1) := by decide +kernel
theorem dX3_acceptFrame_181 : decode cX3_acceptFrame 181 = .ok (.iadd, 1) := by decide +kernel
theorem dX3_acceptFrame_182 : decode cX3_acceptFrame 182 = .ok (.iastore, 1) := by decide +kernel
theorem dX3_acceptFrame_183 : decode cX3_acceptFrame 183 = .ok (.aload 5, 2) := by decide +kernel
theorem dX3_acceptFrame_185 : decode cX3_acceptFrame 185 = .ok (.dup, 1) := by decide +kernel
theorem dX3_acceptFrame_186 : decode cX3_acceptFrame 186 = .ok (.getfield 152, 3) := by decide +kernel
theorem dX3_acceptFrame_189 : decode cX3_acceptFrame 189 = .ok (.iconst 1, 1) := by decide +kernel
theorem dX3_acceptFrame_190 : decode cX3_acceptFrame 190 = .ok (.iadd, 1) := by decide +kernel
theorem dX3_acceptFrame_191 : decode cX3_acceptFrame 191 = .ok (.putfield 152, 3) := by decide +kernel
theorem dX3_acceptFrame_194 : decode cX3_acceptFrame 194 = .ok (.aload_n 0, 1) := by decide +kernel
theorem dX3_acceptFrame_195 : decode cX3_acceptFrame 195 = .ok (.getfield 24, 3) := by decide +kernel
theorem dX3_acceptFrame_198 : decode cX3_acceptFrame 198 = .ok (.aload_n 0, 1) := by decide +kernel
theorem dX3_acceptFrame_199 : decode cX3_acceptFrame 199 = .ok (.getfield 61, 3) := by decide +kernel
theorem dX3_acceptFrame_202 : decode cX3_acceptFrame 202 = .ok (.iconst 1, 1) := by decide +kernel
theorem dX3_acceptFrame_203 : decode cX3_acceptFrame 203 = .ok (.iload_n 1, 1) := by decide +kernel
theorem dX3_acceptFrame_204 : decode cX3_acceptFrame 204 = .ok (.isub, 1) := by decide +kernel
theorem dX3_acceptFrame_205 : decode cX3_acceptFrame 205 = .ok (.iload_n 2, 1) := by decide +kernel
theorem dX3_acceptFrame_206 : decode cX3_acceptFrame 206 = .ok (.iconst 1, 1) := by decide +kernel
theorem dX3_acceptFrame_207 : decode cX3_acceptFrame 207 = .ok (.invokevirtual 252, 3) := by decide +kernel
theorem dX3_acceptFrame_210 : decode cX3_acceptFrame 210 = .ok (.iload 8, 2) := by decide +kernel
theorem dX3_acceptFrame_212 : decode cX3_acceptFrame 212 = .ok (.ifCond .eq 12, 3) := by decide +kernel
theorem dX3_acceptFrame_215 : decode cX3_acceptFrame 215 = .ok (.aload_n 0, 1) := by decide +kernel
theorem dX3_acceptFrame_216 : decode cX3_acceptFrame 216 = .ok (.bipush 7, 2) := by decide +kernel
theorem dX3_acceptFrame_218 : decode cX3_acceptFrame 218 = .ok (.iconst 1, 1) := by decide +kernel
theorem dX3_acceptFrame_219 : decode cX3_acceptFrame 219 = .ok (.iload_n 1, 1) := by decide +kernel
theorem dX3_acceptFrame_220 : decode cX3_acceptFrame 220 = .ok (.isub, 1) := by decide +kernel
theorem dX3_acceptFrame_221 : decode cX3_acceptFrame 221 = .ok (.invokevirtual 179, 3) := by decide +kernel
theorem dX3_acceptFrame_224 : decode cX3_acceptFrame 224 = .ok (.return_, 1) := by decide +kernel
def f_L_frame_70 (e : Int) (b : Int) (z : Int) (m : xM) : Option (xM) :=
     (if xib 2 11 then (if xib 2 11 then some (xu m 30 2 ((m 30 2) + 1))
      else none)
      else none)
set_option maxRecDepth 1000000 in
set_option maxHeartbeats 4000000 in
theorem t_L_frame_70 {Γ : xG} {d : Nat} (hd9 : 4 ≤ d) (C : xC Γ lay_L0 RX3 cX3_acceptFrame 11 d) (e : Int) (b : Int) (z : Int) (e_e : xw e = 0) {m9 : xM} (hR : xRv Γ lay_L0 cX3_acceptFrame m9) (m : xM) (h : f_L_frame_70 e b z m = some m9) : xW Γ lay_L0 11 70 [(0, .inr (.inr (some 0)))] [] m := by
  unfold f_L_frame_70 at h
  refine x_aload_n C dX3_acceptFrame_70 rfl ?_
  refine x_getR C dX3_acceptFrame_71 fF_X3_35 rfl rfl ?_
  refine x_iconst C dX3_acceptFrame_74 ?_
  refine x_dup2 C dX3_acceptFrame_75 rfl rfl ?_
  refine x_iaload C dX3_acceptFrame_76 rfl h (fun h => ?_)
  refine x_iconst C dX3_acceptFrame_77 ?_
  refine x_iadd C dX3_acceptFrame_78 ?_
  refine x_iastore C dX3_acceptFrame_79 rfl h (fun h => ?_)
  exact x_returnV hR dX3_acceptFrame_80 h
def f_L_frame_194 (e : Int) (b : Int) (z : Int) (x8 : Int) (m : xM) : Option (xM) :=
     (Option.bind (f_W_put (m 0 7) (1 - e) b 1 (xvw [23, 24, 25, 26, 27] m)) fun q3 =>
      (if xw x8 = 0 then some (xmg [23, 24, 25, 26, 27] 5 m q3)
      else (Option.bind (f_L_note 7 (1 - e) (xmg [23, 24, 25, 26, 27] 5 m q3)) fun q4 =>
      some q4)))
set_option maxRecDepth 1000000 in
set_option maxHeartbeats 4000000 in
theorem t_L_frame_194 {Γ : xG} {d : Nat} (hd9 : 4 ≤ d) (C : xC Γ lay_L0 RX3 cX3_acceptFrame 11 d) (e : Int) (b : Int) (z : Int) (e_e : xw e = 0) {m9 : xM} (hR : xRv Γ lay_L0 cX3_acceptFrame m9) (x8 : Int) (m : xM) (h : f_L_frame_194 e b z x8 m = some m9) : xW Γ lay_L0 11 194 [(0, .inr (.inr (some 0))), (1, .inl e), (2, .inl b), (8, .inl x8)] [] m := by
  unfold f_L_frame_194 at h
  refine x_aload_n C dX3_acceptFrame_194 rfl ?_
  refine x_getR C dX3_acceptFrame_195 fF_X3_24 rfl rfl ?_
  refine x_aload_n C dX3_acceptFrame_198 rfl ?_
  refine x_getI C dX3_acceptFrame_199 fF_X3_61 rfl rfl ?_
  refine x_iconst C dX3_acceptFrame_202 ?_
  refine x_iload_n C dX3_acceptFrame_203 rfl ?_
  refine x_isub C dX3_acceptFrame_204 ?_
  refine x_iload_n C dX3_acceptFrame_205 rfl ?_
  refine x_iconst C dX3_acceptFrame_206 ?_
  obtain ⟨q3, hq3, h⟩ := x_bind h
  refine x_callV C dX3_acceptFrame_207 (xin_41 _ (List.mem_of_getElem? (i := 22) rfl)) xy_X9_put (xi_X9_put) (xs_X9_put) [23, 24, 25, 26, 27] xv_26 (by omega) (by decide) (b := 0) rfl ⟨_, _, rfl⟩ (av := [.inl (m 0 7), .inl (1 - e), .inl b, .inl 1]) rfl (Nat.le_of_ble_eq_true rfl) (c_W_put _ _ _ _ _ _ _ hq3) rfl ?_
  refine x_iload C dX3_acceptFrame_210 rfl ?_
  refine x_if_eq C 224 dX3_acceptFrame_212 (by decide) h (fun h => ?_) (fun h => ?_)
  · exact x_returnV hR dX3_acceptFrame_224 h
  · refine x_aload_n C dX3_acceptFrame_215 rfl ?_
    refine x_bipush C dX3_acceptFrame_216 (by decide) ?_
    refine x_iconst C dX3_acceptFrame_218 ?_
    refine x_iload_n C dX3_acceptFrame_219 rfl ?_
    refine x_isub C dX3_acceptFrame_220 ?_
    obtain ⟨q4, hq4, h⟩ := x_bind h
    refine x_callVI C dX3_acceptFrame_221 (xin_38 _ (List.mem_of_getElem? (i := 11) rfl)) xy_X3_note (xi_X3_note) (xs_X3_note) (by omega) (by decide) (b := 0) rfl ⟨_, _, rfl⟩ (av := [.inl 7, .inl (1 - e)]) rfl (Nat.le_of_ble_eq_true rfl) (c_L_note _ _ _ _ _ hq4) rfl ?_
    exact x_returnV hR dX3_acceptFrame_224 h
def f_L_frame_165 (e : Int) (b : Int) (z : Int) (x8 : Int) (x9 : Int) (m : xM) : Option (xM) :=
     (if xib 10 11 then (if xib x9 7 then (if xib 10 11 then f_L_frame_194 e b z x8 (xu (xu m 30 10 ((m 30 10) + (m 6 (xix x9)))) 12 7 ((m 12 7) + 1))
      else none)
      else none)
      else none)
set_option maxRecDepth 1000000 in
set_option maxHeartbeats 4000000 in
theorem t_L_frame_165 {Γ : xG} {d : Nat} (hd9 : 4 ≤ d) (C : xC Γ lay_L0 RX3 cX3_acceptFrame 11 d) (e : Int) (b : Int) (z : Int) (e_e : xw e = 0) {m9 : xM} (hR : xRv Γ lay_L0 cX3_acceptFrame m9) (x8 : Int) (x9 : Int) (m : xM) (h : f_L_frame_165 e b z x8 x9 m = some m9) : xW Γ lay_L0 11 165 [(0, .inr (.inr (some 0))), (1, .inl e), (2, .inl b), (4, .inr (.inr (some 4))), (5, .inr (.inr (some 12))), (8, .inl x8), (9, .inl x9)] [] m := by
  unfold f_L_frame_165 at h
  refine x_aload_n C dX3_acceptFrame_165 rfl ?_
  refine x_getR C dX3_acceptFrame_166 fF_X3_35 rfl rfl ?_
  refine x_bipush C dX3_acceptFrame_169 (by decide) ?_
  refine x_dup2 C dX3_acceptFrame_171 rfl rfl ?_
  refine x_iaload C dX3_acceptFrame_172 rfl h (fun h => ?_)
  refine x_aload C dX3_acceptFrame_173 rfl ?_
  refine x_getR C dX3_acceptFrame_175 fF_X3_243 rfl rfl ?_
  refine x_iload C dX3_acceptFrame_178 rfl ?_
  refine x_iaload C dX3_acceptFrame_180 rfl h (fun h => ?_)
  refine x_iadd C dX3_acceptFrame_181 ?_
  refine x_iastore C dX3_acceptFrame_182 rfl h (fun h => ?_)
  refine x_aload C dX3_acceptFrame_183 rfl ?_
  refine x_dup C dX3_acceptFrame_185 rfl ?_
  refine x_getI C dX3_acceptFrame_186 fF_X3_152 rfl rfl ?_
  refine x_iconst C dX3_acceptFrame_189 ?_
  refine x_iadd C dX3_acceptFrame_190 ?_
  refine x_putI C dX3_acceptFrame_191 fF_X3_152 rfl rfl ?_
  refine x_loc [(0, .inr (.inr (some 0))), (1, .inl e), (2, .inl b), (8, .inl x8)] ⟨rfl, rfl, rfl, rfl, trivial⟩ ?_
  exact t_L_frame_194 hd9 C _ _ _ e_e hR _ _ h
def f_L_frame_120 (e : Int) (b : Int) (z : Int) : Nat → Int → Int → Int → xM → Option (xM)
  | 0, _, _, _, _ => none
  | n + 1, x8, x9, x10, m =>
     (if xib x9 7 then (if xw x10 < xw (m 6 (xix x9)) then (if xw x10 < xw 8 then (if xib ((x9 * 8) + x10) 56 then (Option.bind (f_E_read (m 5 (xix ((x9 * 8) + x10))) (xvw [12, 13, 14, 15, 16, 17, 18, 19, 20, 21, 22] m)) fun q5 =>
      f_L_frame_120 e b z n x8 x9 (x10 + 1) (xmg [12, 13, 14, 15, 16, 17, 18, 19, 20, 21, 22] 11 m q5))
      else none)
      else f_L_frame_165 e b z x8 x9 m)
      else f_L_frame_165 e b z x8 x9 m)
      else none)
set_option maxRecDepth 1000000 in
set_option maxHeartbeats 4000000 in
theorem t_L_frame_120 {Γ : xG} {d : Nat} (hd9 : 4 ≤ d) (C : xC Γ lay_L0 RX3 cX3_acceptFrame 11 d) (e : Int) (b : Int) (z : Int) (e_e : xw e = 0) {m9 : xM} (hR : xRv Γ lay_L0 cX3_acceptFrame m9) : ∀ (n : Nat) (x8 : Int) (x9 : Int) (x10 : Int) (m : xM), f_L_frame_120 e b z n x8 x9 x10 m = some m9 → xW Γ lay_L0 11 120 [(0, .inr (.inr (some 0))), (1, .inl e), (2, .inl b), (4, .inr (.inr (some 4))), (5, .inr (.inr (some 12))), (8, .inl x8), (9, .inl x9), (10, .inl x10)] [] m := by
  intro n
  induction n with
  | zero => intro _ _ _ _ h; cases h
  | succ n ih =>
    intro x8 x9 x10 m h
    rw [f_L_frame_120] at h
    refine x_iload C dX3_acceptFrame_120 rfl ?_
    refine x_aload C dX3_acceptFrame_122 rfl ?_
    refine x_getR C dX3_acceptFrame_124 fF_X3_243 rfl rfl ?_
    refine x_iload C dX3_acceptFrame_127 rfl ?_
    refine x_iaload C dX3_acceptFrame_129 rfl h (fun h => ?_)
    refine x_icmp_ge C 165 dX3_acceptFrame_130 (by decide) h (fun h => ?_) (fun h => ?_)
    · refine x_loc [(0, .inr (.inr (some 0))), (1, .inl e), (2, .inl b), (4, .inr (.inr (some 4))), (5, .inr (.inr (some 12))), (8, .inl x8), (9, .inl x9)] ⟨rfl, rfl, rfl, rfl, rfl, rfl, rfl, trivial⟩ ?_
      exact t_L_frame_165 hd9 C _ _ _ e_e hR _ _ _ h
    · refine x_iload C dX3_acceptFrame_133 rfl ?_
      refine x_bipush C dX3_acceptFrame_135 (by decide) ?_
      refine x_icmp_ge C 165 dX3_acceptFrame_137 (by decide) h (fun h => ?_) (fun h => ?_)
      · refine x_loc [(0, .inr (.inr (some 0))), (1, .inl e), (2, .inl b), (4, .inr (.inr (some 4))), (5, .inr (.inr (some 12))), (8, .inl x8), (9, .inl x9)] ⟨rfl, rfl, rfl, rfl, rfl, rfl, rfl, trivial⟩ ?_
        exact t_L_frame_165 hd9 C _ _ _ e_e hR _ _ _ h
      · refine x_aload C dX3_acceptFrame_140 rfl ?_
        refine x_aload C dX3_acceptFrame_142 rfl ?_
        refine x_getR C dX3_acceptFrame_144 fF_X3_246 rfl rfl ?_
        refine x_iload C dX3_acceptFrame_147 rfl ?_
        refine x_bipush C dX3_acceptFrame_149 (by decide) ?_
        refine x_imul C dX3_acceptFrame_151 ?_
        refine x_iload C dX3_acceptFrame_152 rfl ?_
        refine x_iadd C dX3_acceptFrame_154 ?_
        refine x_iaload C dX3_acceptFrame_155 rfl h (fun h => ?_)
        obtain ⟨q5, hq5, h⟩ := x_bind h
        refine x_callV C dX3_acceptFrame_156 (xin_41 _ (List.mem_of_getElem? (i := 17) rfl)) xy_X1_read (xi_X1_read) (xs_X1_read) [12, 13, 14, 15, 16, 17, 18, 19, 20, 21, 22] xv_16 (by omega) (by decide) (b := 0) rfl ⟨_, _, rfl⟩ (av := [.inl (m 5 (xix ((x9 * 8) + x10)))]) rfl (Nat.le_of_ble_eq_true rfl) (c_E_read _ _ _ _ hq5) rfl ?_
        refine x_iinc C dX3_acceptFrame_159 (by decide) rfl ?_
        refine x_goto C 120 dX3_acceptFrame_162 (by decide) ?_
        refine x_loc [(0, .inr (.inr (some 0))), (1, .inl e), (2, .inl b), (4, .inr (.inr (some 4))), (5, .inr (.inr (some 12))), (8, .inl x8), (9, .inl x9), (10, .inl (x10 + 1))] ⟨rfl, rfl, rfl, rfl, rfl, rfl, rfl, rfl, trivial⟩ ?_
        exact ih _ _ _ _ h
def f_L_frame_108 (e : Int) (b : Int) (z : Int) (x6 : Int) (x8 : Int) (m : xM) : Option (xM) :=
     (Option.bind (f_F_slot x6 (xvw [4, 5, 6, 7] m)) fun q2 =>
      f_L_frame_120 e b z fu x8 q2 0 m)
set_option maxRecDepth 1000000 in
set_option maxHeartbeats 4000000 in
theorem t_L_frame_108 {Γ : xG} {d : Nat} (hd9 : 4 ≤ d) (C : xC Γ lay_L0 RX3 cX3_acceptFrame 11 d) (e : Int) (b : Int) (z : Int) (e_e : xw e = 0) {m9 : xM} (hR : xRv Γ lay_L0 cX3_acceptFrame m9) (x6 : Int) (x8 : Int) (m : xM) (h : f_L_frame_108 e b z x6 x8 m = some m9) : xW Γ lay_L0 11 108 [(0, .inr (.inr (some 0))), (1, .inl e), (2, .inl b), (4, .inr (.inr (some 4))), (5, .inr (.inr (some 12))), (6, .inl x6), (8, .inl x8)] [] m := by
  unfold f_L_frame_108 at h
  refine x_aload C dX3_acceptFrame_108 rfl ?_
  refine x_iload C dX3_acceptFrame_110 rfl ?_
  obtain ⟨q2, hq2, h⟩ := x_bind h
  refine x_callVp C dX3_acceptFrame_112 (xin_41 _ (List.mem_of_getElem? (i := 16) rfl)) xy_X2_slotOf (xi_X2_slotOf) (xs_X2_slotOf) [4, 5, 6, 7] xv_20 (by omega) (by decide) (b := 0) rfl ⟨_, _, rfl⟩ (av := [.inl x6]) rfl (Nat.le_of_ble_eq_true rfl) (c_F_slot _ _ _ _ hq2) rfl ?_
  refine x_istore C dX3_acceptFrame_115 (by decide) ?_
  refine x_iconst C dX3_acceptFrame_117 ?_
  refine x_istore C dX3_acceptFrame_118 (by decide) ?_
  refine x_loc [(0, .inr (.inr (some 0))), (1, .inl e), (2, .inl b), (4, .inr (.inr (some 4))), (5, .inr (.inr (some 12))), (8, .inl x8), (9, .inl q2), (10, .inl 0)] ⟨rfl, rfl, rfl, rfl, rfl, rfl, rfl, rfl, trivial⟩ ?_
  exact t_L_frame_120 hd9 C _ _ _ e_e hR fu _ _ _ _ h
def f_L_frame_92 (e : Int) (b : Int) (z : Int) (x6 : Int) (s0 : Int) (m : xM) : Option (xM) :=
     (if xw s0 = 0 then f_L_frame_108 e b z x6 s0 m
      else f_L_frame_108 e b z x6 s0 (xu m 21 1 0))
set_option maxRecDepth 1000000 in
set_option maxHeartbeats 4000000 in
theorem t_L_frame_92 {Γ : xG} {d : Nat} (hd9 : 4 ≤ d) (C : xC Γ lay_L0 RX3 cX3_acceptFrame 11 d) (e : Int) (b : Int) (z : Int) (e_e : xw e = 0) {m9 : xM} (hR : xRv Γ lay_L0 cX3_acceptFrame m9) (x6 : Int) (s0 : Int) (m : xM) (h : f_L_frame_92 e b z x6 s0 m = some m9) : xW Γ lay_L0 11 92 [(0, .inr (.inr (some 0))), (1, .inl e), (2, .inl b), (4, .inr (.inr (some 4))), (5, .inr (.inr (some 12))), (6, .inl x6)] [.inl s0] m := by
  unfold f_L_frame_92 at h
  refine x_istore C dX3_acceptFrame_92 (by decide) ?_
  refine x_iload C dX3_acceptFrame_94 rfl ?_
  refine x_if_eq C 108 dX3_acceptFrame_96 (by decide) h (fun h => ?_) (fun h => ?_)
  · refine x_loc [(0, .inr (.inr (some 0))), (1, .inl e), (2, .inl b), (4, .inr (.inr (some 4))), (5, .inr (.inr (some 12))), (6, .inl x6), (8, .inl s0)] ⟨rfl, rfl, rfl, rfl, rfl, rfl, rfl, trivial⟩ ?_
    exact t_L_frame_108 hd9 C _ _ _ e_e hR _ _ _ h
  · refine x_aload C dX3_acceptFrame_99 rfl ?_
    refine x_getR C dX3_acceptFrame_101 fF_X3_236 rfl rfl ?_
    refine x_iconst C dX3_acceptFrame_104 ?_
    refine x_putI C dX3_acceptFrame_105 fF_X3_239 rfl rfl ?_
    refine x_loc [(0, .inr (.inr (some 0))), (1, .inl e), (2, .inl b), (4, .inr (.inr (some 4))), (5, .inr (.inr (some 12))), (6, .inl x6), (8, .inl s0)] ⟨rfl, rfl, rfl, rfl, rfl, rfl, rfl, trivial⟩ ?_
    exact t_L_frame_108 hd9 C _ _ _ e_e hR _ _ _ h
def f_L_frame_48 (e : Int) (b : Int) (z : Int) (x6 : Int) (s0 : Int) (m : xM) : Option (xM) :=
     (if xw (xiand z 2) = 0 then (if xw b = xw (m 12 7) then (if xw s0 = 0 then f_L_frame_70 e b z m
      else (if xw (xiand z 4) = 0 then f_L_frame_92 e b z x6 0 m
      else f_L_frame_92 e b z x6 1 m))
      else f_L_frame_70 e b z m)
      else f_L_frame_70 e b z m)
set_option maxRecDepth 1000000 in
set_option maxHeartbeats 4000000 in
theorem t_L_frame_48 {Γ : xG} {d : Nat} (hd9 : 4 ≤ d) (C : xC Γ lay_L0 RX3 cX3_acceptFrame 11 d) (e : Int) (b : Int) (z : Int) (e_e : xw e = 0) {m9 : xM} (hR : xRv Γ lay_L0 cX3_acceptFrame m9) (x6 : Int) (s0 : Int) (m : xM) (h : f_L_frame_48 e b z x6 s0 m = some m9) : xW Γ lay_L0 11 48 [(0, .inr (.inr (some 0))), (1, .inl e), (2, .inl b), (3, .inl z), (4, .inr (.inr (some 4))), (5, .inr (.inr (some 12))), (6, .inl x6)] [.inl s0] m := by
  unfold f_L_frame_48 at h
  refine x_istore C dX3_acceptFrame_48 (by decide) ?_
  refine x_iload_n C dX3_acceptFrame_50 rfl ?_
  refine x_iconst C dX3_acceptFrame_51 ?_
  refine x_iand C dX3_acceptFrame_52 ?_
  refine x_if_ne C 70 dX3_acceptFrame_53 (by decide) h (fun h => ?_) (fun h => ?_)
  · refine x_loc [(0, .inr (.inr (some 0)))] ⟨rfl, trivial⟩ ?_
    exact t_L_frame_70 hd9 C _ _ _ e_e hR _ h
  · refine x_iload_n C dX3_acceptFrame_56 rfl ?_
    refine x_aload C dX3_acceptFrame_57 rfl ?_
    refine x_getI C dX3_acceptFrame_59 fF_X3_152 rfl rfl ?_
    refine x_icmp_ne C 70 dX3_acceptFrame_62 (by decide) h (fun h => ?_) (fun h => ?_)
    · refine x_loc [(0, .inr (.inr (some 0)))] ⟨rfl, trivial⟩ ?_
      exact t_L_frame_70 hd9 C _ _ _ e_e hR _ h
    · refine x_iload C dX3_acceptFrame_65 rfl ?_
      refine x_if_ne C 81 dX3_acceptFrame_67 (by decide) h (fun h => ?_) (fun h => ?_)
      · refine x_iload_n C dX3_acceptFrame_81 rfl ?_
        refine x_iconst C dX3_acceptFrame_82 ?_
        refine x_iand C dX3_acceptFrame_83 ?_
        refine x_if_eq C 91 dX3_acceptFrame_84 (by decide) h (fun h => ?_) (fun h => ?_)
        · refine x_iconst C dX3_acceptFrame_91 ?_
          refine x_loc [(0, .inr (.inr (some 0))), (1, .inl e), (2, .inl b), (4, .inr (.inr (some 4))), (5, .inr (.inr (some 12))), (6, .inl x6)] ⟨rfl, rfl, rfl, rfl, rfl, rfl, trivial⟩ ?_
          exact t_L_frame_92 hd9 C _ _ _ e_e hR _ _ _ h
        · refine x_iconst C dX3_acceptFrame_87 ?_
          refine x_goto C 92 dX3_acceptFrame_88 (by decide) ?_
          refine x_loc [(0, .inr (.inr (some 0))), (1, .inl e), (2, .inl b), (4, .inr (.inr (some 4))), (5, .inr (.inr (some 12))), (6, .inl x6)] ⟨rfl, rfl, rfl, rfl, rfl, rfl, trivial⟩ ?_
          exact t_L_frame_92 hd9 C _ _ _ e_e hR _ _ _ h
      · refine x_loc [(0, .inr (.inr (some 0)))] ⟨rfl, trivial⟩ ?_
        exact t_L_frame_70 hd9 C _ _ _ e_e hR _ h
def f_L_frame_47 (e : Int) (b : Int) (z : Int) (x6 : Int) (m : xM) : Option (xM) :=
     f_L_frame_48 e b z x6 0 m
set_option maxRecDepth 1000000 in
set_option maxHeartbeats 4000000 in
theorem t_L_frame_47 {Γ : xG} {d : Nat} (hd9 : 4 ≤ d) (C : xC Γ lay_L0 RX3 cX3_acceptFrame 11 d) (e : Int) (b : Int) (z : Int) (e_e : xw e = 0) {m9 : xM} (hR : xRv Γ lay_L0 cX3_acceptFrame m9) (x6 : Int) (m : xM) (h : f_L_frame_47 e b z x6 m = some m9) : xW Γ lay_L0 11 47 [(0, .inr (.inr (some 0))), (1, .inl e), (2, .inl b), (3, .inl z), (4, .inr (.inr (some 4))), (5, .inr (.inr (some 12))), (6, .inl x6)] [] m := by
  unfold f_L_frame_47 at h
  refine x_iconst C dX3_acceptFrame_47 ?_
  refine x_loc [(0, .inr (.inr (some 0))), (1, .inl e), (2, .inl b), (3, .inl z), (4, .inr (.inr (some 4))), (5, .inr (.inr (some 12))), (6, .inl x6)] ⟨rfl, rfl, rfl, rfl, rfl, rfl, rfl, trivial⟩ ?_
  exact t_L_frame_48 hd9 C _ _ _ e_e hR _ _ _ h
def f_L_frame (e : Int) (b : Int) (z : Int) (m : xM) : Option (xM) :=
     (if xw (b - (m 4 3)) < 0 then f_L_frame_47 e b z (b - (m 4 3)) m
      else (if xw (b - (m 4 3)) < xw (m 4 4) then f_L_frame_48 e b z (b - (m 4 3)) 1 m
      else f_L_frame_47 e b z (b - (m 4 3)) m))
set_option maxRecDepth 1000000 in
set_option maxHeartbeats 4000000 in
theorem t_L_frame {Γ : xG} {d : Nat} (hd9 : 4 ≤ d) (C : xC Γ lay_L0 RX3 cX3_acceptFrame 11 d) (e : Int) (b : Int) (z : Int) (e_e : xw e = 0) {m9 : xM} (hR : xRv Γ lay_L0 cX3_acceptFrame m9) (m : xM) (h : f_L_frame e b z m = some m9) : xW Γ lay_L0 11 0 [(0, .inr (.inr (some 0))), (1, .inl e), (2, .inl b), (3, .inl z)] [] m := by
  unfold f_L_frame at h
  refine x_aload_n C dX3_acceptFrame_0 rfl ?_
  refine x_iload_n C dX3_acceptFrame_1 rfl ?_
  refine x_callVp C dX3_acceptFrame_2 (xin_41 _ (List.mem_of_getElem? (i := 7) rfl)) xy_X3_endOf (xi_X3_endOf) (xs_X3_endOf) [0, 33, 1, 12, 23, 28, 30, 31] xv_22 (by omega) (by decide) (b := 0) rfl ⟨_, _, rfl⟩ (av := [.inl e]) rfl (Nat.le_of_ble_eq_true rfl) (c_endOf0 _ _ _ (by first | decide | assumption | exact xw_1m0 (by assumption) | exact xw_1m1 (by assumption) | exact xw_ne1 (by assumption) | exact xw_n1m0 (by assumption))) rfl ?_
  refine x_getR C dX3_acceptFrame_5 fF_X3_120 rfl rfl ?_
  refine x_astore C dX3_acceptFrame_8 (by decide) ?_
  refine x_aload_n C dX3_acceptFrame_10 rfl ?_
  refine x_iconst C dX3_acceptFrame_11 ?_
  refine x_iload_n C dX3_acceptFrame_12 rfl ?_
  refine x_isub C dX3_acceptFrame_13 ?_
  refine x_callVp C dX3_acceptFrame_14 (xin_41 _ (List.mem_of_getElem? (i := 7) rfl)) xy_X3_endOf (xi_X3_endOf) (xs_X3_endOf) [0, 33, 1, 12, 23, 28, 30, 31] xv_22 (by omega) (by decide) (b := 0) rfl ⟨_, _, rfl⟩ (av := [.inl (1 - e)]) rfl (Nat.le_of_ble_eq_true rfl) (c_endOf1 _ _ _ (by first | decide | assumption | exact xw_1m0 (by assumption) | exact xw_1m1 (by assumption) | exact xw_ne1 (by assumption) | exact xw_n1m0 (by assumption))) rfl ?_
  refine x_astore C dX3_acceptFrame_17 (by decide) ?_
  refine x_iload_n C dX3_acceptFrame_19 rfl ?_
  refine x_aload C dX3_acceptFrame_20 rfl ?_
  refine x_getI C dX3_acceptFrame_22 fF_X3_230 rfl rfl ?_
  refine x_isub C dX3_acceptFrame_25 ?_
  refine x_istore C dX3_acceptFrame_26 (by decide) ?_
  refine x_iload C dX3_acceptFrame_28 rfl ?_
  refine x_if_lt C 47 dX3_acceptFrame_30 (by decide) h (fun h => ?_) (fun h => ?_)
  · refine x_loc [(0, .inr (.inr (some 0))), (1, .inl e), (2, .inl b), (3, .inl z), (4, .inr (.inr (some 4))), (5, .inr (.inr (some 12))), (6, .inl (b - (m 4 3)))] ⟨rfl, rfl, rfl, rfl, rfl, rfl, rfl, trivial⟩ ?_
    exact t_L_frame_47 hd9 C _ _ _ e_e hR _ _ h
  · refine x_iload C dX3_acceptFrame_33 rfl ?_
    refine x_aload C dX3_acceptFrame_35 rfl ?_
    refine x_getI C dX3_acceptFrame_37 fF_X3_124 rfl rfl ?_
    refine x_icmp_ge C 47 dX3_acceptFrame_40 (by decide) h (fun h => ?_) (fun h => ?_)
    · refine x_loc [(0, .inr (.inr (some 0))), (1, .inl e), (2, .inl b), (3, .inl z), (4, .inr (.inr (some 4))), (5, .inr (.inr (some 12))), (6, .inl (b - (m 4 3)))] ⟨rfl, rfl, rfl, rfl, rfl, rfl, rfl, trivial⟩ ?_
      exact t_L_frame_47 hd9 C _ _ _ e_e hR _ _ h
    · refine x_iconst C dX3_acceptFrame_43 ?_
      refine x_goto C 48 dX3_acceptFrame_44 (by decide) ?_
      refine x_loc [(0, .inr (.inr (some 0))), (1, .inl e), (2, .inl b), (3, .inl z), (4, .inr (.inr (some 4))), (5, .inr (.inr (some 12))), (6, .inl (b - (m 4 3)))] ⟨rfl, rfl, rfl, rfl, rfl, rfl, rfl, trivial⟩ ?_
      exact t_L_frame_48 hd9 C _ _ _ e_e hR _ _ _ h
theorem c_L_frame (l : Launch) (e : Int) (b : Int) (z : Int) (e_e : xw e = 0) (m m9 : xM) (h : f_L_frame e b z m = some m9) : xMet l yX3_acceptFrame cX3_acceptFrame 11 none 4 lay_L0 [.inr (.inr (some 0)), .inl e, .inl b, .inl z] m none m9 :=
  xMet_v (by decide +kernel) (Nat.le_of_ble_eq_true rfl) (fun Γ C hR _ => t_L_frame (Nat.le_refl _) C e b z e_e hR m h)
theorem xv_27 : xview lay_L1 lay_Wi [23, 24, 25, 26, 27] := xview_of (by decide +kernel)
theorem xv_28 : xview lay_L1 lay_E [12, 13, 14, 15, 16, 17, 18, 19, 20, 21, 22] := xview_of (by decide +kernel)
set_option maxRecDepth 1000000 in
set_option maxHeartbeats 4000000 in
theorem t_L_frame_70_1 {Γ : xG} {d : Nat} (hd9 : 4 ≤ d) (C : xC Γ lay_L1 RX3 cX3_acceptFrame 11 d) (e : Int) (b : Int) (z : Int) (e_e : xw e = 1) {m9 : xM} (hR : xRv Γ lay_L1 cX3_acceptFrame m9) (m : xM) (h : f_L_frame_70 e b z m = some m9) : xW Γ lay_L1 11 70 [(0, .inr (.inr (some 0)))] [] m := by
  unfold f_L_frame_70 at h
  refine x_aload_n C dX3_acceptFrame_70 rfl ?_
  refine x_getR C dX3_acceptFrame_71 fF_X3_35 rfl rfl ?_
  refine x_iconst C dX3_acceptFrame_74 ?_
  refine x_dup2 C dX3_acceptFrame_75 rfl rfl ?_
  refine x_iaload C dX3_acceptFrame_76 rfl h (fun h => ?_)
  refine x_iconst C dX3_acceptFrame_77 ?_
  refine x_iadd C dX3_acceptFrame_78 ?_
  refine x_iastore C dX3_acceptFrame_79 rfl h (fun h => ?_)
  exact x_returnV hR dX3_acceptFrame_80 h
set_option maxRecDepth 1000000 in
set_option maxHeartbeats 4000000 in
theorem t_L_frame_194_1 {Γ : xG} {d : Nat} (hd9 : 4 ≤ d) (C : xC Γ lay_L1 RX3 cX3_acceptFrame 11 d) (e : Int) (b : Int) (z : Int) (e_e : xw e = 1) {m9 : xM} (hR : xRv Γ lay_L1 cX3_acceptFrame m9) (x8 : Int) (m : xM) (h : f_L_frame_194 e b z x8 m = some m9) : xW Γ lay_L1 11 194 [(0, .inr (.inr (some 0))), (1, .inl e), (2, .inl b), (8, .inl x8)] [] m := by
  unfold f_L_frame_194 at h
  refine x_aload_n C dX3_acceptFrame_194 rfl ?_
  refine x_getR C dX3_acceptFrame_195 fF_X3_24 rfl rfl ?_
  refine x_aload_n C dX3_acceptFrame_198 rfl ?_
  refine x_getI C dX3_acceptFrame_199 fF_X3_61 rfl rfl ?_
  refine x_iconst C dX3_acceptFrame_202 ?_
  refine x_iload_n C dX3_acceptFrame_203 rfl ?_
  refine x_isub C dX3_acceptFrame_204 ?_
  refine x_iload_n C dX3_acceptFrame_205 rfl ?_
  refine x_iconst C dX3_acceptFrame_206 ?_
  obtain ⟨q3, hq3, h⟩ := x_bind h
  refine x_callV C dX3_acceptFrame_207 (xin_41 _ (List.mem_of_getElem? (i := 22) rfl)) xy_X9_put (xi_X9_put) (xs_X9_put) [23, 24, 25, 26, 27] xv_27 (by omega) (by decide) (b := 0) rfl ⟨_, _, rfl⟩ (av := [.inl (m 0 7), .inl (1 - e), .inl b, .inl 1]) rfl (Nat.le_of_ble_eq_true rfl) (c_W_put _ _ _ _ _ _ _ hq3) rfl ?_
  refine x_iload C dX3_acceptFrame_210 rfl ?_
  refine x_if_eq C 224 dX3_acceptFrame_212 (by decide) h (fun h => ?_) (fun h => ?_)
  · exact x_returnV hR dX3_acceptFrame_224 h
  · refine x_aload_n C dX3_acceptFrame_215 rfl ?_
    refine x_bipush C dX3_acceptFrame_216 (by decide) ?_
    refine x_iconst C dX3_acceptFrame_218 ?_
    refine x_iload_n C dX3_acceptFrame_219 rfl ?_
    refine x_isub C dX3_acceptFrame_220 ?_
    obtain ⟨q4, hq4, h⟩ := x_bind h
    refine x_callVI C dX3_acceptFrame_221 (xin_38 _ (List.mem_of_getElem? (i := 11) rfl)) xy_X3_note (xi_X3_note) (xs_X3_note) (by omega) (by decide) (b := 0) rfl ⟨_, _, rfl⟩ (av := [.inl 7, .inl (1 - e)]) rfl (Nat.le_of_ble_eq_true rfl) (c_L_note_1 _ _ _ _ _ hq4) rfl ?_
    exact x_returnV hR dX3_acceptFrame_224 h
set_option maxRecDepth 1000000 in
set_option maxHeartbeats 4000000 in
theorem t_L_frame_165_1 {Γ : xG} {d : Nat} (hd9 : 4 ≤ d) (C : xC Γ lay_L1 RX3 cX3_acceptFrame 11 d) (e : Int) (b : Int) (z : Int) (e_e : xw e = 1) {m9 : xM} (hR : xRv Γ lay_L1 cX3_acceptFrame m9) (x8 : Int) (x9 : Int) (m : xM) (h : f_L_frame_165 e b z x8 x9 m = some m9) : xW Γ lay_L1 11 165 [(0, .inr (.inr (some 0))), (1, .inl e), (2, .inl b), (4, .inr (.inr (some 4))), (5, .inr (.inr (some 12))), (8, .inl x8), (9, .inl x9)] [] m := by
  unfold f_L_frame_165 at h
  refine x_aload_n C dX3_acceptFrame_165 rfl ?_
  refine x_getR C dX3_acceptFrame_166 fF_X3_35 rfl rfl ?_
  refine x_bipush C dX3_acceptFrame_169 (by decide) ?_
  refine x_dup2 C dX3_acceptFrame_171 rfl rfl ?_
  refine x_iaload C dX3_acceptFrame_172 rfl h (fun h => ?_)
  refine x_aload C dX3_acceptFrame_173 rfl ?_
  refine x_getR C dX3_acceptFrame_175 fF_X3_243 rfl rfl ?_
  refine x_iload C dX3_acceptFrame_178 rfl ?_
  refine x_iaload C dX3_acceptFrame_180 rfl h (fun h => ?_)
  refine x_iadd C dX3_acceptFrame_181 ?_
  refine x_iastore C dX3_acceptFrame_182 rfl h (fun h => ?_)
  refine x_aload C dX3_acceptFrame_183 rfl ?_
  refine x_dup C dX3_acceptFrame_185 rfl ?_
  refine x_getI C dX3_acceptFrame_186 fF_X3_152 rfl rfl ?_
  refine x_iconst C dX3_acceptFrame_189 ?_
  refine x_iadd C dX3_acceptFrame_190 ?_
  refine x_putI C dX3_acceptFrame_191 fF_X3_152 rfl rfl ?_
  refine x_loc [(0, .inr (.inr (some 0))), (1, .inl e), (2, .inl b), (8, .inl x8)] ⟨rfl, rfl, rfl, rfl, trivial⟩ ?_
  exact t_L_frame_194_1 hd9 C _ _ _ e_e hR _ _ h
set_option maxRecDepth 1000000 in
set_option maxHeartbeats 4000000 in
theorem t_L_frame_120_1 {Γ : xG} {d : Nat} (hd9 : 4 ≤ d) (C : xC Γ lay_L1 RX3 cX3_acceptFrame 11 d) (e : Int) (b : Int) (z : Int) (e_e : xw e = 1) {m9 : xM} (hR : xRv Γ lay_L1 cX3_acceptFrame m9) : ∀ (n : Nat) (x8 : Int) (x9 : Int) (x10 : Int) (m : xM), f_L_frame_120 e b z n x8 x9 x10 m = some m9 → xW Γ lay_L1 11 120 [(0, .inr (.inr (some 0))), (1, .inl e), (2, .inl b), (4, .inr (.inr (some 4))), (5, .inr (.inr (some 12))), (8, .inl x8), (9, .inl x9), (10, .inl x10)] [] m := by
  intro n
  induction n with
  | zero => intro _ _ _ _ h; cases h
  | succ n ih =>
    intro x8 x9 x10 m h
    rw [f_L_frame_120] at h
    refine x_iload C dX3_acceptFrame_120 rfl ?_
    refine x_aload C dX3_acceptFrame_122 rfl ?_
    refine x_getR C dX3_acceptFrame_124 fF_X3_243 rfl rfl ?_
    refine x_iload C dX3_acceptFrame_127 rfl ?_
    refine x_iaload C dX3_acceptFrame_129 rfl h (fun h => ?_)
    refine x_icmp_ge C 165 dX3_acceptFrame_130 (by decide) h (fun h => ?_) (fun h => ?_)
    · refine x_loc [(0, .inr (.inr (some 0))), (1, .inl e), (2, .inl b), (4, .inr (.inr (some 4))), (5, .inr (.inr (some 12))), (8, .inl x8), (9, .inl x9)] ⟨rfl, rfl, rfl, rfl, rfl, rfl, rfl, trivial⟩ ?_
      exact t_L_frame_165_1 hd9 C _ _ _ e_e hR _ _ _ h
    · refine x_iload C dX3_acceptFrame_133 rfl ?_
      refine x_bipush C dX3_acceptFrame_135 (by decide) ?_
      refine x_icmp_ge C 165 dX3_acceptFrame_137 (by decide) h (fun h => ?_) (fun h => ?_)
      · refine x_loc [(0, .inr (.inr (some 0))), (1, .inl e), (2, .inl b), (4, .inr (.inr (some 4))), (5, .inr (.inr (some 12))), (8, .inl x8), (9, .inl x9)] ⟨rfl, rfl, rfl, rfl, rfl, rfl, rfl, trivial⟩ ?_
        exact t_L_frame_165_1 hd9 C _ _ _ e_e hR _ _ _ h
      · refine x_aload C dX3_acceptFrame_140 rfl ?_
        refine x_aload C dX3_acceptFrame_142 rfl ?_
        refine x_getR C dX3_acceptFrame_144 fF_X3_246 rfl rfl ?_
        refine x_iload C dX3_acceptFrame_147 rfl ?_
        refine x_bipush C dX3_acceptFrame_149 (by decide) ?_
        refine x_imul C dX3_acceptFrame_151 ?_
        refine x_iload C dX3_acceptFrame_152 rfl ?_
        refine x_iadd C dX3_acceptFrame_154 ?_
        refine x_iaload C dX3_acceptFrame_155 rfl h (fun h => ?_)
        obtain ⟨q5, hq5, h⟩ := x_bind h
        refine x_callV C dX3_acceptFrame_156 (xin_41 _ (List.mem_of_getElem? (i := 17) rfl)) xy_X1_read (xi_X1_read) (xs_X1_read) [12, 13, 14, 15, 16, 17, 18, 19, 20, 21, 22] xv_28 (by omega) (by decide) (b := 0) rfl ⟨_, _, rfl⟩ (av := [.inl (m 5 (xix ((x9 * 8) + x10)))]) rfl (Nat.le_of_ble_eq_true rfl) (c_E_read _ _ _ _ hq5) rfl ?_
        refine x_iinc C dX3_acceptFrame_159 (by decide) rfl ?_
        refine x_goto C 120 dX3_acceptFrame_162 (by decide) ?_
        refine x_loc [(0, .inr (.inr (some 0))), (1, .inl e), (2, .inl b), (4, .inr (.inr (some 4))), (5, .inr (.inr (some 12))), (8, .inl x8), (9, .inl x9), (10, .inl (x10 + 1))] ⟨rfl, rfl, rfl, rfl, rfl, rfl, rfl, rfl, trivial⟩ ?_
        exact ih _ _ _ _ h
set_option maxRecDepth 1000000 in
set_option maxHeartbeats 4000000 in
theorem t_L_frame_108_1 {Γ : xG} {d : Nat} (hd9 : 4 ≤ d) (C : xC Γ lay_L1 RX3 cX3_acceptFrame 11 d) (e : Int) (b : Int) (z : Int) (e_e : xw e = 1) {m9 : xM} (hR : xRv Γ lay_L1 cX3_acceptFrame m9) (x6 : Int) (x8 : Int) (m : xM) (h : f_L_frame_108 e b z x6 x8 m = some m9) : xW Γ lay_L1 11 108 [(0, .inr (.inr (some 0))), (1, .inl e), (2, .inl b), (4, .inr (.inr (some 4))), (5, .inr (.inr (some 12))), (6, .inl x6), (8, .inl x8)] [] m := by
  unfold f_L_frame_108 at h
  refine x_aload C dX3_acceptFrame_108 rfl ?_
  refine x_iload C dX3_acceptFrame_110 rfl ?_
  obtain ⟨q2, hq2, h⟩ := x_bind h
  refine x_callVp C dX3_acceptFrame_112 (xin_41 _ (List.mem_of_getElem? (i := 16) rfl)) xy_X2_slotOf (xi_X2_slotOf) (xs_X2_slotOf) [4, 5, 6, 7] xv_24 (by omega) (by decide) (b := 0) rfl ⟨_, _, rfl⟩ (av := [.inl x6]) rfl (Nat.le_of_ble_eq_true rfl) (c_F_slot _ _ _ _ hq2) rfl ?_
  refine x_istore C dX3_acceptFrame_115 (by decide) ?_
  refine x_iconst C dX3_acceptFrame_117 ?_
  refine x_istore C dX3_acceptFrame_118 (by decide) ?_
  refine x_loc [(0, .inr (.inr (some 0))), (1, .inl e), (2, .inl b), (4, .inr (.inr (some 4))), (5, .inr (.inr (some 12))), (8, .inl x8), (9, .inl q2), (10, .inl 0)] ⟨rfl, rfl, rfl, rfl, rfl, rfl, rfl, rfl, trivial⟩ ?_
  exact t_L_frame_120_1 hd9 C _ _ _ e_e hR fu _ _ _ _ h
set_option maxRecDepth 1000000 in
set_option maxHeartbeats 4000000 in
theorem t_L_frame_92_1 {Γ : xG} {d : Nat} (hd9 : 4 ≤ d) (C : xC Γ lay_L1 RX3 cX3_acceptFrame 11 d) (e : Int) (b : Int) (z : Int) (e_e : xw e = 1) {m9 : xM} (hR : xRv Γ lay_L1 cX3_acceptFrame m9) (x6 : Int) (s0 : Int) (m : xM) (h : f_L_frame_92 e b z x6 s0 m = some m9) : xW Γ lay_L1 11 92 [(0, .inr (.inr (some 0))), (1, .inl e), (2, .inl b), (4, .inr (.inr (some 4))), (5, .inr (.inr (some 12))), (6, .inl x6)] [.inl s0] m := by
  unfold f_L_frame_92 at h
  refine x_istore C dX3_acceptFrame_92 (by decide) ?_
  refine x_iload C dX3_acceptFrame_94 rfl ?_
  refine x_if_eq C 108 dX3_acceptFrame_96 (by decide) h (fun h => ?_) (fun h => ?_)
  · refine x_loc [(0, .inr (.inr (some 0))), (1, .inl e), (2, .inl b), (4, .inr (.inr (some 4))), (5, .inr (.inr (some 12))), (6, .inl x6), (8, .inl s0)] ⟨rfl, rfl, rfl, rfl, rfl, rfl, rfl, trivial⟩ ?_
    exact t_L_frame_108_1 hd9 C _ _ _ e_e hR _ _ _ h
  · refine x_aload C dX3_acceptFrame_99 rfl ?_
    refine x_getR C dX3_acceptFrame_101 fF_X3_236 rfl rfl ?_
    refine x_iconst C dX3_acceptFrame_104 ?_
    refine x_putI C dX3_acceptFrame_105 fF_X3_239 rfl rfl ?_
    refine x_loc [(0, .inr (.inr (some 0))), (1, .inl e), (2, .inl b), (4, .inr (.inr (some 4))), (5, .inr (.inr (some 12))), (6, .inl x6), (8, .inl s0)] ⟨rfl, rfl, rfl, rfl, rfl, rfl, rfl, trivial⟩ ?_
    exact t_L_frame_108_1 hd9 C _ _ _ e_e hR _ _ _ h
set_option maxRecDepth 1000000 in
set_option maxHeartbeats 4000000 in
theorem t_L_frame_48_1 {Γ : xG} {d : Nat} (hd9 : 4 ≤ d) (C : xC Γ lay_L1 RX3 cX3_acceptFrame 11 d) (e : Int) (b : Int) (z : Int) (e_e : xw e = 1) {m9 : xM} (hR : xRv Γ lay_L1 cX3_acceptFrame m9) (x6 : Int) (s0 : Int) (m : xM) (h : f_L_frame_48 e b z x6 s0 m = some m9) : xW Γ lay_L1 11 48 [(0, .inr (.inr (some 0))), (1, .inl e), (2, .inl b), (3, .inl z), (4, .inr (.inr (some 4))), (5, .inr (.inr (some 12))), (6, .inl x6)] [.inl s0] m := by
  unfold f_L_frame_48 at h
  refine x_istore C dX3_acceptFrame_48 (by decide) ?_
  refine x_iload_n C dX3_acceptFrame_50 rfl ?_
  refine x_iconst C dX3_acceptFrame_51 ?_
  refine x_iand C dX3_acceptFrame_52 ?_
  refine x_if_ne C 70 dX3_acceptFrame_53 (by decide) h (fun h => ?_) (fun h => ?_)
  · refine x_loc [(0, .inr (.inr (some 0)))] ⟨rfl, trivial⟩ ?_
    exact t_L_frame_70_1 hd9 C _ _ _ e_e hR _ h
  · refine x_iload_n C dX3_acceptFrame_56 rfl ?_
    refine x_aload C dX3_acceptFrame_57 rfl ?_
    refine x_getI C dX3_acceptFrame_59 fF_X3_152 rfl rfl ?_
    refine x_icmp_ne C 70 dX3_acceptFrame_62 (by decide) h (fun h => ?_) (fun h => ?_)
    · refine x_loc [(0, .inr (.inr (some 0)))] ⟨rfl, trivial⟩ ?_
      exact t_L_frame_70_1 hd9 C _ _ _ e_e hR _ h
    · refine x_iload C dX3_acceptFrame_65 rfl ?_
      refine x_if_ne C 81 dX3_acceptFrame_67 (by decide) h (fun h => ?_) (fun h => ?_)
      · refine x_iload_n C dX3_acceptFrame_81 rfl ?_
        refine x_iconst C dX3_acceptFrame_82 ?_
        refine x_iand C dX3_acceptFrame_83 ?_
        refine x_if_eq C 91 dX3_acceptFrame_84 (by decide) h (fun h => ?_) (fun h => ?_)
        · refine x_iconst C dX3_acceptFrame_91 ?_
          refine x_loc [(0, .inr (.inr (some 0))), (1, .inl e), (2, .inl b), (4, .inr (.inr (some 4))), (5, .inr (.inr (some 12))), (6, .inl x6)] ⟨rfl, rfl, rfl, rfl, rfl, rfl, trivial⟩ ?_
          exact t_L_frame_92_1 hd9 C _ _ _ e_e hR _ _ _ h
        · refine x_iconst C dX3_acceptFrame_87 ?_
          refine x_goto C 92 dX3_acceptFrame_88 (by decide) ?_
          refine x_loc [(0, .inr (.inr (some 0))), (1, .inl e), (2, .inl b), (4, .inr (.inr (some 4))), (5, .inr (.inr (some 12))), (6, .inl x6)] ⟨rfl, rfl, rfl, rfl, rfl, rfl, trivial⟩ ?_
          exact t_L_frame_92_1 hd9 C _ _ _ e_e hR _ _ _ h
      · refine x_loc [(0, .inr (.inr (some 0)))] ⟨rfl, trivial⟩ ?_
        exact t_L_frame_70_1 hd9 C _ _ _ e_e hR _ h
set_option maxRecDepth 1000000 in
set_option maxHeartbeats 4000000 in
theorem t_L_frame_47_1 {Γ : xG} {d : Nat} (hd9 : 4 ≤ d) (C : xC Γ lay_L1 RX3 cX3_acceptFrame 11 d) (e : Int) (b : Int) (z : Int) (e_e : xw e = 1) {m9 : xM} (hR : xRv Γ lay_L1 cX3_acceptFrame m9) (x6 : Int) (m : xM) (h : f_L_frame_47 e b z x6 m = some m9) : xW Γ lay_L1 11 47 [(0, .inr (.inr (some 0))), (1, .inl e), (2, .inl b), (3, .inl z), (4, .inr (.inr (some 4))), (5, .inr (.inr (some 12))), (6, .inl x6)] [] m := by
  unfold f_L_frame_47 at h
  refine x_iconst C dX3_acceptFrame_47 ?_
  refine x_loc [(0, .inr (.inr (some 0))), (1, .inl e), (2, .inl b), (3, .inl z), (4, .inr (.inr (some 4))), (5, .inr (.inr (some 12))), (6, .inl x6)] ⟨rfl, rfl, rfl, rfl, rfl, rfl, rfl, trivial⟩ ?_
  exact t_L_frame_48_1 hd9 C _ _ _ e_e hR _ _ _ h
set_option maxRecDepth 1000000 in
set_option maxHeartbeats 4000000 in
theorem t_L_frame_1 {Γ : xG} {d : Nat} (hd9 : 4 ≤ d) (C : xC Γ lay_L1 RX3 cX3_acceptFrame 11 d) (e : Int) (b : Int) (z : Int) (e_e : xw e = 1) {m9 : xM} (hR : xRv Γ lay_L1 cX3_acceptFrame m9) (m : xM) (h : f_L_frame e b z m = some m9) : xW Γ lay_L1 11 0 [(0, .inr (.inr (some 0))), (1, .inl e), (2, .inl b), (3, .inl z)] [] m := by
  unfold f_L_frame at h
  refine x_aload_n C dX3_acceptFrame_0 rfl ?_
  refine x_iload_n C dX3_acceptFrame_1 rfl ?_
  refine x_callVp C dX3_acceptFrame_2 (xin_41 _ (List.mem_of_getElem? (i := 7) rfl)) xy_X3_endOf (xi_X3_endOf) (xs_X3_endOf) [0, 33, 12, 1, 23, 28, 30, 31] xv_23 (by omega) (by decide) (b := 0) rfl ⟨_, _, rfl⟩ (av := [.inl e]) rfl (Nat.le_of_ble_eq_true rfl) (c_endOf1 _ _ _ (by first | decide | assumption | exact xw_1m0 (by assumption) | exact xw_1m1 (by assumption) | exact xw_ne1 (by assumption) | exact xw_n1m0 (by assumption))) rfl ?_
  refine x_getR C dX3_acceptFrame_5 fF_X3_120 rfl rfl ?_
  refine x_astore C dX3_acceptFrame_8 (by decide) ?_
  refine x_aload_n C dX3_acceptFrame_10 rfl ?_
  refine x_iconst C dX3_acceptFrame_11 ?_
  refine x_iload_n C dX3_acceptFrame_12 rfl ?_
  refine x_isub C dX3_acceptFrame_13 ?_
  refine x_callVp C dX3_acceptFrame_14 (xin_41 _ (List.mem_of_getElem? (i := 7) rfl)) xy_X3_endOf (xi_X3_endOf) (xs_X3_endOf) [0, 33, 12, 1, 23, 28, 30, 31] xv_23 (by omega) (by decide) (b := 0) rfl ⟨_, _, rfl⟩ (av := [.inl (1 - e)]) rfl (Nat.le_of_ble_eq_true rfl) (c_endOf0 _ _ _ (by first | decide | assumption | exact xw_1m0 (by assumption) | exact xw_1m1 (by assumption) | exact xw_ne1 (by assumption) | exact xw_n1m0 (by assumption))) rfl ?_
  refine x_astore C dX3_acceptFrame_17 (by decide) ?_
  refine x_iload_n C dX3_acceptFrame_19 rfl ?_
  refine x_aload C dX3_acceptFrame_20 rfl ?_
  refine x_getI C dX3_acceptFrame_22 fF_X3_230 rfl rfl ?_
  refine x_isub C dX3_acceptFrame_25 ?_
  refine x_istore C dX3_acceptFrame_26 (by decide) ?_
  refine x_iload C dX3_acceptFrame_28 rfl ?_
  refine x_if_lt C 47 dX3_acceptFrame_30 (by decide) h (fun h => ?_) (fun h => ?_)
  · refine x_loc [(0, .inr (.inr (some 0))), (1, .inl e), (2, .inl b), (3, .inl z), (4, .inr (.inr (some 4))), (5, .inr (.inr (some 12))), (6, .inl (b - (m 4 3)))] ⟨rfl, rfl, rfl, rfl, rfl, rfl, rfl, trivial⟩ ?_
    exact t_L_frame_47_1 hd9 C _ _ _ e_e hR _ _ h
  · refine x_iload C dX3_acceptFrame_33 rfl ?_
    refine x_aload C dX3_acceptFrame_35 rfl ?_
    refine x_getI C dX3_acceptFrame_37 fF_X3_124 rfl rfl ?_
    refine x_icmp_ge C 47 dX3_acceptFrame_40 (by decide) h (fun h => ?_) (fun h => ?_)
    · refine x_loc [(0, .inr (.inr (some 0))), (1, .inl e), (2, .inl b), (3, .inl z), (4, .inr (.inr (some 4))), (5, .inr (.inr (some 12))), (6, .inl (b - (m 4 3)))] ⟨rfl, rfl, rfl, rfl, rfl, rfl, rfl, trivial⟩ ?_
      exact t_L_frame_47_1 hd9 C _ _ _ e_e hR _ _ h
    · refine x_iconst C dX3_acceptFrame_43 ?_
      refine x_goto C 48 dX3_acceptFrame_44 (by decide) ?_
      refine x_loc [(0, .inr (.inr (some 0))), (1, .inl e), (2, .inl b), (3, .inl z), (4, .inr (.inr (some 4))), (5, .inr (.inr (some 12))), (6, .inl (b - (m 4 3)))] ⟨rfl, rfl, rfl, rfl, rfl, rfl, rfl, trivial⟩ ?_
      exact t_L_frame_48_1 hd9 C _ _ _ e_e hR _ _ _ h
theorem c_L_frame_1 (l : Launch) (e : Int) (b : Int) (z : Int) (e_e : xw e = 1) (m m9 : xM) (h : f_L_frame e b z m = some m9) : xMet l yX3_acceptFrame cX3_acceptFrame 11 none 4 lay_L1 [.inr (.inr (some 0)), .inl e, .inl b, .inl z] m none m9 :=
  xMet_v (by decide +kernel) (Nat.le_of_ble_eq_true rfl) (fun Γ C hR _ => t_L_frame_1 (Nat.le_refl _) C e b z e_e hR m h)
theorem fF_X3_199 : xF RX3 199 8 10 .int false := ⟨RX6, TX6, 14, tyX6, rfl, by decide, (xin_40 _ (List.mem_of_getElem? (i := 14) rfl)), rfl, inlX6, tyX6_ok, nmX6, rfl, rfl⟩
theorem xy_X9_hasFrom : xY yX9_hasFrom cX9_hasFrom 2 (some .boolean) 1 := ⟨(xin_40 _ (List.mem_of_getElem? (i := 21) rfl)), (xin_4 _ (List.mem_of_getElem? (i := 5) rfl)), by decide, by decide, by decide +kernel⟩
theorem xi_X9_hasFrom : Cond.instanceMethod yX9_hasFrom ∈ wsL_law := (xin_40 _ (List.mem_of_getElem? (i := 19) rfl))
theorem xs_X9_hasFrom : Cond.selects yX9_hasFrom.cls yX9_hasFrom yX9_hasFrom ∈ wsL_law := (xin_40 _ (List.mem_of_getElem? (i := 20) rfl))
theorem xy_X9_take : xY yX9_take cX9_take 2 (some .int) 0 := ⟨(xin_41 _ (List.mem_of_getElem? (i := 1) rfl)), (xin_4 _ (List.mem_of_getElem? (i := 5) rfl)), by decide, by decide, by decide +kernel⟩
theorem xi_X9_take : Cond.instanceMethod yX9_take ∈ wsL_law := (xin_40 _ (List.mem_of_getElem? (i := 23) rfl))
theorem xs_X9_take : Cond.selects yX9_take.cls yX9_take yX9_take ∈ wsL_law := (xin_41 _ (List.mem_of_getElem? (i := 0) rfl))
theorem fF_X3_210 : xF RX3 210 11 3 (.array .int) true := ⟨RX9, TX9, 6, tyX9, rfl, by decide, (xin_40 _ (List.mem_of_getElem? (i := 15) rfl)), rfl, inlX9, tyX9_ok, nmX9, rfl, rfl⟩
theorem fF_X3_213 : xF RX3 213 11 1 (.array .int) true := ⟨RX9, TX9, 6, tyX9, rfl, by decide, (xin_40 _ (List.mem_of_getElem? (i := 16) rfl)), rfl, inlX9, tyX9_ok, nmX9, rfl, rfl⟩
theorem fF_X3_216 : xF RX3 216 11 2 (.array .int) true := ⟨RX9, TX9, 6, tyX9, rfl, by decide, (xin_40 _ (List.mem_of_getElem? (i := 17) rfl)), rfl, inlX9, tyX9_ok, nmX9, rfl, rfl⟩
theorem xy_X3_acceptFrame : xY yX3_acceptFrame cX3_acceptFrame 11 none 3 := ⟨(xin_41 _ (List.mem_of_getElem? (i := 12) rfl)), (xin_1 _ (List.mem_of_getElem? (i := 20) rfl)), by decide, by decide, by decide +kernel⟩
theorem xi_X3_acceptFrame : Cond.instanceMethod yX3_acceptFrame ∈ wsL_law := (xin_41 _ (List.mem_of_getElem? (i := 10) rfl))
theorem xs_X3_acceptFrame : Cond.selects yX3_acceptFrame.cls yX3_acceptFrame yX3_acceptFrame ∈ wsL_law := (xin_41 _ (List.mem_of_getElem? (i := 11) rfl))
theorem xv_29 : xview lay_L0 lay_L1 [0, 12, 13, 14, 15, 16, 17, 18, 19, 20, 21, 22, 1, 2, 3, 4, 5, 6, 7, 8, 9, 10, 11, 23, 24, 25, 26, 27, 28, 29, 30, 31, 32, 33, 34, 35, 36, 37] := xview_of (by decide +kernel)
theorem xy_X3_acceptAcknowledgement : xY yX3_acceptAcknowledgement cX3_acceptAcknowledgement 4 none 2 := ⟨(xin_41 _ (List.mem_of_getElem? (i := 5) rfl)), (xin_1 _ (List.mem_of_getElem? (i := 20) rfl)), by decide, by decide, by decide +kernel⟩
theorem xi_X3_acceptAcknowledgement : Cond.instanceMethod yX3_acceptAcknowledgement ∈ wsL_law := (xin_41 _ (List.mem_of_getElem? (i := 3) rfl))
theorem xs_X3_acceptAcknowledgement : Cond.selects yX3_acceptAcknowledgement.cls yX3_acceptAcknowledgement yX3_acceptAcknowledgement ∈ wsL_law := (xin_41 _ (List.mem_of_getElem? (i := 4) rfl))
theorem dX3_arrive_0 : decode cX3_arrive 0 = .ok (.iconst 0, 1) := by decide +kernel
theorem dX3_arrive_1 : decode cX3_arrive 1 = .ok (.istore_n 1, 1) := by decide +kernel
theorem dX3_arrive_2 : decode cX3_arrive 2 = .ok (.iload_n 1, 1) := by decide +kernel
theorem dX3_arrive_3 : decode cX3_arrive 3 = .ok (.bipush 64, 2) := by decide +kernel
theorem dX3_arrive_5 : decode cX3_arrive 5 = .ok (.if_icmp .ge 111, 3) := by decide +kernel
theorem dX3_arrive_8 : decode cX3_arrive 8 = .ok (.aload_n 0, 1) := by decide +kernel
theorem dX3_arrive_9 : decode cX3_arrive 9 = .ok (.getfield 24, 3) := by decide +kernel
theorem dX3_arrive_12 : decode cX3_arrive 12 = .ok (.aload_n 0, 1) := by decide +kernel
theorem dX3_arrive_13 : decode cX3_arrive 13 = .ok (.getfield 61, 3) := by decide +kernel
theorem dX3_arrive_16 : decode cX3_arrive 16 = .ok (.aload_n 0, 1) := by decide +kernel
theorem dX3_arrive_17 : decode cX3_arrive 17 = .ok (.getfield 46, 3) := by decide +kernel
theorem dX3_arrive_20 : decode cX3_arrive 20 = .ok (.getfield 199, 3) := by decide +kernel
theorem dX3_arrive_23 : decode cX3_arrive 23 = .ok (.isub, 1) := by decide +kernel
theorem dX3_arrive_24 : decode cX3_arrive 24 = .ok (.invokevirtual 202, 3) := by decide +kernel
theorem dX3_arrive_27 : decode cX3_arrive 27 = .ok (.ifCond .eq 89, 3) := by decide +kernel
theorem dX3_arrive_30 : decode cX3_arrive 30 = .ok (.aload_n 0, 1) := by decide +kernel
theorem dX3_arrive_31 : decode cX3_arrive 31 = .ok (.getfield 24, 3) := by decide +kernel
theorem dX3_arrive_34 : decode cX3_arrive 34 = .ok (.invokevirtual 206, 3) := by decide +kernel
theorem dX3_arrive_37 : decode cX3_arrive 37 = .ok (.istore_n 2, 1) := by decide +kernel
theorem dX3_arrive_38 : decode cX3_arrive 38 = .ok (.aload_n 0, 1) := by decide +kernel
theorem dX3_arrive_39 : decode cX3_arrive 39 = .ok (.getfield 24, 3) := by decide +kernel
theorem dX3_arrive_42 : decode cX3_arrive 42 = .ok (.getfield 210, 3) := by decide +kernel
theorem dX3_arrive_45 : decode cX3_arrive 45 = .ok (.iload_n 2, 1) := by decide +kernel
theorem dX3_arrive_46 : decode cX3_arrive 46 = .ok (.iaload, 1) := by decide +kernel
theorem dX3_arrive_47 : decode cX3_arrive 47 = .ok (.iconst 1, 1) := by decide +kernel
theorem dX3_arrive_48 : decode cX3_arrive 48 = .ok (.iand, 1) := by decide +kernel
theorem dX3_arrive_49 : decode cX3_arrive 49 = .ok (.ifCond .eq 30, 3) := by decide +kernel
theorem dX3_arrive_52 : decode cX3_arrive 52 = .ok (.aload_n 0, 1) := by decide +kernel
theorem dX3_arrive_53 : decode cX3_arrive 53 = .ok (.iconst 1, 1) := by decide +kernel
theorem dX3_arrive_54 : decode cX3_arrive 54 = .ok (.aload_n 0, 1) := by decide +kernel
theorem dX3_arrive_55 : decode cX3_arrive 55 = .ok (.getfield 24, 3) := by decide +kernel
theorem dX3_arrive_58 : decode cX3_arrive 58 = .ok (.getfield 213, 3) := by decide +kernel
theorem dX3_arrive_61 : decode cX3_arrive 61 = .ok (.iload_n 2, 1) := by decide +kernel
theorem dX3_arrive_62 : decode cX3_arrive 62 = .ok (.iaload, 1) := by decide +kernel
theorem dX3_arrive_63 : decode cX3_arrive 63 = .ok (.isub, 1) := by decide +kernel
theorem dX3_arrive_64 : decode cX3_arrive 64 = .ok (.aload_n 0, 1) := by decide +kernel
theorem dX3_arrive_65 : decode cX3_arrive 65 = .ok (.getfield 24, 3) := by decide +kernel
theorem dX3_arrive_68 : decode cX3_arrive 68 = .ok (.getfield 216, 3) := by decide +kernel
theorem dX3_arrive_71 : decode cX3_arrive 71 = .ok (.iload_n 2, 1) := by decide +kernel
theorem dX3_arrive_72 : decode cX3_arrive 72 = .ok (.iaload, 1) := by decide +kernel
theorem dX3_arrive_73 : decode cX3_arrive 73 = .ok (.invokevirtual 219, 3) := by decide +kernel
theorem dX3_arrive_76 : decode cX3_arrive 76 = .ok (.goto 34, 3) := by decide +kernel
theorem dX3_arrive_79 : decode cX3_arrive 79 = .ok (.aload_n 0, 1) := by decide +kernel
theorem dX3_arrive_80 : decode cX3_arrive 80 = .ok (.aload_n 0, 1) := by decide +kernel
theorem dX3_arrive_81 : decode cX3_arrive 81 = .ok (.getfield 24, 3) := by decide +kernel
theorem dX3_arrive_84 : decode cX3_arrive 84 = .ok (.getfield 213, 3) := by decide +kernel
theorem dX3_arrive_87 : decode cX3_arrive 87 = .ok (.iload_n 2, 1) := by decide +kernel
theorem dX3_arrive_88 : decode cX3_arrive 88 = .ok (.iaload, 1) := by decide +kernel
theorem dX3_arrive_89 : decode cX3_arrive 89 = .ok (.aload_n 0, 1) := by decide +kernel
theorem dX3_arrive_90 : decode cX3_arrive 90 = .ok (.getfield 24, 3) := by decide +kernel
theorem dX3_arrive_93 : decode cX3_arrive 93 = .ok (.getfield 216, 3) := by decide +kernel
theorem dX3_arrive_96 : decode cX3_arrive 96 = .ok (.iload_n 2, 1) := by decide +kernel
theorem dX3_arrive_97 : decode cX3_arrive 97 = .ok (.iaload, 1) := by decide +kernel
theorem dX3_arrive_98 : decode cX3_arrive 98 = .ok (.aload_n 0, 1) := by decide +kernel
theorem dX3_arrive_99 : decode cX3_arrive 99 = .ok (.getfield 24, 3) := by decide +kernel
theorem dX3_arrive_102 : decode cX3_arrive 102 = .ok (.getfield 210, 3) := by decide +kernel
theorem dX3_arrive_105 : decode cX3_arrive 105 = .ok (.iload_n 2, 1) := by decide +kernel
theorem dX3_arrive_106 : decode cX3_arrive 106 = .ok (.iaload, 1) := by decide +kernel
theorem dX3_arrive_107 : decode cX3_arrive 107 = .ok (.invokevirtual 222, 3) := by decide +kernel
theorem dX3_arrive_110 : decode cX3_arrive 110 = .ok (.iinc 1 1, 3) := by decide +kernel
theorem dX3_arrive_113 : decode cX3_arrive 113 = .ok (.goto (-111), 3) := by decide +kernel
theorem dX3_arrive_116 : decode cX3_arrive 116 = .ok (.return_, 1) := by decide +kernel
def f_L_arrive_110 (k2 : Int → xM → Option (xM)) (x1 : Int) (m : xM) : Option (xM) :=
     k2 (x1 + 1) m
set_option maxRecDepth 1000000 in
set_option maxHeartbeats 4000000 in
theorem t_L_arrive_110 {Γ : xG} {d : Nat} (hd9 : 5 ≤ d) (C : xC Γ lay_L0 RX3 cX3_arrive 3 d) {m9 : xM} (hR : xRv Γ lay_L0 cX3_arrive m9) {k2 : Int → xM → Option (xM)} (hk2 : ∀ (x1 : Int) (m : xM), k2 x1 m = some m9 → xW Γ lay_L0 3 2 [(0, .inr (.inr (some 0))), (1, .inl x1)] [] m) (x1 : Int) (m : xM) (h : f_L_arrive_110 k2 x1 m = some m9) : xW Γ lay_L0 3 110 [(0, .inr (.inr (some 0))), (1, .inl x1)] [] m := by
  unfold f_L_arrive_110 at h
  refine x_iinc C dX3_arrive_110 (by decide) rfl ?_
  refine x_goto C 2 dX3_arrive_113 (by decide) ?_
  refine x_loc [(0, .inr (.inr (some 0))), (1, .inl (x1 + 1))] ⟨rfl, rfl, trivial⟩ ?_
  exact hk2 _ _ h
def f_L_arrive_76 (k2 : Int → xM → Option (xM)) (x1 : Int) (m : xM) : Option (xM) :=
     f_L_arrive_110 k2 x1 m
set_option maxRecDepth 1000000 in
set_option maxHeartbeats 4000000 in
theorem t_L_arrive_76 {Γ : xG} {d : Nat} (hd9 : 5 ≤ d) (C : xC Γ lay_L0 RX3 cX3_arrive 3 d) {m9 : xM} (hR : xRv Γ lay_L0 cX3_arrive m9) {k2 : Int → xM → Option (xM)} (hk2 : ∀ (x1 : Int) (m : xM), k2 x1 m = some m9 → xW Γ lay_L0 3 2 [(0, .inr (.inr (some 0))), (1, .inl x1)] [] m) (x1 : Int) (m : xM) (h : f_L_arrive_76 k2 x1 m = some m9) : xW Γ lay_L0 3 76 [(0, .inr (.inr (some 0))), (1, .inl x1)] [] m := by
  unfold f_L_arrive_76 at h
  refine x_goto C 110 dX3_arrive_76 (by decide) ?_
  refine x_loc [(0, .inr (.inr (some 0))), (1, .inl x1)] ⟨rfl, rfl, trivial⟩ ?_
  exact t_L_arrive_110 hd9 C hR hk2 _ _ h
def f_L_arrive_2 : Nat → Int → xM → Option (xM)
  | 0, _, _ => none
  | n + 1, x1, m =>
     (if xw x1 < xw 64 then (Option.bind (f_W_has ((m 0 7) - (m 33 10)) (xvw [23, 24, 25, 26, 27] m)) fun q0 =>
      (if xw q0 = 0 then some m
      else (Option.bind (f_W_take (xvw [23, 24, 25, 26, 27] m)) fun q1 =>
      (if xib q1.1 64 then (if xw (xiand ((xmg [23, 24, 25, 26, 27] 5 m q1.2) 27 (xix q1.1)) 1) = 0 then (if xib q1.1 64 then (if xib q1.1 64 then (if xib q1.1 64 then (if xw ((xmg [23, 24, 25, 26, 27] 5 m q1.2) 25 (xix q1.1)) = 0 then (Option.bind (f_L_frame ((xmg [23, 24, 25, 26, 27] 5 m q1.2) 25 (xix q1.1)) ((xmg [23, 24, 25, 26, 27] 5 m q1.2) 26 (xix q1.1)) ((xmg [23, 24, 25, 26, 27] 5 m q1.2) 27 (xix q1.1)) (xmg [23, 24, 25, 26, 27] 5 m q1.2)) fun q3 =>
      f_L_arrive_110 (f_L_arrive_2 n) x1 q3)
      else (if xw ((xmg [23, 24, 25, 26, 27] 5 m q1.2) 25 (xix q1.1)) = 1 then (Option.bind (f_L_frame ((xmg [23, 24, 25, 26, 27] 5 m q1.2) 25 (xix q1.1)) ((xmg [23, 24, 25, 26, 27] 5 m q1.2) 26 (xix q1.1)) ((xmg [23, 24, 25, 26, 27] 5 m q1.2) 27 (xix q1.1)) (xvw [0, 12, 13, 14, 15, 16, 17, 18, 19, 20, 21, 22, 1, 2, 3, 4, 5, 6, 7, 8, 9, 10, 11, 23, 24, 25, 26, 27, 28, 29, 30, 31, 32, 33, 34, 35, 36, 37] (xmg [23, 24, 25, 26, 27] 5 m q1.2))) fun q4 =>
      f_L_arrive_110 (f_L_arrive_2 n) x1 (xmg [0, 12, 13, 14, 15, 16, 17, 18, 19, 20, 21, 22, 1, 2, 3, 4, 5, 6, 7, 8, 9, 10, 11, 23, 24, 25, 26, 27, 28, 29, 30, 31, 32, 33, 34, 35, 36, 37] 38 (xmg [23, 24, 25, 26, 27] 5 m q1.2) q4))
      else none))
      else none)
      else none)
      else none)
      else (if xib q1.1 64 then (if xib q1.1 64 then (if xw (1 - ((xmg [23, 24, 25, 26, 27] 5 m q1.2) 25 (xix q1.1))) = 0 then (Option.bind (f_L_ack (1 - ((xmg [23, 24, 25, 26, 27] 5 m q1.2) 25 (xix q1.1))) ((xmg [23, 24, 25, 26, 27] 5 m q1.2) 26 (xix q1.1)) (xmg [23, 24, 25, 26, 27] 5 m q1.2)) fun q6 =>
      f_L_arrive_110 (f_L_arrive_2 n) x1 q6)
      else (if xw (1 - ((xmg [23, 24, 25, 26, 27] 5 m q1.2) 25 (xix q1.1))) = 1 then (Option.bind (f_L_ack (1 - ((xmg [23, 24, 25, 26, 27] 5 m q1.2) 25 (xix q1.1))) ((xmg [23, 24, 25, 26, 27] 5 m q1.2) 26 (xix q1.1)) (xvw [0, 12, 13, 14, 15, 16, 17, 18, 19, 20, 21, 22, 1, 2, 3, 4, 5, 6, 7, 8, 9, 10, 11, 23, 24, 25, 26, 27, 28, 29, 30, 31, 32, 33, 34, 35, 36, 37] (xmg [23, 24, 25, 26, 27] 5 m q1.2))) fun q7 =>
      f_L_arrive_76 (f_L_arrive_2 n) x1 (xmg [0, 12, 13, 14, 15, 16, 17, 18, 19, 20, 21, 22, 1, 2, 3, 4, 5, 6, 7, 8, 9, 10, 11, 23, 24, 25, 26, 27, 28, 29, 30, 31, 32, 33, 34, 35, 36, 37] 38 (xmg [23, 24, 25, 26, 27] 5 m q1.2) q7))
      else none))
      else none)
      else none))
      else none))))
      else some m)
set_option maxRecDepth 1000000 in
set_option maxHeartbeats 4000000 in
theorem t_L_arrive_2 {Γ : xG} {d : Nat} (hd9 : 5 ≤ d) (C : xC Γ lay_L0 RX3 cX3_arrive 3 d) {m9 : xM} (hR : xRv Γ lay_L0 cX3_arrive m9) : ∀ (n : Nat) (x1 : Int) (m : xM), f_L_arrive_2 n x1 m = some m9 → xW Γ lay_L0 3 2 [(0, .inr (.inr (some 0))), (1, .inl x1)] [] m := by
  intro n
  induction n with
  | zero => intro _ _ h; cases h
  | succ n ih =>
    intro x1 m h
    rw [f_L_arrive_2] at h
    refine x_iload_n C dX3_arrive_2 rfl ?_
    refine x_bipush C dX3_arrive_3 (by decide) ?_
    refine x_icmp_ge C 116 dX3_arrive_5 (by decide) h (fun h => ?_) (fun h => ?_)
    · exact x_returnV hR dX3_arrive_116 h
    · refine x_aload_n C dX3_arrive_8 rfl ?_
      refine x_getR C dX3_arrive_9 fF_X3_24 rfl rfl ?_
      refine x_aload_n C dX3_arrive_12 rfl ?_
      refine x_getI C dX3_arrive_13 fF_X3_61 rfl rfl ?_
      refine x_aload_n C dX3_arrive_16 rfl ?_
      refine x_getR C dX3_arrive_17 fF_X3_46 rfl rfl ?_
      refine x_getI C dX3_arrive_20 fF_X3_199 rfl rfl ?_
      refine x_isub C dX3_arrive_23 ?_
      obtain ⟨q0, hq0, h⟩ := x_bind h
      refine x_callVp C dX3_arrive_24 (xin_40 _ (List.mem_of_getElem? (i := 18) rfl)) xy_X9_hasFrom (xi_X9_hasFrom) (xs_X9_hasFrom) [23, 24, 25, 26, 27] xv_26 (by omega) (by decide) (b := 0) rfl ⟨_, _, rfl⟩ (av := [.inl ((m 0 7) - (m 33 10))]) rfl (Nat.le_of_ble_eq_true rfl) (c_W_has _ _ _ _ hq0) rfl ?_
      refine x_if_eq C 116 dX3_arrive_27 (by decide) h (fun h => ?_) (fun h => ?_)
      · exact x_returnV hR dX3_arrive_116 h
      · refine x_aload_n C dX3_arrive_30 rfl ?_
        refine x_getR C dX3_arrive_31 fF_X3_24 rfl rfl ?_
        obtain ⟨q1, hq1, h⟩ := x_bind h
        refine x_callV C dX3_arrive_34 (xin_40 _ (List.mem_of_getElem? (i := 22) rfl)) xy_X9_take (xi_X9_take) (xs_X9_take) [23, 24, 25, 26, 27] xv_26 (by omega) (by decide) (b := 0) rfl ⟨_, _, rfl⟩ (av := []) rfl (Nat.le_of_ble_eq_true rfl) (c_W_take _ _ q1.1 q1.2 hq1) rfl ?_
        refine x_istore_n C dX3_arrive_37 (by decide) ?_
        refine x_aload_n C dX3_arrive_38 rfl ?_
        refine x_getR C dX3_arrive_39 fF_X3_24 rfl rfl ?_
        refine x_getR C dX3_arrive_42 fF_X3_210 rfl rfl ?_
        refine x_iload_n C dX3_arrive_45 rfl ?_
        refine x_iaload C dX3_arrive_46 rfl h (fun h => ?_)
        refine x_iconst C dX3_arrive_47 ?_
        refine x_iand C dX3_arrive_48 ?_
        refine x_if_eq C 79 dX3_arrive_49 (by decide) h (fun h => ?_) (fun h => ?_)
        · refine x_aload_n C dX3_arrive_79 rfl ?_
          refine x_aload_n C dX3_arrive_80 rfl ?_
          refine x_getR C dX3_arrive_81 fF_X3_24 rfl rfl ?_
          refine x_getR C dX3_arrive_84 fF_X3_213 rfl rfl ?_
          refine x_iload_n C dX3_arrive_87 rfl ?_
          refine x_iaload C dX3_arrive_88 rfl h (fun h => ?_)
          refine x_aload_n C dX3_arrive_89 rfl ?_
          refine x_getR C dX3_arrive_90 fF_X3_24 rfl rfl ?_
          refine x_getR C dX3_arrive_93 fF_X3_216 rfl rfl ?_
          refine x_iload_n C dX3_arrive_96 rfl ?_
          refine x_iaload C dX3_arrive_97 rfl h (fun h => ?_)
          refine x_aload_n C dX3_arrive_98 rfl ?_
          refine x_getR C dX3_arrive_99 fF_X3_24 rfl rfl ?_
          refine x_getR C dX3_arrive_102 fF_X3_210 rfl rfl ?_
          refine x_iload_n C dX3_arrive_105 rfl ?_
          refine x_iaload C dX3_arrive_106 rfl h (fun h => ?_)
          refine x_ite h (fun hk93 h => ?_) (fun _ h => ?_)
          · obtain ⟨q3, hq3, h⟩ := x_bind h
            refine x_callVI C dX3_arrive_107 (xin_41 _ (List.mem_of_getElem? (i := 9) rfl)) xy_X3_acceptFrame (xi_X3_acceptFrame) (xs_X3_acceptFrame) (by omega) (by decide) (b := 0) rfl ⟨_, _, rfl⟩ (av := [.inl ((xmg [23, 24, 25, 26, 27] 5 m q1.2) 25 (xix q1.1)), .inl ((xmg [23, 24, 25, 26, 27] 5 m q1.2) 26 (xix q1.1)), .inl ((xmg [23, 24, 25, 26, 27] 5 m q1.2) 27 (xix q1.1))]) rfl (Nat.le_of_ble_eq_true rfl) (c_L_frame _ _ _ _ (by first | decide | assumption | exact xw_1m0 (by assumption) | exact xw_1m1 (by assumption) | exact xw_ne1 (by assumption) | exact xw_n1m0 (by assumption)) _ _ hq3) rfl ?_
            refine x_loc [(0, .inr (.inr (some 0))), (1, .inl x1)] ⟨rfl, rfl, trivial⟩ ?_
            exact t_L_arrive_110 hd9 C hR ih _ _ h
          · obtain ⟨hk93, h⟩ := x_some h
            obtain ⟨q4, hq4, h⟩ := x_bind h
            refine x_callV C dX3_arrive_107 (xin_41 _ (List.mem_of_getElem? (i := 9) rfl)) xy_X3_acceptFrame (xi_X3_acceptFrame) (xs_X3_acceptFrame) [0, 12, 13, 14, 15, 16, 17, 18, 19, 20, 21, 22, 1, 2, 3, 4, 5, 6, 7, 8, 9, 10, 11, 23, 24, 25, 26, 27, 28, 29, 30, 31, 32, 33, 34, 35, 36, 37] xv_29 (by omega) (by decide) (b := 0) rfl ⟨_, _, rfl⟩ (av := [.inl ((xmg [23, 24, 25, 26, 27] 5 m q1.2) 25 (xix q1.1)), .inl ((xmg [23, 24, 25, 26, 27] 5 m q1.2) 26 (xix q1.1)), .inl ((xmg [23, 24, 25, 26, 27] 5 m q1.2) 27 (xix q1.1))]) rfl (Nat.le_of_ble_eq_true rfl) (c_L_frame_1 _ _ _ _ (by first | decide | assumption | exact xw_1m0 (by assumption) | exact xw_1m1 (by assumption) | exact xw_ne1 (by assumption) | exact xw_n1m0 (by assumption)) _ _ hq4) rfl ?_
            refine x_loc [(0, .inr (.inr (some 0))), (1, .inl x1)] ⟨rfl, rfl, trivial⟩ ?_
            exact t_L_arrive_110 hd9 C hR ih _ _ h
        · refine x_aload_n C dX3_arrive_52 rfl ?_
          refine x_iconst C dX3_arrive_53 ?_
          refine x_aload_n C dX3_arrive_54 rfl ?_
          refine x_getR C dX3_arrive_55 fF_X3_24 rfl rfl ?_
          refine x_getR C dX3_arrive_58 fF_X3_213 rfl rfl ?_
          refine x_iload_n C dX3_arrive_61 rfl ?_
          refine x_iaload C dX3_arrive_62 rfl h (fun h => ?_)
          refine x_isub C dX3_arrive_63 ?_
          refine x_aload_n C dX3_arrive_64 rfl ?_
          refine x_getR C dX3_arrive_65 fF_X3_24 rfl rfl ?_
          refine x_getR C dX3_arrive_68 fF_X3_216 rfl rfl ?_
          refine x_iload_n C dX3_arrive_71 rfl ?_
          refine x_iaload C dX3_arrive_72 rfl h (fun h => ?_)
          refine x_ite h (fun hk96 h => ?_) (fun _ h => ?_)
          · obtain ⟨q6, hq6, h⟩ := x_bind h
            refine x_callVI C dX3_arrive_73 (xin_41 _ (List.mem_of_getElem? (i := 2) rfl)) xy_X3_acceptAcknowledgement (xi_X3_acceptAcknowledgement) (xs_X3_acceptAcknowledgement) (by omega) (by decide) (b := 0) rfl ⟨_, _, rfl⟩ (av := [.inl (1 - ((xmg [23, 24, 25, 26, 27] 5 m q1.2) 25 (xix q1.1))), .inl ((xmg [23, 24, 25, 26, 27] 5 m q1.2) 26 (xix q1.1))]) rfl (Nat.le_of_ble_eq_true rfl) (c_L_ack _ _ _ (by first | decide | assumption | exact xw_1m0 (by assumption) | exact xw_1m1 (by assumption) | exact xw_ne1 (by assumption) | exact xw_n1m0 (by assumption)) _ _ hq6) rfl ?_
            refine x_goto C 110 dX3_arrive_76 (by decide) ?_
            refine x_loc [(0, .inr (.inr (some 0))), (1, .inl x1)] ⟨rfl, rfl, trivial⟩ ?_
            exact t_L_arrive_110 hd9 C hR ih _ _ h
          · obtain ⟨hk96, h⟩ := x_some h
            obtain ⟨q7, hq7, h⟩ := x_bind h
            refine x_callV C dX3_arrive_73 (xin_41 _ (List.mem_of_getElem? (i := 2) rfl)) xy_X3_acceptAcknowledgement (xi_X3_acceptAcknowledgement) (xs_X3_acceptAcknowledgement) [0, 12, 13, 14, 15, 16, 17, 18, 19, 20, 21, 22, 1, 2, 3, 4, 5, 6, 7, 8, 9, 10, 11, 23, 24, 25, 26, 27, 28, 29, 30, 31, 32, 33, 34, 35, 36, 37] xv_29 (by omega) (by decide) (b := 0) rfl ⟨_, _, rfl⟩ (av := [.inl (1 - ((xmg [23, 24, 25, 26, 27] 5 m q1.2) 25 (xix q1.1))), .inl ((xmg [23, 24, 25, 26, 27] 5 m q1.2) 26 (xix q1.1))]) rfl (Nat.le_of_ble_eq_true rfl) (c_L_ack_1 _ _ _ (by first | decide | assumption | exact xw_1m0 (by assumption) | exact xw_1m1 (by assumption) | exact xw_ne1 (by assumption) | exact xw_n1m0 (by assumption)) _ _ hq7) rfl ?_
            refine x_loc [(0, .inr (.inr (some 0))), (1, .inl x1)] ⟨rfl, rfl, trivial⟩ ?_
            exact t_L_arrive_76 hd9 C hR ih _ _ h
def f_L_arrive (m : xM) : Option (xM) :=
     f_L_arrive_2 fu 0 m
set_option maxRecDepth 1000000 in
set_option maxHeartbeats 4000000 in
theorem t_L_arrive {Γ : xG} {d : Nat} (hd9 : 5 ≤ d) (C : xC Γ lay_L0 RX3 cX3_arrive 3 d) {m9 : xM} (hR : xRv Γ lay_L0 cX3_arrive m9) (m : xM) (h : f_L_arrive m = some m9) : xW Γ lay_L0 3 0 [(0, .inr (.inr (some 0)))] [] m := by
  unfold f_L_arrive at h
  refine x_iconst C dX3_arrive_0 ?_
  refine x_istore_n C dX3_arrive_1 (by decide) ?_
  refine x_loc [(0, .inr (.inr (some 0))), (1, .inl 0)] ⟨rfl, rfl, trivial⟩ ?_
  exact t_L_arrive_2 hd9 C hR fu _ _ h
theorem c_L_arrive (l : Launch) (m m9 : xM) (h : f_L_arrive m = some m9) : xMet l yX3_arrive cX3_arrive 3 none 5 lay_L0 [.inr (.inr (some 0))] m none m9 :=
  xMet_v (by decide +kernel) (Nat.le_of_ble_eq_true rfl) (fun Γ C hR _ => t_L_arrive (Nat.le_refl _) C hR m h)
theorem fF_X3_42 : xF RX3 42 5 6 (.object "ModemLink$Dictionary") true := ⟨RX3, TX3, 17, tyX3, rfl, by decide, (xin_4 _ (List.mem_of_getElem? (i := 15) rfl)), rfl, inlX3, tyX3_ok, nmX3, rfl, rfl⟩
theorem fF_X3_315 : xF RX3 315 3 3 (.object "ModemLink$Dictionary") true := ⟨RX1, TX1, 11, tyX1, rfl, by decide, (xin_33 _ (List.mem_of_getElem? (i := 18) rfl)), rfl, inlX1, tyX1_ok, nmX1, rfl, rfl⟩
theorem xv_30 : xview lay_co lay_D2 [1, 2, 4, 5] := xview_of (by decide +kernel)
theorem xv_31 : xview lay_co lay_D [1, 2] := xview_of (by decide +kernel)
theorem dX3_costOf_0 : decode cX3_costOf 0 = .ok (.aload_n 0, 1) := by decide +kernel
theorem dX3_costOf_1 : decode cX3_costOf 1 = .ok (.getfield 42, 3) := by decide +kernel
theorem dX3_costOf_4 : decode cX3_costOf 4 = .ok (.aload_n 1, 1) := by decide +kernel
theorem dX3_costOf_5 : decode cX3_costOf 5 = .ok (.getfield 315, 3) := by decide +kernel
theorem dX3_costOf_8 : decode cX3_costOf 8 = .ok (.invokevirtual 318, 3) := by decide +kernel
theorem dX3_costOf_11 : decode cX3_costOf 11 = .ok (.iconst 4, 1) := by decide +kernel
theorem dX3_costOf_12 : decode cX3_costOf 12 = .ok (.istore 5, 2) := by decide +kernel
theorem dX3_costOf_14 : decode cX3_costOf 14 = .ok (.aload_n 1, 1) := by decide +kernel
theorem dX3_costOf_15 : decode cX3_costOf 15 = .ok (.getfield 264, 3) := by decide +kernel
theorem dX3_costOf_18 : decode cX3_costOf 18 = .ok (.ifCond .eq 14, 3) := by decide +kernel
theorem dX3_costOf_21 : decode cX3_costOf 21 = .ok (.aload_n 0, 1) := by decide +kernel
theorem dX3_costOf_22 : decode cX3_costOf 22 = .ok (.getfield 42, 3) := by decide +kernel
theorem dX3_costOf_25 : decode cX3_costOf 25 = .ok (.iconst 0, 1) := by decide +kernel
theorem dX3_costOf_26 : decode cX3_costOf 26 = .ok (.putfield 239, 3) := by decide +kernel
theorem dX3_costOf_29 : decode cX3_costOf 29 = .ok (.iinc 5 1, 3) := by decide +kernel
theorem dX3_costOf_32 : decode cX3_costOf 32 = .ok (.iload_n 3, 1) := by decide +kernel
theorem dX3_costOf_33 : decode cX3_costOf 33 = .ok (.istore 6, 2) := by decide +kernel
theorem dX3_costOf_35 : decode cX3_costOf 35 = .ok (.iload 6, 2) := by decide +kernel
theorem dX3_costOf_37 : decode cX3_costOf 37 = .ok (.iload_n 3, 1) := by decide +kernel
theorem dX3_costOf_38 : decode cX3_costOf 38 = .ok (.iload 4, 2) := by decide +kernel
theorem dX3_costOf_40 : decode cX3_costOf 40 = .ok (.iadd, 1) := by decide +kernel
theorem dX3_costOf_41 : decode cX3_costOf 41 = .ok (.if_icmp .ge 32, 3) := by decide +kernel
theorem dX3_costOf_44 : decode cX3_costOf 44 = .ok (.iload 6, 2) := by decide +kernel
theorem dX3_costOf_46 : decode cX3_costOf 46 = .ok (.aload_n 2, 1) := by decide +kernel
theorem dX3_costOf_47 : decode cX3_costOf 47 = .ok (.arraylength, 1) := by decide +kernel
theorem dX3_costOf_48 : decode cX3_costOf 48 = .ok (.if_icmp .ge 25, 3) := by decide +kernel
theorem dX3_costOf_51 : decode cX3_costOf 51 = .ok (.iload 5, 2) := by decide +kernel
theorem dX3_costOf_53 : decode cX3_costOf 53 = .ok (.aload_n 0, 1) := by decide +kernel
theorem dX3_costOf_54 : decode cX3_costOf 54 = .ok (.getfield 42, 3) := by decide +kernel
theorem dX3_costOf_57 : decode cX3_costOf 57 = .ok (.aload_n 2, 1) := by decide +kernel
theorem dX3_costOf_58 : decode cX3_costOf 58 = .ok (.iload 6, 2) := by decide +kernel
theorem dX3_costOf_60 : decode cX3_costOf 60 = .ok (.iaload, 1) := by decide +kernel
theorem dX3_costOf_61 : decode cX3_costOf 61 = .ok (.invokevirtual 324, 3) := by decide +kernel
theorem dX3_costOf_64 : decode cX3_costOf 64 = .ok (.iadd, 1) := by decide +kernel
theorem dX3_costOf_65 : decode cX3_costOf 65 = .ok (.istore 5, 2) := by decide +kernel
theorem dX3_costOf_67 : decode cX3_costOf 67 = .ok (.iinc 6 1, 3) := by decide +kernel
theorem dX3_costOf_70 : decode cX3_costOf 70 = .ok (.goto (-35), 3) := by decide +kernel
theorem dX3_costOf_73 : decode cX3_costOf 73 = .ok (.iload 5, 2) := by decide +kernel
theorem dX3_costOf_75 : decode cX3_costOf 75 = .ok (.ireturn, 1) := by decide +kernel
def f_L_cost_35 (a : Int) (z : Int) : Nat → Int → Int → xM → Option (Int × xM)
  | 0, _, _, _ => none
  | n + 1, x5, x6, m =>
     (if xw x6 < xw (a + z) then (if xw x6 < xw 200 then (if xib x6 200 then (Option.bind (f_D_put (m 6 (xix x6)) (xvw [1, 2] m)) fun q1 =>
      f_L_cost_35 a z n (x5 + q1.1) (x6 + 1) (xmg [1, 2] 2 m q1.2))
      else none)
      else some (x5, m))
      else some (x5, m))
set_option maxRecDepth 1000000 in
set_option maxHeartbeats 4000000 in
theorem t_L_cost_35 {Γ : xG} {d : Nat} (hd9 : 2 ≤ d) (C : xC Γ lay_co RX3 cX3_costOf 7 d) (a : Int) (z : Int) {r : Int} {m9 : xM} (hR : xRi Γ lay_co cX3_costOf r m9) : ∀ (n : Nat) (x5 : Int) (x6 : Int) (m : xM), f_L_cost_35 a z n x5 x6 m = some (r, m9) → xW Γ lay_co 7 35 [(0, .inr (.inr (some 0))), (2, .inr (.inr (some 6))), (3, .inl a), (4, .inl z), (5, .inl x5), (6, .inl x6)] [] m := by
  intro n
  induction n with
  | zero => intro _ _ _ h; cases h
  | succ n ih =>
    intro x5 x6 m h
    rw [f_L_cost_35] at h
    refine x_iload C dX3_costOf_35 rfl ?_
    refine x_iload_n C dX3_costOf_37 rfl ?_
    refine x_iload C dX3_costOf_38 rfl ?_
    refine x_iadd C dX3_costOf_40 ?_
    refine x_icmp_ge C 73 dX3_costOf_41 (by decide) h (fun h => ?_) (fun h => ?_)
    · refine x_iload C dX3_costOf_73 rfl ?_
      exact x_ireturn hR dX3_costOf_75 h
    · refine x_iload C dX3_costOf_44 rfl ?_
      refine x_aload_n C dX3_costOf_46 rfl ?_
      refine x_len C dX3_costOf_47 rfl ?_
      refine x_icmp_ge C 73 dX3_costOf_48 (by decide) h (fun h => ?_) (fun h => ?_)
      · refine x_iload C dX3_costOf_73 rfl ?_
        exact x_ireturn hR dX3_costOf_75 h
      · refine x_iload C dX3_costOf_51 rfl ?_
        refine x_aload_n C dX3_costOf_53 rfl ?_
        refine x_getR C dX3_costOf_54 fF_X3_42 rfl rfl ?_
        refine x_aload_n C dX3_costOf_57 rfl ?_
        refine x_iload C dX3_costOf_58 rfl ?_
        refine x_iaload C dX3_costOf_60 rfl h (fun h => ?_)
        obtain ⟨q1, hq1, h⟩ := x_bind h
        refine x_callV C dX3_costOf_61 (xin_34 _ (List.mem_of_getElem? (i := 3) rfl)) xy_X0_putInFront (xi_X0_putInFront) (xs_X0_putInFront) [1, 2] xv_31 (by omega) (by decide) (b := 0) rfl ⟨_, _, rfl⟩ (av := [.inl (m 6 (xix x6))]) rfl (Nat.le_of_ble_eq_true rfl) (c_D_put _ _ _ q1.1 q1.2 hq1) rfl ?_
        refine x_iadd C dX3_costOf_64 ?_
        refine x_istore C dX3_costOf_65 (by decide) ?_
        refine x_iinc C dX3_costOf_67 (by decide) rfl ?_
        refine x_goto C 35 dX3_costOf_70 (by decide) ?_
        refine x_loc [(0, .inr (.inr (some 0))), (2, .inr (.inr (some 6))), (3, .inl a), (4, .inl z), (5, .inl (x5 + q1.1)), (6, .inl (x6 + 1))] ⟨rfl, rfl, rfl, rfl, rfl, rfl, trivial⟩ ?_
        exact ih _ _ _ h
def f_L_cost_32 (a : Int) (z : Int) (x5 : Int) (m : xM) : Option (Int × xM) :=
     f_L_cost_35 a z fu x5 a m
set_option maxRecDepth 1000000 in
set_option maxHeartbeats 4000000 in
theorem t_L_cost_32 {Γ : xG} {d : Nat} (hd9 : 2 ≤ d) (C : xC Γ lay_co RX3 cX3_costOf 7 d) (a : Int) (z : Int) {r : Int} {m9 : xM} (hR : xRi Γ lay_co cX3_costOf r m9) (x5 : Int) (m : xM) (h : f_L_cost_32 a z x5 m = some (r, m9)) : xW Γ lay_co 7 32 [(0, .inr (.inr (some 0))), (2, .inr (.inr (some 6))), (3, .inl a), (4, .inl z), (5, .inl x5)] [] m := by
  unfold f_L_cost_32 at h
  refine x_iload_n C dX3_costOf_32 rfl ?_
  refine x_istore C dX3_costOf_33 (by decide) ?_
  refine x_loc [(0, .inr (.inr (some 0))), (2, .inr (.inr (some 6))), (3, .inl a), (4, .inl z), (5, .inl x5), (6, .inl a)] ⟨rfl, rfl, rfl, rfl, rfl, rfl, trivial⟩ ?_
  exact t_L_cost_35 hd9 C _ _ hR fu _ _ _ h
def f_L_cost (a : Int) (z : Int) (m : xM) : Option (Int × xM) :=
     (Option.bind (f_D_cp (xvw [1, 2, 4, 5] m)) fun q0 =>
      (if xw ((xmg [1, 2, 4, 5] 4 m q0) 3 10) = 0 then f_L_cost_32 a z 4 (xmg [1, 2, 4, 5] 4 m q0)
      else f_L_cost_32 a z (4 + 1) (xu (xmg [1, 2, 4, 5] 4 m q0) 1 1 0)))
set_option maxRecDepth 1000000 in
set_option maxHeartbeats 4000000 in
theorem t_L_cost {Γ : xG} {d : Nat} (hd9 : 2 ≤ d) (C : xC Γ lay_co RX3 cX3_costOf 7 d) (a : Int) (z : Int) {r : Int} {m9 : xM} (hR : xRi Γ lay_co cX3_costOf r m9) (m : xM) (h : f_L_cost a z m = some (r, m9)) : xW Γ lay_co 7 0 [(0, .inr (.inr (some 0))), (1, .inr (.inr (some 3))), (2, .inr (.inr (some 6))), (3, .inl a), (4, .inl z)] [] m := by
  unfold f_L_cost at h
  refine x_aload_n C dX3_costOf_0 rfl ?_
  refine x_getR C dX3_costOf_1 fF_X3_42 rfl rfl ?_
  refine x_aload_n C dX3_costOf_4 rfl ?_
  refine x_getR C dX3_costOf_5 fF_X3_315 rfl rfl ?_
  obtain ⟨q0, hq0, h⟩ := x_bind h
  refine x_callV C dX3_costOf_8 (xin_33 _ (List.mem_of_getElem? (i := 21) rfl)) xy_X0_copyFrom (xi_X0_copyFrom) (xs_X0_copyFrom) [1, 2, 4, 5] xv_30 (by omega) (by decide) (b := 0) rfl ⟨_, _, rfl⟩ (av := [.inr (.inr (some 2))]) rfl (Nat.le_of_ble_eq_true rfl) (c_D_cp _ _ _ hq0) rfl ?_
  refine x_iconst C dX3_costOf_11 ?_
  refine x_istore C dX3_costOf_12 (by decide) ?_
  refine x_aload_n C dX3_costOf_14 rfl ?_
  refine x_getI C dX3_costOf_15 fF_X3_264 rfl rfl ?_
  refine x_if_eq C 32 dX3_costOf_18 (by decide) h (fun h => ?_) (fun h => ?_)
  · refine x_loc [(0, .inr (.inr (some 0))), (2, .inr (.inr (some 6))), (3, .inl a), (4, .inl z), (5, .inl 4)] ⟨rfl, rfl, rfl, rfl, rfl, trivial⟩ ?_
    exact t_L_cost_32 hd9 C _ _ hR _ _ h
  · refine x_aload_n C dX3_costOf_21 rfl ?_
    refine x_getR C dX3_costOf_22 fF_X3_42 rfl rfl ?_
    refine x_iconst C dX3_costOf_25 ?_
    refine x_putI C dX3_costOf_26 fF_X3_239 rfl rfl ?_
    refine x_iinc C dX3_costOf_29 (by decide) rfl ?_
    refine x_loc [(0, .inr (.inr (some 0))), (2, .inr (.inr (some 6))), (3, .inl a), (4, .inl z), (5, .inl (4 + 1))] ⟨rfl, rfl, rfl, rfl, rfl, trivial⟩ ?_
    exact t_L_cost_32 hd9 C _ _ hR _ _ h
theorem c_L_cost (l : Launch) (a : Int) (z : Int) (m : xM) (r : Int) (m9 : xM) (h : f_L_cost a z m = some (r, m9)) : xMet l yX3_costOf cX3_costOf 7 (some .int) 2 lay_co [.inr (.inr (some 0)), .inr (.inr (some 3)), .inr (.inr (some 6)), .inl a, .inl z] m (some (.inl r)) m9 :=
  xMet_i (by decide +kernel) (Nat.le_of_ble_eq_true rfl) (fun Γ C hR _ => t_L_cost (Nat.le_refl _) C a z hR m h)
theorem xv_32 : xview lay_co56 lay_D2 [1, 2, 4, 5] := xview_of (by decide +kernel)
theorem xv_33 : xview lay_co56 lay_D [1, 2] := xview_of (by decide +kernel)
def f_L_cost56_35 (a : Int) (z : Int) : Nat → Int → Int → xM → Option (Int × xM)
  | 0, _, _, _ => none
  | n + 1, x5, x6, m =>
     (if xw x6 < xw (a + z) then (if xw x6 < xw 56 then (if xib x6 56 then (Option.bind (f_D_put (m 6 (xix x6)) (xvw [1, 2] m)) fun q1 =>
      f_L_cost56_35 a z n (x5 + q1.1) (x6 + 1) (xmg [1, 2] 2 m q1.2))
      else none)
      else some (x5, m))
      else some (x5, m))
set_option maxRecDepth 1000000 in
set_option maxHeartbeats 4000000 in
theorem t_L_cost56_35 {Γ : xG} {d : Nat} (hd9 : 2 ≤ d) (C : xC Γ lay_co56 RX3 cX3_costOf 7 d) (a : Int) (z : Int) {r : Int} {m9 : xM} (hR : xRi Γ lay_co56 cX3_costOf r m9) : ∀ (n : Nat) (x5 : Int) (x6 : Int) (m : xM), f_L_cost56_35 a z n x5 x6 m = some (r, m9) → xW Γ lay_co56 7 35 [(0, .inr (.inr (some 0))), (2, .inr (.inr (some 6))), (3, .inl a), (4, .inl z), (5, .inl x5), (6, .inl x6)] [] m := by
  intro n
  induction n with
  | zero => intro _ _ _ h; cases h
  | succ n ih =>
    intro x5 x6 m h
    rw [f_L_cost56_35] at h
    refine x_iload C dX3_costOf_35 rfl ?_
    refine x_iload_n C dX3_costOf_37 rfl ?_
    refine x_iload C dX3_costOf_38 rfl ?_
    refine x_iadd C dX3_costOf_40 ?_
    refine x_icmp_ge C 73 dX3_costOf_41 (by decide) h (fun h => ?_) (fun h => ?_)
    · refine x_iload C dX3_costOf_73 rfl ?_
      exact x_ireturn hR dX3_costOf_75 h
    · refine x_iload C dX3_costOf_44 rfl ?_
      refine x_aload_n C dX3_costOf_46 rfl ?_
      refine x_len C dX3_costOf_47 rfl ?_
      refine x_icmp_ge C 73 dX3_costOf_48 (by decide) h (fun h => ?_) (fun h => ?_)
      · refine x_iload C dX3_costOf_73 rfl ?_
        exact x_ireturn hR dX3_costOf_75 h
      · refine x_iload C dX3_costOf_51 rfl ?_
        refine x_aload_n C dX3_costOf_53 rfl ?_
        refine x_getR C dX3_costOf_54 fF_X3_42 rfl rfl ?_
        refine x_aload_n C dX3_costOf_57 rfl ?_
        refine x_iload C dX3_costOf_58 rfl ?_
        refine x_iaload C dX3_costOf_60 rfl h (fun h => ?_)
        obtain ⟨q1, hq1, h⟩ := x_bind h
        refine x_callV C dX3_costOf_61 (xin_34 _ (List.mem_of_getElem? (i := 3) rfl)) xy_X0_putInFront (xi_X0_putInFront) (xs_X0_putInFront) [1, 2] xv_33 (by omega) (by decide) (b := 0) rfl ⟨_, _, rfl⟩ (av := [.inl (m 6 (xix x6))]) rfl (Nat.le_of_ble_eq_true rfl) (c_D_put _ _ _ q1.1 q1.2 hq1) rfl ?_
        refine x_iadd C dX3_costOf_64 ?_
        refine x_istore C dX3_costOf_65 (by decide) ?_
        refine x_iinc C dX3_costOf_67 (by decide) rfl ?_
        refine x_goto C 35 dX3_costOf_70 (by decide) ?_
        refine x_loc [(0, .inr (.inr (some 0))), (2, .inr (.inr (some 6))), (3, .inl a), (4, .inl z), (5, .inl (x5 + q1.1)), (6, .inl (x6 + 1))] ⟨rfl, rfl, rfl, rfl, rfl, rfl, trivial⟩ ?_
        exact ih _ _ _ h
def f_L_cost56_32 (a : Int) (z : Int) (x5 : Int) (m : xM) : Option (Int × xM) :=
     f_L_cost56_35 a z fu x5 a m
set_option maxRecDepth 1000000 in
set_option maxHeartbeats 4000000 in
theorem t_L_cost56_32 {Γ : xG} {d : Nat} (hd9 : 2 ≤ d) (C : xC Γ lay_co56 RX3 cX3_costOf 7 d) (a : Int) (z : Int) {r : Int} {m9 : xM} (hR : xRi Γ lay_co56 cX3_costOf r m9) (x5 : Int) (m : xM) (h : f_L_cost56_32 a z x5 m = some (r, m9)) : xW Γ lay_co56 7 32 [(0, .inr (.inr (some 0))), (2, .inr (.inr (some 6))), (3, .inl a), (4, .inl z), (5, .inl x5)] [] m := by
  unfold f_L_cost56_32 at h
  refine x_iload_n C dX3_costOf_32 rfl ?_
  refine x_istore C dX3_costOf_33 (by decide) ?_
  refine x_loc [(0, .inr (.inr (some 0))), (2, .inr (.inr (some 6))), (3, .inl a), (4, .inl z), (5, .inl x5), (6, .inl a)] ⟨rfl, rfl, rfl, rfl, rfl, rfl, trivial⟩ ?_
  exact t_L_cost56_35 hd9 C _ _ hR fu _ _ _ h
def f_L_cost56 (a : Int) (z : Int) (m : xM) : Option (Int × xM) :=
     (Option.bind (f_D_cp (xvw [1, 2, 4, 5] m)) fun q0 =>
      (if xw ((xmg [1, 2, 4, 5] 4 m q0) 3 10) = 0 then f_L_cost56_32 a z 4 (xmg [1, 2, 4, 5] 4 m q0)
      else f_L_cost56_32 a z (4 + 1) (xu (xmg [1, 2, 4, 5] 4 m q0) 1 1 0)))
set_option maxRecDepth 1000000 in
set_option maxHeartbeats 4000000 in
theorem t_L_cost56 {Γ : xG} {d : Nat} (hd9 : 2 ≤ d) (C : xC Γ lay_co56 RX3 cX3_costOf 7 d) (a : Int) (z : Int) {r : Int} {m9 : xM} (hR : xRi Γ lay_co56 cX3_costOf r m9) (m : xM) (h : f_L_cost56 a z m = some (r, m9)) : xW Γ lay_co56 7 0 [(0, .inr (.inr (some 0))), (1, .inr (.inr (some 3))), (2, .inr (.inr (some 6))), (3, .inl a), (4, .inl z)] [] m := by
  unfold f_L_cost56 at h
  refine x_aload_n C dX3_costOf_0 rfl ?_
  refine x_getR C dX3_costOf_1 fF_X3_42 rfl rfl ?_
  refine x_aload_n C dX3_costOf_4 rfl ?_
  refine x_getR C dX3_costOf_5 fF_X3_315 rfl rfl ?_
  obtain ⟨q0, hq0, h⟩ := x_bind h
  refine x_callV C dX3_costOf_8 (xin_33 _ (List.mem_of_getElem? (i := 21) rfl)) xy_X0_copyFrom (xi_X0_copyFrom) (xs_X0_copyFrom) [1, 2, 4, 5] xv_32 (by omega) (by decide) (b := 0) rfl ⟨_, _, rfl⟩ (av := [.inr (.inr (some 2))]) rfl (Nat.le_of_ble_eq_true rfl) (c_D_cp _ _ _ hq0) rfl ?_
  refine x_iconst C dX3_costOf_11 ?_
  refine x_istore C dX3_costOf_12 (by decide) ?_
  refine x_aload_n C dX3_costOf_14 rfl ?_
  refine x_getI C dX3_costOf_15 fF_X3_264 rfl rfl ?_
  refine x_if_eq C 32 dX3_costOf_18 (by decide) h (fun h => ?_) (fun h => ?_)
  · refine x_loc [(0, .inr (.inr (some 0))), (2, .inr (.inr (some 6))), (3, .inl a), (4, .inl z), (5, .inl 4)] ⟨rfl, rfl, rfl, rfl, rfl, trivial⟩ ?_
    exact t_L_cost56_32 hd9 C _ _ hR _ _ h
  · refine x_aload_n C dX3_costOf_21 rfl ?_
    refine x_getR C dX3_costOf_22 fF_X3_42 rfl rfl ?_
    refine x_iconst C dX3_costOf_25 ?_
    refine x_putI C dX3_costOf_26 fF_X3_239 rfl rfl ?_
    refine x_iinc C dX3_costOf_29 (by decide) rfl ?_
    refine x_loc [(0, .inr (.inr (some 0))), (2, .inr (.inr (some 6))), (3, .inl a), (4, .inl z), (5, .inl (4 + 1))] ⟨rfl, rfl, rfl, rfl, rfl, trivial⟩ ?_
    exact t_L_cost56_32 hd9 C _ _ hR _ _ h
theorem c_L_cost56 (l : Launch) (a : Int) (z : Int) (m : xM) (r : Int) (m9 : xM) (h : f_L_cost56 a z m = some (r, m9)) : xMet l yX3_costOf cX3_costOf 7 (some .int) 2 lay_co56 [.inr (.inr (some 0)), .inr (.inr (some 3)), .inr (.inr (some 6)), .inl a, .inl z] m (some (.inl r)) m9 :=
  xMet_i (by decide +kernel) (Nat.le_of_ble_eq_true rfl) (fun Γ C hR _ => t_L_cost56 (Nat.le_refl _) C a z hR m h)
theorem xy_X6_noiseOf : xY yX6_noiseOf cX6_noiseOf 3 (some .int) 1 := ⟨(xin_44 _ (List.mem_of_getElem? (i := 11) rfl)), (xin_1 _ (List.mem_of_getElem? (i := 15) rfl)), by decide, by decide, by decide +kernel⟩
theorem xi_X6_noiseOf : Cond.instanceMethod yX6_noiseOf ∈ wsL_law := (xin_44 _ (List.mem_of_getElem? (i := 9) rfl))
theorem xs_X6_noiseOf : Cond.selects yX6_noiseOf.cls yX6_noiseOf yX6_noiseOf ∈ wsL_law := (xin_44 _ (List.mem_of_getElem? (i := 10) rfl))
theorem dX3_launch_0 : decode cX3_launch 0 = .ok (.aload_n 0, 1) := by decide +kernel
theorem dX3_launch_1 : decode cX3_launch 1 = .ok (.iload_n 1, 1) := by decide +kernel
theorem dX3_launch_2 : decode cX3_launch 2 = .ok (.invokevirtual 226, 3) := by decide +kernel
theorem dX3_launch_5 : decode cX3_launch 5 = .ok (.astore_n 2, 1) := by decide +kernel
theorem dX3_launch_6 : decode cX3_launch 6 = .ok (.aload_n 2, 1) := by decide +kernel
theorem dX3_launch_7 : decode cX3_launch 7 = .ok (.getfield 120, 3) := by decide +kernel
theorem dX3_launch_10 : decode cX3_launch 10 = .ok (.astore_n 3, 1) := by decide +kernel
theorem dX3_launch_11 : decode cX3_launch 11 = .ok (.aload_n 2, 1) := by decide +kernel
theorem dX3_launch_12 : decode cX3_launch 12 = .ok (.getfield 264, 3) := by decide +kernel
theorem dX3_launch_15 : decode cX3_launch 15 = .ok (.ifCond .eq 7, 3) := by decide +kernel
theorem dX3_launch_18 : decode cX3_launch 18 = .ok (.iconst 4, 1) := by decide +kernel
theorem dX3_launch_19 : decode cX3_launch 19 = .ok (.goto 4, 3) := by decide +kernel
theorem dX3_launch_22 : decode cX3_launch 22 = .ok (.iconst 0, 1) := by decide +kernel
theorem dX3_launch_23 : decode cX3_launch 23 = .ok (.istore 4, 2) := by decide +kernel
theorem dX3_launch_25 : decode cX3_launch 25 = .ok (.aload_n 0, 1) := by decide +kernel
theorem dX3_launch_26 : decode cX3_launch 26 = .ok (.getfield 46, 3) := by decide +kernel
theorem dX3_launch_29 : decode cX3_launch 29 = .ok (.aload_n 0, 1) := by decide +kernel
theorem dX3_launch_30 : decode cX3_launch 30 = .ok (.getfield 35, 3) := by decide +kernel
theorem dX3_launch_33 : decode cX3_launch 33 = .ok (.iconst 0, 1) := by decide +kernel
theorem dX3_launch_34 : decode cX3_launch 34 = .ok (.iaload, 1) := by decide +kernel
theorem dX3_launch_35 : decode cX3_launch 35 = .ok (.invokevirtual 327, 3) := by decide +kernel
theorem dX3_launch_38 : decode cX3_launch 38 = .ok (.aload_n 0, 1) := by decide +kernel
theorem dX3_launch_39 : decode cX3_launch 39 = .ok (.getfield 73, 3) := by decide +kernel
theorem dX3_launch_42 : decode cX3_launch 42 = .ok (.iadd, 1) := by decide +kernel
theorem dX3_launch_43 : decode cX3_launch 43 = .ok (.aload_n 0, 1) := by decide +kernel
theorem dX3_launch_44 : decode cX3_launch 44 = .ok (.getfield 72, 3) := by decide +kernel
theorem dX3_launch_47 : decode cX3_launch 47 = .ok (.if_icmp .le 19, 3) := by decide +kernel
theorem dX3_launch_50 : decode cX3_launch 50 = .ok (.iload 4, 2) := by decide +kernel
theorem dX3_launch_52 : decode cX3_launch 52 = .ok (.iconst 2, 1) := by decide +kernel
theorem dX3_launch_53 : decode cX3_launch 53 = .ok (.ior, 1) := by decide +kernel
theorem dX3_launch_54 : decode cX3_launch 54 = .ok (.istore 4, 2) := by decide +kernel
theorem dX3_launch_56 : decode cX3_launch 56 = .ok (.aload_n 0, 1) := by decide +kernel
theorem dX3_launch_57 : decode cX3_launch 57 = .ok (.getfield 35, 3) := by decide +kernel
theorem dX3_launch_60 : decode cX3_launch 60 = .ok (.iconst 1, 1) := by decide +kernel
theorem dX3_launch_61 : decode cX3_launch 61 = .ok (.dup2, 1) := by decide +kernel
theorem dX3_launch_62 : decode cX3_launch 62 = .ok (.iaload, 1) := by decide +kernel
theorem dX3_launch_63 : decode cX3_launch 63 = .ok (.iconst 1, 1) := by decide +kernel
theorem dX3_launch_64 : decode cX3_launch 64 = .ok (.iadd, 1) := by decide +kernel
theorem dX3_launch_65 : decode cX3_launch 65 = .ok (.iastore, 1) := by decide +kernel
theorem dX3_launch_66 : decode cX3_launch 66 = .ok (.aload_n 0, 1) := by decide +kernel
theorem dX3_launch_67 : decode cX3_launch 67 = .ok (.getfield 35, 3) := by decide +kernel
theorem dX3_launch_70 : decode cX3_launch 70 = .ok (.iconst 0, 1) := by decide +kernel
theorem dX3_launch_71 : decode cX3_launch 71 = .ok (.dup2, 1) := by decide +kernel
theorem dX3_launch_72 : decode cX3_launch 72 = .ok (.iaload, 1) := by decide +kernel
theorem dX3_launch_73 : decode cX3_launch 73 = .ok (.iconst 1, 1) := by decide +kernel
theorem dX3_launch_74 : decode cX3_launch 74 = .ok (.iadd, 1) := by decide +kernel
theorem dX3_launch_75 : decode cX3_launch 75 = .ok (.iastore, 1) := by decide +kernel
theorem dX3_launch_76 : decode cX3_launch 76 = .ok (.aload_n 0, 1) := by decide +kernel
theorem dX3_launch_77 : decode cX3_launch 77 = .ok (.getfield 24, 3) := by decide +kernel
theorem dX3_launch_80 : decode cX3_launch 80 = .ok (.aload_n 0, 1) := by decide +kernel
theorem dX3_launch_81 : decode cX3_launch 81 = .ok (.getfield 61, 3) := by decide +kernel
theorem dX3_launch_84 : decode cX3_launch 84 = .ok (.iload_n 1, 1) := by decide +kernel
theorem dX3_launch_85 : decode cX3_launch 85 = .ok (.aload_n 3, 1) := by decide +kernel
theorem dX3_launch_86 : decode cX3_launch 86 = .ok (.getfield 230, 3) := by decide +kernel
theorem dX3_launch_89 : decode cX3_launch 89 = .ok (.aload_n 3, 1) := by decide +kernel
theorem dX3_launch_90 : decode cX3_launch 90 = .ok (.getfield 255, 3) := by decide +kernel
theorem dX3_launch_93 : decode cX3_launch 93 = .ok (.iadd, 1) := by decide +kernel
theorem dX3_launch_94 : decode cX3_launch 94 = .ok (.iload 4, 2) := by decide +kernel
theorem dX3_launch_96 : decode cX3_launch 96 = .ok (.invokevirtual 252, 3) := by decide +kernel
theorem dX3_launch_99 : decode cX3_launch 99 = .ok (.aload_n 3, 1) := by decide +kernel
theorem dX3_launch_100 : decode cX3_launch 100 = .ok (.getfield 258, 3) := by decide +kernel
theorem dX3_launch_103 : decode cX3_launch 103 = .ok (.aload_n 3, 1) := by decide +kernel
theorem dX3_launch_104 : decode cX3_launch 104 = .ok (.aload_n 3, 1) := by decide +kernel
theorem dX3_launch_105 : decode cX3_launch 105 = .ok (.getfield 255, 3) := by decide +kernel
theorem dX3_launch_108 : decode cX3_launch 108 = .ok (.invokevirtual 240, 3) := by decide +kernel
theorem dX3_launch_111 : decode cX3_launch 111 = .ok (.aload_n 0, 1) := by decide +kernel
theorem dX3_launch_112 : decode cX3_launch 112 = .ok (.getfield 61, 3) := by decide +kernel
theorem dX3_launch_115 : decode cX3_launch 115 = .ok (.iastore, 1) := by decide +kernel
theorem dX3_launch_116 : decode cX3_launch 116 = .ok (.aload_n 3, 1) := by decide +kernel
theorem dX3_launch_117 : decode cX3_launch 117 = .ok (.dup, 1) := by decide +kernel
theorem dX3_launch_118 : decode cX3_launch 118 = .ok (.getfield 255, 3) := by decide +kernel
theorem dX3_launch_121 : decode cX3_launch 121 = .ok (.iconst 1, 1) := by decide +kernel
theorem dX3_launch_122 : decode cX3_launch 122 = .ok (.iadd, 1) := by decide +kernel
theorem dX3_launch_123 : decode cX3_launch 123 = .ok (.putfield 255, 3) := by decide +kernel
theorem dX3_launch_126 : decode cX3_launch 126 = .ok (.aload_n 2, 1) := by decide +kernel
theorem dX3_launch_127 : decode cX3_launch 127 = .ok (.iconst 0, 1) := by decide +kernel
theorem dX3_launch_128 : decode cX3_launch 128 = .ok (.putfield 264, 3) := by decide +kernel
theorem dX3_launch_131 : decode cX3_launch 131 = .ok (.return_, 1) := by decide +kernel
def f_L_launch_116 (e : Int) (m : xM) : Option (xM) :=
     some (xu (xu m 4 5 ((m 4 5) + 1)) 1 10 0)
set_option maxRecDepth 1000000 in
set_option maxHeartbeats 4000000 in
theorem t_L_launch_116 {Γ : xG} {d : Nat} (hd9 : 3 ≤ d) (C : xC Γ lay_L0 RX3 cX3_launch 5 d) (e : Int) (e_e : xw e = 0) {m9 : xM} (hR : xRv Γ lay_L0 cX3_launch m9) (m : xM) (h : f_L_launch_116 e m = some m9) : xW Γ lay_L0 5 116 [(2, .inr (.inr (some 1))), (3, .inr (.inr (some 4)))] [] m := by
  unfold f_L_launch_116 at h
  refine x_aload_n C dX3_launch_116 rfl ?_
  refine x_dup C dX3_launch_117 rfl ?_
  refine x_getI C dX3_launch_118 fF_X3_255 rfl rfl ?_
  refine x_iconst C dX3_launch_121 ?_
  refine x_iadd C dX3_launch_122 ?_
  refine x_putI C dX3_launch_123 fF_X3_255 rfl rfl ?_
  refine x_aload_n C dX3_launch_126 rfl ?_
  refine x_iconst C dX3_launch_127 ?_
  refine x_putZ C dX3_launch_128 fF_X3_264 rfl rfl (by decide) ?_
  exact x_returnV hR dX3_launch_131 h
def f_L_launch_66 (e : Int) (x4 : Int) (m : xM) : Option (xM) :=
     (if xib 0 11 then (if xib 0 11 then (Option.bind (f_W_put (m 0 7) e ((m 4 3) + (m 4 5)) x4 (xvw [23, 24, 25, 26, 27] (xu m 30 0 ((m 30 0) + 1)))) fun q2 =>
      (Option.bind (f_F_slot ((xmg [23, 24, 25, 26, 27] 5 (xu m 30 0 ((m 30 0) + 1)) q2) 4 5) (xvw [4, 5, 6, 7] (xmg [23, 24, 25, 26, 27] 5 (xu m 30 0 ((m 30 0) + 1)) q2))) fun q3 =>
      (if xib q3 7 then f_L_launch_116 e (xu (xmg [23, 24, 25, 26, 27] 5 (xu m 30 0 ((m 30 0) + 1)) q2) 7 (xix q3) ((xmg [23, 24, 25, 26, 27] 5 (xu m 30 0 ((m 30 0) + 1)) q2) 0 7))
      else none)))
      else none)
      else none)
set_option maxRecDepth 1000000 in
set_option maxHeartbeats 4000000 in
theorem t_L_launch_66 {Γ : xG} {d : Nat} (hd9 : 3 ≤ d) (C : xC Γ lay_L0 RX3 cX3_launch 5 d) (e : Int) (e_e : xw e = 0) {m9 : xM} (hR : xRv Γ lay_L0 cX3_launch m9) (x4 : Int) (m : xM) (h : f_L_launch_66 e x4 m = some m9) : xW Γ lay_L0 5 66 [(0, .inr (.inr (some 0))), (1, .inl e), (2, .inr (.inr (some 1))), (3, .inr (.inr (some 4))), (4, .inl x4)] [] m := by
  unfold f_L_launch_66 at h
  refine x_aload_n C dX3_launch_66 rfl ?_
  refine x_getR C dX3_launch_67 fF_X3_35 rfl rfl ?_
  refine x_iconst C dX3_launch_70 ?_
  refine x_dup2 C dX3_launch_71 rfl rfl ?_
  refine x_iaload C dX3_launch_72 rfl h (fun h => ?_)
  refine x_iconst C dX3_launch_73 ?_
  refine x_iadd C dX3_launch_74 ?_
  refine x_iastore C dX3_launch_75 rfl h (fun h => ?_)
  refine x_aload_n C dX3_launch_76 rfl ?_
  refine x_getR C dX3_launch_77 fF_X3_24 rfl rfl ?_
  refine x_aload_n C dX3_launch_80 rfl ?_
  refine x_getI C dX3_launch_81 fF_X3_61 rfl rfl ?_
  refine x_iload_n C dX3_launch_84 rfl ?_
  refine x_aload_n C dX3_launch_85 rfl ?_
  refine x_getI C dX3_launch_86 fF_X3_230 rfl rfl ?_
  refine x_aload_n C dX3_launch_89 rfl ?_
  refine x_getI C dX3_launch_90 fF_X3_255 rfl rfl ?_
  refine x_iadd C dX3_launch_93 ?_
  refine x_iload C dX3_launch_94 rfl ?_
  obtain ⟨q2, hq2, h⟩ := x_bind h
  refine x_callV C dX3_launch_96 (xin_41 _ (List.mem_of_getElem? (i := 22) rfl)) xy_X9_put (xi_X9_put) (xs_X9_put) [23, 24, 25, 26, 27] xv_26 (by omega) (by decide) (b := 0) rfl ⟨_, _, rfl⟩ (av := [.inl (m 0 7), .inl e, .inl ((m 4 3) + (m 4 5)), .inl x4]) rfl (Nat.le_of_ble_eq_true rfl) (c_W_put _ _ _ _ _ _ _ hq2) rfl ?_
  refine x_aload_n C dX3_launch_99 rfl ?_
  refine x_getR C dX3_launch_100 fF_X3_258 rfl rfl ?_
  refine x_aload_n C dX3_launch_103 rfl ?_
  refine x_aload_n C dX3_launch_104 rfl ?_
  refine x_getI C dX3_launch_105 fF_X3_255 rfl rfl ?_
  obtain ⟨q3, hq3, h⟩ := x_bind h
  refine x_callVp C dX3_launch_108 (xin_41 _ (List.mem_of_getElem? (i := 16) rfl)) xy_X2_slotOf (xi_X2_slotOf) (xs_X2_slotOf) [4, 5, 6, 7] xv_20 (by omega) (by decide) (b := 0) rfl ⟨_, _, rfl⟩ (av := [.inl ((xmg [23, 24, 25, 26, 27] 5 (xu m 30 0 ((m 30 0) + 1)) q2) 4 5)]) rfl (Nat.le_of_ble_eq_true rfl) (c_F_slot _ _ _ _ hq3) rfl ?_
  refine x_aload_n C dX3_launch_111 rfl ?_
  refine x_getI C dX3_launch_112 fF_X3_61 rfl rfl ?_
  refine x_iastore C dX3_launch_115 rfl h (fun h => ?_)
  refine x_loc [(2, .inr (.inr (some 1))), (3, .inr (.inr (some 4)))] ⟨rfl, rfl, trivial⟩ ?_
  exact t_L_launch_116 hd9 C _ e_e hR _ h
def f_L_launch_23 (e : Int) (s0 : Int) (m : xM) : Option (xM) :=
     (if xib 0 11 then (Option.bind (f_S_noise (m 30 0) (xvw [33, 34, 35, 36, 37] m)) fun q1 =>
      (if xw (m 0 9) < xw (q1 + (m 0 10)) then (if xib 1 11 then (if xib 1 11 then f_L_launch_66 e (xior s0 2) (xu m 30 1 ((m 30 1) + 1))
      else none)
      else none)
      else f_L_launch_66 e s0 m))
      else none)
set_option maxRecDepth 1000000 in
set_option maxHeartbeats 4000000 in
theorem t_L_launch_23 {Γ : xG} {d : Nat} (hd9 : 3 ≤ d) (C : xC Γ lay_L0 RX3 cX3_launch 5 d) (e : Int) (e_e : xw e = 0) {m9 : xM} (hR : xRv Γ lay_L0 cX3_launch m9) (s0 : Int) (m : xM) (h : f_L_launch_23 e s0 m = some m9) : xW Γ lay_L0 5 23 [(0, .inr (.inr (some 0))), (1, .inl e), (2, .inr (.inr (some 1))), (3, .inr (.inr (some 4)))] [.inl s0] m := by
  unfold f_L_launch_23 at h
  refine x_istore C dX3_launch_23 (by decide) ?_
  refine x_aload_n C dX3_launch_25 rfl ?_
  refine x_getR C dX3_launch_26 fF_X3_46 rfl rfl ?_
  refine x_aload_n C dX3_launch_29 rfl ?_
  refine x_getR C dX3_launch_30 fF_X3_35 rfl rfl ?_
  refine x_iconst C dX3_launch_33 ?_
  refine x_iaload C dX3_launch_34 rfl h (fun h => ?_)
  obtain ⟨q1, hq1, h⟩ := x_bind h
  refine x_callVp C dX3_launch_35 (xin_44 _ (List.mem_of_getElem? (i := 8) rfl)) xy_X6_noiseOf (xi_X6_noiseOf) (xs_X6_noiseOf) [33, 34, 35, 36, 37] xv_19 (by omega) (by decide) (b := 0) rfl ⟨_, _, rfl⟩ (av := [.inl (m 30 0)]) rfl (Nat.le_of_ble_eq_true rfl) (c_S_noise _ _ _ _ hq1) rfl ?_
  refine x_aload_n C dX3_launch_38 rfl ?_
  refine x_getI C dX3_launch_39 fF_X3_73 rfl rfl ?_
  refine x_iadd C dX3_launch_42 ?_
  refine x_aload_n C dX3_launch_43 rfl ?_
  refine x_getI C dX3_launch_44 fF_X3_72 rfl rfl ?_
  refine x_icmp_le C 66 dX3_launch_47 (by decide) h (fun h => ?_) (fun h => ?_)
  · refine x_loc [(0, .inr (.inr (some 0))), (1, .inl e), (2, .inr (.inr (some 1))), (3, .inr (.inr (some 4))), (4, .inl s0)] ⟨rfl, rfl, rfl, rfl, rfl, trivial⟩ ?_
    exact t_L_launch_66 hd9 C _ e_e hR _ _ h
  · refine x_iload C dX3_launch_50 rfl ?_
    refine x_iconst C dX3_launch_52 ?_
    refine x_ior C dX3_launch_53 ?_
    refine x_istore C dX3_launch_54 (by decide) ?_
    refine x_aload_n C dX3_launch_56 rfl ?_
    refine x_getR C dX3_launch_57 fF_X3_35 rfl rfl ?_
    refine x_iconst C dX3_launch_60 ?_
    refine x_dup2 C dX3_launch_61 rfl rfl ?_
    refine x_iaload C dX3_launch_62 rfl h (fun h => ?_)
    refine x_iconst C dX3_launch_63 ?_
    refine x_iadd C dX3_launch_64 ?_
    refine x_iastore C dX3_launch_65 rfl h (fun h => ?_)
    refine x_loc [(0, .inr (.inr (some 0))), (1, .inl e), (2, .inr (.inr (some 1))), (3, .inr (.inr (some 4))), (4, .inl (xior s0 2))] ⟨rfl, rfl, rfl, rfl, rfl, trivial⟩ ?_
    exact t_L_launch_66 hd9 C _ e_e hR _ _ h
def f_L_launch (e : Int) (m : xM) : Option (xM) :=
     (if xw (m 1 10) = 0 then f_L_launch_23 e 0 m
      else f_L_launch_23 e 4 m)
set_option maxRecDepth 1000000 in
set_option maxHeartbeats 4000000 in
theorem t_L_launch {Γ : xG} {d : Nat} (hd9 : 3 ≤ d) (C : xC Γ lay_L0 RX3 cX3_launch 5 d) (e : Int) (e_e : xw e = 0) {m9 : xM} (hR : xRv Γ lay_L0 cX3_launch m9) (m : xM) (h : f_L_launch e m = some m9) : xW Γ lay_L0 5 0 [(0, .inr (.inr (some 0))), (1, .inl e)] [] m := by
  unfold f_L_launch at h
  refine x_aload_n C dX3_launch_0 rfl ?_
  refine x_iload_n C dX3_launch_1 rfl ?_
  refine x_callVp C dX3_launch_2 (xin_41 _ (List.mem_of_getElem? (i := 7) rfl)) xy_X3_endOf (xi_X3_endOf) (xs_X3_endOf) [0, 33, 1, 12, 23, 28, 30, 31] xv_22 (by omega) (by decide) (b := 0) rfl ⟨_, _, rfl⟩ (av := [.inl e]) rfl (Nat.le_of_ble_eq_true rfl) (c_endOf0 _ _ _ (by first | decide | assumption | exact xw_1m0 (by assumption) | exact xw_1m1 (by assumption) | exact xw_ne1 (by assumption) | exact xw_n1m0 (by assumption))) rfl ?_
  refine x_astore_n C dX3_launch_5 (by decide) ?_
  refine x_aload_n C dX3_launch_6 rfl ?_
  refine x_getR C dX3_launch_7 fF_X3_120 rfl rfl ?_
  refine x_astore_n C dX3_launch_10 (by decide) ?_
  refine x_aload_n C dX3_launch_11 rfl ?_
  refine x_getI C dX3_launch_12 fF_X3_264 rfl rfl ?_
  refine x_if_eq C 22 dX3_launch_15 (by decide) h (fun h => ?_) (fun h => ?_)
  · refine x_iconst C dX3_launch_22 ?_
    refine x_loc [(0, .inr (.inr (some 0))), (1, .inl e), (2, .inr (.inr (some 1))), (3, .inr (.inr (some 4)))] ⟨rfl, rfl, rfl, rfl, trivial⟩ ?_
    exact t_L_launch_23 hd9 C _ e_e hR _ _ h
  · refine x_iconst C dX3_launch_18 ?_
    refine x_goto C 23 dX3_launch_19 (by decide) ?_
    refine x_loc [(0, .inr (.inr (some 0))), (1, .inl e), (2, .inr (.inr (some 1))), (3, .inr (.inr (some 4)))] ⟨rfl, rfl, rfl, rfl, trivial⟩ ?_
    exact t_L_launch_23 hd9 C _ e_e hR _ _ h
theorem c_L_launch (l : Launch) (e : Int) (e_e : xw e = 0) (m m9 : xM) (h : f_L_launch e m = some m9) : xMet l yX3_launch cX3_launch 5 none 3 lay_L0 [.inr (.inr (some 0)), .inl e] m none m9 :=
  xMet_v (by decide +kernel) (Nat.le_of_ble_eq_true rfl) (fun Γ C hR _ => t_L_launch (Nat.le_refl _) C e e_e hR m h)
theorem xv_34 : xview lay_L1 lay_S [33, 34, 35, 36, 37] := xview_of (by decide +kernel)
set_option maxRecDepth 1000000 in
set_option maxHeartbeats 4000000 in
theorem t_L_launch_116_1 {Γ : xG} {d : Nat} (hd9 : 3 ≤ d) (C : xC Γ lay_L1 RX3 cX3_launch 5 d) (e : Int) (e_e : xw e = 1) {m9 : xM} (hR : xRv Γ lay_L1 cX3_launch m9) (m : xM) (h : f_L_launch_116 e m = some m9) : xW Γ lay_L1 5 116 [(2, .inr (.inr (some 1))), (3, .inr (.inr (some 4)))] [] m := by
  unfold f_L_launch_116 at h
  refine x_aload_n C dX3_launch_116 rfl ?_
  refine x_dup C dX3_launch_117 rfl ?_
  refine x_getI C dX3_launch_118 fF_X3_255 rfl rfl ?_
  refine x_iconst C dX3_launch_121 ?_
  refine x_iadd C dX3_launch_122 ?_
  refine x_putI C dX3_launch_123 fF_X3_255 rfl rfl ?_
  refine x_aload_n C dX3_launch_126 rfl ?_
  refine x_iconst C dX3_launch_127 ?_
  refine x_putZ C dX3_launch_128 fF_X3_264 rfl rfl (by decide) ?_
  exact x_returnV hR dX3_launch_131 h
set_option maxRecDepth 1000000 in
set_option maxHeartbeats 4000000 in
theorem t_L_launch_66_1 {Γ : xG} {d : Nat} (hd9 : 3 ≤ d) (C : xC Γ lay_L1 RX3 cX3_launch 5 d) (e : Int) (e_e : xw e = 1) {m9 : xM} (hR : xRv Γ lay_L1 cX3_launch m9) (x4 : Int) (m : xM) (h : f_L_launch_66 e x4 m = some m9) : xW Γ lay_L1 5 66 [(0, .inr (.inr (some 0))), (1, .inl e), (2, .inr (.inr (some 1))), (3, .inr (.inr (some 4))), (4, .inl x4)] [] m := by
  unfold f_L_launch_66 at h
  refine x_aload_n C dX3_launch_66 rfl ?_
  refine x_getR C dX3_launch_67 fF_X3_35 rfl rfl ?_
  refine x_iconst C dX3_launch_70 ?_
  refine x_dup2 C dX3_launch_71 rfl rfl ?_
  refine x_iaload C dX3_launch_72 rfl h (fun h => ?_)
  refine x_iconst C dX3_launch_73 ?_
  refine x_iadd C dX3_launch_74 ?_
  refine x_iastore C dX3_launch_75 rfl h (fun h => ?_)
  refine x_aload_n C dX3_launch_76 rfl ?_
  refine x_getR C dX3_launch_77 fF_X3_24 rfl rfl ?_
  refine x_aload_n C dX3_launch_80 rfl ?_
  refine x_getI C dX3_launch_81 fF_X3_61 rfl rfl ?_
  refine x_iload_n C dX3_launch_84 rfl ?_
  refine x_aload_n C dX3_launch_85 rfl ?_
  refine x_getI C dX3_launch_86 fF_X3_230 rfl rfl ?_
  refine x_aload_n C dX3_launch_89 rfl ?_
  refine x_getI C dX3_launch_90 fF_X3_255 rfl rfl ?_
  refine x_iadd C dX3_launch_93 ?_
  refine x_iload C dX3_launch_94 rfl ?_
  obtain ⟨q2, hq2, h⟩ := x_bind h
  refine x_callV C dX3_launch_96 (xin_41 _ (List.mem_of_getElem? (i := 22) rfl)) xy_X9_put (xi_X9_put) (xs_X9_put) [23, 24, 25, 26, 27] xv_27 (by omega) (by decide) (b := 0) rfl ⟨_, _, rfl⟩ (av := [.inl (m 0 7), .inl e, .inl ((m 4 3) + (m 4 5)), .inl x4]) rfl (Nat.le_of_ble_eq_true rfl) (c_W_put _ _ _ _ _ _ _ hq2) rfl ?_
  refine x_aload_n C dX3_launch_99 rfl ?_
  refine x_getR C dX3_launch_100 fF_X3_258 rfl rfl ?_
  refine x_aload_n C dX3_launch_103 rfl ?_
  refine x_aload_n C dX3_launch_104 rfl ?_
  refine x_getI C dX3_launch_105 fF_X3_255 rfl rfl ?_
  obtain ⟨q3, hq3, h⟩ := x_bind h
  refine x_callVp C dX3_launch_108 (xin_41 _ (List.mem_of_getElem? (i := 16) rfl)) xy_X2_slotOf (xi_X2_slotOf) (xs_X2_slotOf) [4, 5, 6, 7] xv_24 (by omega) (by decide) (b := 0) rfl ⟨_, _, rfl⟩ (av := [.inl ((xmg [23, 24, 25, 26, 27] 5 (xu m 30 0 ((m 30 0) + 1)) q2) 4 5)]) rfl (Nat.le_of_ble_eq_true rfl) (c_F_slot _ _ _ _ hq3) rfl ?_
  refine x_aload_n C dX3_launch_111 rfl ?_
  refine x_getI C dX3_launch_112 fF_X3_61 rfl rfl ?_
  refine x_iastore C dX3_launch_115 rfl h (fun h => ?_)
  refine x_loc [(2, .inr (.inr (some 1))), (3, .inr (.inr (some 4)))] ⟨rfl, rfl, trivial⟩ ?_
  exact t_L_launch_116_1 hd9 C _ e_e hR _ h
set_option maxRecDepth 1000000 in
set_option maxHeartbeats 4000000 in
theorem t_L_launch_23_1 {Γ : xG} {d : Nat} (hd9 : 3 ≤ d) (C : xC Γ lay_L1 RX3 cX3_launch 5 d) (e : Int) (e_e : xw e = 1) {m9 : xM} (hR : xRv Γ lay_L1 cX3_launch m9) (s0 : Int) (m : xM) (h : f_L_launch_23 e s0 m = some m9) : xW Γ lay_L1 5 23 [(0, .inr (.inr (some 0))), (1, .inl e), (2, .inr (.inr (some 1))), (3, .inr (.inr (some 4)))] [.inl s0] m := by
  unfold f_L_launch_23 at h
  refine x_istore C dX3_launch_23 (by decide) ?_
  refine x_aload_n C dX3_launch_25 rfl ?_
  refine x_getR C dX3_launch_26 fF_X3_46 rfl rfl ?_
  refine x_aload_n C dX3_launch_29 rfl ?_
  refine x_getR C dX3_launch_30 fF_X3_35 rfl rfl ?_
  refine x_iconst C dX3_launch_33 ?_
  refine x_iaload C dX3_launch_34 rfl h (fun h => ?_)
  obtain ⟨q1, hq1, h⟩ := x_bind h
  refine x_callVp C dX3_launch_35 (xin_44 _ (List.mem_of_getElem? (i := 8) rfl)) xy_X6_noiseOf (xi_X6_noiseOf) (xs_X6_noiseOf) [33, 34, 35, 36, 37] xv_34 (by omega) (by decide) (b := 0) rfl ⟨_, _, rfl⟩ (av := [.inl (m 30 0)]) rfl (Nat.le_of_ble_eq_true rfl) (c_S_noise _ _ _ _ hq1) rfl ?_
  refine x_aload_n C dX3_launch_38 rfl ?_
  refine x_getI C dX3_launch_39 fF_X3_73 rfl rfl ?_
  refine x_iadd C dX3_launch_42 ?_
  refine x_aload_n C dX3_launch_43 rfl ?_
  refine x_getI C dX3_launch_44 fF_X3_72 rfl rfl ?_
  refine x_icmp_le C 66 dX3_launch_47 (by decide) h (fun h => ?_) (fun h => ?_)
  · refine x_loc [(0, .inr (.inr (some 0))), (1, .inl e), (2, .inr (.inr (some 1))), (3, .inr (.inr (some 4))), (4, .inl s0)] ⟨rfl, rfl, rfl, rfl, rfl, trivial⟩ ?_
    exact t_L_launch_66_1 hd9 C _ e_e hR _ _ h
  · refine x_iload C dX3_launch_50 rfl ?_
    refine x_iconst C dX3_launch_52 ?_
    refine x_ior C dX3_launch_53 ?_
    refine x_istore C dX3_launch_54 (by decide) ?_
    refine x_aload_n C dX3_launch_56 rfl ?_
    refine x_getR C dX3_launch_57 fF_X3_35 rfl rfl ?_
    refine x_iconst C dX3_launch_60 ?_
    refine x_dup2 C dX3_launch_61 rfl rfl ?_
    refine x_iaload C dX3_launch_62 rfl h (fun h => ?_)
    refine x_iconst C dX3_launch_63 ?_
    refine x_iadd C dX3_launch_64 ?_
    refine x_iastore C dX3_launch_65 rfl h (fun h => ?_)
    refine x_loc [(0, .inr (.inr (some 0))), (1, .inl e), (2, .inr (.inr (some 1))), (3, .inr (.inr (some 4))), (4, .inl (xior s0 2))] ⟨rfl, rfl, rfl, rfl, rfl, trivial⟩ ?_
    exact t_L_launch_66_1 hd9 C _ e_e hR _ _ h
set_option maxRecDepth 1000000 in
set_option maxHeartbeats 4000000 in
theorem t_L_launch_1 {Γ : xG} {d : Nat} (hd9 : 3 ≤ d) (C : xC Γ lay_L1 RX3 cX3_launch 5 d) (e : Int) (e_e : xw e = 1) {m9 : xM} (hR : xRv Γ lay_L1 cX3_launch m9) (m : xM) (h : f_L_launch e m = some m9) : xW Γ lay_L1 5 0 [(0, .inr (.inr (some 0))), (1, .inl e)] [] m := by
  unfold f_L_launch at h
  refine x_aload_n C dX3_launch_0 rfl ?_
  refine x_iload_n C dX3_launch_1 rfl ?_
  refine x_callVp C dX3_launch_2 (xin_41 _ (List.mem_of_getElem? (i := 7) rfl)) xy_X3_endOf (xi_X3_endOf) (xs_X3_endOf) [0, 33, 12, 1, 23, 28, 30, 31] xv_23 (by omega) (by decide) (b := 0) rfl ⟨_, _, rfl⟩ (av := [.inl e]) rfl (Nat.le_of_ble_eq_true rfl) (c_endOf1 _ _ _ (by first | decide | assumption | exact xw_1m0 (by assumption) | exact xw_1m1 (by assumption) | exact xw_ne1 (by assumption) | exact xw_n1m0 (by assumption))) rfl ?_
  refine x_astore_n C dX3_launch_5 (by decide) ?_
  refine x_aload_n C dX3_launch_6 rfl ?_
  refine x_getR C dX3_launch_7 fF_X3_120 rfl rfl ?_
  refine x_astore_n C dX3_launch_10 (by decide) ?_
  refine x_aload_n C dX3_launch_11 rfl ?_
  refine x_getI C dX3_launch_12 fF_X3_264 rfl rfl ?_
  refine x_if_eq C 22 dX3_launch_15 (by decide) h (fun h => ?_) (fun h => ?_)
  · refine x_iconst C dX3_launch_22 ?_
    refine x_loc [(0, .inr (.inr (some 0))), (1, .inl e), (2, .inr (.inr (some 1))), (3, .inr (.inr (some 4)))] ⟨rfl, rfl, rfl, rfl, trivial⟩ ?_
    exact t_L_launch_23_1 hd9 C _ e_e hR _ _ h
  · refine x_iconst C dX3_launch_18 ?_
    refine x_goto C 23 dX3_launch_19 (by decide) ?_
    refine x_loc [(0, .inr (.inr (some 0))), (1, .inl e), (2, .inr (.inr (some 1))), (3, .inr (.inr (some 4)))] ⟨rfl, rfl, rfl, rfl, trivial⟩ ?_
    exact t_L_launch_23_1 hd9 C _ e_e hR _ _ h
theorem c_L_launch_1 (l : Launch) (e : Int) (e_e : xw e = 1) (m m9 : xM) (h : f_L_launch e m = some m9) : xMet l yX3_launch cX3_launch 5 none 3 lay_L1 [.inr (.inr (some 0)), .inl e] m none m9 :=
  xMet_v (by decide +kernel) (Nat.le_of_ble_eq_true rfl) (fun Γ C hR _ => t_L_launch_1 (Nat.le_refl _) C e e_e hR m h)
theorem xy_X3_costOf : xY yX3_costOf cX3_costOf 7 (some .int) 4 := ⟨(xin_33 _ (List.mem_of_getElem? (i := 17) rfl)), (xin_1 _ (List.mem_of_getElem? (i := 20) rfl)), by decide, by decide, by decide +kernel⟩
theorem xi_X3_costOf : Cond.instanceMethod yX3_costOf ∈ wsL_law := (xin_33 _ (List.mem_of_getElem? (i := 15) rfl))
theorem xs_X3_costOf : Cond.selects yX3_costOf.cls yX3_costOf yX3_costOf ∈ wsL_law := (xin_33 _ (List.mem_of_getElem? (i := 16) rfl))
theorem xv_35 : xview lay_L0 lay_co56 [0, 31, 32, 1, 8, 9, 5, 33, 1, 12, 23, 28, 30, 2, 3, 4, 10] := xview_of (by decide +kernel)
theorem fF_X3_284 : xF RX3 284 3 8 .int false := ⟨RX1, TX1, 11, tyX1, rfl, by decide, (xin_43 _ (List.mem_of_getElem? (i := 3) rfl)), rfl, inlX1, tyX1_ok, nmX1, rfl, rfl⟩
theorem xv_36 : xview lay_L0 lay_D2 [8, 9, 31, 32] := xview_of (by decide +kernel)
theorem xy_X3_launch : xY yX3_launch cX3_launch 5 none 1 := ⟨(xin_44 _ (List.mem_of_getElem? (i := 7) rfl)), (xin_1 _ (List.mem_of_getElem? (i := 20) rfl)), by decide, by decide, by decide +kernel⟩
theorem xi_X3_launch : Cond.instanceMethod yX3_launch ∈ wsL_law := (xin_44 _ (List.mem_of_getElem? (i := 5) rfl))
theorem xs_X3_launch : Cond.selects yX3_launch.cls yX3_launch yX3_launch ∈ wsL_law := (xin_44 _ (List.mem_of_getElem? (i := 6) rfl))
theorem xy_X1_makeFrame : xY yX1_makeFrame cX1_makeFrame 3 none 0 := ⟨(xin_43 _ (List.mem_of_getElem? (i := 21) rfl)), (xin_4 _ (List.mem_of_getElem? (i := 0) rfl)), by decide, by decide, by decide +kernel⟩
theorem xi_X1_makeFrame : Cond.instanceMethod yX1_makeFrame ∈ wsL_law := (xin_43 _ (List.mem_of_getElem? (i := 19) rfl))
theorem xs_X1_makeFrame : Cond.selects yX1_makeFrame.cls yX1_makeFrame yX1_makeFrame ∈ wsL_law := (xin_43 _ (List.mem_of_getElem? (i := 20) rfl))
theorem fF_X3_302 : xF RX3 302 3 0 (.array .int) true := ⟨RX1, TX1, 11, tyX1, rfl, by decide, (xin_43 _ (List.mem_of_getElem? (i := 15) rfl)), rfl, inlX1, tyX1_ok, nmX1, rfl, rfl⟩
theorem xv_37 : xview lay_L0 lay_co [0, 31, 32, 1, 8, 9, 2, 33, 1, 12, 23, 28, 30, 2, 3, 4, 10] := xview_of (by decide +kernel)
theorem fF_X3_299 : xF RX3 299 8 9 .int false := ⟨RX6, TX6, 14, tyX6, rfl, by decide, (xin_43 _ (List.mem_of_getElem? (i := 14) rfl)), rfl, inlX6, tyX6_ok, nmX6, rfl, rfl⟩
theorem dX3_sendNext_0 : decode cX3_sendNext 0 = .ok (.aload_n 0, 1) := by decide +kernel
theorem dX3_sendNext_1 : decode cX3_sendNext 1 = .ok (.iload_n 1, 1) := by decide +kernel
theorem dX3_sendNext_2 : decode cX3_sendNext 2 = .ok (.invokevirtual 226, 3) := by decide +kernel
theorem dX3_sendNext_5 : decode cX3_sendNext 5 = .ok (.astore_n 2, 1) := by decide +kernel
theorem dX3_sendNext_6 : decode cX3_sendNext 6 = .ok (.aload_n 2, 1) := by decide +kernel
theorem dX3_sendNext_7 : decode cX3_sendNext 7 = .ok (.getfield 120, 3) := by decide +kernel
theorem dX3_sendNext_10 : decode cX3_sendNext 10 = .ok (.astore_n 3, 1) := by decide +kernel
theorem dX3_sendNext_11 : decode cX3_sendNext 11 = .ok (.aload_n 3, 1) := by decide +kernel
theorem dX3_sendNext_12 : decode cX3_sendNext 12 = .ok (.getfield 255, 3) := by decide +kernel
theorem dX3_sendNext_15 : decode cX3_sendNext 15 = .ok (.aload_n 3, 1) := by decide +kernel
theorem dX3_sendNext_16 : decode cX3_sendNext 16 = .ok (.getfield 124, 3) := by decide +kernel
theorem dX3_sendNext_19 : decode cX3_sendNext 19 = .ok (.if_icmp .ne 7, 3) := by decide +kernel
theorem dX3_sendNext_22 : decode cX3_sendNext 22 = .ok (.iconst 1, 1) := by decide +kernel
theorem dX3_sendNext_23 : decode cX3_sendNext 23 = .ok (.goto 4, 3) := by decide +kernel
theorem dX3_sendNext_26 : decode cX3_sendNext 26 = .ok (.iconst 0, 1) := by decide +kernel
theorem dX3_sendNext_27 : decode cX3_sendNext 27 = .ok (.istore 4, 2) := by decide +kernel
theorem dX3_sendNext_29 : decode cX3_sendNext 29 = .ok (.iload 4, 2) := by decide +kernel
theorem dX3_sendNext_31 : decode cX3_sendNext 31 = .ok (.ifCond .eq 26, 3) := by decide +kernel
theorem dX3_sendNext_34 : decode cX3_sendNext 34 = .ok (.aload_n 3, 1) := by decide +kernel
theorem dX3_sendNext_35 : decode cX3_sendNext 35 = .ok (.getfield 124, 3) := by decide +kernel
theorem dX3_sendNext_38 : decode cX3_sendNext 38 = .ok (.aload_n 0, 1) := by decide +kernel
theorem dX3_sendNext_39 : decode cX3_sendNext 39 = .ok (.getfield 46, 3) := by decide +kernel
theorem dX3_sendNext_42 : decode cX3_sendNext 42 = .ok (.getfield 299, 3) := by decide +kernel
theorem dX3_sendNext_45 : decode cX3_sendNext 45 = .ok (.if_icmp .ge 10, 3) := by decide +kernel
theorem dX3_sendNext_48 : decode cX3_sendNext 48 = .ok (.aload_n 2, 1) := by decide +kernel
theorem dX3_sendNext_49 : decode cX3_sendNext 49 = .ok (.getfield 117, 3) := by decide +kernel
theorem dX3_sendNext_52 : decode cX3_sendNext 52 = .ok (.ifCond .ne 5, 3) := by decide +kernel
theorem dX3_sendNext_55 : decode cX3_sendNext 55 = .ok (.iconst 0, 1) := by decide +kernel
theorem dX3_sendNext_56 : decode cX3_sendNext 56 = .ok (.ireturn, 1) := by decide +kernel
theorem dX3_sendNext_57 : decode cX3_sendNext 57 = .ok (.aload_n 3, 1) := by decide +kernel
theorem dX3_sendNext_58 : decode cX3_sendNext 58 = .ok (.aload_n 3, 1) := by decide +kernel
theorem dX3_sendNext_59 : decode cX3_sendNext 59 = .ok (.getfield 255, 3) := by decide +kernel
theorem dX3_sendNext_62 : decode cX3_sendNext 62 = .ok (.invokevirtual 240, 3) := by decide +kernel
theorem dX3_sendNext_65 : decode cX3_sendNext 65 = .ok (.istore 5, 2) := by decide +kernel
theorem dX3_sendNext_67 : decode cX3_sendNext 67 = .ok (.iload 4, 2) := by decide +kernel
theorem dX3_sendNext_69 : decode cX3_sendNext 69 = .ok (.ifCond .eq 20, 3) := by decide +kernel
theorem dX3_sendNext_72 : decode cX3_sendNext 72 = .ok (.aload_n 0, 1) := by decide +kernel
theorem dX3_sendNext_73 : decode cX3_sendNext 73 = .ok (.aload_n 2, 1) := by decide +kernel
theorem dX3_sendNext_74 : decode cX3_sendNext 74 = .ok (.aload_n 2, 1) := by decide +kernel
theorem dX3_sendNext_75 : decode cX3_sendNext 75 = .ok (.getfield 302, 3) := by decide +kernel
theorem dX3_sendNext_78 : decode cX3_sendNext 78 = .ok (.iconst 0, 1) := by decide +kernel
theorem dX3_sendNext_79 : decode cX3_sendNext 79 = .ok (.aload_n 2, 1) := by decide +kernel
theorem dX3_sendNext_80 : decode cX3_sendNext 80 = .ok (.invokevirtual 305, 3) := by decide +kernel
theorem dX3_sendNext_83 : decode cX3_sendNext 83 = .ok (.invokevirtual 308, 3) := by decide +kernel
theorem dX3_sendNext_86 : decode cX3_sendNext 86 = .ok (.goto 24, 3) := by decide +kernel
theorem dX3_sendNext_89 : decode cX3_sendNext 89 = .ok (.aload_n 0, 1) := by decide +kernel
theorem dX3_sendNext_90 : decode cX3_sendNext 90 = .ok (.aload_n 2, 1) := by decide +kernel
theorem dX3_sendNext_91 : decode cX3_sendNext 91 = .ok (.aload_n 3, 1) := by decide +kernel
theorem dX3_sendNext_92 : decode cX3_sendNext 92 = .ok (.getfield 246, 3) := by decide +kernel
theorem dX3_sendNext_95 : decode cX3_sendNext 95 = .ok (.iload 5, 2) := by decide +kernel
theorem dX3_sendNext_97 : decode cX3_sendNext 97 = .ok (.bipush 8, 2) := by decide +kernel
theorem dX3_sendNext_99 : decode cX3_sendNext 99 = .ok (.imul, 1) := by decide +kernel
theorem dX3_sendNext_100 : decode cX3_sendNext 100 = .ok (.aload_n 3, 1) := by decide +kernel
theorem dX3_sendNext_101 : decode cX3_sendNext 101 = .ok (.getfield 243, 3) := by decide +kernel
theorem dX3_sendNext_104 : decode cX3_sendNext 104 = .ok (.iload 5, 2) := by decide +kernel
theorem dX3_sendNext_106 : decode cX3_sendNext 106 = .ok (.iaload, 1) := by decide +kernel
theorem dX3_sendNext_107 : decode cX3_sendNext 107 = .ok (.invokevirtual 308, 3) := by decide +kernel
theorem dX3_sendNext_110 : decode cX3_sendNext 110 = .ok (.istore 6, 2) := by decide +kernel
theorem dX3_sendNext_112 : decode cX3_sendNext 112 = .ok (.iload 6, 2) := by decide +kernel
theorem dX3_sendNext_114 : decode cX3_sendNext 114 = .ok (.aload_n 2, 1) := by decide +kernel
theorem dX3_sendNext_115 : decode cX3_sendNext 115 = .ok (.getfield 284, 3) := by decide +kernel
theorem dX3_sendNext_118 : decode cX3_sendNext 118 = .ok (.if_icmp .le 5, 3) := by decide +kernel
theorem dX3_sendNext_121 : decode cX3_sendNext 121 = .ok (.iconst 0, 1) := by decide +kernel
theorem dX3_sendNext_122 : decode cX3_sendNext 122 = .ok (.ireturn, 1) := by decide +kernel
theorem dX3_sendNext_123 : decode cX3_sendNext 123 = .ok (.iload 4, 2) := by decide +kernel
theorem dX3_sendNext_125 : decode cX3_sendNext 125 = .ok (.ifCond .eq 7, 3) := by decide +kernel
theorem dX3_sendNext_128 : decode cX3_sendNext 128 = .ok (.aload_n 2, 1) := by decide +kernel
theorem dX3_sendNext_129 : decode cX3_sendNext 129 = .ok (.invokevirtual 312, 3) := by decide +kernel
theorem dX3_sendNext_132 : decode cX3_sendNext 132 = .ok (.aload_n 2, 1) := by decide +kernel
theorem dX3_sendNext_133 : decode cX3_sendNext 133 = .ok (.dup, 1) := by decide +kernel
theorem dX3_sendNext_134 : decode cX3_sendNext 134 = .ok (.getfield 284, 3) := by decide +kernel
theorem dX3_sendNext_137 : decode cX3_sendNext 137 = .ok (.iload 6, 2) := by decide +kernel
theorem dX3_sendNext_139 : decode cX3_sendNext 139 = .ok (.isub, 1) := by decide +kernel
theorem dX3_sendNext_140 : decode cX3_sendNext 140 = .ok (.putfield 284, 3) := by decide +kernel
theorem dX3_sendNext_143 : decode cX3_sendNext 143 = .ok (.aload_n 0, 1) := by decide +kernel
theorem dX3_sendNext_144 : decode cX3_sendNext 144 = .ok (.getfield 35, 3) := by decide +kernel
theorem dX3_sendNext_147 : decode cX3_sendNext 147 = .ok (.bipush 9, 2) := by decide +kernel
theorem dX3_sendNext_149 : decode cX3_sendNext 149 = .ok (.dup2, 1) := by decide +kernel
theorem dX3_sendNext_150 : decode cX3_sendNext 150 = .ok (.iaload, 1) := by decide +kernel
theorem dX3_sendNext_151 : decode cX3_sendNext 151 = .ok (.iload 6, 2) := by decide +kernel
theorem dX3_sendNext_153 : decode cX3_sendNext 153 = .ok (.iadd, 1) := by decide +kernel
theorem dX3_sendNext_154 : decode cX3_sendNext 154 = .ok (.iastore, 1) := by decide +kernel
theorem dX3_sendNext_155 : decode cX3_sendNext 155 = .ok (.aload_n 2, 1) := by decide +kernel
theorem dX3_sendNext_156 : decode cX3_sendNext 156 = .ok (.getfield 315, 3) := by decide +kernel
theorem dX3_sendNext_159 : decode cX3_sendNext 159 = .ok (.aload_n 0, 1) := by decide +kernel
theorem dX3_sendNext_160 : decode cX3_sendNext 160 = .ok (.getfield 42, 3) := by decide +kernel
theorem dX3_sendNext_163 : decode cX3_sendNext 163 = .ok (.invokevirtual 318, 3) := by decide +kernel
theorem dX3_sendNext_166 : decode cX3_sendNext 166 = .ok (.aload_n 0, 1) := by decide +kernel
theorem dX3_sendNext_167 : decode cX3_sendNext 167 = .ok (.iload_n 1, 1) := by decide +kernel
theorem dX3_sendNext_168 : decode cX3_sendNext 168 = .ok (.invokevirtual 321, 3) := by decide +kernel
theorem dX3_sendNext_171 : decode cX3_sendNext 171 = .ok (.iconst 1, 1) := by decide +kernel
theorem dX3_sendNext_172 : decode cX3_sendNext 172 = .ok (.ireturn, 1) := by decide +kernel
def f_L_sendNext_166 (e : Int) (m : xM) : Option (Int × xM) :=
     (Option.bind (f_L_launch e m) fun q4 =>
      some (1, q4))
set_option maxRecDepth 1000000 in
set_option maxHeartbeats 4000000 in
theorem t_L_sendNext_166 {Γ : xG} {d : Nat} (hd9 : 5 ≤ d) (C : xC Γ lay_L0 RX3 cX3_sendNext 7 d) (e : Int) (e_e : xw e = 0) {r : Int} {m9 : xM} (hR : xRz Γ lay_L0 cX3_sendNext r m9) (m : xM) (h : f_L_sendNext_166 e m = some (r, m9)) : xW Γ lay_L0 7 166 [(0, .inr (.inr (some 0))), (1, .inl e)] [] m := by
  unfold f_L_sendNext_166 at h
  refine x_aload_n C dX3_sendNext_166 rfl ?_
  refine x_iload_n C dX3_sendNext_167 rfl ?_
  obtain ⟨q4, hq4, h⟩ := x_bind h
  refine x_callVI C dX3_sendNext_168 (xin_44 _ (List.mem_of_getElem? (i := 4) rfl)) xy_X3_launch (xi_X3_launch) (xs_X3_launch) (by omega) (by decide) (b := 0) rfl ⟨_, _, rfl⟩ (av := [.inl e]) rfl (Nat.le_of_ble_eq_true rfl) (c_L_launch _ _ (by first | decide | assumption | exact xw_1m0 (by assumption) | exact xw_1m1 (by assumption) | exact xw_ne1 (by assumption) | exact xw_n1m0 (by assumption)) _ _ hq4) rfl ?_
  refine x_iconst C dX3_sendNext_171 ?_
  exact x_zreturn hR (by decide) dX3_sendNext_172 h
def f_L_sendNext_132 (e : Int) (x6 : Int) (m : xM) : Option (Int × xM) :=
     (if xib 9 11 then (if xib 9 11 then (Option.bind (f_D_cp (xvw [8, 9, 31, 32] (xu (xu m 1 8 ((m 1 8) - x6)) 30 9 ((m 30 9) + x6)))) fun q3 =>
      f_L_sendNext_166 e (xmg [8, 9, 31, 32] 4 (xu (xu m 1 8 ((m 1 8) - x6)) 30 9 ((m 30 9) + x6)) q3))
      else none)
      else none)
set_option maxRecDepth 1000000 in
set_option maxHeartbeats 4000000 in
theorem t_L_sendNext_132 {Γ : xG} {d : Nat} (hd9 : 5 ≤ d) (C : xC Γ lay_L0 RX3 cX3_sendNext 7 d) (e : Int) (e_e : xw e = 0) {r : Int} {m9 : xM} (hR : xRz Γ lay_L0 cX3_sendNext r m9) (x6 : Int) (m : xM) (h : f_L_sendNext_132 e x6 m = some (r, m9)) : xW Γ lay_L0 7 132 [(0, .inr (.inr (some 0))), (1, .inl e), (2, .inr (.inr (some 1))), (6, .inl x6)] [] m := by
  unfold f_L_sendNext_132 at h
  refine x_aload_n C dX3_sendNext_132 rfl ?_
  refine x_dup C dX3_sendNext_133 rfl ?_
  refine x_getI C dX3_sendNext_134 fF_X3_284 rfl rfl ?_
  refine x_iload C dX3_sendNext_137 rfl ?_
  refine x_isub C dX3_sendNext_139 ?_
  refine x_putI C dX3_sendNext_140 fF_X3_284 rfl rfl ?_
  refine x_aload_n C dX3_sendNext_143 rfl ?_
  refine x_getR C dX3_sendNext_144 fF_X3_35 rfl rfl ?_
  refine x_bipush C dX3_sendNext_147 (by decide) ?_
  refine x_dup2 C dX3_sendNext_149 rfl rfl ?_
  refine x_iaload C dX3_sendNext_150 rfl h (fun h => ?_)
  refine x_iload C dX3_sendNext_151 rfl ?_
  refine x_iadd C dX3_sendNext_153 ?_
  refine x_iastore C dX3_sendNext_154 rfl h (fun h => ?_)
  refine x_aload_n C dX3_sendNext_155 rfl ?_
  refine x_getR C dX3_sendNext_156 fF_X3_315 rfl rfl ?_
  refine x_aload_n C dX3_sendNext_159 rfl ?_
  refine x_getR C dX3_sendNext_160 fF_X3_42 rfl rfl ?_
  obtain ⟨q3, hq3, h⟩ := x_bind h
  refine x_callV C dX3_sendNext_163 (xin_33 _ (List.mem_of_getElem? (i := 21) rfl)) xy_X0_copyFrom (xi_X0_copyFrom) (xs_X0_copyFrom) [8, 9, 31, 32] xv_36 (by omega) (by decide) (b := 0) rfl ⟨_, _, rfl⟩ (av := [.inr (.inr (some 2))]) rfl (Nat.le_of_ble_eq_true rfl) (c_D_cp _ _ _ hq3) rfl ?_
  refine x_loc [(0, .inr (.inr (some 0))), (1, .inl e)] ⟨rfl, rfl, trivial⟩ ?_
  exact t_L_sendNext_166 hd9 C _ e_e hR _ h
def f_L_sendNext_110 (e : Int) (x4 : Int) (s0 : Int) (m : xM) : Option (Int × xM) :=
     (if xw (m 1 8) < xw s0 then some (0, m)
      else (if xw x4 = 0 then f_L_sendNext_132 e s0 m
      else (Option.bind (f_E_make (xvw [1, 2, 3, 4, 5, 6, 7, 8, 9, 10, 11] m)) fun q5 =>
      f_L_sendNext_132 e s0 (xmg [1, 2, 3, 4, 5, 6, 7, 8, 9, 10, 11] 11 m q5))))
set_option maxRecDepth 1000000 in
set_option maxHeartbeats 4000000 in
theorem t_L_sendNext_110 {Γ : xG} {d : Nat} (hd9 : 5 ≤ d) (C : xC Γ lay_L0 RX3 cX3_sendNext 7 d) (e : Int) (e_e : xw e = 0) {r : Int} {m9 : xM} (hR : xRz Γ lay_L0 cX3_sendNext r m9) (x4 : Int) (s0 : Int) (m : xM) (h : f_L_sendNext_110 e x4 s0 m = some (r, m9)) : xW Γ lay_L0 7 110 [(0, .inr (.inr (some 0))), (1, .inl e), (2, .inr (.inr (some 1))), (4, .inl x4)] [.inl s0] m := by
  unfold f_L_sendNext_110 at h
  refine x_istore C dX3_sendNext_110 (by decide) ?_
  refine x_iload C dX3_sendNext_112 rfl ?_
  refine x_aload_n C dX3_sendNext_114 rfl ?_
  refine x_getI C dX3_sendNext_115 fF_X3_284 rfl rfl ?_
  refine x_icmp_le C 123 dX3_sendNext_118 (by decide) h (fun h => ?_) (fun h => ?_)
  · refine x_iload C dX3_sendNext_123 rfl ?_
    refine x_if_eq C 132 dX3_sendNext_125 (by decide) h (fun h => ?_) (fun h => ?_)
    · refine x_loc [(0, .inr (.inr (some 0))), (1, .inl e), (2, .inr (.inr (some 1))), (6, .inl s0)] ⟨rfl, rfl, rfl, rfl, trivial⟩ ?_
      exact t_L_sendNext_132 hd9 C _ e_e hR _ _ h
    · refine x_aload_n C dX3_sendNext_128 rfl ?_
      obtain ⟨q5, hq5, h⟩ := x_bind h
      refine x_callV C dX3_sendNext_129 (xin_43 _ (List.mem_of_getElem? (i := 18) rfl)) xy_X1_makeFrame (xi_X1_makeFrame) (xs_X1_makeFrame) [1, 2, 3, 4, 5, 6, 7, 8, 9, 10, 11] xv_15 (by omega) (by decide) (b := 0) rfl ⟨_, _, rfl⟩ (av := []) rfl (Nat.le_of_ble_eq_true rfl) (c_E_make _ _ _ hq5) rfl ?_
      refine x_loc [(0, .inr (.inr (some 0))), (1, .inl e), (2, .inr (.inr (some 1))), (6, .inl s0)] ⟨rfl, rfl, rfl, rfl, trivial⟩ ?_
      exact t_L_sendNext_132 hd9 C _ e_e hR _ _ h
  · refine x_iconst C dX3_sendNext_121 ?_
    exact x_zreturn hR (by decide) dX3_sendNext_122 h
def f_L_sendNext_57 (e : Int) (x4 : Int) (m : xM) : Option (Int × xM) :=
     (Option.bind (f_F_slot (m 4 5) (xvw [4, 5, 6, 7] m)) fun q1 =>
      (if xw x4 = 0 then (if xib q1 7 then (Option.bind (f_L_cost56 (q1 * 8) (m 6 (xix q1)) (xvw [0, 31, 32, 1, 8, 9, 5, 33, 1, 12, 23, 28, 30, 2, 3, 4, 10] m)) fun q2 =>
      f_L_sendNext_110 e x4 q2.1 (xmg [0, 31, 32, 1, 8, 9, 5, 33, 1, 12, 23, 28, 30, 2, 3, 4, 10] 7 m q2.2))
      else none)
      else (Option.bind (f_E_next (xvw [1, 2, 3, 4, 5, 6, 7, 8, 9, 10, 11] m)) fun q6 =>
      (Option.bind (f_L_cost 0 q6 (xvw [0, 31, 32, 1, 8, 9, 2, 33, 1, 12, 23, 28, 30, 2, 3, 4, 10] m)) fun q7 =>
      f_L_sendNext_110 e x4 q7.1 (xmg [0, 31, 32, 1, 8, 9, 2, 33, 1, 12, 23, 28, 30, 2, 3, 4, 10] 7 m q7.2)))))
set_option maxRecDepth 1000000 in
set_option maxHeartbeats 4000000 in
theorem t_L_sendNext_57 {Γ : xG} {d : Nat} (hd9 : 5 ≤ d) (C : xC Γ lay_L0 RX3 cX3_sendNext 7 d) (e : Int) (e_e : xw e = 0) {r : Int} {m9 : xM} (hR : xRz Γ lay_L0 cX3_sendNext r m9) (x4 : Int) (m : xM) (h : f_L_sendNext_57 e x4 m = some (r, m9)) : xW Γ lay_L0 7 57 [(0, .inr (.inr (some 0))), (1, .inl e), (2, .inr (.inr (some 1))), (3, .inr (.inr (some 4))), (4, .inl x4)] [] m := by
  unfold f_L_sendNext_57 at h
  refine x_aload_n C dX3_sendNext_57 rfl ?_
  refine x_aload_n C dX3_sendNext_58 rfl ?_
  refine x_getI C dX3_sendNext_59 fF_X3_255 rfl rfl ?_
  obtain ⟨q1, hq1, h⟩ := x_bind h
  refine x_callVp C dX3_sendNext_62 (xin_41 _ (List.mem_of_getElem? (i := 16) rfl)) xy_X2_slotOf (xi_X2_slotOf) (xs_X2_slotOf) [4, 5, 6, 7] xv_20 (by omega) (by decide) (b := 0) rfl ⟨_, _, rfl⟩ (av := [.inl (m 4 5)]) rfl (Nat.le_of_ble_eq_true rfl) (c_F_slot _ _ _ _ hq1) rfl ?_
  refine x_istore C dX3_sendNext_65 (by decide) ?_
  refine x_iload C dX3_sendNext_67 rfl ?_
  refine x_if_eq C 89 dX3_sendNext_69 (by decide) h (fun h => ?_) (fun h => ?_)
  · refine x_aload_n C dX3_sendNext_89 rfl ?_
    refine x_aload_n C dX3_sendNext_90 rfl ?_
    refine x_aload_n C dX3_sendNext_91 rfl ?_
    refine x_getR C dX3_sendNext_92 fF_X3_246 rfl rfl ?_
    refine x_iload C dX3_sendNext_95 rfl ?_
    refine x_bipush C dX3_sendNext_97 (by decide) ?_
    refine x_imul C dX3_sendNext_99 ?_
    refine x_aload_n C dX3_sendNext_100 rfl ?_
    refine x_getR C dX3_sendNext_101 fF_X3_243 rfl rfl ?_
    refine x_iload C dX3_sendNext_104 rfl ?_
    refine x_iaload C dX3_sendNext_106 rfl h (fun h => ?_)
    obtain ⟨q2, hq2, h⟩ := x_bind h
    refine x_callV C dX3_sendNext_107 (xin_43 _ (List.mem_of_getElem? (i := 17) rfl)) xy_X3_costOf (xi_X3_costOf) (xs_X3_costOf) [0, 31, 32, 1, 8, 9, 5, 33, 1, 12, 23, 28, 30, 2, 3, 4, 10] xv_35 (by omega) (by decide) (b := 0) rfl ⟨_, _, rfl⟩ (av := [.inr (.inr (some 3)), .inr (.inr (some 6)), .inl (q1 * 8), .inl (m 6 (xix q1))]) rfl (Nat.le_of_ble_eq_true rfl) (c_L_cost56 _ _ _ _ q2.1 q2.2 hq2) rfl ?_
    refine x_loc [(0, .inr (.inr (some 0))), (1, .inl e), (2, .inr (.inr (some 1))), (4, .inl x4)] ⟨rfl, rfl, rfl, rfl, trivial⟩ ?_
    exact t_L_sendNext_110 hd9 C _ e_e hR _ _ _ h
  · refine x_aload_n C dX3_sendNext_72 rfl ?_
    refine x_aload_n C dX3_sendNext_73 rfl ?_
    refine x_aload_n C dX3_sendNext_74 rfl ?_
    refine x_getR C dX3_sendNext_75 fF_X3_302 rfl rfl ?_
    refine x_iconst C dX3_sendNext_78 ?_
    refine x_aload_n C dX3_sendNext_79 rfl ?_
    obtain ⟨q6, hq6, h⟩ := x_bind h
    refine x_callVp C dX3_sendNext_80 (xin_43 _ (List.mem_of_getElem? (i := 16) rfl)) xy_X1_nextFrameSize (xi_X1_nextFrameSize) (xs_X1_nextFrameSize) [1, 2, 3, 4, 5, 6, 7, 8, 9, 10, 11] xv_15 (by omega) (by decide) (b := 0) rfl ⟨_, _, rfl⟩ (av := []) rfl (Nat.le_of_ble_eq_true rfl) (c_E_next _ _ _ hq6) rfl ?_
    obtain ⟨q7, hq7, h⟩ := x_bind h
    refine x_callV C dX3_sendNext_83 (xin_43 _ (List.mem_of_getElem? (i := 17) rfl)) xy_X3_costOf (xi_X3_costOf) (xs_X3_costOf) [0, 31, 32, 1, 8, 9, 2, 33, 1, 12, 23, 28, 30, 2, 3, 4, 10] xv_37 (by omega) (by decide) (b := 0) rfl ⟨_, _, rfl⟩ (av := [.inr (.inr (some 3)), .inr (.inr (some 6)), .inl 0, .inl q6]) rfl (Nat.le_of_ble_eq_true rfl) (c_L_cost _ _ _ _ q7.1 q7.2 hq7) rfl ?_
    refine x_goto C 110 dX3_sendNext_86 (by decide) ?_
    refine x_loc [(0, .inr (.inr (some 0))), (1, .inl e), (2, .inr (.inr (some 1))), (4, .inl x4)] ⟨rfl, rfl, rfl, rfl, trivial⟩ ?_
    exact t_L_sendNext_110 hd9 C _ e_e hR _ _ _ h
def f_L_sendNext_27 (e : Int) (s0 : Int) (m : xM) : Option (Int × xM) :=
     (if xw s0 = 0 then f_L_sendNext_57 e s0 m
      else (if xw (m 4 4) < xw (m 33 9) then (if xw (m 1 5) = 0 then some (0, m)
      else f_L_sendNext_57 e s0 m)
      else some (0, m)))
set_option maxRecDepth 1000000 in
set_option maxHeartbeats 4000000 in
theorem t_L_sendNext_27 {Γ : xG} {d : Nat} (hd9 : 5 ≤ d) (C : xC Γ lay_L0 RX3 cX3_sendNext 7 d) (e : Int) (e_e : xw e = 0) {r : Int} {m9 : xM} (hR : xRz Γ lay_L0 cX3_sendNext r m9) (s0 : Int) (m : xM) (h : f_L_sendNext_27 e s0 m = some (r, m9)) : xW Γ lay_L0 7 27 [(0, .inr (.inr (some 0))), (1, .inl e), (2, .inr (.inr (some 1))), (3, .inr (.inr (some 4)))] [.inl s0] m := by
  unfold f_L_sendNext_27 at h
  refine x_istore C dX3_sendNext_27 (by decide) ?_
  refine x_iload C dX3_sendNext_29 rfl ?_
  refine x_if_eq C 57 dX3_sendNext_31 (by decide) h (fun h => ?_) (fun h => ?_)
  · refine x_loc [(0, .inr (.inr (some 0))), (1, .inl e), (2, .inr (.inr (some 1))), (3, .inr (.inr (some 4))), (4, .inl s0)] ⟨rfl, rfl, rfl, rfl, rfl, trivial⟩ ?_
    exact t_L_sendNext_57 hd9 C _ e_e hR _ _ h
  · refine x_aload_n C dX3_sendNext_34 rfl ?_
    refine x_getI C dX3_sendNext_35 fF_X3_124 rfl rfl ?_
    refine x_aload_n C dX3_sendNext_38 rfl ?_
    refine x_getR C dX3_sendNext_39 fF_X3_46 rfl rfl ?_
    refine x_getI C dX3_sendNext_42 fF_X3_299 rfl rfl ?_
    refine x_icmp_ge C 55 dX3_sendNext_45 (by decide) h (fun h => ?_) (fun h => ?_)
    · refine x_iconst C dX3_sendNext_55 ?_
      exact x_zreturn hR (by decide) dX3_sendNext_56 h
    · refine x_aload_n C dX3_sendNext_48 rfl ?_
      refine x_getI C dX3_sendNext_49 fF_X3_117 rfl rfl ?_
      refine x_if_ne C 57 dX3_sendNext_52 (by decide) h (fun h => ?_) (fun h => ?_)
      · refine x_loc [(0, .inr (.inr (some 0))), (1, .inl e), (2, .inr (.inr (some 1))), (3, .inr (.inr (some 4))), (4, .inl s0)] ⟨rfl, rfl, rfl, rfl, rfl, trivial⟩ ?_
        exact t_L_sendNext_57 hd9 C _ e_e hR _ _ h
      · refine x_iconst C dX3_sendNext_55 ?_
        exact x_zreturn hR (by decide) dX3_sendNext_56 h
def f_L_sendNext (e : Int) (m : xM) : Option (Int × xM) :=
     (if xw (m 4 5) = xw (m 4 4) then f_L_sendNext_27 e 1 m
      else f_L_sendNext_27 e 0 m)
set_option maxRecDepth 1000000 in
set_option maxHeartbeats 4000000 in
theorem t_L_sendNext {Γ : xG} {d : Nat} (hd9 : 5 ≤ d) (C : xC Γ lay_L0 RX3 cX3_sendNext 7 d) (e : Int) (e_e : xw e = 0) {r : Int} {m9 : xM} (hR : xRz Γ lay_L0 cX3_sendNext r m9) (m : xM) (h : f_L_sendNext e m = some (r, m9)) : xW Γ lay_L0 7 0 [(0, .inr (.inr (some 0))), (1, .inl e)] [] m := by
  unfold f_L_sendNext at h
  refine x_aload_n C dX3_sendNext_0 rfl ?_
  refine x_iload_n C dX3_sendNext_1 rfl ?_
  refine x_callVp C dX3_sendNext_2 (xin_41 _ (List.mem_of_getElem? (i := 7) rfl)) xy_X3_endOf (xi_X3_endOf) (xs_X3_endOf) [0, 33, 1, 12, 23, 28, 30, 31] xv_22 (by omega) (by decide) (b := 0) rfl ⟨_, _, rfl⟩ (av := [.inl e]) rfl (Nat.le_of_ble_eq_true rfl) (c_endOf0 _ _ _ (by first | decide | assumption | exact xw_1m0 (by assumption) | exact xw_1m1 (by assumption) | exact xw_ne1 (by assumption) | exact xw_n1m0 (by assumption))) rfl ?_
  refine x_astore_n C dX3_sendNext_5 (by decide) ?_
  refine x_aload_n C dX3_sendNext_6 rfl ?_
  refine x_getR C dX3_sendNext_7 fF_X3_120 rfl rfl ?_
  refine x_astore_n C dX3_sendNext_10 (by decide) ?_
  refine x_aload_n C dX3_sendNext_11 rfl ?_
  refine x_getI C dX3_sendNext_12 fF_X3_255 rfl rfl ?_
  refine x_aload_n C dX3_sendNext_15 rfl ?_
  refine x_getI C dX3_sendNext_16 fF_X3_124 rfl rfl ?_
  refine x_icmp_ne C 26 dX3_sendNext_19 (by decide) h (fun h => ?_) (fun h => ?_)
  · refine x_iconst C dX3_sendNext_26 ?_
    refine x_loc [(0, .inr (.inr (some 0))), (1, .inl e), (2, .inr (.inr (some 1))), (3, .inr (.inr (some 4)))] ⟨rfl, rfl, rfl, rfl, trivial⟩ ?_
    exact t_L_sendNext_27 hd9 C _ e_e hR _ _ h
  · refine x_iconst C dX3_sendNext_22 ?_
    refine x_goto C 27 dX3_sendNext_23 (by decide) ?_
    refine x_loc [(0, .inr (.inr (some 0))), (1, .inl e), (2, .inr (.inr (some 1))), (3, .inr (.inr (some 4)))] ⟨rfl, rfl, rfl, rfl, trivial⟩ ?_
    exact t_L_sendNext_27 hd9 C _ e_e hR _ _ h
theorem c_L_sendNext (l : Launch) (e : Int) (e_e : xw e = 0) (m : xM) (r : Int) (m9 : xM) (h : f_L_sendNext e m = some (r, m9)) : xMet l yX3_sendNext cX3_sendNext 7 (some .boolean) 5 lay_L0 [.inr (.inr (some 0)), .inl e] m (some (.inl r)) m9 :=
  xMet_z (by decide +kernel) (Nat.le_of_ble_eq_true rfl) (fun Γ C hR _ => t_L_sendNext (Nat.le_refl _) C e e_e hR m h)
theorem xv_38 : xview lay_L1 lay_co56 [0, 31, 32, 1, 8, 9, 5, 33, 12, 1, 23, 28, 30, 2, 3, 4, 10] := xview_of (by decide +kernel)
theorem xv_39 : xview lay_L1 lay_D2 [8, 9, 31, 32] := xview_of (by decide +kernel)
theorem xv_40 : xview lay_L1 lay_E [1, 2, 3, 4, 5, 6, 7, 8, 9, 10, 11] := xview_of (by decide +kernel)
theorem xv_41 : xview lay_L1 lay_co [0, 31, 32, 1, 8, 9, 2, 33, 12, 1, 23, 28, 30, 2, 3, 4, 10] := xview_of (by decide +kernel)
set_option maxRecDepth 1000000 in
set_option maxHeartbeats 4000000 in
theorem t_L_sendNext_166_1 {Γ : xG} {d : Nat} (hd9 : 5 ≤ d) (C : xC Γ lay_L1 RX3 cX3_sendNext 7 d) (e : Int) (e_e : xw e = 1) {r : Int} {m9 : xM} (hR : xRz Γ lay_L1 cX3_sendNext r m9) (m : xM) (h : f_L_sendNext_166 e m = some (r, m9)) : xW Γ lay_L1 7 166 [(0, .inr (.inr (some 0))), (1, .inl e)] [] m := by
  unfold f_L_sendNext_166 at h
  refine x_aload_n C dX3_sendNext_166 rfl ?_
  refine x_iload_n C dX3_sendNext_167 rfl ?_
  obtain ⟨q4, hq4, h⟩ := x_bind h
  refine x_callVI C dX3_sendNext_168 (xin_44 _ (List.mem_of_getElem? (i := 4) rfl)) xy_X3_launch (xi_X3_launch) (xs_X3_launch) (by omega) (by decide) (b := 0) rfl ⟨_, _, rfl⟩ (av := [.inl e]) rfl (Nat.le_of_ble_eq_true rfl) (c_L_launch_1 _ _ (by first | decide | assumption | exact xw_1m0 (by assumption) | exact xw_1m1 (by assumption) | exact xw_ne1 (by assumption) | exact xw_n1m0 (by assumption)) _ _ hq4) rfl ?_
  refine x_iconst C dX3_sendNext_171 ?_
  exact x_zreturn hR (by decide) dX3_sendNext_172 h
set_option maxRecDepth 1000000 in
set_option maxHeartbeats 4000000 in
theorem t_L_sendNext_132_1 {Γ : xG} {d : Nat} (hd9 : 5 ≤ d) (C : xC Γ lay_L1 RX3 cX3_sendNext 7 d) (e : Int) (e_e : xw e = 1) {r : Int} {m9 : xM} (hR : xRz Γ lay_L1 cX3_sendNext r m9) (x6 : Int) (m : xM) (h : f_L_sendNext_132 e x6 m = some (r, m9)) : xW Γ lay_L1 7 132 [(0, .inr (.inr (some 0))), (1, .inl e), (2, .inr (.inr (some 1))), (6, .inl x6)] [] m := by
  unfold f_L_sendNext_132 at h
  refine x_aload_n C dX3_sendNext_132 rfl ?_
  refine x_dup C dX3_sendNext_133 rfl ?_
  refine x_getI C dX3_sendNext_134 fF_X3_284 rfl rfl ?_
  refine x_iload C dX3_sendNext_137 rfl ?_
  refine x_isub C dX3_sendNext_139 ?_
  refine x_putI C dX3_sendNext_140 fF_X3_284 rfl rfl ?_
  refine x_aload_n C dX3_sendNext_143 rfl ?_
  refine x_getR C dX3_sendNext_144 fF_X3_35 rfl rfl ?_
  refine x_bipush C dX3_sendNext_147 (by decide) ?_
  refine x_dup2 C dX3_sendNext_149 rfl rfl ?_
  refine x_iaload C dX3_sendNext_150 rfl h (fun h => ?_)
  refine x_iload C dX3_sendNext_151 rfl ?_
  refine x_iadd C dX3_sendNext_153 ?_
  refine x_iastore C dX3_sendNext_154 rfl h (fun h => ?_)
  refine x_aload_n C dX3_sendNext_155 rfl ?_
  refine x_getR C dX3_sendNext_156 fF_X3_315 rfl rfl ?_
  refine x_aload_n C dX3_sendNext_159 rfl ?_
  refine x_getR C dX3_sendNext_160 fF_X3_42 rfl rfl ?_
  obtain ⟨q3, hq3, h⟩ := x_bind h
  refine x_callV C dX3_sendNext_163 (xin_33 _ (List.mem_of_getElem? (i := 21) rfl)) xy_X0_copyFrom (xi_X0_copyFrom) (xs_X0_copyFrom) [8, 9, 31, 32] xv_39 (by omega) (by decide) (b := 0) rfl ⟨_, _, rfl⟩ (av := [.inr (.inr (some 2))]) rfl (Nat.le_of_ble_eq_true rfl) (c_D_cp _ _ _ hq3) rfl ?_
  refine x_loc [(0, .inr (.inr (some 0))), (1, .inl e)] ⟨rfl, rfl, trivial⟩ ?_
  exact t_L_sendNext_166_1 hd9 C _ e_e hR _ h
set_option maxRecDepth 1000000 in
set_option maxHeartbeats 4000000 in
theorem t_L_sendNext_110_1 {Γ : xG} {d : Nat} (hd9 : 5 ≤ d) (C : xC Γ lay_L1 RX3 cX3_sendNext 7 d) (e : Int) (e_e : xw e = 1) {r : Int} {m9 : xM} (hR : xRz Γ lay_L1 cX3_sendNext r m9) (x4 : Int) (s0 : Int) (m : xM) (h : f_L_sendNext_110 e x4 s0 m = some (r, m9)) : xW Γ lay_L1 7 110 [(0, .inr (.inr (some 0))), (1, .inl e), (2, .inr (.inr (some 1))), (4, .inl x4)] [.inl s0] m := by
  unfold f_L_sendNext_110 at h
  refine x_istore C dX3_sendNext_110 (by decide) ?_
  refine x_iload C dX3_sendNext_112 rfl ?_
  refine x_aload_n C dX3_sendNext_114 rfl ?_
  refine x_getI C dX3_sendNext_115 fF_X3_284 rfl rfl ?_
  refine x_icmp_le C 123 dX3_sendNext_118 (by decide) h (fun h => ?_) (fun h => ?_)
  · refine x_iload C dX3_sendNext_123 rfl ?_
    refine x_if_eq C 132 dX3_sendNext_125 (by decide) h (fun h => ?_) (fun h => ?_)
    · refine x_loc [(0, .inr (.inr (some 0))), (1, .inl e), (2, .inr (.inr (some 1))), (6, .inl s0)] ⟨rfl, rfl, rfl, rfl, trivial⟩ ?_
      exact t_L_sendNext_132_1 hd9 C _ e_e hR _ _ h
    · refine x_aload_n C dX3_sendNext_128 rfl ?_
      obtain ⟨q5, hq5, h⟩ := x_bind h
      refine x_callV C dX3_sendNext_129 (xin_43 _ (List.mem_of_getElem? (i := 18) rfl)) xy_X1_makeFrame (xi_X1_makeFrame) (xs_X1_makeFrame) [1, 2, 3, 4, 5, 6, 7, 8, 9, 10, 11] xv_40 (by omega) (by decide) (b := 0) rfl ⟨_, _, rfl⟩ (av := []) rfl (Nat.le_of_ble_eq_true rfl) (c_E_make _ _ _ hq5) rfl ?_
      refine x_loc [(0, .inr (.inr (some 0))), (1, .inl e), (2, .inr (.inr (some 1))), (6, .inl s0)] ⟨rfl, rfl, rfl, rfl, trivial⟩ ?_
      exact t_L_sendNext_132_1 hd9 C _ e_e hR _ _ h
  · refine x_iconst C dX3_sendNext_121 ?_
    exact x_zreturn hR (by decide) dX3_sendNext_122 h
set_option maxRecDepth 1000000 in
set_option maxHeartbeats 4000000 in
theorem t_L_sendNext_57_1 {Γ : xG} {d : Nat} (hd9 : 5 ≤ d) (C : xC Γ lay_L1 RX3 cX3_sendNext 7 d) (e : Int) (e_e : xw e = 1) {r : Int} {m9 : xM} (hR : xRz Γ lay_L1 cX3_sendNext r m9) (x4 : Int) (m : xM) (h : f_L_sendNext_57 e x4 m = some (r, m9)) : xW Γ lay_L1 7 57 [(0, .inr (.inr (some 0))), (1, .inl e), (2, .inr (.inr (some 1))), (3, .inr (.inr (some 4))), (4, .inl x4)] [] m := by
  unfold f_L_sendNext_57 at h
  refine x_aload_n C dX3_sendNext_57 rfl ?_
  refine x_aload_n C dX3_sendNext_58 rfl ?_
  refine x_getI C dX3_sendNext_59 fF_X3_255 rfl rfl ?_
  obtain ⟨q1, hq1, h⟩ := x_bind h
  refine x_callVp C dX3_sendNext_62 (xin_41 _ (List.mem_of_getElem? (i := 16) rfl)) xy_X2_slotOf (xi_X2_slotOf) (xs_X2_slotOf) [4, 5, 6, 7] xv_24 (by omega) (by decide) (b := 0) rfl ⟨_, _, rfl⟩ (av := [.inl (m 4 5)]) rfl (Nat.le_of_ble_eq_true rfl) (c_F_slot _ _ _ _ hq1) rfl ?_
  refine x_istore C dX3_sendNext_65 (by decide) ?_
  refine x_iload C dX3_sendNext_67 rfl ?_
  refine x_if_eq C 89 dX3_sendNext_69 (by decide) h (fun h => ?_) (fun h => ?_)
  · refine x_aload_n C dX3_sendNext_89 rfl ?_
    refine x_aload_n C dX3_sendNext_90 rfl ?_
    refine x_aload_n C dX3_sendNext_91 rfl ?_
    refine x_getR C dX3_sendNext_92 fF_X3_246 rfl rfl ?_
    refine x_iload C dX3_sendNext_95 rfl ?_
    refine x_bipush C dX3_sendNext_97 (by decide) ?_
    refine x_imul C dX3_sendNext_99 ?_
    refine x_aload_n C dX3_sendNext_100 rfl ?_
    refine x_getR C dX3_sendNext_101 fF_X3_243 rfl rfl ?_
    refine x_iload C dX3_sendNext_104 rfl ?_
    refine x_iaload C dX3_sendNext_106 rfl h (fun h => ?_)
    obtain ⟨q2, hq2, h⟩ := x_bind h
    refine x_callV C dX3_sendNext_107 (xin_43 _ (List.mem_of_getElem? (i := 17) rfl)) xy_X3_costOf (xi_X3_costOf) (xs_X3_costOf) [0, 31, 32, 1, 8, 9, 5, 33, 12, 1, 23, 28, 30, 2, 3, 4, 10] xv_38 (by omega) (by decide) (b := 0) rfl ⟨_, _, rfl⟩ (av := [.inr (.inr (some 3)), .inr (.inr (some 6)), .inl (q1 * 8), .inl (m 6 (xix q1))]) rfl (Nat.le_of_ble_eq_true rfl) (c_L_cost56 _ _ _ _ q2.1 q2.2 hq2) rfl ?_
    refine x_loc [(0, .inr (.inr (some 0))), (1, .inl e), (2, .inr (.inr (some 1))), (4, .inl x4)] ⟨rfl, rfl, rfl, rfl, trivial⟩ ?_
    exact t_L_sendNext_110_1 hd9 C _ e_e hR _ _ _ h
  · refine x_aload_n C dX3_sendNext_72 rfl ?_
    refine x_aload_n C dX3_sendNext_73 rfl ?_
    refine x_aload_n C dX3_sendNext_74 rfl ?_
    refine x_getR C dX3_sendNext_75 fF_X3_302 rfl rfl ?_
    refine x_iconst C dX3_sendNext_78 ?_
    refine x_aload_n C dX3_sendNext_79 rfl ?_
    obtain ⟨q6, hq6, h⟩ := x_bind h
    refine x_callVp C dX3_sendNext_80 (xin_43 _ (List.mem_of_getElem? (i := 16) rfl)) xy_X1_nextFrameSize (xi_X1_nextFrameSize) (xs_X1_nextFrameSize) [1, 2, 3, 4, 5, 6, 7, 8, 9, 10, 11] xv_40 (by omega) (by decide) (b := 0) rfl ⟨_, _, rfl⟩ (av := []) rfl (Nat.le_of_ble_eq_true rfl) (c_E_next _ _ _ hq6) rfl ?_
    obtain ⟨q7, hq7, h⟩ := x_bind h
    refine x_callV C dX3_sendNext_83 (xin_43 _ (List.mem_of_getElem? (i := 17) rfl)) xy_X3_costOf (xi_X3_costOf) (xs_X3_costOf) [0, 31, 32, 1, 8, 9, 2, 33, 12, 1, 23, 28, 30, 2, 3, 4, 10] xv_41 (by omega) (by decide) (b := 0) rfl ⟨_, _, rfl⟩ (av := [.inr (.inr (some 3)), .inr (.inr (some 6)), .inl 0, .inl q6]) rfl (Nat.le_of_ble_eq_true rfl) (c_L_cost _ _ _ _ q7.1 q7.2 hq7) rfl ?_
    refine x_goto C 110 dX3_sendNext_86 (by decide) ?_
    refine x_loc [(0, .inr (.inr (some 0))), (1, .inl e), (2, .inr (.inr (some 1))), (4, .inl x4)] ⟨rfl, rfl, rfl, rfl, trivial⟩ ?_
    exact t_L_sendNext_110_1 hd9 C _ e_e hR _ _ _ h
set_option maxRecDepth 1000000 in
set_option maxHeartbeats 4000000 in
theorem t_L_sendNext_27_1 {Γ : xG} {d : Nat} (hd9 : 5 ≤ d) (C : xC Γ lay_L1 RX3 cX3_sendNext 7 d) (e : Int) (e_e : xw e = 1) {r : Int} {m9 : xM} (hR : xRz Γ lay_L1 cX3_sendNext r m9) (s0 : Int) (m : xM) (h : f_L_sendNext_27 e s0 m = some (r, m9)) : xW Γ lay_L1 7 27 [(0, .inr (.inr (some 0))), (1, .inl e), (2, .inr (.inr (some 1))), (3, .inr (.inr (some 4)))] [.inl s0] m := by
  unfold f_L_sendNext_27 at h
  refine x_istore C dX3_sendNext_27 (by decide) ?_
  refine x_iload C dX3_sendNext_29 rfl ?_
  refine x_if_eq C 57 dX3_sendNext_31 (by decide) h (fun h => ?_) (fun h => ?_)
  · refine x_loc [(0, .inr (.inr (some 0))), (1, .inl e), (2, .inr (.inr (some 1))), (3, .inr (.inr (some 4))), (4, .inl s0)] ⟨rfl, rfl, rfl, rfl, rfl, trivial⟩ ?_
    exact t_L_sendNext_57_1 hd9 C _ e_e hR _ _ h
  · refine x_aload_n C dX3_sendNext_34 rfl ?_
    refine x_getI C dX3_sendNext_35 fF_X3_124 rfl rfl ?_
    refine x_aload_n C dX3_sendNext_38 rfl ?_
    refine x_getR C dX3_sendNext_39 fF_X3_46 rfl rfl ?_
    refine x_getI C dX3_sendNext_42 fF_X3_299 rfl rfl ?_
    refine x_icmp_ge C 55 dX3_sendNext_45 (by decide) h (fun h => ?_) (fun h => ?_)
    · refine x_iconst C dX3_sendNext_55 ?_
      exact x_zreturn hR (by decide) dX3_sendNext_56 h
    · refine x_aload_n C dX3_sendNext_48 rfl ?_
      refine x_getI C dX3_sendNext_49 fF_X3_117 rfl rfl ?_
      refine x_if_ne C 57 dX3_sendNext_52 (by decide) h (fun h => ?_) (fun h => ?_)
      · refine x_loc [(0, .inr (.inr (some 0))), (1, .inl e), (2, .inr (.inr (some 1))), (3, .inr (.inr (some 4))), (4, .inl s0)] ⟨rfl, rfl, rfl, rfl, rfl, trivial⟩ ?_
        exact t_L_sendNext_57_1 hd9 C _ e_e hR _ _ h
      · refine x_iconst C dX3_sendNext_55 ?_
        exact x_zreturn hR (by decide) dX3_sendNext_56 h
set_option maxRecDepth 1000000 in
set_option maxHeartbeats 4000000 in
theorem t_L_sendNext_1 {Γ : xG} {d : Nat} (hd9 : 5 ≤ d) (C : xC Γ lay_L1 RX3 cX3_sendNext 7 d) (e : Int) (e_e : xw e = 1) {r : Int} {m9 : xM} (hR : xRz Γ lay_L1 cX3_sendNext r m9) (m : xM) (h : f_L_sendNext e m = some (r, m9)) : xW Γ lay_L1 7 0 [(0, .inr (.inr (some 0))), (1, .inl e)] [] m := by
  unfold f_L_sendNext at h
  refine x_aload_n C dX3_sendNext_0 rfl ?_
  refine x_iload_n C dX3_sendNext_1 rfl ?_
  refine x_callVp C dX3_sendNext_2 (xin_41 _ (List.mem_of_getElem? (i := 7) rfl)) xy_X3_endOf (xi_X3_endOf) (xs_X3_endOf) [0, 33, 12, 1, 23, 28, 30, 31] xv_23 (by omega) (by decide) (b := 0) rfl ⟨_, _, rfl⟩ (av := [.inl e]) rfl (Nat.le_of_ble_eq_true rfl) (c_endOf1 _ _ _ (by first | decide | assumption | exact xw_1m0 (by assumption) | exact xw_1m1 (by assumption) | exact xw_ne1 (by assumption) | exact xw_n1m0 (by assumption))) rfl ?_
  refine x_astore_n C dX3_sendNext_5 (by decide) ?_
  refine x_aload_n C dX3_sendNext_6 rfl ?_
  refine x_getR C dX3_sendNext_7 fF_X3_120 rfl rfl ?_
  refine x_astore_n C dX3_sendNext_10 (by decide) ?_
  refine x_aload_n C dX3_sendNext_11 rfl ?_
  refine x_getI C dX3_sendNext_12 fF_X3_255 rfl rfl ?_
  refine x_aload_n C dX3_sendNext_15 rfl ?_
  refine x_getI C dX3_sendNext_16 fF_X3_124 rfl rfl ?_
  refine x_icmp_ne C 26 dX3_sendNext_19 (by decide) h (fun h => ?_) (fun h => ?_)
  · refine x_iconst C dX3_sendNext_26 ?_
    refine x_loc [(0, .inr (.inr (some 0))), (1, .inl e), (2, .inr (.inr (some 1))), (3, .inr (.inr (some 4)))] ⟨rfl, rfl, rfl, rfl, trivial⟩ ?_
    exact t_L_sendNext_27_1 hd9 C _ e_e hR _ _ h
  · refine x_iconst C dX3_sendNext_22 ?_
    refine x_goto C 27 dX3_sendNext_23 (by decide) ?_
    refine x_loc [(0, .inr (.inr (some 0))), (1, .inl e), (2, .inr (.inr (some 1))), (3, .inr (.inr (some 4)))] ⟨rfl, rfl, rfl, rfl, trivial⟩ ?_
    exact t_L_sendNext_27_1 hd9 C _ e_e hR _ _ h
theorem c_L_sendNext_1 (l : Launch) (e : Int) (e_e : xw e = 1) (m : xM) (r : Int) (m9 : xM) (h : f_L_sendNext e m = some (r, m9)) : xMet l yX3_sendNext cX3_sendNext 7 (some .boolean) 5 lay_L1 [.inr (.inr (some 0)), .inl e] m (some (.inl r)) m9 :=
  xMet_z (by decide +kernel) (Nat.le_of_ble_eq_true rfl) (fun Γ C hR _ => t_L_sendNext_1 (Nat.le_refl _) C e e_e hR m h)
theorem xy_X6_speedOf : xY yX6_speedOf cX6_speedOf 2 (some .int) 1 := ⟨(xin_43 _ (List.mem_of_getElem? (i := 9) rfl)), (xin_1 _ (List.mem_of_getElem? (i := 15) rfl)), by decide, by decide, by decide +kernel⟩
theorem xi_X6_speedOf : Cond.instanceMethod yX6_speedOf ∈ wsL_law := (xin_43 _ (List.mem_of_getElem? (i := 7) rfl))
theorem xs_X6_speedOf : Cond.selects yX6_speedOf.cls yX6_speedOf yX6_speedOf ∈ wsL_law := (xin_43 _ (List.mem_of_getElem? (i := 8) rfl))
theorem fF_X3_293 : xF RX3 293 3 9 .boolean false := ⟨RX1, TX1, 11, tyX1, rfl, by decide, (xin_43 _ (List.mem_of_getElem? (i := 5) rfl)), rfl, inlX1, tyX1_ok, nmX1, rfl, rfl⟩
theorem xy_X3_sendNext : xY yX3_sendNext cX3_sendNext 7 (some .boolean) 1 := ⟨(xin_43 _ (List.mem_of_getElem? (i := 13) rfl)), (xin_1 _ (List.mem_of_getElem? (i := 20) rfl)), by decide, by decide, by decide +kernel⟩
theorem xi_X3_sendNext : Cond.instanceMethod yX3_sendNext ∈ wsL_law := (xin_43 _ (List.mem_of_getElem? (i := 11) rfl))
theorem xs_X3_sendNext : Cond.selects yX3_sendNext.cls yX3_sendNext yX3_sendNext ∈ wsL_law := (xin_43 _ (List.mem_of_getElem? (i := 12) rfl))
theorem dX3_sendFrom_0 : decode cX3_sendFrom 0 = .ok (.aload_n 0, 1) := by decide +kernel
theorem dX3_sendFrom_1 : decode cX3_sendFrom 1 = .ok (.iload_n 1, 1) := by decide +kernel
theorem dX3_sendFrom_2 : decode cX3_sendFrom 2 = .ok (.invokevirtual 226, 3) := by decide +kernel
theorem dX3_sendFrom_5 : decode cX3_sendFrom 5 = .ok (.astore_n 2, 1) := by decide +kernel
theorem dX3_sendFrom_6 : decode cX3_sendFrom 6 = .ok (.aload_n 0, 1) := by decide +kernel
theorem dX3_sendFrom_7 : decode cX3_sendFrom 7 = .ok (.getfield 46, 3) := by decide +kernel
theorem dX3_sendFrom_10 : decode cX3_sendFrom 10 = .ok (.aload_n 0, 1) := by decide +kernel
theorem dX3_sendFrom_11 : decode cX3_sendFrom 11 = .ok (.getfield 73, 3) := by decide +kernel
theorem dX3_sendFrom_14 : decode cX3_sendFrom 14 = .ok (.invokevirtual 281, 3) := by decide +kernel
theorem dX3_sendFrom_17 : decode cX3_sendFrom 17 = .ok (.istore_n 3, 1) := by decide +kernel
theorem dX3_sendFrom_18 : decode cX3_sendFrom 18 = .ok (.aload_n 2, 1) := by decide +kernel
theorem dX3_sendFrom_19 : decode cX3_sendFrom 19 = .ok (.aload_n 2, 1) := by decide +kernel
theorem dX3_sendFrom_20 : decode cX3_sendFrom 20 = .ok (.getfield 284, 3) := by decide +kernel
theorem dX3_sendFrom_23 : decode cX3_sendFrom 23 = .ok (.iload_n 3, 1) := by decide +kernel
theorem dX3_sendFrom_24 : decode cX3_sendFrom 24 = .ok (.iadd, 1) := by decide +kernel
theorem dX3_sendFrom_25 : decode cX3_sendFrom 25 = .ok (.iload_n 3, 1) := by decide +kernel
theorem dX3_sendFrom_26 : decode cX3_sendFrom 26 = .ok (.bipush 28, 2) := by decide +kernel
theorem dX3_sendFrom_28 : decode cX3_sendFrom 28 = .ok (.iadd, 1) := by decide +kernel
theorem dX3_sendFrom_29 : decode cX3_sendFrom 29 = .ok (.invokestatic 287, 3) := by decide +kernel
theorem dX3_sendFrom_32 : decode cX3_sendFrom 32 = .ok (.putfield 284, 3) := by decide +kernel
theorem dX3_sendFrom_35 : decode cX3_sendFrom 35 = .ok (.aload_n 2, 1) := by decide +kernel
theorem dX3_sendFrom_36 : decode cX3_sendFrom 36 = .ok (.getfield 293, 3) := by decide +kernel
theorem dX3_sendFrom_39 : decode cX3_sendFrom 39 = .ok (.ifCond .ne 7, 3) := by decide +kernel
theorem dX3_sendFrom_42 : decode cX3_sendFrom 42 = .ok (.iconst 1, 1) := by decide +kernel
theorem dX3_sendFrom_43 : decode cX3_sendFrom 43 = .ok (.goto 4, 3) := by decide +kernel
theorem dX3_sendFrom_46 : decode cX3_sendFrom 46 = .ok (.iconst 0, 1) := by decide +kernel
theorem dX3_sendFrom_47 : decode cX3_sendFrom 47 = .ok (.istore 4, 2) := by decide +kernel
theorem dX3_sendFrom_49 : decode cX3_sendFrom 49 = .ok (.iconst 0, 1) := by decide +kernel
theorem dX3_sendFrom_50 : decode cX3_sendFrom 50 = .ok (.istore 5, 2) := by decide +kernel
theorem dX3_sendFrom_52 : decode cX3_sendFrom 52 = .ok (.iload 5, 2) := by decide +kernel
theorem dX3_sendFrom_54 : decode cX3_sendFrom 54 = .ok (.bipush 7, 2) := by decide +kernel
theorem dX3_sendFrom_56 : decode cX3_sendFrom 56 = .ok (.if_icmp .ge 21, 3) := by decide +kernel
theorem dX3_sendFrom_59 : decode cX3_sendFrom 59 = .ok (.iload 4, 2) := by decide +kernel
theorem dX3_sendFrom_61 : decode cX3_sendFrom 61 = .ok (.ifCond .eq 16, 3) := by decide +kernel
theorem dX3_sendFrom_64 : decode cX3_sendFrom 64 = .ok (.aload_n 0, 1) := by decide +kernel
theorem dX3_sendFrom_65 : decode cX3_sendFrom 65 = .ok (.iload_n 1, 1) := by decide +kernel
theorem dX3_sendFrom_66 : decode cX3_sendFrom 66 = .ok (.invokevirtual 296, 3) := by decide +kernel
theorem dX3_sendFrom_69 : decode cX3_sendFrom 69 = .ok (.istore 4, 2) := by decide +kernel
theorem dX3_sendFrom_71 : decode cX3_sendFrom 71 = .ok (.iinc 5 1, 3) := by decide +kernel
theorem dX3_sendFrom_74 : decode cX3_sendFrom 74 = .ok (.goto (-22), 3) := by decide +kernel
theorem dX3_sendFrom_77 : decode cX3_sendFrom 77 = .ok (.return_, 1) := by decide +kernel
def f_L_sendFrom_52 (e : Int) : Nat → Int → Int → xM → Option (xM)
  | 0, _, _, _ => none
  | n + 1, x4, x5, m =>
     (if xw x5 < xw 7 then (if xw x4 = 0 then some m
      else (Option.bind (f_L_sendNext e m) fun q2 =>
      f_L_sendFrom_52 e n q2.1 (x5 + 1) q2.2))
      else some m)
set_option maxRecDepth 1000000 in
set_option maxHeartbeats 4000000 in
theorem t_L_sendFrom_52 {Γ : xG} {d : Nat} (hd9 : 6 ≤ d) (C : xC Γ lay_L0 RX3 cX3_sendFrom 6 d) (e : Int) (e_e : xw e = 0) {m9 : xM} (hR : xRv Γ lay_L0 cX3_sendFrom m9) : ∀ (n : Nat) (x4 : Int) (x5 : Int) (m : xM), f_L_sendFrom_52 e n x4 x5 m = some m9 → xW Γ lay_L0 6 52 [(0, .inr (.inr (some 0))), (1, .inl e), (4, .inl x4), (5, .inl x5)] [] m := by
  intro n
  induction n with
  | zero => intro _ _ _ h; cases h
  | succ n ih =>
    intro x4 x5 m h
    rw [f_L_sendFrom_52] at h
    refine x_iload C dX3_sendFrom_52 rfl ?_
    refine x_bipush C dX3_sendFrom_54 (by decide) ?_
    refine x_icmp_ge C 77 dX3_sendFrom_56 (by decide) h (fun h => ?_) (fun h => ?_)
    · exact x_returnV hR dX3_sendFrom_77 h
    · refine x_iload C dX3_sendFrom_59 rfl ?_
      refine x_if_eq C 77 dX3_sendFrom_61 (by decide) h (fun h => ?_) (fun h => ?_)
      · exact x_returnV hR dX3_sendFrom_77 h
      · refine x_aload_n C dX3_sendFrom_64 rfl ?_
        refine x_iload_n C dX3_sendFrom_65 rfl ?_
        obtain ⟨q2, hq2, h⟩ := x_bind h
        refine x_callVI C dX3_sendFrom_66 (xin_43 _ (List.mem_of_getElem? (i := 10) rfl)) xy_X3_sendNext (xi_X3_sendNext) (xs_X3_sendNext) (by omega) (by decide) (b := 0) rfl ⟨_, _, rfl⟩ (av := [.inl e]) rfl (Nat.le_of_ble_eq_true rfl) (c_L_sendNext _ _ (by first | decide | assumption | exact xw_1m0 (by assumption) | exact xw_1m1 (by assumption) | exact xw_ne1 (by assumption) | exact xw_n1m0 (by assumption)) _ q2.1 q2.2 hq2) rfl ?_
        refine x_istore C dX3_sendFrom_69 (by decide) ?_
        refine x_iinc C dX3_sendFrom_71 (by decide) rfl ?_
        refine x_goto C 52 dX3_sendFrom_74 (by decide) ?_
        refine x_loc [(0, .inr (.inr (some 0))), (1, .inl e), (4, .inl q2.1), (5, .inl (x5 + 1))] ⟨rfl, rfl, rfl, rfl, trivial⟩ ?_
        exact ih _ _ _ h
def f_L_sendFrom_47 (e : Int) (s0 : Int) (m : xM) : Option (xM) :=
     f_L_sendFrom_52 e fu s0 0 m
set_option maxRecDepth 1000000 in
set_option maxHeartbeats 4000000 in
theorem t_L_sendFrom_47 {Γ : xG} {d : Nat} (hd9 : 6 ≤ d) (C : xC Γ lay_L0 RX3 cX3_sendFrom 6 d) (e : Int) (e_e : xw e = 0) {m9 : xM} (hR : xRv Γ lay_L0 cX3_sendFrom m9) (s0 : Int) (m : xM) (h : f_L_sendFrom_47 e s0 m = some m9) : xW Γ lay_L0 6 47 [(0, .inr (.inr (some 0))), (1, .inl e)] [.inl s0] m := by
  unfold f_L_sendFrom_47 at h
  refine x_istore C dX3_sendFrom_47 (by decide) ?_
  refine x_iconst C dX3_sendFrom_49 ?_
  refine x_istore C dX3_sendFrom_50 (by decide) ?_
  refine x_loc [(0, .inr (.inr (some 0))), (1, .inl e), (4, .inl s0), (5, .inl 0)] ⟨rfl, rfl, rfl, rfl, trivial⟩ ?_
  exact t_L_sendFrom_52 hd9 C _ e_e hR fu _ _ _ h
def f_L_sendFrom_35 (e : Int) (m : xM) : Option (xM) :=
     (if xw (m 1 9) = 0 then f_L_sendFrom_47 e 1 m
      else f_L_sendFrom_47 e 0 m)
set_option maxRecDepth 1000000 in
set_option maxHeartbeats 4000000 in
theorem t_L_sendFrom_35 {Γ : xG} {d : Nat} (hd9 : 6 ≤ d) (C : xC Γ lay_L0 RX3 cX3_sendFrom 6 d) (e : Int) (e_e : xw e = 0) {m9 : xM} (hR : xRv Γ lay_L0 cX3_sendFrom m9) (m : xM) (h : f_L_sendFrom_35 e m = some m9) : xW Γ lay_L0 6 35 [(0, .inr (.inr (some 0))), (1, .inl e), (2, .inr (.inr (some 1)))] [] m := by
  unfold f_L_sendFrom_35 at h
  refine x_aload_n C dX3_sendFrom_35 rfl ?_
  refine x_getI C dX3_sendFrom_36 fF_X3_293 rfl rfl ?_
  refine x_if_ne C 46 dX3_sendFrom_39 (by decide) h (fun h => ?_) (fun h => ?_)
  · refine x_iconst C dX3_sendFrom_46 ?_
    refine x_loc [(0, .inr (.inr (some 0))), (1, .inl e)] ⟨rfl, rfl, trivial⟩ ?_
    exact t_L_sendFrom_47 hd9 C _ e_e hR _ _ h
  · refine x_iconst C dX3_sendFrom_42 ?_
    refine x_goto C 47 dX3_sendFrom_43 (by decide) ?_
    refine x_loc [(0, .inr (.inr (some 0))), (1, .inl e)] ⟨rfl, rfl, trivial⟩ ?_
    exact t_L_sendFrom_47 hd9 C _ e_e hR _ _ h
def f_L_sendFrom (e : Int) (m : xM) : Option (xM) :=
     (Option.bind (f_S_speed (m 0 10) (xvw [33, 34, 35, 36, 37] m)) fun q1 =>
      f_L_sendFrom_35 e (xu m 1 8 (if xw (q1 + 28) < xw ((m 1 8) + q1) then q1 + 28 else (m 1 8) + q1)))
set_option maxRecDepth 1000000 in
set_option maxHeartbeats 4000000 in
theorem t_L_sendFrom {Γ : xG} {d : Nat} (hd9 : 6 ≤ d) (C : xC Γ lay_L0 RX3 cX3_sendFrom 6 d) (e : Int) (e_e : xw e = 0) {m9 : xM} (hR : xRv Γ lay_L0 cX3_sendFrom m9) (m : xM) (h : f_L_sendFrom e m = some m9) : xW Γ lay_L0 6 0 [(0, .inr (.inr (some 0))), (1, .inl e)] [] m := by
  unfold f_L_sendFrom at h
  refine x_aload_n C dX3_sendFrom_0 rfl ?_
  refine x_iload_n C dX3_sendFrom_1 rfl ?_
  refine x_callVp C dX3_sendFrom_2 (xin_41 _ (List.mem_of_getElem? (i := 7) rfl)) xy_X3_endOf (xi_X3_endOf) (xs_X3_endOf) [0, 33, 1, 12, 23, 28, 30, 31] xv_22 (by omega) (by decide) (b := 0) rfl ⟨_, _, rfl⟩ (av := [.inl e]) rfl (Nat.le_of_ble_eq_true rfl) (c_endOf0 _ _ _ (by first | decide | assumption | exact xw_1m0 (by assumption) | exact xw_1m1 (by assumption) | exact xw_ne1 (by assumption) | exact xw_n1m0 (by assumption))) rfl ?_
  refine x_astore_n C dX3_sendFrom_5 (by decide) ?_
  refine x_aload_n C dX3_sendFrom_6 rfl ?_
  refine x_getR C dX3_sendFrom_7 fF_X3_46 rfl rfl ?_
  refine x_aload_n C dX3_sendFrom_10 rfl ?_
  refine x_getI C dX3_sendFrom_11 fF_X3_73 rfl rfl ?_
  obtain ⟨q1, hq1, h⟩ := x_bind h
  refine x_callVp C dX3_sendFrom_14 (xin_43 _ (List.mem_of_getElem? (i := 6) rfl)) xy_X6_speedOf (xi_X6_speedOf) (xs_X6_speedOf) [33, 34, 35, 36, 37] xv_19 (by omega) (by decide) (b := 0) rfl ⟨_, _, rfl⟩ (av := [.inl (m 0 10)]) rfl (Nat.le_of_ble_eq_true rfl) (c_S_speed _ _ _ _ hq1) rfl ?_
  refine x_istore_n C dX3_sendFrom_17 (by decide) ?_
  refine x_aload_n C dX3_sendFrom_18 rfl ?_
  refine x_aload_n C dX3_sendFrom_19 rfl ?_
  refine x_getI C dX3_sendFrom_20 fF_X3_284 rfl rfl ?_
  refine x_iload_n C dX3_sendFrom_23 rfl ?_
  refine x_iadd C dX3_sendFrom_24 ?_
  refine x_iload_n C dX3_sendFrom_25 rfl ?_
  refine x_bipush C dX3_sendFrom_26 (by decide) ?_
  refine x_iadd C dX3_sendFrom_28 ?_
  refine x_min C dX3_sendFrom_29 (xin_43 _ (List.mem_of_getElem? (i := 4) rfl)) gm_min_s gm_math gm_min_c (by omega) (Nat.le_of_ble_eq_true rfl) ?_
  refine x_putI C dX3_sendFrom_32 fF_X3_284 rfl rfl ?_
  refine x_loc [(0, .inr (.inr (some 0))), (1, .inl e), (2, .inr (.inr (some 1)))] ⟨rfl, rfl, rfl, trivial⟩ ?_
  exact t_L_sendFrom_35 hd9 C _ e_e hR _ h
theorem c_L_sendFrom (l : Launch) (e : Int) (e_e : xw e = 0) (m m9 : xM) (h : f_L_sendFrom e m = some m9) : xMet l yX3_sendFrom cX3_sendFrom 6 none 6 lay_L0 [.inr (.inr (some 0)), .inl e] m none m9 :=
  xMet_v (by decide +kernel) (Nat.le_of_ble_eq_true rfl) (fun Γ C hR _ => t_L_sendFrom (Nat.le_refl _) C e e_e hR m h)
set_option maxRecDepth 1000000 in
set_option maxHeartbeats 4000000 in
theorem t_L_sendFrom_52_1 {Γ : xG} {d : Nat} (hd9 : 6 ≤ d) (C : xC Γ lay_L1 RX3 cX3_sendFrom 6 d) (e : Int) (e_e : xw e = 1) {m9 : xM} (hR : xRv Γ lay_L1 cX3_sendFrom m9) : ∀ (n : Nat) (x4 : Int) (x5 : Int) (m : xM), f_L_sendFrom_52 e n x4 x5 m = some m9 → xW Γ lay_L1 6 52 [(0, .inr (.inr (some 0))), (1, .inl e), (4, .inl x4), (5, .inl x5)] [] m := by
  intro n
  induction n with
  | zero => intro _ _ _ h; cases h
  | succ n ih =>
    intro x4 x5 m h
    rw [f_L_sendFrom_52] at h
    refine x_iload C dX3_sendFrom_52 rfl ?_
    refine x_bipush C dX3_sendFrom_54 (by decide) ?_
    refine x_icmp_ge C 77 dX3_sendFrom_56 (by decide) h (fun h => ?_) (fun h => ?_)
    · exact x_returnV hR dX3_sendFrom_77 h
    · refine x_iload C dX3_sendFrom_59 rfl ?_
      refine x_if_eq C 77 dX3_sendFrom_61 (by decide) h (fun h => ?_) (fun h => ?_)
      · exact x_returnV hR dX3_sendFrom_77 h
      · refine x_aload_n C dX3_sendFrom_64 rfl ?_
        refine x_iload_n C dX3_sendFrom_65 rfl ?_
        obtain ⟨q2, hq2, h⟩ := x_bind h
        refine x_callVI C dX3_sendFrom_66 (xin_43 _ (List.mem_of_getElem? (i := 10) rfl)) xy_X3_sendNext (xi_X3_sendNext) (xs_X3_sendNext) (by omega) (by decide) (b := 0) rfl ⟨_, _, rfl⟩ (av := [.inl e]) rfl (Nat.le_of_ble_eq_true rfl) (c_L_sendNext_1 _ _ (by first | decide | assumption | exact xw_1m0 (by assumption) | exact xw_1m1 (by assumption) | exact xw_ne1 (by assumption) | exact xw_n1m0 (by assumption)) _ q2.1 q2.2 hq2) rfl ?_
        refine x_istore C dX3_sendFrom_69 (by decide) ?_
        refine x_iinc C dX3_sendFrom_71 (by decide) rfl ?_
        refine x_goto C 52 dX3_sendFrom_74 (by decide) ?_
        refine x_loc [(0, .inr (.inr (some 0))), (1, .inl e), (4, .inl q2.1), (5, .inl (x5 + 1))] ⟨rfl, rfl, rfl, rfl, trivial⟩ ?_
        exact ih _ _ _ h
set_option maxRecDepth 1000000 in
set_option maxHeartbeats 4000000 in
theorem t_L_sendFrom_47_1 {Γ : xG} {d : Nat} (hd9 : 6 ≤ d) (C : xC Γ lay_L1 RX3 cX3_sendFrom 6 d) (e : Int) (e_e : xw e = 1) {m9 : xM} (hR : xRv Γ lay_L1 cX3_sendFrom m9) (s0 : Int) (m : xM) (h : f_L_sendFrom_47 e s0 m = some m9) : xW Γ lay_L1 6 47 [(0, .inr (.inr (some 0))), (1, .inl e)] [.inl s0] m := by
  unfold f_L_sendFrom_47 at h
  refine x_istore C dX3_sendFrom_47 (by decide) ?_
  refine x_iconst C dX3_sendFrom_49 ?_
  refine x_istore C dX3_sendFrom_50 (by decide) ?_
  refine x_loc [(0, .inr (.inr (some 0))), (1, .inl e), (4, .inl s0), (5, .inl 0)] ⟨rfl, rfl, rfl, rfl, trivial⟩ ?_
  exact t_L_sendFrom_52_1 hd9 C _ e_e hR fu _ _ _ h
set_option maxRecDepth 1000000 in
set_option maxHeartbeats 4000000 in
theorem t_L_sendFrom_35_1 {Γ : xG} {d : Nat} (hd9 : 6 ≤ d) (C : xC Γ lay_L1 RX3 cX3_sendFrom 6 d) (e : Int) (e_e : xw e = 1) {m9 : xM} (hR : xRv Γ lay_L1 cX3_sendFrom m9) (m : xM) (h : f_L_sendFrom_35 e m = some m9) : xW Γ lay_L1 6 35 [(0, .inr (.inr (some 0))), (1, .inl e), (2, .inr (.inr (some 1)))] [] m := by
  unfold f_L_sendFrom_35 at h
  refine x_aload_n C dX3_sendFrom_35 rfl ?_
  refine x_getI C dX3_sendFrom_36 fF_X3_293 rfl rfl ?_
  refine x_if_ne C 46 dX3_sendFrom_39 (by decide) h (fun h => ?_) (fun h => ?_)
  · refine x_iconst C dX3_sendFrom_46 ?_
    refine x_loc [(0, .inr (.inr (some 0))), (1, .inl e)] ⟨rfl, rfl, trivial⟩ ?_
    exact t_L_sendFrom_47_1 hd9 C _ e_e hR _ _ h
  · refine x_iconst C dX3_sendFrom_42 ?_
    refine x_goto C 47 dX3_sendFrom_43 (by decide) ?_
    refine x_loc [(0, .inr (.inr (some 0))), (1, .inl e)] ⟨rfl, rfl, trivial⟩ ?_
    exact t_L_sendFrom_47_1 hd9 C _ e_e hR _ _ h
set_option maxRecDepth 1000000 in
set_option maxHeartbeats 4000000 in
theorem t_L_sendFrom_1 {Γ : xG} {d : Nat} (hd9 : 6 ≤ d) (C : xC Γ lay_L1 RX3 cX3_sendFrom 6 d) (e : Int) (e_e : xw e = 1) {m9 : xM} (hR : xRv Γ lay_L1 cX3_sendFrom m9) (m : xM) (h : f_L_sendFrom e m = some m9) : xW Γ lay_L1 6 0 [(0, .inr (.inr (some 0))), (1, .inl e)] [] m := by
  unfold f_L_sendFrom at h
  refine x_aload_n C dX3_sendFrom_0 rfl ?_
  refine x_iload_n C dX3_sendFrom_1 rfl ?_
  refine x_callVp C dX3_sendFrom_2 (xin_41 _ (List.mem_of_getElem? (i := 7) rfl)) xy_X3_endOf (xi_X3_endOf) (xs_X3_endOf) [0, 33, 12, 1, 23, 28, 30, 31] xv_23 (by omega) (by decide) (b := 0) rfl ⟨_, _, rfl⟩ (av := [.inl e]) rfl (Nat.le_of_ble_eq_true rfl) (c_endOf1 _ _ _ (by first | decide | assumption | exact xw_1m0 (by assumption) | exact xw_1m1 (by assumption) | exact xw_ne1 (by assumption) | exact xw_n1m0 (by assumption))) rfl ?_
  refine x_astore_n C dX3_sendFrom_5 (by decide) ?_
  refine x_aload_n C dX3_sendFrom_6 rfl ?_
  refine x_getR C dX3_sendFrom_7 fF_X3_46 rfl rfl ?_
  refine x_aload_n C dX3_sendFrom_10 rfl ?_
  refine x_getI C dX3_sendFrom_11 fF_X3_73 rfl rfl ?_
  obtain ⟨q1, hq1, h⟩ := x_bind h
  refine x_callVp C dX3_sendFrom_14 (xin_43 _ (List.mem_of_getElem? (i := 6) rfl)) xy_X6_speedOf (xi_X6_speedOf) (xs_X6_speedOf) [33, 34, 35, 36, 37] xv_34 (by omega) (by decide) (b := 0) rfl ⟨_, _, rfl⟩ (av := [.inl (m 0 10)]) rfl (Nat.le_of_ble_eq_true rfl) (c_S_speed _ _ _ _ hq1) rfl ?_
  refine x_istore_n C dX3_sendFrom_17 (by decide) ?_
  refine x_aload_n C dX3_sendFrom_18 rfl ?_
  refine x_aload_n C dX3_sendFrom_19 rfl ?_
  refine x_getI C dX3_sendFrom_20 fF_X3_284 rfl rfl ?_
  refine x_iload_n C dX3_sendFrom_23 rfl ?_
  refine x_iadd C dX3_sendFrom_24 ?_
  refine x_iload_n C dX3_sendFrom_25 rfl ?_
  refine x_bipush C dX3_sendFrom_26 (by decide) ?_
  refine x_iadd C dX3_sendFrom_28 ?_
  refine x_min C dX3_sendFrom_29 (xin_43 _ (List.mem_of_getElem? (i := 4) rfl)) gm_min_s gm_math gm_min_c (by omega) (Nat.le_of_ble_eq_true rfl) ?_
  refine x_putI C dX3_sendFrom_32 fF_X3_284 rfl rfl ?_
  refine x_loc [(0, .inr (.inr (some 0))), (1, .inl e), (2, .inr (.inr (some 1)))] ⟨rfl, rfl, rfl, trivial⟩ ?_
  exact t_L_sendFrom_35_1 hd9 C _ e_e hR _ h
theorem c_L_sendFrom_1 (l : Launch) (e : Int) (e_e : xw e = 1) (m m9 : xM) (h : f_L_sendFrom e m = some m9) : xMet l yX3_sendFrom cX3_sendFrom 6 none 6 lay_L1 [.inr (.inr (some 0)), .inl e] m none m9 :=
  xMet_v (by decide +kernel) (Nat.le_of_ble_eq_true rfl) (fun Γ C hR _ => t_L_sendFrom_1 (Nat.le_refl _) C e e_e hR m h)
theorem xy_X3_arrive : xY yX3_arrive cX3_arrive 3 none 0 := ⟨(xin_40 _ (List.mem_of_getElem? (i := 13) rfl)), (xin_1 _ (List.mem_of_getElem? (i := 20) rfl)), by decide, by decide, by decide +kernel⟩
theorem xi_X3_arrive : Cond.instanceMethod yX3_arrive ∈ wsL_law := (xin_40 _ (List.mem_of_getElem? (i := 11) rfl))
theorem xs_X3_arrive : Cond.selects yX3_arrive.cls yX3_arrive yX3_arrive ∈ wsL_law := (xin_40 _ (List.mem_of_getElem? (i := 12) rfl))
theorem xy_X3_checkTimer : xY yX3_checkTimer cX3_checkTimer 4 none 1 := ⟨(xin_42 _ (List.mem_of_getElem? (i := 5) rfl)), (xin_1 _ (List.mem_of_getElem? (i := 20) rfl)), by decide, by decide, by decide +kernel⟩
theorem xi_X3_checkTimer : Cond.instanceMethod yX3_checkTimer ∈ wsL_law := (xin_42 _ (List.mem_of_getElem? (i := 3) rfl))
theorem xs_X3_checkTimer : Cond.selects yX3_checkTimer.cls yX3_checkTimer yX3_checkTimer ∈ wsL_law := (xin_42 _ (List.mem_of_getElem? (i := 4) rfl))
theorem xy_X3_rise : xY yX3_rise cX3_rise 1 none 0 := ⟨(xin_42 _ (List.mem_of_getElem? (i := 17) rfl)), (xin_1 _ (List.mem_of_getElem? (i := 20) rfl)), by decide, by decide, by decide +kernel⟩
theorem xi_X3_rise : Cond.instanceMethod yX3_rise ∈ wsL_law := (xin_42 _ (List.mem_of_getElem? (i := 15) rfl))
theorem xs_X3_rise : Cond.selects yX3_rise.cls yX3_rise yX3_rise ∈ wsL_law := (xin_42 _ (List.mem_of_getElem? (i := 16) rfl))
theorem xy_X3_sendFrom : xY yX3_sendFrom cX3_sendFrom 6 none 1 := ⟨(xin_43 _ (List.mem_of_getElem? (i := 2) rfl)), (xin_1 _ (List.mem_of_getElem? (i := 20) rfl)), by decide, by decide, by decide +kernel⟩
theorem xi_X3_sendFrom : Cond.instanceMethod yX3_sendFrom ∈ wsL_law := (xin_43 _ (List.mem_of_getElem? (i := 0) rfl))
theorem xs_X3_sendFrom : Cond.selects yX3_sendFrom.cls yX3_sendFrom yX3_sendFrom ∈ wsL_law := (xin_43 _ (List.mem_of_getElem? (i := 1) rfl))
theorem xy_X3_loseCarrier : xY yX3_loseCarrier cX3_loseCarrier 1 none 0 := ⟨(xin_40 _ (List.mem_of_getElem? (i := 9) rfl)), (xin_1 _ (List.mem_of_getElem? (i := 20) rfl)), by decide, by decide, by decide +kernel⟩
theorem xi_X3_loseCarrier : Cond.instanceMethod yX3_loseCarrier ∈ wsL_law := (xin_40 _ (List.mem_of_getElem? (i := 7) rfl))
theorem xs_X3_loseCarrier : Cond.selects yX3_loseCarrier.cls yX3_loseCarrier yX3_loseCarrier ∈ wsL_law := (xin_40 _ (List.mem_of_getElem? (i := 8) rfl))
theorem xy_X3_waitForCarrier : xY yX3_waitForCarrier cX3_waitForCarrier 1 none 0 := ⟨(xin_39 _ (List.mem_of_getElem? (i := 20) rfl)), (xin_1 _ (List.mem_of_getElem? (i := 20) rfl)), by decide, by decide, by decide +kernel⟩
theorem xi_X3_waitForCarrier : Cond.instanceMethod yX3_waitForCarrier ∈ wsL_law := (xin_39 _ (List.mem_of_getElem? (i := 18) rfl))
theorem xs_X3_waitForCarrier : Cond.selects yX3_waitForCarrier.cls yX3_waitForCarrier yX3_waitForCarrier ∈ wsL_law := (xin_39 _ (List.mem_of_getElem? (i := 19) rfl))
theorem xy_X3_train : xY yX3_train cX3_train 1 none 0 := ⟨(xin_37 _ (List.mem_of_getElem? (i := 13) rfl)), (xin_1 _ (List.mem_of_getElem? (i := 20) rfl)), by decide, by decide, by decide +kernel⟩
theorem xi_X3_train : Cond.instanceMethod yX3_train ∈ wsL_law := (xin_37 _ (List.mem_of_getElem? (i := 11) rfl))
theorem xs_X3_train : Cond.selects yX3_train.cls yX3_train yX3_train ∈ wsL_law := (xin_37 _ (List.mem_of_getElem? (i := 12) rfl))
theorem dX3_tick_0 : decode cX3_tick 0 = .ok (.aload_n 0, 1) := by decide +kernel
theorem dX3_tick_1 : decode cX3_tick 1 = .ok (.getfield 64, 3) := by decide +kernel
theorem dX3_tick_4 : decode cX3_tick 4 = .ok (.iconst 1, 1) := by decide +kernel
theorem dX3_tick_5 : decode cX3_tick 5 = .ok (.if_icmp .ne 10, 3) := by decide +kernel
theorem dX3_tick_8 : decode cX3_tick 8 = .ok (.aload_n 0, 1) := by decide +kernel
theorem dX3_tick_9 : decode cX3_tick 9 = .ok (.invokevirtual 127, 3) := by decide +kernel
theorem dX3_tick_12 : decode cX3_tick 12 = .ok (.goto 84, 3) := by decide +kernel
theorem dX3_tick_15 : decode cX3_tick 15 = .ok (.aload_n 0, 1) := by decide +kernel
theorem dX3_tick_16 : decode cX3_tick 16 = .ok (.getfield 64, 3) := by decide +kernel
theorem dX3_tick_19 : decode cX3_tick 19 = .ok (.iconst 3, 1) := by decide +kernel
theorem dX3_tick_20 : decode cX3_tick 20 = .ok (.if_icmp .ne 10, 3) := by decide +kernel
theorem dX3_tick_23 : decode cX3_tick 23 = .ok (.aload_n 0, 1) := by decide +kernel
theorem dX3_tick_24 : decode cX3_tick 24 = .ok (.invokevirtual 130, 3) := by decide +kernel
theorem dX3_tick_27 : decode cX3_tick 27 = .ok (.goto 69, 3) := by decide +kernel
theorem dX3_tick_30 : decode cX3_tick 30 = .ok (.aload_n 0, 1) := by decide +kernel
theorem dX3_tick_31 : decode cX3_tick 31 = .ok (.getfield 64, 3) := by decide +kernel
theorem dX3_tick_34 : decode cX3_tick 34 = .ok (.iconst 2, 1) := by decide +kernel
theorem dX3_tick_35 : decode cX3_tick 35 = .ok (.if_icmp .ne 17, 3) := by decide +kernel
theorem dX3_tick_38 : decode cX3_tick 38 = .ok (.aload_n 0, 1) := by decide +kernel
theorem dX3_tick_39 : decode cX3_tick 39 = .ok (.getfield 72, 3) := by decide +kernel
theorem dX3_tick_42 : decode cX3_tick 42 = .ok (.ifCond .ne 10, 3) := by decide +kernel
theorem dX3_tick_45 : decode cX3_tick 45 = .ok (.aload_n 0, 1) := by decide +kernel
theorem dX3_tick_46 : decode cX3_tick 46 = .ok (.invokevirtual 133, 3) := by decide +kernel
theorem dX3_tick_49 : decode cX3_tick 49 = .ok (.goto 47, 3) := by decide +kernel
theorem dX3_tick_52 : decode cX3_tick 52 = .ok (.aload_n 0, 1) := by decide +kernel
theorem dX3_tick_53 : decode cX3_tick 53 = .ok (.getfield 64, 3) := by decide +kernel
theorem dX3_tick_56 : decode cX3_tick 56 = .ok (.iconst 2, 1) := by decide +kernel
theorem dX3_tick_57 : decode cX3_tick 57 = .ok (.if_icmp .ne 39, 3) := by decide +kernel
theorem dX3_tick_60 : decode cX3_tick 60 = .ok (.aload_n 0, 1) := by decide +kernel
theorem dX3_tick_61 : decode cX3_tick 61 = .ok (.invokevirtual 136, 3) := by decide +kernel
theorem dX3_tick_64 : decode cX3_tick 64 = .ok (.aload_n 0, 1) := by decide +kernel
theorem dX3_tick_65 : decode cX3_tick 65 = .ok (.iconst 0, 1) := by decide +kernel
theorem dX3_tick_66 : decode cX3_tick 66 = .ok (.invokevirtual 139, 3) := by decide +kernel
theorem dX3_tick_69 : decode cX3_tick 69 = .ok (.aload_n 0, 1) := by decide +kernel
theorem dX3_tick_70 : decode cX3_tick 70 = .ok (.iconst 1, 1) := by decide +kernel
theorem dX3_tick_71 : decode cX3_tick 71 = .ok (.invokevirtual 139, 3) := by decide +kernel
theorem dX3_tick_74 : decode cX3_tick 74 = .ok (.aload_n 0, 1) := by decide +kernel
theorem dX3_tick_75 : decode cX3_tick 75 = .ok (.getfield 64, 3) := by decide +kernel
theorem dX3_tick_78 : decode cX3_tick 78 = .ok (.iconst 2, 1) := by decide +kernel
theorem dX3_tick_79 : decode cX3_tick 79 = .ok (.if_icmp .ne 17, 3) := by decide +kernel
theorem dX3_tick_82 : decode cX3_tick 82 = .ok (.aload_n 0, 1) := by decide +kernel
theorem dX3_tick_83 : decode cX3_tick 83 = .ok (.invokevirtual 143, 3) := by decide +kernel
theorem dX3_tick_86 : decode cX3_tick 86 = .ok (.aload_n 0, 1) := by decide +kernel
theorem dX3_tick_87 : decode cX3_tick 87 = .ok (.iconst 0, 1) := by decide +kernel
theorem dX3_tick_88 : decode cX3_tick 88 = .ok (.invokevirtual 146, 3) := by decide +kernel
theorem dX3_tick_91 : decode cX3_tick 91 = .ok (.aload_n 0, 1) := by decide +kernel
theorem dX3_tick_92 : decode cX3_tick 92 = .ok (.iconst 1, 1) := by decide +kernel
theorem dX3_tick_93 : decode cX3_tick 93 = .ok (.invokevirtual 146, 3) := by decide +kernel
theorem dX3_tick_96 : decode cX3_tick 96 = .ok (.aload_n 0, 1) := by decide +kernel
theorem dX3_tick_97 : decode cX3_tick 97 = .ok (.dup, 1) := by decide +kernel
theorem dX3_tick_98 : decode cX3_tick 98 = .ok (.getfield 61, 3) := by decide +kernel
theorem dX3_tick_101 : decode cX3_tick 101 = .ok (.iconst 1, 1) := by decide +kernel
theorem dX3_tick_102 : decode cX3_tick 102 = .ok (.iadd, 1) := by decide +kernel
theorem dX3_tick_103 : decode cX3_tick 103 = .ok (.putfield 61, 3) := by decide +kernel
theorem dX3_tick_106 : decode cX3_tick 106 = .ok (.return_, 1) := by decide +kernel
def f_L_tick_96 (m : xM) : Option (xM) :=
     some (xu m 0 7 ((m 0 7) + 1))
set_option maxRecDepth 1000000 in
set_option maxHeartbeats 4000000 in
theorem t_L_tick_96 {Γ : xG} {d : Nat} (hd9 : 7 ≤ d) (C : xC Γ lay_L0 RX3 cX3_tick 1 d) {m9 : xM} (hR : xRv Γ lay_L0 cX3_tick m9) (m : xM) (h : f_L_tick_96 m = some m9) : xW Γ lay_L0 1 96 [(0, .inr (.inr (some 0)))] [] m := by
  unfold f_L_tick_96 at h
  refine x_aload_n C dX3_tick_96 rfl ?_
  refine x_dup C dX3_tick_97 rfl ?_
  refine x_getI C dX3_tick_98 fF_X3_61 rfl rfl ?_
  refine x_iconst C dX3_tick_101 ?_
  refine x_iadd C dX3_tick_102 ?_
  refine x_putI C dX3_tick_103 fF_X3_61 rfl rfl ?_
  exact x_returnV hR dX3_tick_106 h
def f_L_tick_74 (m : xM) : Option (xM) :=
     (if xw (m 0 8) = xw 2 then (Option.bind (f_L_rise m) fun q3 =>
      (Option.bind (f_L_sendFrom 0 q3) fun q4 =>
      (Option.bind (f_L_sendFrom 1 (xvw [0, 12, 13, 14, 15, 16, 17, 18, 19, 20, 21, 22, 1, 2, 3, 4, 5, 6, 7, 8, 9, 10, 11, 23, 24, 25, 26, 27, 28, 29, 30, 31, 32, 33, 34, 35, 36, 37] q4)) fun q5 =>
      f_L_tick_96 (xmg [0, 12, 13, 14, 15, 16, 17, 18, 19, 20, 21, 22, 1, 2, 3, 4, 5, 6, 7, 8, 9, 10, 11, 23, 24, 25, 26, 27, 28, 29, 30, 31, 32, 33, 34, 35, 36, 37] 38 q4 q5))))
      else f_L_tick_96 m)
set_option maxRecDepth 1000000 in
set_option maxHeartbeats 4000000 in
theorem t_L_tick_74 {Γ : xG} {d : Nat} (hd9 : 7 ≤ d) (C : xC Γ lay_L0 RX3 cX3_tick 1 d) {m9 : xM} (hR : xRv Γ lay_L0 cX3_tick m9) (m : xM) (h : f_L_tick_74 m = some m9) : xW Γ lay_L0 1 74 [(0, .inr (.inr (some 0)))] [] m := by
  unfold f_L_tick_74 at h
  refine x_aload_n C dX3_tick_74 rfl ?_
  refine x_getI C dX3_tick_75 fF_X3_64 rfl rfl ?_
  refine x_iconst C dX3_tick_78 ?_
  refine x_icmp_ne C 96 dX3_tick_79 (by decide) h (fun h => ?_) (fun h => ?_)
  · refine x_loc [(0, .inr (.inr (some 0)))] ⟨rfl, trivial⟩ ?_
    exact t_L_tick_96 hd9 C hR _ h
  · refine x_aload_n C dX3_tick_82 rfl ?_
    obtain ⟨q3, hq3, h⟩ := x_bind h
    refine x_callVI C dX3_tick_83 (xin_42 _ (List.mem_of_getElem? (i := 14) rfl)) xy_X3_rise (xi_X3_rise) (xs_X3_rise) (by omega) (by decide) (b := 0) rfl ⟨_, _, rfl⟩ (av := []) rfl (Nat.le_of_ble_eq_true rfl) (c_L_rise _ _ _ hq3) rfl ?_
    refine x_aload_n C dX3_tick_86 rfl ?_
    refine x_iconst C dX3_tick_87 ?_
    obtain ⟨q4, hq4, h⟩ := x_bind h
    refine x_callVI C dX3_tick_88 (xin_42 _ (List.mem_of_getElem? (i := 23) rfl)) xy_X3_sendFrom (xi_X3_sendFrom) (xs_X3_sendFrom) (by omega) (by decide) (b := 0) rfl ⟨_, _, rfl⟩ (av := [.inl 0]) rfl (Nat.le_of_ble_eq_true rfl) (c_L_sendFrom _ _ (by first | decide | assumption | exact xw_1m0 (by assumption) | exact xw_1m1 (by assumption) | exact xw_ne1 (by assumption) | exact xw_n1m0 (by assumption)) _ _ hq4) rfl ?_
    refine x_aload_n C dX3_tick_91 rfl ?_
    refine x_iconst C dX3_tick_92 ?_
    obtain ⟨q5, hq5, h⟩ := x_bind h
    refine x_callV C dX3_tick_93 (xin_42 _ (List.mem_of_getElem? (i := 23) rfl)) xy_X3_sendFrom (xi_X3_sendFrom) (xs_X3_sendFrom) [0, 12, 13, 14, 15, 16, 17, 18, 19, 20, 21, 22, 1, 2, 3, 4, 5, 6, 7, 8, 9, 10, 11, 23, 24, 25, 26, 27, 28, 29, 30, 31, 32, 33, 34, 35, 36, 37] xv_29 (by omega) (by decide) (b := 0) rfl ⟨_, _, rfl⟩ (av := [.inl 1]) rfl (Nat.le_of_ble_eq_true rfl) (c_L_sendFrom_1 _ _ (by first | decide | assumption | exact xw_1m0 (by assumption) | exact xw_1m1 (by assumption) | exact xw_ne1 (by assumption) | exact xw_n1m0 (by assumption)) _ _ hq5) rfl ?_
    refine x_loc [(0, .inr (.inr (some 0)))] ⟨rfl, trivial⟩ ?_
    exact t_L_tick_96 hd9 C hR _ h
def f_L_tick_52 (m : xM) : Option (xM) :=
     (if xw (m 0 8) = xw 2 then (Option.bind (f_L_arrive m) fun q0 =>
      (Option.bind (f_L_timer 0 q0) fun q1 =>
      (Option.bind (f_L_timer 1 (xvw [0, 12, 13, 14, 15, 16, 17, 18, 19, 20, 21, 22, 1, 2, 3, 4, 5, 6, 7, 8, 9, 10, 11, 23, 24, 25, 26, 27, 28, 29, 30, 31, 32, 33, 34, 35, 36, 37] q1)) fun q2 =>
      f_L_tick_74 (xmg [0, 12, 13, 14, 15, 16, 17, 18, 19, 20, 21, 22, 1, 2, 3, 4, 5, 6, 7, 8, 9, 10, 11, 23, 24, 25, 26, 27, 28, 29, 30, 31, 32, 33, 34, 35, 36, 37] 38 q1 q2))))
      else f_L_tick_96 m)
set_option maxRecDepth 1000000 in
set_option maxHeartbeats 4000000 in
theorem t_L_tick_52 {Γ : xG} {d : Nat} (hd9 : 7 ≤ d) (C : xC Γ lay_L0 RX3 cX3_tick 1 d) {m9 : xM} (hR : xRv Γ lay_L0 cX3_tick m9) (m : xM) (h : f_L_tick_52 m = some m9) : xW Γ lay_L0 1 52 [(0, .inr (.inr (some 0)))] [] m := by
  unfold f_L_tick_52 at h
  refine x_aload_n C dX3_tick_52 rfl ?_
  refine x_getI C dX3_tick_53 fF_X3_64 rfl rfl ?_
  refine x_iconst C dX3_tick_56 ?_
  refine x_icmp_ne C 96 dX3_tick_57 (by decide) h (fun h => ?_) (fun h => ?_)
  · refine x_loc [(0, .inr (.inr (some 0)))] ⟨rfl, trivial⟩ ?_
    exact t_L_tick_96 hd9 C hR _ h
  · refine x_aload_n C dX3_tick_60 rfl ?_
    obtain ⟨q0, hq0, h⟩ := x_bind h
    refine x_callVI C dX3_tick_61 (xin_40 _ (List.mem_of_getElem? (i := 10) rfl)) xy_X3_arrive (xi_X3_arrive) (xs_X3_arrive) (by omega) (by decide) (b := 0) rfl ⟨_, _, rfl⟩ (av := []) rfl (Nat.le_of_ble_eq_true rfl) (c_L_arrive _ _ _ hq0) rfl ?_
    refine x_aload_n C dX3_tick_64 rfl ?_
    refine x_iconst C dX3_tick_65 ?_
    obtain ⟨q1, hq1, h⟩ := x_bind h
    refine x_callVI C dX3_tick_66 (xin_42 _ (List.mem_of_getElem? (i := 2) rfl)) xy_X3_checkTimer (xi_X3_checkTimer) (xs_X3_checkTimer) (by omega) (by decide) (b := 0) rfl ⟨_, _, rfl⟩ (av := [.inl 0]) rfl (Nat.le_of_ble_eq_true rfl) (c_L_timer _ _ (by first | decide | assumption | exact xw_1m0 (by assumption) | exact xw_1m1 (by assumption) | exact xw_ne1 (by assumption) | exact xw_n1m0 (by assumption)) _ _ hq1) rfl ?_
    refine x_aload_n C dX3_tick_69 rfl ?_
    refine x_iconst C dX3_tick_70 ?_
    obtain ⟨q2, hq2, h⟩ := x_bind h
    refine x_callV C dX3_tick_71 (xin_42 _ (List.mem_of_getElem? (i := 2) rfl)) xy_X3_checkTimer (xi_X3_checkTimer) (xs_X3_checkTimer) [0, 12, 13, 14, 15, 16, 17, 18, 19, 20, 21, 22, 1, 2, 3, 4, 5, 6, 7, 8, 9, 10, 11, 23, 24, 25, 26, 27, 28, 29, 30, 31, 32, 33, 34, 35, 36, 37] xv_29 (by omega) (by decide) (b := 0) rfl ⟨_, _, rfl⟩ (av := [.inl 1]) rfl (Nat.le_of_ble_eq_true rfl) (c_L_timer_1 _ _ (by first | decide | assumption | exact xw_1m0 (by assumption) | exact xw_1m1 (by assumption) | exact xw_ne1 (by assumption) | exact xw_n1m0 (by assumption)) _ _ hq2) rfl ?_
    refine x_loc [(0, .inr (.inr (some 0)))] ⟨rfl, trivial⟩ ?_
    exact t_L_tick_74 hd9 C hR _ h
def f_L_tick (m : xM) : Option (xM) :=
     (if xw (m 0 8) = xw 1 then (Option.bind (f_L_train m) fun q8 =>
      f_L_tick_96 q8)
      else (if xw (m 0 8) = xw 3 then (Option.bind (f_L_wait m) fun q7 =>
      f_L_tick_96 q7)
      else (if xw (m 0 8) = xw 2 then (if xw (m 0 9) = 0 then (Option.bind (f_L_loseCarrier m) fun q6 =>
      f_L_tick_96 q6)
      else f_L_tick_52 m)
      else f_L_tick_52 m)))
set_option maxRecDepth 1000000 in
set_option maxHeartbeats 4000000 in
theorem t_L_tick {Γ : xG} {d : Nat} (hd9 : 7 ≤ d) (C : xC Γ lay_L0 RX3 cX3_tick 1 d) {m9 : xM} (hR : xRv Γ lay_L0 cX3_tick m9) (m : xM) (h : f_L_tick m = some m9) : xW Γ lay_L0 1 0 [(0, .inr (.inr (some 0)))] [] m := by
  unfold f_L_tick at h
  refine x_aload_n C dX3_tick_0 rfl ?_
  refine x_getI C dX3_tick_1 fF_X3_64 rfl rfl ?_
  refine x_iconst C dX3_tick_4 ?_
  refine x_icmp_ne C 15 dX3_tick_5 (by decide) h (fun h => ?_) (fun h => ?_)
  · refine x_aload_n C dX3_tick_15 rfl ?_
    refine x_getI C dX3_tick_16 fF_X3_64 rfl rfl ?_
    refine x_iconst C dX3_tick_19 ?_
    refine x_icmp_ne C 30 dX3_tick_20 (by decide) h (fun h => ?_) (fun h => ?_)
    · refine x_aload_n C dX3_tick_30 rfl ?_
      refine x_getI C dX3_tick_31 fF_X3_64 rfl rfl ?_
      refine x_iconst C dX3_tick_34 ?_
      refine x_icmp_ne C 52 dX3_tick_35 (by decide) h (fun h => ?_) (fun h => ?_)
      · refine x_loc [(0, .inr (.inr (some 0)))] ⟨rfl, trivial⟩ ?_
        exact t_L_tick_52 hd9 C hR _ h
      · refine x_aload_n C dX3_tick_38 rfl ?_
        refine x_getI C dX3_tick_39 fF_X3_72 rfl rfl ?_
        refine x_if_ne C 52 dX3_tick_42 (by decide) h (fun h => ?_) (fun h => ?_)
        · refine x_loc [(0, .inr (.inr (some 0)))] ⟨rfl, trivial⟩ ?_
          exact t_L_tick_52 hd9 C hR _ h
        · refine x_aload_n C dX3_tick_45 rfl ?_
          obtain ⟨q6, hq6, h⟩ := x_bind h
          refine x_callVI C dX3_tick_46 (xin_40 _ (List.mem_of_getElem? (i := 6) rfl)) xy_X3_loseCarrier (xi_X3_loseCarrier) (xs_X3_loseCarrier) (by omega) (by decide) (b := 0) rfl ⟨_, _, rfl⟩ (av := []) rfl (Nat.le_of_ble_eq_true rfl) (c_L_loseCarrier _ _ _ hq6) rfl ?_
          refine x_goto C 96 dX3_tick_49 (by decide) ?_
          refine x_loc [(0, .inr (.inr (some 0)))] ⟨rfl, trivial⟩ ?_
          exact t_L_tick_96 hd9 C hR _ h
    · refine x_aload_n C dX3_tick_23 rfl ?_
      obtain ⟨q7, hq7, h⟩ := x_bind h
      refine x_callVI C dX3_tick_24 (xin_39 _ (List.mem_of_getElem? (i := 17) rfl)) xy_X3_waitForCarrier (xi_X3_waitForCarrier) (xs_X3_waitForCarrier) (by omega) (by decide) (b := 0) rfl ⟨_, _, rfl⟩ (av := []) rfl (Nat.le_of_ble_eq_true rfl) (c_L_wait _ _ _ hq7) rfl ?_
      refine x_goto C 96 dX3_tick_27 (by decide) ?_
      refine x_loc [(0, .inr (.inr (some 0)))] ⟨rfl, trivial⟩ ?_
      exact t_L_tick_96 hd9 C hR _ h
  · refine x_aload_n C dX3_tick_8 rfl ?_
    obtain ⟨q8, hq8, h⟩ := x_bind h
    refine x_callVI C dX3_tick_9 (xin_37 _ (List.mem_of_getElem? (i := 10) rfl)) xy_X3_train (xi_X3_train) (xs_X3_train) (by omega) (by decide) (b := 0) rfl ⟨_, _, rfl⟩ (av := []) rfl (Nat.le_of_ble_eq_true rfl) (c_L_train _ _ _ hq8) rfl ?_
    refine x_goto C 96 dX3_tick_12 (by decide) ?_
    refine x_loc [(0, .inr (.inr (some 0)))] ⟨rfl, trivial⟩ ?_
    exact t_L_tick_96 hd9 C hR _ h
theorem c_L_tick (l : Launch) (m m9 : xM) (h : f_L_tick m = some m9) : xMet l yX3_tick cX3_tick 1 none 7 lay_L0 [.inr (.inr (some 0))] m none m9 :=
  xMet_v (by decide +kernel) (Nat.le_of_ble_eq_true rfl) (fun Γ C hR _ => t_L_tick (Nat.le_refl _) C hR m h)
theorem xy_X3_tick : xY yX3_tick cX3_tick 1 none 0 := ⟨(xin_37 _ (List.mem_of_getElem? (i := 9) rfl)), (xin_1 _ (List.mem_of_getElem? (i := 20) rfl)), by decide, by decide, by decide +kernel⟩
theorem xi_X3_tick : Cond.instanceMethod yX3_tick ∈ wsL_law := (xin_37 _ (List.mem_of_getElem? (i := 7) rfl))
theorem xs_X3_tick : Cond.selects yX3_tick.cls yX3_tick yX3_tick ∈ wsL_law := (xin_37 _ (List.mem_of_getElem? (i := 8) rfl))
theorem dX3_run_0 : decode cX3_run 0 = .ok (.iconst 0, 1) := by decide +kernel
theorem dX3_run_1 : decode cX3_run 1 = .ok (.istore_n 2, 1) := by decide +kernel
theorem dX3_run_2 : decode cX3_run 2 = .ok (.iload_n 2, 1) := by decide +kernel
theorem dX3_run_3 : decode cX3_run 3 = .ok (.iload_n 1, 1) := by decide +kernel
theorem dX3_run_4 : decode cX3_run 4 = .ok (.if_icmp .ge 13, 3) := by decide +kernel
theorem dX3_run_7 : decode cX3_run 7 = .ok (.aload_n 0, 1) := by decide +kernel
theorem dX3_run_8 : decode cX3_run 8 = .ok (.invokevirtual 110, 3) := by decide +kernel
theorem dX3_run_11 : decode cX3_run 11 = .ok (.iinc 2 1, 3) := by decide +kernel
theorem dX3_run_14 : decode cX3_run 14 = .ok (.goto (-12), 3) := by decide +kernel
theorem dX3_run_17 : decode cX3_run 17 = .ok (.return_, 1) := by decide +kernel
def f_L_run_2 (z : Int) : Nat → Int → xM → Option (xM)
  | 0, _, _ => none
  | n + 1, x2, m =>
     (if xw x2 < xw z then (Option.bind (f_L_tick m) fun q0 =>
      f_L_run_2 z n (x2 + 1) q0)
      else some m)
set_option maxRecDepth 1000000 in
set_option maxHeartbeats 4000000 in
theorem t_L_run_2 {Γ : xG} {d : Nat} (hd9 : 8 ≤ d) (C : xC Γ lay_L0 RX3 cX3_run 3 d) (z : Int) {m9 : xM} (hR : xRv Γ lay_L0 cX3_run m9) : ∀ (n : Nat) (x2 : Int) (m : xM), f_L_run_2 z n x2 m = some m9 → xW Γ lay_L0 3 2 [(0, .inr (.inr (some 0))), (1, .inl z), (2, .inl x2)] [] m := by
  intro n
  induction n with
  | zero => intro _ _ h; cases h
  | succ n ih =>
    intro x2 m h
    rw [f_L_run_2] at h
    refine x_iload_n C dX3_run_2 rfl ?_
    refine x_iload_n C dX3_run_3 rfl ?_
    refine x_icmp_ge C 17 dX3_run_4 (by decide) h (fun h => ?_) (fun h => ?_)
    · exact x_returnV hR dX3_run_17 h
    · refine x_aload_n C dX3_run_7 rfl ?_
      obtain ⟨q0, hq0, h⟩ := x_bind h
      refine x_callVI C dX3_run_8 (xin_37 _ (List.mem_of_getElem? (i := 6) rfl)) xy_X3_tick (xi_X3_tick) (xs_X3_tick) (by omega) (by decide) (b := 0) rfl ⟨_, _, rfl⟩ (av := []) rfl (Nat.le_of_ble_eq_true rfl) (c_L_tick _ _ _ hq0) rfl ?_
      refine x_iinc C dX3_run_11 (by decide) rfl ?_
      refine x_goto C 2 dX3_run_14 (by decide) ?_
      refine x_loc [(0, .inr (.inr (some 0))), (1, .inl z), (2, .inl (x2 + 1))] ⟨rfl, rfl, rfl, trivial⟩ ?_
      exact ih _ _ h
def f_L_run (z : Int) (m : xM) : Option (xM) :=
     f_L_run_2 z fu 0 m
set_option maxRecDepth 1000000 in
set_option maxHeartbeats 4000000 in
theorem t_L_run {Γ : xG} {d : Nat} (hd9 : 8 ≤ d) (C : xC Γ lay_L0 RX3 cX3_run 3 d) (z : Int) {m9 : xM} (hR : xRv Γ lay_L0 cX3_run m9) (m : xM) (h : f_L_run z m = some m9) : xW Γ lay_L0 3 0 [(0, .inr (.inr (some 0))), (1, .inl z)] [] m := by
  unfold f_L_run at h
  refine x_iconst C dX3_run_0 ?_
  refine x_istore_n C dX3_run_1 (by decide) ?_
  refine x_loc [(0, .inr (.inr (some 0))), (1, .inl z), (2, .inl 0)] ⟨rfl, rfl, rfl, trivial⟩ ?_
  exact t_L_run_2 hd9 C _ hR fu _ _ h
theorem c_L_run (l : Launch) (z : Int) (m m9 : xM) (h : f_L_run z m = some m9) : xMet l yX3_run cX3_run 3 none 8 lay_L0 [.inr (.inr (some 0)), .inl z] m none m9 :=
  xMet_v (by decide +kernel) (Nat.le_of_ble_eq_true rfl) (fun Γ C hR _ => t_L_run (Nat.le_refl _) C z hR m h)
theorem dX3_isFinished_0 : decode cX3_isFinished 0 = .ok (.aload_n 0, 1) := by decide +kernel
theorem dX3_isFinished_1 : decode cX3_isFinished 1 = .ok (.getfield 64, 3) := by decide +kernel
theorem dX3_isFinished_4 : decode cX3_isFinished 4 = .ok (.iconst 2, 1) := by decide +kernel
theorem dX3_isFinished_5 : decode cX3_isFinished 5 = .ok (.if_icmp .ne 53, 3) := by decide +kernel
theorem dX3_isFinished_8 : decode cX3_isFinished 8 = .ok (.aload_n 0, 1) := by decide +kernel
theorem dX3_isFinished_9 : decode cX3_isFinished 9 = .ok (.getfield 12, 3) := by decide +kernel
theorem dX3_isFinished_12 : decode cX3_isFinished 12 = .ok (.getfield 117, 3) := by decide +kernel
theorem dX3_isFinished_15 : decode cX3_isFinished 15 = .ok (.ifCond .ne 43, 3) := by decide +kernel
theorem dX3_isFinished_18 : decode cX3_isFinished 18 = .ok (.aload_n 0, 1) := by decide +kernel
theorem dX3_isFinished_19 : decode cX3_isFinished 19 = .ok (.getfield 18, 3) := by decide +kernel
theorem dX3_isFinished_22 : decode cX3_isFinished 22 = .ok (.getfield 117, 3) := by decide +kernel
theorem dX3_isFinished_25 : decode cX3_isFinished 25 = .ok (.ifCond .ne 33, 3) := by decide +kernel
theorem dX3_isFinished_28 : decode cX3_isFinished 28 = .ok (.aload_n 0, 1) := by decide +kernel
theorem dX3_isFinished_29 : decode cX3_isFinished 29 = .ok (.getfield 12, 3) := by decide +kernel
theorem dX3_isFinished_32 : decode cX3_isFinished 32 = .ok (.getfield 120, 3) := by decide +kernel
theorem dX3_isFinished_35 : decode cX3_isFinished 35 = .ok (.getfield 124, 3) := by decide +kernel
theorem dX3_isFinished_38 : decode cX3_isFinished 38 = .ok (.ifCond .ne 20, 3) := by decide +kernel
theorem dX3_isFinished_41 : decode cX3_isFinished 41 = .ok (.aload_n 0, 1) := by decide +kernel
theorem dX3_isFinished_42 : decode cX3_isFinished 42 = .ok (.getfield 18, 3) := by decide +kernel
theorem dX3_isFinished_45 : decode cX3_isFinished 45 = .ok (.getfield 120, 3) := by decide +kernel
theorem dX3_isFinished_48 : decode cX3_isFinished 48 = .ok (.getfield 124, 3) := by decide +kernel
theorem dX3_isFinished_51 : decode cX3_isFinished 51 = .ok (.ifCond .ne 7, 3) := by decide +kernel
theorem dX3_isFinished_54 : decode cX3_isFinished 54 = .ok (.iconst 1, 1) := by decide +kernel
theorem dX3_isFinished_55 : decode cX3_isFinished 55 = .ok (.goto 4, 3) := by decide +kernel
theorem dX3_isFinished_58 : decode cX3_isFinished 58 = .ok (.iconst 0, 1) := by decide +kernel
theorem dX3_isFinished_59 : decode cX3_isFinished 59 = .ok (.ireturn, 1) := by decide +kernel
def f_L_finished (m : xM) : Option (Int) :=
     (if xw (m 0 8) = xw 2 then (if xw (m 1 5) = 0 then (if xw (m 12 5) = 0 then (if xw (m 4 4) = 0 then (if xw (m 15 4) = 0 then some 1
      else some 0)
      else some 0)
      else some 0)
      else some 0)
      else some 0)
set_option maxRecDepth 1000000 in
set_option maxHeartbeats 4000000 in
theorem t_L_finished {Γ : xG} {d : Nat} (hd9 : 1 ≤ d) (C : xC Γ lay_L0 RX3 cX3_isFinished 1 d) {r : Int} {m : xM} (hR : xRz Γ lay_L0 cX3_isFinished r m) (h : f_L_finished m = some r) : xW Γ lay_L0 1 0 [(0, .inr (.inr (some 0)))] [] m := by
  unfold f_L_finished at h
  refine x_aload_n C dX3_isFinished_0 rfl ?_
  refine x_getI C dX3_isFinished_1 fF_X3_64 rfl rfl ?_
  refine x_iconst C dX3_isFinished_4 ?_
  refine x_icmp_ne C 58 dX3_isFinished_5 (by decide) h (fun h => ?_) (fun h => ?_)
  · refine x_iconst C dX3_isFinished_58 ?_
    exact x_zreturnP hR (by decide) dX3_isFinished_59 h
  · refine x_aload_n C dX3_isFinished_8 rfl ?_
    refine x_getR C dX3_isFinished_9 fF_X3_12 rfl rfl ?_
    refine x_getI C dX3_isFinished_12 fF_X3_117 rfl rfl ?_
    refine x_if_ne C 58 dX3_isFinished_15 (by decide) h (fun h => ?_) (fun h => ?_)
    · refine x_iconst C dX3_isFinished_58 ?_
      exact x_zreturnP hR (by decide) dX3_isFinished_59 h
    · refine x_aload_n C dX3_isFinished_18 rfl ?_
      refine x_getR C dX3_isFinished_19 fF_X3_18 rfl rfl ?_
      refine x_getI C dX3_isFinished_22 fF_X3_117 rfl rfl ?_
      refine x_if_ne C 58 dX3_isFinished_25 (by decide) h (fun h => ?_) (fun h => ?_)
      · refine x_iconst C dX3_isFinished_58 ?_
        exact x_zreturnP hR (by decide) dX3_isFinished_59 h
      · refine x_aload_n C dX3_isFinished_28 rfl ?_
        refine x_getR C dX3_isFinished_29 fF_X3_12 rfl rfl ?_
        refine x_getR C dX3_isFinished_32 fF_X3_120 rfl rfl ?_
        refine x_getI C dX3_isFinished_35 fF_X3_124 rfl rfl ?_
        refine x_if_ne C 58 dX3_isFinished_38 (by decide) h (fun h => ?_) (fun h => ?_)
        · refine x_iconst C dX3_isFinished_58 ?_
          exact x_zreturnP hR (by decide) dX3_isFinished_59 h
        · refine x_aload_n C dX3_isFinished_41 rfl ?_
          refine x_getR C dX3_isFinished_42 fF_X3_18 rfl rfl ?_
          refine x_getR C dX3_isFinished_45 fF_X3_120 rfl rfl ?_
          refine x_getI C dX3_isFinished_48 fF_X3_124 rfl rfl ?_
          refine x_if_ne C 58 dX3_isFinished_51 (by decide) h (fun h => ?_) (fun h => ?_)
          · refine x_iconst C dX3_isFinished_58 ?_
            exact x_zreturnP hR (by decide) dX3_isFinished_59 h
          · refine x_iconst C dX3_isFinished_54 ?_
            refine x_goto C 59 dX3_isFinished_55 (by decide) ?_
            exact x_zreturnP hR (by decide) dX3_isFinished_59 h
theorem c_L_finished (l : Launch) (m : xM) (r : Int) (h : f_L_finished m = some r) : xMet l yX3_isFinished cX3_isFinished 1 (some .boolean) 1 lay_L0 [.inr (.inr (some 0))] m (some (.inl r)) m :=
  xMet_z (by decide +kernel) (Nat.le_of_ble_eq_true rfl) (fun Γ C hR _ => t_L_finished (Nat.le_refl _) C hR h)
theorem xy_X3_isFinished : xY yX3_isFinished cX3_isFinished 1 (some .boolean) 0 := ⟨(xin_37 _ (List.mem_of_getElem? (i := 2) rfl)), (xin_1 _ (List.mem_of_getElem? (i := 20) rfl)), by decide, by decide, by decide +kernel⟩
theorem xi_X3_isFinished : Cond.instanceMethod yX3_isFinished ∈ wsL_law := (xin_37 _ (List.mem_of_getElem? (i := 0) rfl))
theorem xs_X3_isFinished : Cond.selects yX3_isFinished.cls yX3_isFinished yX3_isFinished ∈ wsL_law := (xin_37 _ (List.mem_of_getElem? (i := 1) rfl))
theorem dX3_runToFinish_0 : decode cX3_runToFinish 0 = .ok (.iconst 0, 1) := by decide +kernel
theorem dX3_runToFinish_1 : decode cX3_runToFinish 1 = .ok (.istore_n 1, 1) := by decide +kernel
theorem dX3_runToFinish_2 : decode cX3_runToFinish 2 = .ok (.iload_n 1, 1) := by decide +kernel
theorem dX3_runToFinish_3 : decode cX3_runToFinish 3 = .ok (.sipush 400, 3) := by decide +kernel
theorem dX3_runToFinish_6 : decode cX3_runToFinish 6 = .ok (.if_icmp .ge 31, 3) := by decide +kernel
theorem dX3_runToFinish_9 : decode cX3_runToFinish 9 = .ok (.aload_n 0, 1) := by decide +kernel
theorem dX3_runToFinish_10 : decode cX3_runToFinish 10 = .ok (.getfield 64, 3) := by decide +kernel
theorem dX3_runToFinish_13 : decode cX3_runToFinish 13 = .ok (.ifCond .ne 5, 3) := by decide +kernel
theorem dX3_runToFinish_16 : decode cX3_runToFinish 16 = .ok (.iconst (-1), 1) := by decide +kernel
theorem dX3_runToFinish_17 : decode cX3_runToFinish 17 = .ok (.ireturn, 1) := by decide +kernel
theorem dX3_runToFinish_18 : decode cX3_runToFinish 18 = .ok (.aload_n 0, 1) := by decide +kernel
theorem dX3_runToFinish_19 : decode cX3_runToFinish 19 = .ok (.invokevirtual 113, 3) := by decide +kernel
theorem dX3_runToFinish_22 : decode cX3_runToFinish 22 = .ok (.ifCond .eq 5, 3) := by decide +kernel
theorem dX3_runToFinish_25 : decode cX3_runToFinish 25 = .ok (.iload_n 1, 1) := by decide +kernel
theorem dX3_runToFinish_26 : decode cX3_runToFinish 26 = .ok (.ireturn, 1) := by decide +kernel
theorem dX3_runToFinish_27 : decode cX3_runToFinish 27 = .ok (.aload_n 0, 1) := by decide +kernel
theorem dX3_runToFinish_28 : decode cX3_runToFinish 28 = .ok (.invokevirtual 110, 3) := by decide +kernel
theorem dX3_runToFinish_31 : decode cX3_runToFinish 31 = .ok (.iinc 1 1, 3) := by decide +kernel
theorem dX3_runToFinish_34 : decode cX3_runToFinish 34 = .ok (.goto (-32), 3) := by decide +kernel
theorem dX3_runToFinish_37 : decode cX3_runToFinish 37 = .ok (.aload_n 0, 1) := by decide +kernel
theorem dX3_runToFinish_38 : decode cX3_runToFinish 38 = .ok (.invokevirtual 113, 3) := by decide +kernel
theorem dX3_runToFinish_41 : decode cX3_runToFinish 41 = .ok (.ifCond .eq 9, 3) := by decide +kernel
theorem dX3_runToFinish_44 : decode cX3_runToFinish 44 = .ok (.sipush 400, 3) := by decide +kernel
theorem dX3_runToFinish_47 : decode cX3_runToFinish 47 = .ok (.goto 4, 3) := by decide +kernel
theorem dX3_runToFinish_50 : decode cX3_runToFinish 50 = .ok (.iconst (-1), 1) := by decide +kernel
theorem dX3_runToFinish_51 : decode cX3_runToFinish 51 = .ok (.ireturn, 1) := by decide +kernel
def f_L_runToFinish_37 (m : xM) : Option (Int × xM) :=
     (Option.bind (f_L_finished m) fun q0 =>
      (if xw q0 = 0 then some ((-1), m)
      else some (400, m)))
set_option maxRecDepth 1000000 in
set_option maxHeartbeats 4000000 in
theorem t_L_runToFinish_37 {Γ : xG} {d : Nat} (hd9 : 8 ≤ d) (C : xC Γ lay_L0 RX3 cX3_runToFinish 2 d) {r : Int} {m9 : xM} (hR : xRi Γ lay_L0 cX3_runToFinish r m9) (m : xM) (h : f_L_runToFinish_37 m = some (r, m9)) : xW Γ lay_L0 2 37 [(0, .inr (.inr (some 0)))] [] m := by
  unfold f_L_runToFinish_37 at h
  refine x_aload_n C dX3_runToFinish_37 rfl ?_
  obtain ⟨q0, hq0, h⟩ := x_bind h
  refine x_callVI C dX3_runToFinish_38 (xin_36 _ (List.mem_of_getElem? (i := 23) rfl)) xy_X3_isFinished (xi_X3_isFinished) (xs_X3_isFinished) (by omega) (by decide) (b := 0) rfl ⟨_, _, rfl⟩ (av := []) rfl (Nat.le_of_ble_eq_true rfl) (c_L_finished _ _ _ hq0) rfl ?_
  refine x_if_eq C 50 dX3_runToFinish_41 (by decide) h (fun h => ?_) (fun h => ?_)
  · refine x_iconst C dX3_runToFinish_50 ?_
    exact x_ireturn hR dX3_runToFinish_51 h
  · refine x_sipush C dX3_runToFinish_44 (by decide) ?_
    refine x_goto C 51 dX3_runToFinish_47 (by decide) ?_
    exact x_ireturn hR dX3_runToFinish_51 h
def f_L_runToFinish_2 : Nat → Int → xM → Option (Int × xM)
  | 0, _, _ => none
  | n + 1, x1, m =>
     (if xw x1 < xw 400 then (if xw (m 0 8) = 0 then some ((-1), m)
      else (Option.bind (f_L_finished m) fun q1 =>
      (if xw q1 = 0 then (Option.bind (f_L_tick m) fun q2 =>
      f_L_runToFinish_2 n (x1 + 1) q2)
      else some (x1, m))))
      else f_L_runToFinish_37 m)
set_option maxRecDepth 1000000 in
set_option maxHeartbeats 4000000 in
theorem t_L_runToFinish_2 {Γ : xG} {d : Nat} (hd9 : 8 ≤ d) (C : xC Γ lay_L0 RX3 cX3_runToFinish 2 d) {r : Int} {m9 : xM} (hR : xRi Γ lay_L0 cX3_runToFinish r m9) : ∀ (n : Nat) (x1 : Int) (m : xM), f_L_runToFinish_2 n x1 m = some (r, m9) → xW Γ lay_L0 2 2 [(0, .inr (.inr (some 0))), (1, .inl x1)] [] m := by
  intro n
  induction n with
  | zero => intro _ _ h; cases h
  | succ n ih =>
    intro x1 m h
    rw [f_L_runToFinish_2] at h
    refine x_iload_n C dX3_runToFinish_2 rfl ?_
    refine x_sipush C dX3_runToFinish_3 (by decide) ?_
    refine x_icmp_ge C 37 dX3_runToFinish_6 (by decide) h (fun h => ?_) (fun h => ?_)
    · refine x_loc [(0, .inr (.inr (some 0)))] ⟨rfl, trivial⟩ ?_
      exact t_L_runToFinish_37 hd9 C hR _ h
    · refine x_aload_n C dX3_runToFinish_9 rfl ?_
      refine x_getI C dX3_runToFinish_10 fF_X3_64 rfl rfl ?_
      refine x_if_ne C 18 dX3_runToFinish_13 (by decide) h (fun h => ?_) (fun h => ?_)
      · refine x_aload_n C dX3_runToFinish_18 rfl ?_
        obtain ⟨q1, hq1, h⟩ := x_bind h
        refine x_callVI C dX3_runToFinish_19 (xin_36 _ (List.mem_of_getElem? (i := 23) rfl)) xy_X3_isFinished (xi_X3_isFinished) (xs_X3_isFinished) (by omega) (by decide) (b := 0) rfl ⟨_, _, rfl⟩ (av := []) rfl (Nat.le_of_ble_eq_true rfl) (c_L_finished _ _ _ hq1) rfl ?_
        refine x_if_eq C 27 dX3_runToFinish_22 (by decide) h (fun h => ?_) (fun h => ?_)
        · refine x_aload_n C dX3_runToFinish_27 rfl ?_
          obtain ⟨q2, hq2, h⟩ := x_bind h
          refine x_callVI C dX3_runToFinish_28 (xin_37 _ (List.mem_of_getElem? (i := 6) rfl)) xy_X3_tick (xi_X3_tick) (xs_X3_tick) (by omega) (by decide) (b := 0) rfl ⟨_, _, rfl⟩ (av := []) rfl (Nat.le_of_ble_eq_true rfl) (c_L_tick _ _ _ hq2) rfl ?_
          refine x_iinc C dX3_runToFinish_31 (by decide) rfl ?_
          refine x_goto C 2 dX3_runToFinish_34 (by decide) ?_
          refine x_loc [(0, .inr (.inr (some 0))), (1, .inl (x1 + 1))] ⟨rfl, rfl, trivial⟩ ?_
          exact ih _ _ h
        · refine x_iload_n C dX3_runToFinish_25 rfl ?_
          exact x_ireturn hR dX3_runToFinish_26 h
      · refine x_iconst C dX3_runToFinish_16 ?_
        exact x_ireturn hR dX3_runToFinish_17 h
def f_L_runToFinish (m : xM) : Option (Int × xM) :=
     f_L_runToFinish_2 fu 0 m
set_option maxRecDepth 1000000 in
set_option maxHeartbeats 4000000 in
theorem t_L_runToFinish {Γ : xG} {d : Nat} (hd9 : 8 ≤ d) (C : xC Γ lay_L0 RX3 cX3_runToFinish 2 d) {r : Int} {m9 : xM} (hR : xRi Γ lay_L0 cX3_runToFinish r m9) (m : xM) (h : f_L_runToFinish m = some (r, m9)) : xW Γ lay_L0 2 0 [(0, .inr (.inr (some 0)))] [] m := by
  unfold f_L_runToFinish at h
  refine x_iconst C dX3_runToFinish_0 ?_
  refine x_istore_n C dX3_runToFinish_1 (by decide) ?_
  refine x_loc [(0, .inr (.inr (some 0))), (1, .inl 0)] ⟨rfl, rfl, trivial⟩ ?_
  exact t_L_runToFinish_2 hd9 C hR fu _ _ h
theorem c_L_runToFinish (l : Launch) (m : xM) (r : Int) (m9 : xM) (h : f_L_runToFinish m = some (r, m9)) : xMet l yX3_runToFinish cX3_runToFinish 2 (some .int) 8 lay_L0 [.inr (.inr (some 0))] m (some (.inl r)) m9 :=
  xMet_i (by decide +kernel) (Nat.le_of_ble_eq_true rfl) (fun Γ C hR _ => t_L_runToFinish (Nat.le_refl _) C hR m h)
theorem dX3_call_0 : decode cX3_call 0 = .ok (.aload_n 0, 1) := by decide +kernel
theorem dX3_call_1 : decode cX3_call 1 = .ok (.getfield 12, 3) := by decide +kernel
theorem dX3_call_4 : decode cX3_call 4 = .ok (.getfield 120, 3) := by decide +kernel
theorem dX3_call_7 : decode cX3_call 7 = .ok (.invokevirtual 149, 3) := by decide +kernel
theorem dX3_call_10 : decode cX3_call 10 = .ok (.aload_n 0, 1) := by decide +kernel
theorem dX3_call_11 : decode cX3_call 11 = .ok (.getfield 18, 3) := by decide +kernel
theorem dX3_call_14 : decode cX3_call 14 = .ok (.getfield 120, 3) := by decide +kernel
theorem dX3_call_17 : decode cX3_call 17 = .ok (.invokevirtual 149, 3) := by decide +kernel
theorem dX3_call_20 : decode cX3_call 20 = .ok (.aload_n 0, 1) := by decide +kernel
theorem dX3_call_21 : decode cX3_call 21 = .ok (.getfield 12, 3) := by decide +kernel
theorem dX3_call_24 : decode cX3_call 24 = .ok (.iconst 0, 1) := by decide +kernel
theorem dX3_call_25 : decode cX3_call 25 = .ok (.putfield 152, 3) := by decide +kernel
theorem dX3_call_28 : decode cX3_call 28 = .ok (.aload_n 0, 1) := by decide +kernel
theorem dX3_call_29 : decode cX3_call 29 = .ok (.getfield 18, 3) := by decide +kernel
theorem dX3_call_32 : decode cX3_call 32 = .ok (.iconst 0, 1) := by decide +kernel
theorem dX3_call_33 : decode cX3_call 33 = .ok (.putfield 152, 3) := by decide +kernel
theorem dX3_call_36 : decode cX3_call 36 = .ok (.aload_n 0, 1) := by decide +kernel
theorem dX3_call_37 : decode cX3_call 37 = .ok (.iconst 0, 1) := by decide +kernel
theorem dX3_call_38 : decode cX3_call 38 = .ok (.invokevirtual 155, 3) := by decide +kernel
theorem dX3_call_41 : decode cX3_call 41 = .ok (.return_, 1) := by decide +kernel
def f_L_call_28 (m : xM) : Option (xM) :=
     (Option.bind (f_L_beginTraining 0 (xu m 12 7 0)) fun q2 =>
      some q2)
set_option maxRecDepth 1000000 in
set_option maxHeartbeats 4000000 in
theorem t_L_call_28 {Γ : xG} {d : Nat} (hd9 : 4 ≤ d) (C : xC Γ lay_L0 RX3 cX3_call 1 d) {m9 : xM} (hR : xRv Γ lay_L0 cX3_call m9) (m : xM) (h : f_L_call_28 m = some m9) : xW Γ lay_L0 1 28 [(0, .inr (.inr (some 0)))] [] m := by
  unfold f_L_call_28 at h
  refine x_aload_n C dX3_call_28 rfl ?_
  refine x_getR C dX3_call_29 fF_X3_18 rfl rfl ?_
  refine x_iconst C dX3_call_32 ?_
  refine x_putI C dX3_call_33 fF_X3_152 rfl rfl ?_
  refine x_aload_n C dX3_call_36 rfl ?_
  refine x_iconst C dX3_call_37 ?_
  obtain ⟨q2, hq2, h⟩ := x_bind h
  refine x_callVI C dX3_call_38 (xin_39 _ (List.mem_of_getElem? (i := 21) rfl)) xy_X3_beginTraining (xi_X3_beginTraining) (xs_X3_beginTraining) (by omega) (by decide) (b := 0) rfl ⟨_, _, rfl⟩ (av := [.inl 0]) rfl (Nat.le_of_ble_eq_true rfl) (c_L_beginTraining _ _ _ _ hq2) rfl ?_
  exact x_returnV hR dX3_call_41 h
def f_L_call (m : xM) : Option (xM) :=
     (Option.bind (f_F_begin (xvw [4, 5, 6, 7] m)) fun q0 =>
      (Option.bind (f_F_begin (xvw [15, 16, 17, 18] (xmg [4, 5, 6, 7] 4 m q0))) fun q1 =>
      f_L_call_28 (xu (xmg [15, 16, 17, 18] 4 (xmg [4, 5, 6, 7] 4 m q0) q1) 1 7 0)))
set_option maxRecDepth 1000000 in
set_option maxHeartbeats 4000000 in
theorem t_L_call {Γ : xG} {d : Nat} (hd9 : 4 ≤ d) (C : xC Γ lay_L0 RX3 cX3_call 1 d) {m9 : xM} (hR : xRv Γ lay_L0 cX3_call m9) (m : xM) (h : f_L_call m = some m9) : xW Γ lay_L0 1 0 [(0, .inr (.inr (some 0)))] [] m := by
  unfold f_L_call at h
  refine x_aload_n C dX3_call_0 rfl ?_
  refine x_getR C dX3_call_1 fF_X3_12 rfl rfl ?_
  refine x_getR C dX3_call_4 fF_X3_120 rfl rfl ?_
  obtain ⟨q0, hq0, h⟩ := x_bind h
  refine x_callV C dX3_call_7 (xin_52 _ (List.mem_of_getElem? (i := 5) rfl)) xy_X2_beginNumbers (xi_X2_beginNumbers) (xs_X2_beginNumbers) [4, 5, 6, 7] xv_20 (by omega) (by decide) (b := 0) rfl ⟨_, _, rfl⟩ (av := []) rfl (Nat.le_of_ble_eq_true rfl) (c_F_begin _ _ _ hq0) rfl ?_
  refine x_aload_n C dX3_call_10 rfl ?_
  refine x_getR C dX3_call_11 fF_X3_18 rfl rfl ?_
  refine x_getR C dX3_call_14 fF_X3_120 rfl rfl ?_
  obtain ⟨q1, hq1, h⟩ := x_bind h
  refine x_callV C dX3_call_17 (xin_52 _ (List.mem_of_getElem? (i := 5) rfl)) xy_X2_beginNumbers (xi_X2_beginNumbers) (xs_X2_beginNumbers) [15, 16, 17, 18] xv_21 (by omega) (by decide) (b := 0) rfl ⟨_, _, rfl⟩ (av := []) rfl (Nat.le_of_ble_eq_true rfl) (c_F_begin _ _ _ hq1) rfl ?_
  refine x_aload_n C dX3_call_20 rfl ?_
  refine x_getR C dX3_call_21 fF_X3_12 rfl rfl ?_
  refine x_iconst C dX3_call_24 ?_
  refine x_putI C dX3_call_25 fF_X3_152 rfl rfl ?_
  refine x_loc [(0, .inr (.inr (some 0)))] ⟨rfl, trivial⟩ ?_
  exact t_L_call_28 hd9 C hR _ h
theorem c_L_call (l : Launch) (m m9 : xM) (h : f_L_call m = some m9) : xMet l yX3_call cX3_call 1 none 4 lay_L0 [.inr (.inr (some 0))] m none m9 :=
  xMet_v (by decide +kernel) (Nat.le_of_ble_eq_true rfl) (fun Γ C hR _ => t_L_call (Nat.le_refl _) C hR m h)

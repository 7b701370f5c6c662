/-! ===== yX11_load ===== -/
theorem xy_X11_clear : xY yX11_clear cX11_clear 2 none 1 := ⟨(xin_9 _ (List.mem_of_getElem? (i := 18) rfl)), (xin_1 _ (List.mem_of_getElem? (i := 5) rfl)), by decide, by decide, by decide +kernel⟩
theorem xt_X11_clear : Cond.static yX11_clear ∈ wsL_law := (xin_9 _ (List.mem_of_getElem? (i := 17) rfl))
theorem xv_57 : xview lay_M lay_row [2] := xview_of (by decide +kernel)
theorem xy_X11_startText : xY yX11_startText cX11_startText 2 none 1 := ⟨(xin_19 _ (List.mem_of_getElem? (i := 5) rfl)), (xin_1 _ (List.mem_of_getElem? (i := 5) rfl)), by decide, by decide, by decide +kernel⟩
theorem xi_X11_startText : Cond.instanceMethod yX11_startText ∈ wsL_law := (xin_19 _ (List.mem_of_getElem? (i := 3) rfl))
theorem xs_X11_startText : Cond.selects yX11_startText.cls yX11_startText yX11_startText ∈ wsL_law := (xin_19 _ (List.mem_of_getElem? (i := 4) rfl))
theorem xy_X11_readAll : xY yX11_readAll cX11_readAll 1 none 0 := ⟨(xin_20 _ (List.mem_of_getElem? (i := 6) rfl)), (xin_1 _ (List.mem_of_getElem? (i := 5) rfl)), by decide, by decide, by decide +kernel⟩
theorem xi_X11_readAll : Cond.instanceMethod yX11_readAll ∈ wsL_law := (xin_20 _ (List.mem_of_getElem? (i := 4) rfl))
theorem xs_X11_readAll : Cond.selects yX11_readAll.cls yX11_readAll yX11_readAll ∈ wsL_law := (xin_20 _ (List.mem_of_getElem? (i := 5) rfl))
theorem xy_X11_finish : xY yX11_finish cX11_finish 1 (some .int) 0 := ⟨(xin_23 _ (List.mem_of_getElem? (i := 15) rfl)), (xin_1 _ (List.mem_of_getElem? (i := 5) rfl)), by decide, by decide, by decide +kernel⟩
theorem xi_X11_finish : Cond.instanceMethod yX11_finish ∈ wsL_law := (xin_23 _ (List.mem_of_getElem? (i := 13) rfl))
theorem xs_X11_finish : Cond.selects yX11_finish.cls yX11_finish yX11_finish ∈ wsL_law := (xin_23 _ (List.mem_of_getElem? (i := 14) rfl))
theorem xv_58 : xview lay_M lay_cA [2, 1] := xview_of (by decide +kernel)
theorem dX11_load_0 : decode cX11_load 0 = .ok (.aload_n 0, 1) := by decide +kernel
theorem dX11_load_1 : decode cX11_load 1 = .ok (.iconst 0, 1) := by decide +kernel
theorem dX11_load_2 : decode cX11_load 2 = .ok (.putfield 66, 3) := by decide +kernel
theorem dX11_load_5 : decode cX11_load 5 = .ok (.iload_n 1, 1) := by decide +kernel
theorem dX11_load_6 : decode cX11_load 6 = .ok (.iconst 0, 1) := by decide +kernel
theorem dX11_load_7 : decode cX11_load 7 = .ok (.aload_n 0, 1) := by decide +kernel
theorem dX11_load_8 : decode cX11_load 8 = .ok (.getfield 209, 3) := by decide +kernel
theorem dX11_load_11 : decode cX11_load 11 = .ok (.invokestatic 81, 3) := by decide +kernel
theorem dX11_load_14 : decode cX11_load 14 = .ok (.ifCond .ne 9, 3) := by decide +kernel
theorem dX11_load_17 : decode cX11_load 17 = .ok (.aload_n 0, 1) := by decide +kernel
theorem dX11_load_18 : decode cX11_load 18 = .ok (.iconst 1, 1) := by decide +kernel
theorem dX11_load_19 : decode cX11_load 19 = .ok (.invokevirtual 212, 3) := by decide +kernel
theorem dX11_load_22 : decode cX11_load 22 = .ok (.ireturn, 1) := by decide +kernel
theorem dX11_load_23 : decode cX11_load 23 = .ok (.aload_n 0, 1) := by decide +kernel
theorem dX11_load_24 : decode cX11_load 24 = .ok (.getfield 13, 3) := by decide +kernel
theorem dX11_load_27 : decode cX11_load 27 = .ok (.invokestatic 62, 3) := by decide +kernel
theorem dX11_load_30 : decode cX11_load 30 = .ok (.aload_n 0, 1) := by decide +kernel
theorem dX11_load_31 : decode cX11_load 31 = .ok (.iload_n 1, 1) := by decide +kernel
theorem dX11_load_32 : decode cX11_load 32 = .ok (.invokevirtual 394, 3) := by decide +kernel
theorem dX11_load_35 : decode cX11_load 35 = .ok (.aload_n 0, 1) := by decide +kernel
theorem dX11_load_36 : decode cX11_load 36 = .ok (.invokevirtual 397, 3) := by decide +kernel
theorem dX11_load_39 : decode cX11_load 39 = .ok (.aload_n 0, 1) := by decide +kernel
theorem dX11_load_40 : decode cX11_load 40 = .ok (.invokevirtual 400, 3) := by decide +kernel
theorem dX11_load_43 : decode cX11_load 43 = .ok (.ifCond .eq 11, 3) := by decide +kernel
theorem dX11_load_46 : decode cX11_load 46 = .ok (.bipush (-10), 2) := by decide +kernel
theorem dX11_load_48 : decode cX11_load 48 = .ok (.aload_n 0, 1) := by decide +kernel
theorem dX11_load_49 : decode cX11_load 49 = .ok (.getfield 301, 3) := by decide +kernel
theorem dX11_load_52 : decode cX11_load 52 = .ok (.isub, 1) := by decide +kernel
theorem dX11_load_53 : decode cX11_load 53 = .ok (.ireturn, 1) := by decide +kernel
theorem dX11_load_54 : decode cX11_load 54 = .ok (.aload_n 0, 1) := by decide +kernel
theorem dX11_load_55 : decode cX11_load 55 = .ok (.getfield 13, 3) := by decide +kernel
theorem dX11_load_58 : decode cX11_load 58 = .ok (.iconst 0, 1) := by decide +kernel
theorem dX11_load_59 : decode cX11_load 59 = .ok (.aload_n 0, 1) := by decide +kernel
theorem dX11_load_60 : decode cX11_load 60 = .ok (.getfield 9, 3) := by decide +kernel
theorem dX11_load_63 : decode cX11_load 63 = .ok (.iconst 0, 1) := by decide +kernel
theorem dX11_load_64 : decode cX11_load 64 = .ok (.invokestatic 228, 3) := by decide +kernel
theorem dX11_load_67 : decode cX11_load 67 = .ok (.aload_n 0, 1) := by decide +kernel
theorem dX11_load_68 : decode cX11_load 68 = .ok (.iconst 0, 1) := by decide +kernel
theorem dX11_load_69 : decode cX11_load 69 = .ok (.putfield 273, 3) := by decide +kernel
theorem dX11_load_72 : decode cX11_load 72 = .ok (.aload_n 0, 1) := by decide +kernel
theorem dX11_load_73 : decode cX11_load 73 = .ok (.iconst 0, 1) := by decide +kernel
theorem dX11_load_74 : decode cX11_load 74 = .ok (.putfield 276, 3) := by decide +kernel
theorem dX11_load_77 : decode cX11_load 77 = .ok (.aload_n 0, 1) := by decide +kernel
theorem dX11_load_78 : decode cX11_load 78 = .ok (.getfield 9, 3) := by decide +kernel
theorem dX11_load_81 : decode cX11_load 81 = .ok (.bipush 11, 2) := by decide +kernel
theorem dX11_load_83 : decode cX11_load 83 = .ok (.iaload, 1) := by decide +kernel
theorem dX11_load_84 : decode cX11_load 84 = .ok (.ireturn, 1) := by decide +kernel
def f_m_load (z : Int) (m : xM) : Option (Int × xM) :=
     (Option.bind (f_m_inRange z 0 (m 0 13) (xvw [] (xu m 0 6 0))) fun q0 =>
      (if xw q0 = 0 then (Option.bind (f_m_raise 1 (xu m 0 6 0)) fun q6 =>
      some (q6.1, q6.2))
      else (Option.bind (f_m_clear (xvw [2] (xu m 0 6 0))) fun q1 =>
      (Option.bind (f_m_startText z (xmg [2] 1 (xu m 0 6 0) q1)) fun q2 =>
      (Option.bind (f_m_readAll q2) fun q3 =>
      (Option.bind (f_m_finish q3) fun q4 =>
      (if xw q4.1 = 0 then (Option.bind (f_m_copyA 0 0 (xvw [2, 1] q4.2)) fun q5 =>
      (if xib 11 3530 then some (((xmg [2, 1] 2 q4.2 q5) 1 11), (xu (xu (xmg [2, 1] 2 q4.2 q5) 0 5 0) 0 7 0))
      else none))
      else some ((-10) - (q4.2 0 18), q4.2))))))))
set_option maxRecDepth 1000000 in
set_option maxHeartbeats 4000000 in
theorem t_m_load {Γ : xG} {d : Nat} (hd9 : 9 ≤ d) (C : xC Γ lay_M RX11 cX11_load 2 d) (z : Int) {r : Int} {m9 : xM} (hR : xRi Γ lay_M cX11_load r m9) (m : xM) (h : f_m_load z m = some (r, m9)) : xW Γ lay_M 2 0 [(0, .inr (.inr (some 0))), (1, .inl z)] [] m := by
  unfold f_m_load at h
  refine x_aload_n C dX11_load_0 rfl ?_
  refine x_iconst C dX11_load_1 ?_
  refine x_putI C dX11_load_2 fF_X11_66 rfl rfl ?_
  refine x_iload_n C dX11_load_5 rfl ?_
  refine x_iconst C dX11_load_6 ?_
  refine x_aload_n C dX11_load_7 rfl ?_
  refine x_getI C dX11_load_8 fF_X11_209 rfl rfl ?_
  obtain ⟨q0, hq0, h⟩ := x_bind h
  refine x_callSp C dX11_load_11 (xin_18 _ (List.mem_of_getElem? (i := 19) rfl)) xy_X11_inRange (xt_X11_inRange) [] xv_49 (by omega) (by decide) (av := [.inl z, .inl 0, .inl (m 0 13)]) rfl (Nat.le_of_ble_eq_true rfl) (c_m_inRange _ _ _ _ _ _ hq0) rfl ?_
  refine x_if_ne C 23 dX11_load_14 (by decide) h (fun h => ?_) (fun h => ?_)
  · refine x_aload_n C dX11_load_23 rfl ?_
    refine x_getR C dX11_load_24 fF_X11_13 rfl rfl ?_
    obtain ⟨q1, hq1, h⟩ := x_bind h
    refine x_callS C dX11_load_27 (xin_9 _ (List.mem_of_getElem? (i := 16) rfl)) xy_X11_clear (xt_X11_clear) [2] xv_57 (by omega) (by decide) (av := [.inr (.inr (some 0))]) rfl (Nat.le_of_ble_eq_true rfl) (c_m_clear _ _ _ hq1) rfl ?_
    refine x_aload_n C dX11_load_30 rfl ?_
    refine x_iload_n C dX11_load_31 rfl ?_
    obtain ⟨q2, hq2, h⟩ := x_bind h
    refine x_callVI C dX11_load_32 (xin_19 _ (List.mem_of_getElem? (i := 2) rfl)) xy_X11_startText (xi_X11_startText) (xs_X11_startText) (by omega) (by decide) (b := 0) rfl ⟨_, _, rfl⟩ (av := [.inl z]) rfl (Nat.le_of_ble_eq_true rfl) (c_m_startText _ _ _ _ hq2) rfl ?_
    refine x_aload_n C dX11_load_35 rfl ?_
    obtain ⟨q3, hq3, h⟩ := x_bind h
    refine x_callVI C dX11_load_36 (xin_20 _ (List.mem_of_getElem? (i := 3) rfl)) xy_X11_readAll (xi_X11_readAll) (xs_X11_readAll) (by omega) (by decide) (b := 0) rfl ⟨_, _, rfl⟩ (av := []) rfl (Nat.le_of_ble_eq_true rfl) (c_m_readAll _ _ _ hq3) rfl ?_
    refine x_aload_n C dX11_load_39 rfl ?_
    obtain ⟨q4, hq4, h⟩ := x_bind h
    refine x_callVI C dX11_load_40 (xin_23 _ (List.mem_of_getElem? (i := 12) rfl)) xy_X11_finish (xi_X11_finish) (xs_X11_finish) (by omega) (by decide) (b := 0) rfl ⟨_, _, rfl⟩ (av := []) rfl (Nat.le_of_ble_eq_true rfl) (c_m_finish _ _ q4.1 q4.2 hq4) rfl ?_
    refine x_if_eq C 54 dX11_load_43 (by decide) h (fun h => ?_) (fun h => ?_)
    · refine x_aload_n C dX11_load_54 rfl ?_
      refine x_getR C dX11_load_55 fF_X11_13 rfl rfl ?_
      refine x_iconst C dX11_load_58 ?_
      refine x_aload_n C dX11_load_59 rfl ?_
      refine x_getR C dX11_load_60 fF_X11_9 rfl rfl ?_
      refine x_iconst C dX11_load_63 ?_
      obtain ⟨q5, hq5, h⟩ := x_bind h
      refine x_callS C dX11_load_64 (xin_23 _ (List.mem_of_getElem? (i := 16) rfl)) xy_X11_copy (xt_X11_copy) [2, 1] xv_58 (by omega) (by decide) (av := [.inr (.inr (some 0)), .inl 0, .inr (.inr (some 1)), .inl 0]) rfl (Nat.le_of_ble_eq_true rfl) (c_m_copyA _ _ _ _ _ hq5) rfl ?_
      refine x_aload_n C dX11_load_67 rfl ?_
      refine x_iconst C dX11_load_68 ?_
      refine x_putI C dX11_load_69 fF_X11_273 rfl rfl ?_
      refine x_aload_n C dX11_load_72 rfl ?_
      refine x_iconst C dX11_load_73 ?_
      refine x_putZ C dX11_load_74 fF_X11_276 rfl rfl (by decide) ?_
      refine x_aload_n C dX11_load_77 rfl ?_
      refine x_getR C dX11_load_78 fF_X11_9 rfl rfl ?_
      refine x_bipush C dX11_load_81 (by decide) ?_
      refine x_iaload C dX11_load_83 rfl h (fun h => ?_)
      exact x_ireturn hR dX11_load_84 h
    · refine x_bipush C dX11_load_46 (by decide) ?_
      refine x_aload_n C dX11_load_48 rfl ?_
      refine x_getI C dX11_load_49 fF_X11_301 rfl rfl ?_
      refine x_isub C dX11_load_52 ?_
      exact x_ireturn hR dX11_load_53 h
  · refine x_aload_n C dX11_load_17 rfl ?_
    refine x_iconst C dX11_load_18 ?_
    obtain ⟨q6, hq6, h⟩ := x_bind h
    refine x_callVI C dX11_load_19 (xin_18 _ (List.mem_of_getElem? (i := 22) rfl)) xy_X11_raise (xi_X11_raise) (xs_X11_raise) (by omega) (by decide) (b := 0) rfl ⟨_, _, rfl⟩ (av := [.inl 1]) rfl (Nat.le_of_ble_eq_true rfl) (c_m_raise _ _ _ q6.1 q6.2 hq6) rfl ?_
    exact x_ireturn hR dX11_load_22 h
theorem c_m_load (l : Launch) (z : Int) (m : xM) (r : Int) (m9 : xM) (h : f_m_load z m = some (r, m9)) : xMet l yX11_load cX11_load 2 (some .int) 9 lay_M [.inr (.inr (some 0)), .inl z] m (some (.inl r)) m9 :=
  xMet_i (by decide +kernel) (Nat.le_of_ble_eq_true rfl) (fun Γ C hR hl9 => t_m_load (Nat.le_refl _) C z hR m h)
/-! ===== yX11_emit ===== -/
theorem fF_X11_55 : xF RX11 55 13 23 (.array .int) true := ⟨RX11, TX11, 26, tyX11, rfl, by decide, (xin_9 _ (List.mem_of_getElem? (i := 14) rfl)), rfl, inlX11, tyX11_ok, nmX11, rfl, rfl⟩
theorem fF_X11_403 : xF RX11 403 13 25 .int false := ⟨RX11, TX11, 26, tyX11, rfl, by decide, (xin_69 _ (List.mem_of_getElem? (i := 1) rfl)), rfl, inlX11, tyX11_ok, nmX11, rfl, rfl⟩
theorem dX11_emit_0 : decode cX11_emit 0 = .ok (.aload_n 0, 1) := by decide +kernel
theorem dX11_emit_1 : decode cX11_emit 1 = .ok (.getfield 301, 3) := by decide +kernel
theorem dX11_emit_4 : decode cX11_emit 4 = .ok (.ifCond .ne 23, 3) := by decide +kernel
theorem dX11_emit_7 : decode cX11_emit 7 = .ok (.aload_n 0, 1) := by decide +kernel
theorem dX11_emit_8 : decode cX11_emit 8 = .ok (.getfield 55, 3) := by decide +kernel
theorem dX11_emit_11 : decode cX11_emit 11 = .ok (.aload_n 0, 1) := by decide +kernel
theorem dX11_emit_12 : decode cX11_emit 12 = .ok (.getfield 403, 3) := by decide +kernel
theorem dX11_emit_15 : decode cX11_emit 15 = .ok (.iload_n 1, 1) := by decide +kernel
theorem dX11_emit_16 : decode cX11_emit 16 = .ok (.iastore, 1) := by decide +kernel
theorem dX11_emit_17 : decode cX11_emit 17 = .ok (.aload_n 0, 1) := by decide +kernel
theorem dX11_emit_18 : decode cX11_emit 18 = .ok (.dup, 1) := by decide +kernel
theorem dX11_emit_19 : decode cX11_emit 19 = .ok (.getfield 403, 3) := by decide +kernel
theorem dX11_emit_22 : decode cX11_emit 22 = .ok (.iconst 1, 1) := by decide +kernel
theorem dX11_emit_23 : decode cX11_emit 23 = .ok (.iadd, 1) := by decide +kernel
theorem dX11_emit_24 : decode cX11_emit 24 = .ok (.putfield 403, 3) := by decide +kernel
theorem dX11_emit_27 : decode cX11_emit 27 = .ok (.return_, 1) := by decide +kernel
def f_m_emit (z : Int) (m : xM) : Option (xM) :=
     (if xw (m 0 18) = 0 then (if xib (m 0 25) 200 then some (xu (xu m 10 (xix (m 0 25)) z) 0 25 ((m 0 25) + 1))
      else none)
      else some m)
set_option maxRecDepth 1000000 in
set_option maxHeartbeats 4000000 in
theorem t_m_emit {Γ : xG} {d : Nat} (hd9 : 1 ≤ d) (C : xC Γ lay_M RX11 cX11_emit 2 d) (z : Int) {m9 : xM} (hR : xRv Γ lay_M cX11_emit m9) (m : xM) (h : f_m_emit z m = some m9) : xW Γ lay_M 2 0 [(0, .inr (.inr (some 0))), (1, .inl z)] [] m := by
  unfold f_m_emit at h
  refine x_aload_n C dX11_emit_0 rfl ?_
  refine x_getI C dX11_emit_1 fF_X11_301 rfl rfl ?_
  refine x_if_ne C 27 dX11_emit_4 (by decide) h (fun h => ?_) (fun h => ?_)
  · exact x_returnV hR dX11_emit_27 h
  · refine x_aload_n C dX11_emit_7 rfl ?_
    refine x_getR C dX11_emit_8 fF_X11_55 rfl rfl ?_
    refine x_aload_n C dX11_emit_11 rfl ?_
    refine x_getI C dX11_emit_12 fF_X11_403 rfl rfl ?_
    refine x_iload_n C dX11_emit_15 rfl ?_
    refine x_iastore C dX11_emit_16 rfl h (fun h => ?_)
    refine x_aload_n C dX11_emit_17 rfl ?_
    refine x_dup C dX11_emit_18 rfl ?_
    refine x_getI C dX11_emit_19 fF_X11_403 rfl rfl ?_
    refine x_iconst C dX11_emit_22 ?_
    refine x_iadd C dX11_emit_23 ?_
    refine x_putI C dX11_emit_24 fF_X11_403 rfl rfl ?_
    exact x_returnV hR dX11_emit_27 h
theorem c_m_emit (l : Launch) (z : Int) (m m9 : xM) (h : f_m_emit z m = some m9) : xMet l yX11_emit cX11_emit 2 none 1 lay_M [.inr (.inr (some 0)), .inl z] m none m9 :=
  xMet_v (by decide +kernel) (Nat.le_of_ble_eq_true rfl) (fun Γ C hR hl9 => t_m_emit (Nat.le_refl _) C z hR m h)
/-! ===== yX11_enter ===== -/
theorem dX11_enter_0 : decode cX11_enter 0 = .ok (.aload_n 0, 1) := by decide +kernel
theorem dX11_enter_1 : decode cX11_enter 1 = .ok (.aload_n 0, 1) := by decide +kernel
theorem dX11_enter_2 : decode cX11_enter 2 = .ok (.getfield 304, 3) := by decide +kernel
theorem dX11_enter_5 : decode cX11_enter 5 = .ok (.bipush 6, 2) := by decide +kernel
theorem dX11_enter_7 : decode cX11_enter 7 = .ok (.if_icmp .ge 7, 3) := by decide +kernel
theorem dX11_enter_10 : decode cX11_enter 10 = .ok (.iconst 1, 1) := by decide +kernel
theorem dX11_enter_11 : decode cX11_enter 11 = .ok (.goto 4, 3) := by decide +kernel
theorem dX11_enter_14 : decode cX11_enter 14 = .ok (.iconst 0, 1) := by decide +kernel
theorem dX11_enter_15 : decode cX11_enter 15 = .ok (.iconst 3, 1) := by decide +kernel
theorem dX11_enter_16 : decode cX11_enter 16 = .ok (.invokevirtual 320, 3) := by decide +kernel
theorem dX11_enter_19 : decode cX11_enter 19 = .ok (.aload_n 0, 1) := by decide +kernel
theorem dX11_enter_20 : decode cX11_enter 20 = .ok (.dup, 1) := by decide +kernel
theorem dX11_enter_21 : decode cX11_enter 21 = .ok (.getfield 304, 3) := by decide +kernel
theorem dX11_enter_24 : decode cX11_enter 24 = .ok (.iconst 1, 1) := by decide +kernel
theorem dX11_enter_25 : decode cX11_enter 25 = .ok (.iadd, 1) := by decide +kernel
theorem dX11_enter_26 : decode cX11_enter 26 = .ok (.putfield 304, 3) := by decide +kernel
theorem dX11_enter_29 : decode cX11_enter 29 = .ok (.aload_n 0, 1) := by decide +kernel
theorem dX11_enter_30 : decode cX11_enter 30 = .ok (.invokevirtual 324, 3) := by decide +kernel
theorem dX11_enter_33 : decode cX11_enter 33 = .ok (.return_, 1) := by decide +kernel
def f_m_enter_15 (s0 : Int) (m : xM) : Option (xM) :=
     (Option.bind (f_m_check s0 3 m) fun q0 =>
      (Option.bind (f_m_advance (xu q0 0 21 ((q0 0 21) + 1))) fun q1 =>
      some q1))
set_option maxRecDepth 1000000 in
set_option maxHeartbeats 4000000 in
theorem t_m_enter_15 {Γ : xG} {d : Nat} (hd9 : 5 ≤ d) (C : xC Γ lay_M RX11 cX11_enter 1 d) {m9 : xM} (hR : xRv Γ lay_M cX11_enter m9) (s0 : Int) (m : xM) (h : f_m_enter_15 s0 m = some m9) : xW Γ lay_M 1 15 [(0, .inr (.inr (some 0)))] [.inl s0, .inr (.inr (some 0))] m := by
  unfold f_m_enter_15 at h
  refine x_iconst C dX11_enter_15 ?_
  obtain ⟨q0, hq0, h⟩ := x_bind h
  refine x_callVI C dX11_enter_16 (xin_20 _ (List.mem_of_getElem? (i := 17) rfl)) xy_X11_check (xi_X11_check) (xs_X11_check) (by omega) (by decide) (b := 0) rfl ⟨_, _, rfl⟩ (av := [.inl s0, .inl 3]) rfl (Nat.le_of_ble_eq_true rfl) (c_m_check _ _ _ _ _ hq0) rfl ?_
  refine x_aload_n C dX11_enter_19 rfl ?_
  refine x_dup C dX11_enter_20 rfl ?_
  refine x_getI C dX11_enter_21 fF_X11_304 rfl rfl ?_
  refine x_iconst C dX11_enter_24 ?_
  refine x_iadd C dX11_enter_25 ?_
  refine x_putI C dX11_enter_26 fF_X11_304 rfl rfl ?_
  refine x_aload_n C dX11_enter_29 rfl ?_
  obtain ⟨q1, hq1, h⟩ := x_bind h
  refine x_callVI C dX11_enter_30 (xin_21 _ (List.mem_of_getElem? (i := 2) rfl)) xy_X11_advance (xi_X11_advance) (xs_X11_advance) (by omega) (by decide) (b := 0) rfl ⟨_, _, rfl⟩ (av := []) rfl (Nat.le_of_ble_eq_true rfl) (c_m_advance _ _ _ hq1) rfl ?_
  exact x_returnV hR dX11_enter_33 h
def f_m_enter (m : xM) : Option (xM) :=
     (if xw (m 0 21) < xw 6 then f_m_enter_15 1 m
      else f_m_enter_15 0 m)
set_option maxRecDepth 1000000 in
set_option maxHeartbeats 4000000 in
theorem t_m_enter {Γ : xG} {d : Nat} (hd9 : 5 ≤ d) (C : xC Γ lay_M RX11 cX11_enter 1 d) {m9 : xM} (hR : xRv Γ lay_M cX11_enter m9) (m : xM) (h : f_m_enter m = some m9) : xW Γ lay_M 1 0 [(0, .inr (.inr (some 0)))] [] m := by
  unfold f_m_enter at h
  refine x_aload_n C dX11_enter_0 rfl ?_
  refine x_aload_n C dX11_enter_1 rfl ?_
  refine x_getI C dX11_enter_2 fF_X11_304 rfl rfl ?_
  refine x_bipush C dX11_enter_5 (by decide) ?_
  refine x_icmp_ge C 14 dX11_enter_7 (by decide) h (fun h => ?_) (fun h => ?_)
  · refine x_iconst C dX11_enter_14 ?_
    refine x_loc [(0, .inr (.inr (some 0)))] ⟨rfl, trivial⟩ ?_
    exact t_m_enter_15 hd9 C hR _ _ h
  · refine x_iconst C dX11_enter_10 ?_
    refine x_goto C 15 dX11_enter_11 (by decide) ?_
    refine x_loc [(0, .inr (.inr (some 0)))] ⟨rfl, trivial⟩ ?_
    exact t_m_enter_15 hd9 C hR _ _ h
theorem c_m_enter (l : Launch) (m m9 : xM) (h : f_m_enter m = some m9) : xMet l yX11_enter cX11_enter 1 none 5 lay_M [.inr (.inr (some 0))] m none m9 :=
  xMet_v (by decide +kernel) (Nat.le_of_ble_eq_true rfl) (fun Γ C hR hl9 => t_m_enter (Nat.le_refl _) C hR m h)
/-! ===== yX11_compileValue ===== -/
theorem xy_X11_emit : xY yX11_emit cX11_emit 2 none 1 := ⟨(xin_69 _ (List.mem_of_getElem? (i := 13) rfl)), (xin_1 _ (List.mem_of_getElem? (i := 5) rfl)), by decide, by decide, by decide +kernel⟩
theorem xi_X11_emit : Cond.instanceMethod yX11_emit ∈ wsL_law := (xin_69 _ (List.mem_of_getElem? (i := 11) rfl))
theorem xs_X11_emit : Cond.selects yX11_emit.cls yX11_emit yX11_emit ∈ wsL_law := (xin_69 _ (List.mem_of_getElem? (i := 12) rfl))
theorem fF_X11_51 : xF RX11 51 13 22 (.array (.object "java/lang/String")) true := ⟨RX11, TX11, 26, tyX11, rfl, by decide, (xin_9 _ (List.mem_of_getElem? (i := 13) rfl)), rfl, inlX11, tyX11_ok, nmX11, rfl, rfl⟩
theorem dX11_compileValue_0 : decode cX11_compileValue 0 = .ok (.aload_n 0, 1) := by decide +kernel
theorem dX11_compileValue_1 : decode cX11_compileValue 1 = .ok (.getfield 301, 3) := by decide +kernel
theorem dX11_compileValue_4 : decode cX11_compileValue 4 = .ok (.ifCond .ne 11, 3) := by decide +kernel
theorem dX11_compileValue_7 : decode cX11_compileValue 7 = .ok (.aload_n 0, 1) := by decide +kernel
theorem dX11_compileValue_8 : decode cX11_compileValue 8 = .ok (.getfield 292, 3) := by decide +kernel
theorem dX11_compileValue_11 : decode cX11_compileValue 11 = .ok (.iconst 2, 1) := by decide +kernel
theorem dX11_compileValue_12 : decode cX11_compileValue 12 = .ok (.if_icmp .ne 15, 3) := by decide +kernel
theorem dX11_compileValue_15 : decode cX11_compileValue 15 = .ok (.aload_n 0, 1) := by decide +kernel
theorem dX11_compileValue_16 : decode cX11_compileValue 16 = .ok (.aload_n 0, 1) := by decide +kernel
theorem dX11_compileValue_17 : decode cX11_compileValue 17 = .ok (.iconst 0, 1) := by decide +kernel
theorem dX11_compileValue_18 : decode cX11_compileValue 18 = .ok (.ldc 235, 2) := by decide +kernel
theorem dX11_compileValue_20 : decode cX11_compileValue 20 = .ok (.invokevirtual 345, 3) := by decide +kernel
theorem dX11_compileValue_23 : decode cX11_compileValue 23 = .ok (.invokevirtual 406, 3) := by decide +kernel
theorem dX11_compileValue_26 : decode cX11_compileValue 26 = .ok (.return_, 1) := by decide +kernel
theorem dX11_compileValue_27 : decode cX11_compileValue 27 = .ok (.iconst 0, 1) := by decide +kernel
theorem dX11_compileValue_28 : decode cX11_compileValue 28 = .ok (.istore_n 1, 1) := by decide +kernel
theorem dX11_compileValue_29 : decode cX11_compileValue 29 = .ok (.iload_n 1, 1) := by decide +kernel
theorem dX11_compileValue_30 : decode cX11_compileValue 30 = .ok (.aload_n 0, 1) := by decide +kernel
theorem dX11_compileValue_31 : decode cX11_compileValue 31 = .ok (.getfield 51, 3) := by decide +kernel
theorem dX11_compileValue_34 : decode cX11_compileValue 34 = .ok (.arraylength, 1) := by decide +kernel
theorem dX11_compileValue_35 : decode cX11_compileValue 35 = .ok (.if_icmp .ge 22, 3) := by decide +kernel
theorem dX11_compileValue_38 : decode cX11_compileValue 38 = .ok (.aload_n 0, 1) := by decide +kernel
theorem dX11_compileValue_39 : decode cX11_compileValue 39 = .ok (.aload_n 0, 1) := by decide +kernel
theorem dX11_compileValue_40 : decode cX11_compileValue 40 = .ok (.getfield 51, 3) := by decide +kernel
theorem dX11_compileValue_43 : decode cX11_compileValue 43 = .ok (.iload_n 1, 1) := by decide +kernel
theorem dX11_compileValue_44 : decode cX11_compileValue 44 = .ok (.aaload, 1) := by decide +kernel
theorem dX11_compileValue_45 : decode cX11_compileValue 45 = .ok (.invokevirtual 316, 3) := by decide +kernel
theorem dX11_compileValue_48 : decode cX11_compileValue 48 = .ok (.ifCond .ne 9, 3) := by decide +kernel
theorem dX11_compileValue_51 : decode cX11_compileValue 51 = .ok (.iinc 1 1, 3) := by decide +kernel
theorem dX11_compileValue_54 : decode cX11_compileValue 54 = .ok (.goto (-25), 3) := by decide +kernel
theorem dX11_compileValue_57 : decode cX11_compileValue 57 = .ok (.aload_n 0, 1) := by decide +kernel
theorem dX11_compileValue_58 : decode cX11_compileValue 58 = .ok (.iload_n 1, 1) := by decide +kernel
theorem dX11_compileValue_59 : decode cX11_compileValue 59 = .ok (.aload_n 0, 1) := by decide +kernel
theorem dX11_compileValue_60 : decode cX11_compileValue 60 = .ok (.getfield 51, 3) := by decide +kernel
theorem dX11_compileValue_63 : decode cX11_compileValue 63 = .ok (.arraylength, 1) := by decide +kernel
theorem dX11_compileValue_64 : decode cX11_compileValue 64 = .ok (.if_icmp .ge 7, 3) := by decide +kernel
theorem dX11_compileValue_67 : decode cX11_compileValue 67 = .ok (.iconst 1, 1) := by decide +kernel
theorem dX11_compileValue_68 : decode cX11_compileValue 68 = .ok (.goto 4, 3) := by decide +kernel
theorem dX11_compileValue_71 : decode cX11_compileValue 71 = .ok (.iconst 0, 1) := by decide +kernel
theorem dX11_compileValue_72 : decode cX11_compileValue 72 = .ok (.iconst 1, 1) := by decide +kernel
theorem dX11_compileValue_73 : decode cX11_compileValue 73 = .ok (.invokevirtual 320, 3) := by decide +kernel
theorem dX11_compileValue_76 : decode cX11_compileValue 76 = .ok (.aload_n 0, 1) := by decide +kernel
theorem dX11_compileValue_77 : decode cX11_compileValue 77 = .ok (.iconst (-1), 1) := by decide +kernel
theorem dX11_compileValue_78 : decode cX11_compileValue 78 = .ok (.iload_n 1, 1) := by decide +kernel
theorem dX11_compileValue_79 : decode cX11_compileValue 79 = .ok (.isub, 1) := by decide +kernel
theorem dX11_compileValue_80 : decode cX11_compileValue 80 = .ok (.invokevirtual 406, 3) := by decide +kernel
theorem dX11_compileValue_83 : decode cX11_compileValue 83 = .ok (.aload_n 0, 1) := by decide +kernel
theorem dX11_compileValue_84 : decode cX11_compileValue 84 = .ok (.invokevirtual 324, 3) := by decide +kernel
theorem dX11_compileValue_87 : decode cX11_compileValue 87 = .ok (.return_, 1) := by decide +kernel
def f_m_compileValue_15 (m : xM) : Option (xM) :=
     (Option.bind (f_m_readNumber 0 99999 m) fun q0 =>
      (Option.bind (f_m_emit q0.1 q0.2) fun q1 =>
      some q1))
set_option maxRecDepth 1000000 in
set_option maxHeartbeats 4000000 in
theorem t_m_compileValue_15 {Γ : xG} {d : Nat} (hd9 : 6 ≤ d) (C : xC Γ lay_M RX11 cX11_compileValue 2 d) {m9 : xM} (hR : xRv Γ lay_M cX11_compileValue m9) (m : xM) (h : f_m_compileValue_15 m = some m9) : xW Γ lay_M 2 15 [(0, .inr (.inr (some 0)))] [] m := by
  unfold f_m_compileValue_15 at h
  refine x_aload_n C dX11_compileValue_15 rfl ?_
  refine x_aload_n C dX11_compileValue_16 rfl ?_
  refine x_iconst C dX11_compileValue_17 ?_
  refine x_ldc C 99999 dX11_compileValue_18 (xin_51 _ (List.mem_of_getElem? (i := 12) rfl)) (by decide) ?_
  obtain ⟨q0, hq0, h⟩ := x_bind h
  refine x_callVI C dX11_compileValue_20 (xin_21 _ (List.mem_of_getElem? (i := 10) rfl)) xy_X11_readNumber (xi_X11_readNumber) (xs_X11_readNumber) (by omega) (by decide) (b := 0) rfl ⟨_, _, rfl⟩ (av := [.inl 0, .inl 99999]) rfl (Nat.le_of_ble_eq_true rfl) (c_m_readNumber _ _ _ _ q0.1 q0.2 hq0) rfl ?_
  obtain ⟨q1, hq1, h⟩ := x_bind h
  refine x_callVI C dX11_compileValue_23 (xin_69 _ (List.mem_of_getElem? (i := 10) rfl)) xy_X11_emit (xi_X11_emit) (xs_X11_emit) (by omega) (by decide) (b := 0) rfl ⟨_, _, rfl⟩ (av := [.inl q0.1]) rfl (Nat.le_of_ble_eq_true rfl) (c_m_emit _ _ _ _ hq1) rfl ?_
  exact x_returnV hR dX11_compileValue_26 h
def f_m_compileValue_72 (x1 : Int) (s0 : Int) (m : xM) : Option (xM) :=
     (Option.bind (f_m_check s0 1 m) fun q2 =>
      (Option.bind (f_m_emit ((-1) - x1) q2) fun q3 =>
      (Option.bind (f_m_advance q3) fun q4 =>
      some q4)))
set_option maxRecDepth 1000000 in
set_option maxHeartbeats 4000000 in
theorem t_m_compileValue_72 {Γ : xG} {d : Nat} (hd9 : 6 ≤ d) (C : xC Γ lay_M RX11 cX11_compileValue 2 d) {m9 : xM} (hR : xRv Γ lay_M cX11_compileValue m9) (x1 : Int) (s0 : Int) (m : xM) (h : f_m_compileValue_72 x1 s0 m = some m9) : xW Γ lay_M 2 72 [(0, .inr (.inr (some 0))), (1, .inl x1)] [.inl s0, .inr (.inr (some 0))] m := by
  unfold f_m_compileValue_72 at h
  refine x_iconst C dX11_compileValue_72 ?_
  obtain ⟨q2, hq2, h⟩ := x_bind h
  refine x_callVI C dX11_compileValue_73 (xin_20 _ (List.mem_of_getElem? (i := 17) rfl)) xy_X11_check (xi_X11_check) (xs_X11_check) (by omega) (by decide) (b := 0) rfl ⟨_, _, rfl⟩ (av := [.inl s0, .inl 1]) rfl (Nat.le_of_ble_eq_true rfl) (c_m_check _ _ _ _ _ hq2) rfl ?_
  refine x_aload_n C dX11_compileValue_76 rfl ?_
  refine x_iconst C dX11_compileValue_77 ?_
  refine x_iload_n C dX11_compileValue_78 rfl ?_
  refine x_isub C dX11_compileValue_79 ?_
  obtain ⟨q3, hq3, h⟩ := x_bind h
  refine x_callVI C dX11_compileValue_80 (xin_69 _ (List.mem_of_getElem? (i := 10) rfl)) xy_X11_emit (xi_X11_emit) (xs_X11_emit) (by omega) (by decide) (b := 0) rfl ⟨_, _, rfl⟩ (av := [.inl ((-1) - x1)]) rfl (Nat.le_of_ble_eq_true rfl) (c_m_emit _ _ _ _ hq3) rfl ?_
  refine x_aload_n C dX11_compileValue_83 rfl ?_
  obtain ⟨q4, hq4, h⟩ := x_bind h
  refine x_callVI C dX11_compileValue_84 (xin_21 _ (List.mem_of_getElem? (i := 2) rfl)) xy_X11_advance (xi_X11_advance) (xs_X11_advance) (by omega) (by decide) (b := 0) rfl ⟨_, _, rfl⟩ (av := []) rfl (Nat.le_of_ble_eq_true rfl) (c_m_advance _ _ _ hq4) rfl ?_
  exact x_returnV hR dX11_compileValue_87 h
def f_m_compileValue_57 (x1 : Int) (m : xM) : Option (xM) :=
     (if xw x1 < xw 5 then f_m_compileValue_72 x1 1 m
      else f_m_compileValue_72 x1 0 m)
set_option maxRecDepth 1000000 in
set_option maxHeartbeats 4000000 in
theorem t_m_compileValue_57 {Γ : xG} {d : Nat} (hd9 : 6 ≤ d) (C : xC Γ lay_M RX11 cX11_compileValue 2 d) {m9 : xM} (hR : xRv Γ lay_M cX11_compileValue m9) (x1 : Int) (m : xM) (h : f_m_compileValue_57 x1 m = some m9) : xW Γ lay_M 2 57 [(0, .inr (.inr (some 0))), (1, .inl x1)] [] m := by
  unfold f_m_compileValue_57 at h
  refine x_aload_n C dX11_compileValue_57 rfl ?_
  refine x_iload_n C dX11_compileValue_58 rfl ?_
  refine x_aload_n C dX11_compileValue_59 rfl ?_
  refine x_getR C dX11_compileValue_60 fF_X11_51 rfl rfl ?_
  refine x_lenR C dX11_compileValue_63 (t := 1) (fun _ => rfl) rfl ?_
  refine x_icmp_ge C 71 dX11_compileValue_64 (by decide) h (fun h => ?_) (fun h => ?_)
  · refine x_iconst C dX11_compileValue_71 ?_
    refine x_loc [(0, .inr (.inr (some 0))), (1, .inl x1)] ⟨rfl, rfl, trivial⟩ ?_
    exact t_m_compileValue_72 hd9 C hR _ _ _ h
  · refine x_iconst C dX11_compileValue_67 ?_
    refine x_goto C 72 dX11_compileValue_68 (by decide) ?_
    refine x_loc [(0, .inr (.inr (some 0))), (1, .inl x1)] ⟨rfl, rfl, trivial⟩ ?_
    exact t_m_compileValue_72 hd9 C hR _ _ _ h
def f_m_compileValue_29 : Nat → Int → xM → Option (xM)
  | 0, _, _ => none
  | n + 1, x1, m =>
     (if xw x1 < xw 5 then (if xib x1 5 then (Option.bind (f_m_isWord (xix x1) m) fun q6 =>
      (if xw q6 = 0 then f_m_compileValue_29 n (x1 + 1) m
      else f_m_compileValue_57 x1 m))
      else none)
      else f_m_compileValue_57 x1 m)
set_option maxRecDepth 1000000 in
set_option maxHeartbeats 4000000 in
theorem t_m_compileValue_29 {Γ : xG} {d : Nat} (hd9 : 6 ≤ d) (C : xC Γ lay_M RX11 cX11_compileValue 2 d) {m9 : xM} (hR : xRv Γ lay_M cX11_compileValue m9) : ∀ (n : Nat) (x1 : Int) (m : xM), f_m_compileValue_29 n x1 m = some m9 → xW Γ lay_M 2 29 [(0, .inr (.inr (some 0))), (1, .inl x1)] [] m := by
  intro n
  induction n with
  | zero => intro _ _ h; cases h
  | succ n ih =>
    intro x1 m h
    rw [f_m_compileValue_29] at h
    refine x_iload_n C dX11_compileValue_29 rfl ?_
    refine x_aload_n C dX11_compileValue_30 rfl ?_
    refine x_getR C dX11_compileValue_31 fF_X11_51 rfl rfl ?_
    refine x_lenR C dX11_compileValue_34 (t := 1) (fun _ => rfl) rfl ?_
    refine x_icmp_ge C 57 dX11_compileValue_35 (by decide) h (fun h => ?_) (fun h => ?_)
    · refine x_loc [(0, .inr (.inr (some 0))), (1, .inl x1)] ⟨rfl, rfl, trivial⟩ ?_
      exact t_m_compileValue_57 hd9 C hR _ _ h
    · refine x_aload_n C dX11_compileValue_38 rfl ?_
      refine x_aload_n C dX11_compileValue_39 rfl ?_
      refine x_getR C dX11_compileValue_40 fF_X11_51 rfl rfl ?_
      refine x_iload_n C dX11_compileValue_43 rfl ?_
      obtain ⟨hb6, h⟩ := x_some1 h
      refine x_aaload C dX11_compileValue_44 (t := 1) (fun _ => rfl) rfl hb6 (x_names hb6) ?_
      obtain ⟨q6, hq6, h⟩ := x_bind h
      refine x_callVI C dX11_compileValue_45 (xin_20 _ (List.mem_of_getElem? (i := 11) rfl)) xy_X11_isWord (xi_X11_isWord) (xs_X11_isWord) (by omega) (by decide) (b := 0) rfl ⟨_, _, rfl⟩ (av := [.inr (.inr (some (1000 + xix x1)))]) rfl (Nat.le_of_ble_eq_true rfl) (c_m_isWord _ (xix x1) (x_names26 hb6) _ _ hq6) rfl ?_
      refine x_if_ne C 57 dX11_compileValue_48 (by decide) h (fun h => ?_) (fun h => ?_)
      · refine x_loc [(0, .inr (.inr (some 0))), (1, .inl x1)] ⟨rfl, rfl, trivial⟩ ?_
        exact t_m_compileValue_57 hd9 C hR _ _ h
      · refine x_iinc C dX11_compileValue_51 (by decide) rfl ?_
        refine x_goto C 29 dX11_compileValue_54 (by decide) ?_
        refine x_loc [(0, .inr (.inr (some 0))), (1, .inl (x1 + 1))] ⟨rfl, rfl, trivial⟩ ?_
        exact ih _ _ h
def f_m_compileValue (m : xM) : Option (xM) :=
     (if xw (m 0 18) = 0 then (if xw (m 0 17) = xw 2 then f_m_compileValue_15 m
      else f_m_compileValue_29 fu 0 m)
      else f_m_compileValue_15 m)
set_option maxRecDepth 1000000 in
set_option maxHeartbeats 4000000 in
theorem t_m_compileValue {Γ : xG} {d : Nat} (hd9 : 6 ≤ d) (C : xC Γ lay_M RX11 cX11_compileValue 2 d) {m9 : xM} (hR : xRv Γ lay_M cX11_compileValue m9) (m : xM) (h : f_m_compileValue m = some m9) : xW Γ lay_M 2 0 [(0, .inr (.inr (some 0)))] [] m := by
  unfold f_m_compileValue at h
  refine x_aload_n C dX11_compileValue_0 rfl ?_
  refine x_getI C dX11_compileValue_1 fF_X11_301 rfl rfl ?_
  refine x_if_ne C 15 dX11_compileValue_4 (by decide) h (fun h => ?_) (fun h => ?_)
  · refine x_loc [(0, .inr (.inr (some 0)))] ⟨rfl, trivial⟩ ?_
    exact t_m_compileValue_15 hd9 C hR _ h
  · refine x_aload_n C dX11_compileValue_7 rfl ?_
    refine x_getI C dX11_compileValue_8 fF_X11_292 rfl rfl ?_
    refine x_iconst C dX11_compileValue_11 ?_
    refine x_icmp_ne C 27 dX11_compileValue_12 (by decide) h (fun h => ?_) (fun h => ?_)
    · refine x_iconst C dX11_compileValue_27 ?_
      refine x_istore_n C dX11_compileValue_28 (by decide) ?_
      refine x_loc [(0, .inr (.inr (some 0))), (1, .inl 0)] ⟨rfl, rfl, trivial⟩ ?_
      exact t_m_compileValue_29 hd9 C hR fu _ _ h
    · refine x_loc [(0, .inr (.inr (some 0)))] ⟨rfl, trivial⟩ ?_
      exact t_m_compileValue_15 hd9 C hR _ h
theorem c_m_compileValue (l : Launch) (m m9 : xM) (h : f_m_compileValue m = some m9) : xMet l yX11_compileValue cX11_compileValue 2 none 6 lay_M [.inr (.inr (some 0))] m none m9 :=
  xMet_v (by decide +kernel) (Nat.le_of_ble_eq_true rfl) (fun Γ C hR hl9 => t_m_compileValue (Nat.le_refl _) C hR m h)
/-! ===== yX11_operate ===== -/
theorem dX11_operate_0 : decode cX11_operate 0 = .ok (.iload_n 0, 1) := by decide +kernel
theorem dX11_operate_1 : decode cX11_operate 1 = .ok (.tableswitch 75 (-24) (-20) #[71, 75, 59, 47, 35], 35) := by decide +kernel
theorem dX11_operate_36 : decode cX11_operate 36 = .ok (.lload_n 1, 1) := by decide +kernel
theorem dX11_operate_37 : decode cX11_operate 37 = .ok (.lload_n 3, 1) := by decide +kernel
theorem dX11_operate_38 : decode cX11_operate 38 = .ok (.lcmp, 1) := by decide +kernel
theorem dX11_operate_39 : decode cX11_operate 39 = .ok (.ifCond .ge 7, 3) := by decide +kernel
theorem dX11_operate_42 : decode cX11_operate 42 = .ok (.lconst 1, 1) := by decide +kernel
theorem dX11_operate_43 : decode cX11_operate 43 = .ok (.goto 4, 3) := by decide +kernel
theorem dX11_operate_46 : decode cX11_operate 46 = .ok (.lconst 0, 1) := by decide +kernel
theorem dX11_operate_47 : decode cX11_operate 47 = .ok (.lreturn, 1) := by decide +kernel
theorem dX11_operate_48 : decode cX11_operate 48 = .ok (.lload_n 1, 1) := by decide +kernel
theorem dX11_operate_49 : decode cX11_operate 49 = .ok (.lload_n 3, 1) := by decide +kernel
theorem dX11_operate_50 : decode cX11_operate 50 = .ok (.lcmp, 1) := by decide +kernel
theorem dX11_operate_51 : decode cX11_operate 51 = .ok (.ifCond .ne 7, 3) := by decide +kernel
theorem dX11_operate_54 : decode cX11_operate 54 = .ok (.lconst 1, 1) := by decide +kernel
theorem dX11_operate_55 : decode cX11_operate 55 = .ok (.goto 4, 3) := by decide +kernel
theorem dX11_operate_58 : decode cX11_operate 58 = .ok (.lconst 0, 1) := by decide +kernel
theorem dX11_operate_59 : decode cX11_operate 59 = .ok (.lreturn, 1) := by decide +kernel
theorem dX11_operate_60 : decode cX11_operate 60 = .ok (.lload_n 1, 1) := by decide +kernel
theorem dX11_operate_61 : decode cX11_operate 61 = .ok (.lload_n 3, 1) := by decide +kernel
theorem dX11_operate_62 : decode cX11_operate 62 = .ok (.lcmp, 1) := by decide +kernel
theorem dX11_operate_63 : decode cX11_operate 63 = .ok (.ifCond .le 7, 3) := by decide +kernel
theorem dX11_operate_66 : decode cX11_operate 66 = .ok (.lconst 1, 1) := by decide +kernel
theorem dX11_operate_67 : decode cX11_operate 67 = .ok (.goto 4, 3) := by decide +kernel
theorem dX11_operate_70 : decode cX11_operate 70 = .ok (.lconst 0, 1) := by decide +kernel
theorem dX11_operate_71 : decode cX11_operate 71 = .ok (.lreturn, 1) := by decide +kernel
theorem dX11_operate_72 : decode cX11_operate 72 = .ok (.lload_n 1, 1) := by decide +kernel
theorem dX11_operate_73 : decode cX11_operate 73 = .ok (.lload_n 3, 1) := by decide +kernel
theorem dX11_operate_74 : decode cX11_operate 74 = .ok (.land, 1) := by decide +kernel
theorem dX11_operate_75 : decode cX11_operate 75 = .ok (.lreturn, 1) := by decide +kernel
theorem dX11_operate_76 : decode cX11_operate 76 = .ok (.lload_n 1, 1) := by decide +kernel
theorem dX11_operate_77 : decode cX11_operate 77 = .ok (.lload_n 3, 1) := by decide +kernel
theorem dX11_operate_78 : decode cX11_operate 78 = .ok (.lor, 1) := by decide +kernel
theorem dX11_operate_79 : decode cX11_operate 79 = .ok (.lreturn, 1) := by decide +kernel
def f_m_operate (o : Int) (x : Int) (y : Int) (m : xM) : Option (Int) :=
     (if xw o = (-24) then some (xland x y)
      else (if xw o = (-23) then some (xlor x y)
      else (if xw o = (-22) then (if 0 < xw (xlcmp x y) then some 1
      else some 0)
      else (if xw o = (-21) then (if xw (xlcmp x y) = 0 then some 1
      else some 0)
      else (if xw o = (-20) then (if xw (xlcmp x y) < 0 then some 1
      else some 0)
      else some (xlor x y))))))
set_option maxRecDepth 1000000 in
set_option maxHeartbeats 4000000 in
theorem t_m_operate {Γ : xG} {d : Nat} (hd9 : 1 ≤ d) (C : xC Γ lay_0 RX11 cX11_operate 5 d) (o : Int) (x : Int) (y : Int) {r : Int} {m : xM} (hR : xRl Γ lay_0 cX11_operate r m) (h : f_m_operate o x y m = some r) : xW Γ lay_0 5 0 [(0, .inl o), (1, .inr (.inl x)), (3, .inr (.inl y))] [] m := by
  unfold f_m_operate at h
  refine x_iload_n C dX11_operate_0 rfl ?_
  refine x_ite h (fun hc0 h => ?_) (fun hc0 h => ?_)
  · refine x_tabIn C 72 (-24) dX11_operate_1 hc0 (by decide) (by decide) rfl (by decide) ?_
    refine x_lload_n C dX11_operate_72 rfl ?_
    refine x_lload_n C dX11_operate_73 rfl ?_
    refine x_land C dX11_operate_74 ?_
    exact x_lreturnP hR dX11_operate_75 h
  refine x_ite h (fun hc1 h => ?_) (fun hc1 h => ?_)
  · refine x_tabIn C 76 (-23) dX11_operate_1 hc1 (by decide) (by decide) rfl (by decide) ?_
    refine x_lload_n C dX11_operate_76 rfl ?_
    refine x_lload_n C dX11_operate_77 rfl ?_
    refine x_lor C dX11_operate_78 ?_
    exact x_lreturnP hR dX11_operate_79 h
  refine x_ite h (fun hc2 h => ?_) (fun hc2 h => ?_)
  · refine x_tabIn C 60 (-22) dX11_operate_1 hc2 (by decide) (by decide) rfl (by decide) ?_
    refine x_lload_n C dX11_operate_60 rfl ?_
    refine x_lload_n C dX11_operate_61 rfl ?_
    refine x_lcmp C dX11_operate_62 ?_
    refine x_if_le C 70 dX11_operate_63 (by decide) h (fun h => ?_) (fun h => ?_)
    · refine x_lconst C dX11_operate_70 ?_
      exact x_lreturnP hR dX11_operate_71 h
    · refine x_lconst C dX11_operate_66 ?_
      refine x_goto C 71 dX11_operate_67 (by decide) ?_
      exact x_lreturnP hR dX11_operate_71 h
  refine x_ite h (fun hc3 h => ?_) (fun hc3 h => ?_)
  · refine x_tabIn C 48 (-21) dX11_operate_1 hc3 (by decide) (by decide) rfl (by decide) ?_
    refine x_lload_n C dX11_operate_48 rfl ?_
    refine x_lload_n C dX11_operate_49 rfl ?_
    refine x_lcmp C dX11_operate_50 ?_
    refine x_if_ne C 58 dX11_operate_51 (by decide) h (fun h => ?_) (fun h => ?_)
    · refine x_lconst C dX11_operate_58 ?_
      exact x_lreturnP hR dX11_operate_59 h
    · refine x_lconst C dX11_operate_54 ?_
      refine x_goto C 59 dX11_operate_55 (by decide) ?_
      exact x_lreturnP hR dX11_operate_59 h
  refine x_ite h (fun hc4 h => ?_) (fun hc4 h => ?_)
  · refine x_tabIn C 36 (-20) dX11_operate_1 hc4 (by decide) (by decide) rfl (by decide) ?_
    refine x_lload_n C dX11_operate_36 rfl ?_
    refine x_lload_n C dX11_operate_37 rfl ?_
    refine x_lcmp C dX11_operate_38 ?_
    refine x_if_ge C 46 dX11_operate_39 (by decide) h (fun h => ?_) (fun h => ?_)
    · refine x_lconst C dX11_operate_46 ?_
      exact x_lreturnP hR dX11_operate_47 h
    · refine x_lconst C dX11_operate_42 ?_
      refine x_goto C 47 dX11_operate_43 (by decide) ?_
      exact x_lreturnP hR dX11_operate_47 h
  refine x_tabOut C 76 (x := o) dX11_operate_1 (by omega) (by decide) ?_
  refine x_lload_n C dX11_operate_76 rfl ?_
  refine x_lload_n C dX11_operate_77 rfl ?_
  refine x_lor C dX11_operate_78 ?_
  exact x_lreturnP hR dX11_operate_79 h
theorem c_m_operate (l : Launch) (o : Int) (x : Int) (y : Int) (m : xM) (r : Int) (h : f_m_operate o x y m = some r) : xMet l yX11_operate cX11_operate 5 (some .long) 1 lay_0 [.inl o, .inr (.inl x), .inr (.inl y)] m (some (.inr (.inl r))) m :=
  xMet_l (by decide +kernel) (Nat.le_of_ble_eq_true rfl) (fun Γ C hR hl9 => t_m_operate (Nat.le_refl _) C o x y hR h)
/-! ===== yX11_property ===== -/
theorem dX11_property_0 : decode cX11_property 0 = .ok (.sipush 1490, 3) := by decide +kernel
theorem dX11_property_3 : decode cX11_property 3 = .ok (.iconst 4, 1) := by decide +kernel
theorem dX11_property_4 : decode cX11_property 4 = .ok (.iload_n 1, 1) := by decide +kernel
theorem dX11_property_5 : decode cX11_property 5 = .ok (.imul, 1) := by decide +kernel
theorem dX11_property_6 : decode cX11_property 6 = .ok (.iadd, 1) := by decide +kernel
theorem dX11_property_7 : decode cX11_property 7 = .ok (.istore_n 3, 1) := by decide +kernel
theorem dX11_property_8 : decode cX11_property 8 = .ok (.iload_n 2, 1) := by decide +kernel
theorem dX11_property_9 : decode cX11_property 9 = .ok (.tableswitch 60 0 3 #[31, 33, 40, 49], 31) := by decide +kernel
theorem dX11_property_40 : decode cX11_property 40 = .ok (.iload_n 1, 1) := by decide +kernel
theorem dX11_property_41 : decode cX11_property 41 = .ok (.ireturn, 1) := by decide +kernel
theorem dX11_property_42 : decode cX11_property 42 = .ok (.aload_n 0, 1) := by decide +kernel
theorem dX11_property_43 : decode cX11_property 43 = .ok (.getfield 9, 3) := by decide +kernel
theorem dX11_property_46 : decode cX11_property 46 = .ok (.iload_n 3, 1) := by decide +kernel
theorem dX11_property_47 : decode cX11_property 47 = .ok (.iaload, 1) := by decide +kernel
theorem dX11_property_48 : decode cX11_property 48 = .ok (.ireturn, 1) := by decide +kernel
theorem dX11_property_49 : decode cX11_property 49 = .ok (.aload_n 0, 1) := by decide +kernel
theorem dX11_property_50 : decode cX11_property 50 = .ok (.getfield 9, 3) := by decide +kernel
theorem dX11_property_53 : decode cX11_property 53 = .ok (.iload_n 3, 1) := by decide +kernel
theorem dX11_property_54 : decode cX11_property 54 = .ok (.iconst 1, 1) := by decide +kernel
theorem dX11_property_55 : decode cX11_property 55 = .ok (.iadd, 1) := by decide +kernel
theorem dX11_property_56 : decode cX11_property 56 = .ok (.iaload, 1) := by decide +kernel
theorem dX11_property_57 : decode cX11_property 57 = .ok (.ireturn, 1) := by decide +kernel
theorem dX11_property_58 : decode cX11_property 58 = .ok (.iconst 1, 1) := by decide +kernel
theorem dX11_property_59 : decode cX11_property 59 = .ok (.aload_n 0, 1) := by decide +kernel
theorem dX11_property_60 : decode cX11_property 60 = .ok (.getfield 9, 3) := by decide +kernel
theorem dX11_property_63 : decode cX11_property 63 = .ok (.iload_n 3, 1) := by decide +kernel
theorem dX11_property_64 : decode cX11_property 64 = .ok (.iconst 2, 1) := by decide +kernel
theorem dX11_property_65 : decode cX11_property 65 = .ok (.iadd, 1) := by decide +kernel
theorem dX11_property_66 : decode cX11_property 66 = .ok (.iaload, 1) := by decide +kernel
theorem dX11_property_67 : decode cX11_property 67 = .ok (.iadd, 1) := by decide +kernel
theorem dX11_property_68 : decode cX11_property 68 = .ok (.ireturn, 1) := by decide +kernel
theorem dX11_property_69 : decode cX11_property 69 = .ok (.iconst 1, 1) := by decide +kernel
theorem dX11_property_70 : decode cX11_property 70 = .ok (.aload_n 0, 1) := by decide +kernel
theorem dX11_property_71 : decode cX11_property 71 = .ok (.getfield 9, 3) := by decide +kernel
theorem dX11_property_74 : decode cX11_property 74 = .ok (.iload_n 3, 1) := by decide +kernel
theorem dX11_property_75 : decode cX11_property 75 = .ok (.iconst 3, 1) := by decide +kernel
theorem dX11_property_76 : decode cX11_property 76 = .ok (.iadd, 1) := by decide +kernel
theorem dX11_property_77 : decode cX11_property 77 = .ok (.iaload, 1) := by decide +kernel
theorem dX11_property_78 : decode cX11_property 78 = .ok (.iadd, 1) := by decide +kernel
theorem dX11_property_79 : decode cX11_property 79 = .ok (.ireturn, 1) := by decide +kernel
def f_m_property (e : Int) (z : Int) (m : xM) : Option (Int) :=
     (if xw z = 0 then some e
      else (if xw z = 1 then (if xib (1490 + (4 * e)) 3530 then some (m 1 (xix (1490 + (4 * e))))
      else none)
      else (if xw z = 2 then (if xib ((1490 + (4 * e)) + 1) 3530 then some (m 1 (xix ((1490 + (4 * e)) + 1)))
      else none)
      else (if xw z = 3 then (if xib ((1490 + (4 * e)) + 2) 3530 then some (1 + (m 1 (xix ((1490 + (4 * e)) + 2))))
      else none)
      else (if xib ((1490 + (4 * e)) + 3) 3530 then some (1 + (m 1 (xix ((1490 + (4 * e)) + 3))))
      else none)))))
set_option maxRecDepth 1000000 in
set_option maxHeartbeats 4000000 in
theorem t_m_property {Γ : xG} {d : Nat} (hd9 : 1 ≤ d) (C : xC Γ lay_M RX11 cX11_property 4 d) (e : Int) (z : Int) {r : Int} {m : xM} (hR : xRi Γ lay_M cX11_property r m) (h : f_m_property e z m = some r) : xW Γ lay_M 4 0 [(0, .inr (.inr (some 0))), (1, .inl e), (2, .inl z)] [] m := by
  unfold f_m_property at h
  refine x_sipush C dX11_property_0 (by decide) ?_
  refine x_iconst C dX11_property_3 ?_
  refine x_iload_n C dX11_property_4 rfl ?_
  refine x_imul C dX11_property_5 ?_
  refine x_iadd C dX11_property_6 ?_
  refine x_istore_n C dX11_property_7 (by decide) ?_
  refine x_iload_n C dX11_property_8 rfl ?_
  refine x_ite h (fun hc0 h => ?_) (fun hc0 h => ?_)
  · refine x_tabIn C 40 0 dX11_property_9 hc0 (by decide) (by decide) rfl (by decide) ?_
    refine x_iload_n C dX11_property_40 rfl ?_
    exact x_ireturnP hR dX11_property_41 h
  refine x_ite h (fun hc1 h => ?_) (fun hc1 h => ?_)
  · refine x_tabIn C 42 1 dX11_property_9 hc1 (by decide) (by decide) rfl (by decide) ?_
    refine x_aload_n C dX11_property_42 rfl ?_
    refine x_getR C dX11_property_43 fF_X11_9 rfl rfl ?_
    refine x_iload_n C dX11_property_46 rfl ?_
    refine x_iaload C dX11_property_47 rfl h (fun h => ?_)
    exact x_ireturnP hR dX11_property_48 h
  refine x_ite h (fun hc2 h => ?_) (fun hc2 h => ?_)
  · refine x_tabIn C 49 2 dX11_property_9 hc2 (by decide) (by decide) rfl (by decide) ?_
    refine x_aload_n C dX11_property_49 rfl ?_
    refine x_getR C dX11_property_50 fF_X11_9 rfl rfl ?_
    refine x_iload_n C dX11_property_53 rfl ?_
    refine x_iconst C dX11_property_54 ?_
    refine x_iadd C dX11_property_55 ?_
    refine x_iaload C dX11_property_56 rfl h (fun h => ?_)
    exact x_ireturnP hR dX11_property_57 h
  refine x_ite h (fun hc3 h => ?_) (fun hc3 h => ?_)
  · refine x_tabIn C 58 3 dX11_property_9 hc3 (by decide) (by decide) rfl (by decide) ?_
    refine x_iconst C dX11_property_58 ?_
    refine x_aload_n C dX11_property_59 rfl ?_
    refine x_getR C dX11_property_60 fF_X11_9 rfl rfl ?_
    refine x_iload_n C dX11_property_63 rfl ?_
    refine x_iconst C dX11_property_64 ?_
    refine x_iadd C dX11_property_65 ?_
    refine x_iaload C dX11_property_66 rfl h (fun h => ?_)
    refine x_iadd C dX11_property_67 ?_
    exact x_ireturnP hR dX11_property_68 h
  refine x_tabOut C 69 (x := z) dX11_property_9 (by omega) (by decide) ?_
  refine x_iconst C dX11_property_69 ?_
  refine x_aload_n C dX11_property_70 rfl ?_
  refine x_getR C dX11_property_71 fF_X11_9 rfl rfl ?_
  refine x_iload_n C dX11_property_74 rfl ?_
  refine x_iconst C dX11_property_75 ?_
  refine x_iadd C dX11_property_76 ?_
  refine x_iaload C dX11_property_77 rfl h (fun h => ?_)
  refine x_iadd C dX11_property_78 ?_
  exact x_ireturnP hR dX11_property_79 h
theorem c_m_property (l : Launch) (e : Int) (z : Int) (m : xM) (r : Int) (h : f_m_property e z m = some r) : xMet l yX11_property cX11_property 4 (some .int) 1 lay_M [.inr (.inr (some 0)), .inl e, .inl z] m (some (.inl r)) m :=
  xMet_i (by decide +kernel) (Nat.le_of_ble_eq_true rfl) (fun Γ C hR hl9 => t_m_property (Nat.le_refl _) C e z hR h)
/-! ===== yX11_holdsFor ===== -/
theorem fF_X11_58 : xF RX11 58 13 24 (.array .long) true := ⟨RX11, TX11, 26, tyX11, rfl, by decide, (xin_9 _ (List.mem_of_getElem? (i := 15) rfl)), rfl, inlX11, tyX11_ok, nmX11, rfl, rfl⟩
theorem xy_X11_operate : xY yX11_operate cX11_operate 5 (some .long) 3 := ⟨(xin_70 _ (List.mem_of_getElem? (i := 13) rfl)), (xin_1 _ (List.mem_of_getElem? (i := 5) rfl)), by decide, by decide, by decide +kernel⟩
theorem xt_X11_operate : Cond.static yX11_operate ∈ wsL_law := (xin_70 _ (List.mem_of_getElem? (i := 12) rfl))
theorem xy_X11_property : xY yX11_property cX11_property 4 (some .int) 2 := ⟨(xin_70 _ (List.mem_of_getElem? (i := 10) rfl)), (xin_1 _ (List.mem_of_getElem? (i := 5) rfl)), by decide, by decide, by decide +kernel⟩
theorem xi_X11_property : Cond.instanceMethod yX11_property ∈ wsL_law := (xin_70 _ (List.mem_of_getElem? (i := 8) rfl))
theorem xs_X11_property : Cond.selects yX11_property.cls yX11_property yX11_property ∈ wsL_law := (xin_70 _ (List.mem_of_getElem? (i := 9) rfl))
theorem dX11_holdsFor_0 : decode cX11_holdsFor 0 = .ok (.iconst 0, 1) := by decide +kernel
theorem dX11_holdsFor_1 : decode cX11_holdsFor 1 = .ok (.istore_n 2, 1) := by decide +kernel
theorem dX11_holdsFor_2 : decode cX11_holdsFor 2 = .ok (.iconst 0, 1) := by decide +kernel
theorem dX11_holdsFor_3 : decode cX11_holdsFor 3 = .ok (.istore_n 3, 1) := by decide +kernel
theorem dX11_holdsFor_4 : decode cX11_holdsFor 4 = .ok (.iload_n 3, 1) := by decide +kernel
theorem dX11_holdsFor_5 : decode cX11_holdsFor 5 = .ok (.aload_n 0, 1) := by decide +kernel
theorem dX11_holdsFor_6 : decode cX11_holdsFor 6 = .ok (.getfield 403, 3) := by decide +kernel
theorem dX11_holdsFor_9 : decode cX11_holdsFor 9 = .ok (.if_icmp .ge 115, 3) := by decide +kernel
theorem dX11_holdsFor_12 : decode cX11_holdsFor 12 = .ok (.aload_n 0, 1) := by decide +kernel
theorem dX11_holdsFor_13 : decode cX11_holdsFor 13 = .ok (.getfield 55, 3) := by decide +kernel
theorem dX11_holdsFor_16 : decode cX11_holdsFor 16 = .ok (.iload_n 3, 1) := by decide +kernel
theorem dX11_holdsFor_17 : decode cX11_holdsFor 17 = .ok (.iaload, 1) := by decide +kernel
theorem dX11_holdsFor_18 : decode cX11_holdsFor 18 = .ok (.istore 4, 2) := by decide +kernel
theorem dX11_holdsFor_20 : decode cX11_holdsFor 20 = .ok (.iload 4, 2) := by decide +kernel
theorem dX11_holdsFor_22 : decode cX11_holdsFor 22 = .ok (.bipush (-23), 2) := by decide +kernel
theorem dX11_holdsFor_24 : decode cX11_holdsFor 24 = .ok (.if_icmp .ne 24, 3) := by decide +kernel
theorem dX11_holdsFor_27 : decode cX11_holdsFor 27 = .ok (.aload_n 0, 1) := by decide +kernel
theorem dX11_holdsFor_28 : decode cX11_holdsFor 28 = .ok (.getfield 58, 3) := by decide +kernel
theorem dX11_holdsFor_31 : decode cX11_holdsFor 31 = .ok (.iload_n 2, 1) := by decide +kernel
theorem dX11_holdsFor_32 : decode cX11_holdsFor 32 = .ok (.iconst 1, 1) := by decide +kernel
theorem dX11_holdsFor_33 : decode cX11_holdsFor 33 = .ok (.isub, 1) := by decide +kernel
theorem dX11_holdsFor_34 : decode cX11_holdsFor 34 = .ok (.lconst 1, 1) := by decide +kernel
theorem dX11_holdsFor_35 : decode cX11_holdsFor 35 = .ok (.aload_n 0, 1) := by decide +kernel
theorem dX11_holdsFor_36 : decode cX11_holdsFor 36 = .ok (.getfield 58, 3) := by decide +kernel
theorem dX11_holdsFor_39 : decode cX11_holdsFor 39 = .ok (.iload_n 2, 1) := by decide +kernel
theorem dX11_holdsFor_40 : decode cX11_holdsFor 40 = .ok (.iconst 1, 1) := by decide +kernel
theorem dX11_holdsFor_41 : decode cX11_holdsFor 41 = .ok (.isub, 1) := by decide +kernel
theorem dX11_holdsFor_42 : decode cX11_holdsFor 42 = .ok (.laload, 1) := by decide +kernel
theorem dX11_holdsFor_43 : decode cX11_holdsFor 43 = .ok (.lsub, 1) := by decide +kernel
theorem dX11_holdsFor_44 : decode cX11_holdsFor 44 = .ok (.lastore, 1) := by decide +kernel
theorem dX11_holdsFor_45 : decode cX11_holdsFor 45 = .ok (.goto 73, 3) := by decide +kernel
theorem dX11_holdsFor_48 : decode cX11_holdsFor 48 = .ok (.iload 4, 2) := by decide +kernel
theorem dX11_holdsFor_50 : decode cX11_holdsFor 50 = .ok (.bipush (-20), 2) := by decide +kernel
theorem dX11_holdsFor_52 : decode cX11_holdsFor 52 = .ok (.if_icmp .le 36, 3) := by decide +kernel
theorem dX11_holdsFor_55 : decode cX11_holdsFor 55 = .ok (.aload_n 0, 1) := by decide +kernel
theorem dX11_holdsFor_56 : decode cX11_holdsFor 56 = .ok (.getfield 58, 3) := by decide +kernel
theorem dX11_holdsFor_59 : decode cX11_holdsFor 59 = .ok (.iload_n 2, 1) := by decide +kernel
theorem dX11_holdsFor_60 : decode cX11_holdsFor 60 = .ok (.iload 4, 2) := by decide +kernel
theorem dX11_holdsFor_62 : decode cX11_holdsFor 62 = .ok (.ifCond .lt 9, 3) := by decide +kernel
theorem dX11_holdsFor_65 : decode cX11_holdsFor 65 = .ok (.iload 4, 2) := by decide +kernel
theorem dX11_holdsFor_67 : decode cX11_holdsFor 67 = .ok (.i2l, 1) := by decide +kernel
theorem dX11_holdsFor_68 : decode cX11_holdsFor 68 = .ok (.goto 13, 3) := by decide +kernel
theorem dX11_holdsFor_71 : decode cX11_holdsFor 71 = .ok (.aload_n 0, 1) := by decide +kernel
theorem dX11_holdsFor_72 : decode cX11_holdsFor 72 = .ok (.iload_n 1, 1) := by decide +kernel
theorem dX11_holdsFor_73 : decode cX11_holdsFor 73 = .ok (.iconst (-1), 1) := by decide +kernel
theorem dX11_holdsFor_74 : decode cX11_holdsFor 74 = .ok (.iload 4, 2) := by decide +kernel
theorem dX11_holdsFor_76 : decode cX11_holdsFor 76 = .ok (.isub, 1) := by decide +kernel
theorem dX11_holdsFor_77 : decode cX11_holdsFor 77 = .ok (.invokevirtual 430, 3) := by decide +kernel
theorem dX11_holdsFor_80 : decode cX11_holdsFor 80 = .ok (.i2l, 1) := by decide +kernel
theorem dX11_holdsFor_81 : decode cX11_holdsFor 81 = .ok (.lastore, 1) := by decide +kernel
theorem dX11_holdsFor_82 : decode cX11_holdsFor 82 = .ok (.iinc 2 1, 3) := by decide +kernel
theorem dX11_holdsFor_85 : decode cX11_holdsFor 85 = .ok (.goto 33, 3) := by decide +kernel
theorem dX11_holdsFor_88 : decode cX11_holdsFor 88 = .ok (.iinc 2 (-1), 3) := by decide +kernel
theorem dX11_holdsFor_91 : decode cX11_holdsFor 91 = .ok (.aload_n 0, 1) := by decide +kernel
theorem dX11_holdsFor_92 : decode cX11_holdsFor 92 = .ok (.getfield 58, 3) := by decide +kernel
theorem dX11_holdsFor_95 : decode cX11_holdsFor 95 = .ok (.iload_n 2, 1) := by decide +kernel
theorem dX11_holdsFor_96 : decode cX11_holdsFor 96 = .ok (.iconst 1, 1) := by decide +kernel
theorem dX11_holdsFor_97 : decode cX11_holdsFor 97 = .ok (.isub, 1) := by decide +kernel
theorem dX11_holdsFor_98 : decode cX11_holdsFor 98 = .ok (.iload 4, 2) := by decide +kernel
theorem dX11_holdsFor_100 : decode cX11_holdsFor 100 = .ok (.aload_n 0, 1) := by decide +kernel
theorem dX11_holdsFor_101 : decode cX11_holdsFor 101 = .ok (.getfield 58, 3) := by decide +kernel
theorem dX11_holdsFor_104 : decode cX11_holdsFor 104 = .ok (.iload_n 2, 1) := by decide +kernel
theorem dX11_holdsFor_105 : decode cX11_holdsFor 105 = .ok (.iconst 1, 1) := by decide +kernel
theorem dX11_holdsFor_106 : decode cX11_holdsFor 106 = .ok (.isub, 1) := by decide +kernel
theorem dX11_holdsFor_107 : decode cX11_holdsFor 107 = .ok (.laload, 1) := by decide +kernel
theorem dX11_holdsFor_108 : decode cX11_holdsFor 108 = .ok (.aload_n 0, 1) := by decide +kernel
theorem dX11_holdsFor_109 : decode cX11_holdsFor 109 = .ok (.getfield 58, 3) := by decide +kernel
theorem dX11_holdsFor_112 : decode cX11_holdsFor 112 = .ok (.iload_n 2, 1) := by decide +kernel
theorem dX11_holdsFor_113 : decode cX11_holdsFor 113 = .ok (.laload, 1) := by decide +kernel
theorem dX11_holdsFor_114 : decode cX11_holdsFor 114 = .ok (.invokestatic 433, 3) := by decide +kernel
theorem dX11_holdsFor_117 : decode cX11_holdsFor 117 = .ok (.lastore, 1) := by decide +kernel
theorem dX11_holdsFor_118 : decode cX11_holdsFor 118 = .ok (.iinc 3 1, 3) := by decide +kernel
theorem dX11_holdsFor_121 : decode cX11_holdsFor 121 = .ok (.goto (-117), 3) := by decide +kernel
theorem dX11_holdsFor_124 : decode cX11_holdsFor 124 = .ok (.aload_n 0, 1) := by decide +kernel
theorem dX11_holdsFor_125 : decode cX11_holdsFor 125 = .ok (.getfield 58, 3) := by decide +kernel
theorem dX11_holdsFor_128 : decode cX11_holdsFor 128 = .ok (.iconst 0, 1) := by decide +kernel
theorem dX11_holdsFor_129 : decode cX11_holdsFor 129 = .ok (.laload, 1) := by decide +kernel
theorem dX11_holdsFor_130 : decode cX11_holdsFor 130 = .ok (.lconst 1, 1) := by decide +kernel
theorem dX11_holdsFor_131 : decode cX11_holdsFor 131 = .ok (.lcmp, 1) := by decide +kernel
theorem dX11_holdsFor_132 : decode cX11_holdsFor 132 = .ok (.ifCond .ne 7, 3) := by decide +kernel
theorem dX11_holdsFor_135 : decode cX11_holdsFor 135 = .ok (.iconst 1, 1) := by decide +kernel
theorem dX11_holdsFor_136 : decode cX11_holdsFor 136 = .ok (.goto 4, 3) := by decide +kernel
theorem dX11_holdsFor_139 : decode cX11_holdsFor 139 = .ok (.iconst 0, 1) := by decide +kernel
theorem dX11_holdsFor_140 : decode cX11_holdsFor 140 = .ok (.ireturn, 1) := by decide +kernel
def f_m_holdsFor_124 (e : Int) (m : xM) : Option (Int × xM) :=
     (if xib 0 200 then (if xw (xlcmp (m 11 0) 1) = 0 then some (1, m)
      else some (0, m))
      else none)
set_option maxRecDepth 1000000 in
set_option maxHeartbeats 4000000 in
theorem t_m_holdsFor_124 {Γ : xG} {d : Nat} (hd9 : 2 ≤ d) (C : xC Γ lay_M RX11 cX11_holdsFor 5 d) (e : Int) {r : Int} {m9 : xM} (hR : xRz Γ lay_M cX11_holdsFor r m9) (m : xM) (h : f_m_holdsFor_124 e m = some (r, m9)) : xW Γ lay_M 5 124 [(0, .inr (.inr (some 0)))] [] m := by
  unfold f_m_holdsFor_124 at h
  refine x_aload_n C dX11_holdsFor_124 rfl ?_
  refine x_getR C dX11_holdsFor_125 fF_X11_58 rfl rfl ?_
  refine x_iconst C dX11_holdsFor_128 ?_
  refine x_laload C dX11_holdsFor_129 rfl h (fun h => ?_)
  refine x_lconst C dX11_holdsFor_130 ?_
  refine x_lcmp C dX11_holdsFor_131 ?_
  refine x_if_ne C 139 dX11_holdsFor_132 (by decide) h (fun h => ?_) (fun h => ?_)
  · refine x_iconst C dX11_holdsFor_139 ?_
    exact x_zreturn hR (by decide) dX11_holdsFor_140 h
  · refine x_iconst C dX11_holdsFor_135 ?_
    refine x_goto C 140 dX11_holdsFor_136 (by decide) ?_
    exact x_zreturn hR (by decide) dX11_holdsFor_140 h
def f_m_holdsFor_118 (e : Int) (k4 : Int → Int → xM → Option (Int × xM)) (x2 : Int) (x3 : Int) (m : xM) : Option (Int × xM) :=
     k4 x2 (x3 + 1) m
set_option maxRecDepth 1000000 in
set_option maxHeartbeats 4000000 in
theorem t_m_holdsFor_118 {Γ : xG} {d : Nat} (hd9 : 2 ≤ d) (C : xC Γ lay_M RX11 cX11_holdsFor 5 d) (e : Int) {r : Int} {m9 : xM} (hR : xRz Γ lay_M cX11_holdsFor r m9) {k4 : Int → Int → xM → Option (Int × xM)} (hk4 : ∀ (x2 : Int) (x3 : Int) (m : xM), k4 x2 x3 m = some (r, m9) → xW Γ lay_M 5 4 [(0, .inr (.inr (some 0))), (1, .inl e), (2, .inl x2), (3, .inl x3)] [] m) (x2 : Int) (x3 : Int) (m : xM) (h : f_m_holdsFor_118 e k4 x2 x3 m = some (r, m9)) : xW Γ lay_M 5 118 [(0, .inr (.inr (some 0))), (1, .inl e), (2, .inl x2), (3, .inl x3)] [] m := by
  unfold f_m_holdsFor_118 at h
  refine x_iinc C dX11_holdsFor_118 (by decide) rfl ?_
  refine x_goto C 4 dX11_holdsFor_121 (by decide) ?_
  refine x_loc [(0, .inr (.inr (some 0))), (1, .inl e), (2, .inl x2), (3, .inl (x3 + 1))] ⟨rfl, rfl, rfl, rfl, trivial⟩ ?_
  exact hk4 _ _ _ h
def f_m_holdsFor_81 (e : Int) (k4 : Int → Int → xM → Option (Int × xM)) (x2 : Int) (x3 : Int) (s0 : Int) (s1 : Int) (m : xM) : Option (Int × xM) :=
     (if xib s1 200 then f_m_holdsFor_118 e k4 (x2 + 1) x3 (xu m 11 (xix s1) s0)
      else none)
set_option maxRecDepth 1000000 in
set_option maxHeartbeats 4000000 in
theorem t_m_holdsFor_81 {Γ : xG} {d : Nat} (hd9 : 2 ≤ d) (C : xC Γ lay_M RX11 cX11_holdsFor 5 d) (e : Int) {r : Int} {m9 : xM} (hR : xRz Γ lay_M cX11_holdsFor r m9) {k4 : Int → Int → xM → Option (Int × xM)} (hk4 : ∀ (x2 : Int) (x3 : Int) (m : xM), k4 x2 x3 m = some (r, m9) → xW Γ lay_M 5 4 [(0, .inr (.inr (some 0))), (1, .inl e), (2, .inl x2), (3, .inl x3)] [] m) (x2 : Int) (x3 : Int) (s0 : Int) (s1 : Int) (m : xM) (h : f_m_holdsFor_81 e k4 x2 x3 s0 s1 m = some (r, m9)) : xW Γ lay_M 5 81 [(0, .inr (.inr (some 0))), (1, .inl e), (2, .inl x2), (3, .inl x3)] [.inr (.inl s0), .inl s1, .inr (.inr (some 11))] m := by
  unfold f_m_holdsFor_81 at h
  refine x_lastore C dX11_holdsFor_81 rfl h (fun h => ?_)
  refine x_iinc C dX11_holdsFor_82 (by decide) rfl ?_
  refine x_goto C 118 dX11_holdsFor_85 (by decide) ?_
  refine x_loc [(0, .inr (.inr (some 0))), (1, .inl e), (2, .inl (x2 + 1)), (3, .inl x3)] ⟨rfl, rfl, rfl, rfl, trivial⟩ ?_
  exact t_m_holdsFor_118 hd9 C _ hR hk4 _ _ _ h
def f_m_holdsFor_4 (e : Int) : Nat → Int → Int → xM → Option (Int × xM)
  | 0, _, _, _ => none
  | n + 1, x2, x3, m =>
     (if xw x3 < xw (m 0 25) then (if xib x3 200 then (if xw (m 10 (xix x3)) = xw (-23) then (if xib (x2 - 1) 200 then (if xib (x2 - 1) 200 then f_m_holdsFor_118 e (f_m_holdsFor_4 e n) x2 x3 (xu m 11 (xix (x2 - 1)) (1 - (m 11 (xix (x2 - 1)))))
      else none)
      else none)
      else (if xw (-20) < xw (m 10 (xix x3)) then (if xw (m 10 (xix x3)) < 0 then (Option.bind (f_m_property e ((-1) - (m 10 (xix x3))) m) fun q1 =>
      f_m_holdsFor_81 e (f_m_holdsFor_4 e n) x2 x3 (xw q1) x2 m)
      else f_m_holdsFor_81 e (f_m_holdsFor_4 e n) x2 x3 (xw (m 10 (xix x3))) x2 m)
      else (if xib ((x2 + (-1)) - 1) 200 then (if xib (x2 + (-1)) 200 then (Option.bind (f_m_operate (m 10 (xix x3)) (m 11 (xix ((x2 + (-1)) - 1))) (m 11 (xix (x2 + (-1)))) (xvw [] m)) fun q0 =>
      (if xib ((x2 + (-1)) - 1) 200 then f_m_holdsFor_118 e (f_m_holdsFor_4 e n) (x2 + (-1)) x3 (xu m 11 (xix ((x2 + (-1)) - 1)) q0)
      else none))
      else none)
      else none)))
      else none)
      else f_m_holdsFor_124 e m)
set_option maxRecDepth 1000000 in
set_option maxHeartbeats 4000000 in
theorem t_m_holdsFor_4 {Γ : xG} {d : Nat} (hd9 : 2 ≤ d) (C : xC Γ lay_M RX11 cX11_holdsFor 5 d) (e : Int) {r : Int} {m9 : xM} (hR : xRz Γ lay_M cX11_holdsFor r m9) : ∀ (n : Nat) (x2 : Int) (x3 : Int) (m : xM), f_m_holdsFor_4 e n x2 x3 m = some (r, m9) → xW Γ lay_M 5 4 [(0, .inr (.inr (some 0))), (1, .inl e), (2, .inl x2), (3, .inl x3)] [] m := by
  intro n
  induction n with
  | zero => intro _ _ _ h; cases h
  | succ n ih =>
    intro x2 x3 m h
    rw [f_m_holdsFor_4] at h
    refine x_iload_n C dX11_holdsFor_4 rfl ?_
    refine x_aload_n C dX11_holdsFor_5 rfl ?_
    refine x_getI C dX11_holdsFor_6 fF_X11_403 rfl rfl ?_
    refine x_icmp_ge C 124 dX11_holdsFor_9 (by decide) h (fun h => ?_) (fun h => ?_)
    · refine x_loc [(0, .inr (.inr (some 0)))] ⟨rfl, trivial⟩ ?_
      exact t_m_holdsFor_124 hd9 C _ hR _ h
    · refine x_aload_n C dX11_holdsFor_12 rfl ?_
      refine x_getR C dX11_holdsFor_13 fF_X11_55 rfl rfl ?_
      refine x_iload_n C dX11_holdsFor_16 rfl ?_
      refine x_iaload C dX11_holdsFor_17 rfl h (fun h => ?_)
      refine x_istore C dX11_holdsFor_18 (by decide) ?_
      refine x_iload C dX11_holdsFor_20 rfl ?_
      refine x_bipush C dX11_holdsFor_22 (by decide) ?_
      refine x_icmp_ne C 48 dX11_holdsFor_24 (by decide) h (fun h => ?_) (fun h => ?_)
      · refine x_iload C dX11_holdsFor_48 rfl ?_
        refine x_bipush C dX11_holdsFor_50 (by decide) ?_
        refine x_icmp_le C 88 dX11_holdsFor_52 (by decide) h (fun h => ?_) (fun h => ?_)
        · refine x_iinc C dX11_holdsFor_88 (by decide) rfl ?_
          refine x_aload_n C dX11_holdsFor_91 rfl ?_
          refine x_getR C dX11_holdsFor_92 fF_X11_58 rfl rfl ?_
          refine x_iload_n C dX11_holdsFor_95 rfl ?_
          refine x_iconst C dX11_holdsFor_96 ?_
          refine x_isub C dX11_holdsFor_97 ?_
          refine x_iload C dX11_holdsFor_98 rfl ?_
          refine x_aload_n C dX11_holdsFor_100 rfl ?_
          refine x_getR C dX11_holdsFor_101 fF_X11_58 rfl rfl ?_
          refine x_iload_n C dX11_holdsFor_104 rfl ?_
          refine x_iconst C dX11_holdsFor_105 ?_
          refine x_isub C dX11_holdsFor_106 ?_
          refine x_laload C dX11_holdsFor_107 rfl h (fun h => ?_)
          refine x_aload_n C dX11_holdsFor_108 rfl ?_
          refine x_getR C dX11_holdsFor_109 fF_X11_58 rfl rfl ?_
          refine x_iload_n C dX11_holdsFor_112 rfl ?_
          refine x_laload C dX11_holdsFor_113 rfl h (fun h => ?_)
          obtain ⟨q0, hq0, h⟩ := x_bind h
          refine x_callSp C dX11_holdsFor_114 (xin_70 _ (List.mem_of_getElem? (i := 11) rfl)) xy_X11_operate (xt_X11_operate) [] xv_49 (by omega) (by decide) (av := [.inl (m 10 (xix x3)), .inr (.inl (m 11 (xix ((x2 + (-1)) - 1)))), .inr (.inl (m 11 (xix (x2 + (-1)))))]) rfl (Nat.le_of_ble_eq_true rfl) (c_m_operate _ _ _ _ _ _ hq0) rfl ?_
          refine x_lastore C dX11_holdsFor_117 rfl h (fun h => ?_)
          refine x_loc [(0, .inr (.inr (some 0))), (1, .inl e), (2, .inl (x2 + (-1))), (3, .inl x3)] ⟨rfl, rfl, rfl, rfl, trivial⟩ ?_
          exact t_m_holdsFor_118 hd9 C _ hR ih _ _ _ h
        · refine x_aload_n C dX11_holdsFor_55 rfl ?_
          refine x_getR C dX11_holdsFor_56 fF_X11_58 rfl rfl ?_
          refine x_iload_n C dX11_holdsFor_59 rfl ?_
          refine x_iload C dX11_holdsFor_60 rfl ?_
          refine x_if_lt C 71 dX11_holdsFor_62 (by decide) h (fun h => ?_) (fun h => ?_)
          · refine x_aload_n C dX11_holdsFor_71 rfl ?_
            refine x_iload_n C dX11_holdsFor_72 rfl ?_
            refine x_iconst C dX11_holdsFor_73 ?_
            refine x_iload C dX11_holdsFor_74 rfl ?_
            refine x_isub C dX11_holdsFor_76 ?_
            obtain ⟨q1, hq1, h⟩ := x_bind h
            refine x_callVI C dX11_holdsFor_77 (xin_70 _ (List.mem_of_getElem? (i := 7) rfl)) xy_X11_property (xi_X11_property) (xs_X11_property) (by omega) (by decide) (b := 0) rfl ⟨_, _, rfl⟩ (av := [.inl e, .inl ((-1) - (m 10 (xix x3)))]) rfl (Nat.le_of_ble_eq_true rfl) (c_m_property _ _ _ _ _ hq1) rfl ?_
            refine x_i2l C dX11_holdsFor_80 ?_
            refine x_loc [(0, .inr (.inr (some 0))), (1, .inl e), (2, .inl x2), (3, .inl x3)] ⟨rfl, rfl, rfl, rfl, trivial⟩ ?_
            exact t_m_holdsFor_81 hd9 C _ hR ih _ _ _ _ _ h
          · refine x_iload C dX11_holdsFor_65 rfl ?_
            refine x_i2l C dX11_holdsFor_67 ?_
            refine x_goto C 81 dX11_holdsFor_68 (by decide) ?_
            refine x_loc [(0, .inr (.inr (some 0))), (1, .inl e), (2, .inl x2), (3, .inl x3)] ⟨rfl, rfl, rfl, rfl, trivial⟩ ?_
            exact t_m_holdsFor_81 hd9 C _ hR ih _ _ _ _ _ h
      · refine x_aload_n C dX11_holdsFor_27 rfl ?_
        refine x_getR C dX11_holdsFor_28 fF_X11_58 rfl rfl ?_
        refine x_iload_n C dX11_holdsFor_31 rfl ?_
        refine x_iconst C dX11_holdsFor_32 ?_
        refine x_isub C dX11_holdsFor_33 ?_
        refine x_lconst C dX11_holdsFor_34 ?_
        refine x_aload_n C dX11_holdsFor_35 rfl ?_
        refine x_getR C dX11_holdsFor_36 fF_X11_58 rfl rfl ?_
        refine x_iload_n C dX11_holdsFor_39 rfl ?_
        refine x_iconst C dX11_holdsFor_40 ?_
        refine x_isub C dX11_holdsFor_41 ?_
        refine x_laload C dX11_holdsFor_42 rfl h (fun h => ?_)
        refine x_lsub C dX11_holdsFor_43 ?_
        refine x_lastore C dX11_holdsFor_44 rfl h (fun h => ?_)
        refine x_goto C 118 dX11_holdsFor_45 (by decide) ?_
        refine x_loc [(0, .inr (.inr (some 0))), (1, .inl e), (2, .inl x2), (3, .inl x3)] ⟨rfl, rfl, rfl, rfl, trivial⟩ ?_
        exact t_m_holdsFor_118 hd9 C _ hR ih _ _ _ h
def f_m_holdsFor (e : Int) (m : xM) : Option (Int × xM) :=
     f_m_holdsFor_4 e fu 0 0 m
set_option maxRecDepth 1000000 in
set_option maxHeartbeats 4000000 in
theorem t_m_holdsFor {Γ : xG} {d : Nat} (hd9 : 2 ≤ d) (C : xC Γ lay_M RX11 cX11_holdsFor 5 d) (e : Int) {r : Int} {m9 : xM} (hR : xRz Γ lay_M cX11_holdsFor r m9) (m : xM) (h : f_m_holdsFor e m = some (r, m9)) : xW Γ lay_M 5 0 [(0, .inr (.inr (some 0))), (1, .inl e)] [] m := by
  unfold f_m_holdsFor at h
  refine x_iconst C dX11_holdsFor_0 ?_
  refine x_istore_n C dX11_holdsFor_1 (by decide) ?_
  refine x_iconst C dX11_holdsFor_2 ?_
  refine x_istore_n C dX11_holdsFor_3 (by decide) ?_
  refine x_loc [(0, .inr (.inr (some 0))), (1, .inl e), (2, .inl 0), (3, .inl 0)] ⟨rfl, rfl, rfl, rfl, trivial⟩ ?_
  exact t_m_holdsFor_4 hd9 C _ hR fu _ _ _ h
theorem c_m_holdsFor (l : Launch) (e : Int) (m : xM) (r : Int) (m9 : xM) (h : f_m_holdsFor e m = some (r, m9)) : xMet l yX11_holdsFor cX11_holdsFor 5 (some .boolean) 2 lay_M [.inr (.inr (some 0)), .inl e] m (some (.inl r)) m9 :=
  xMet_z (by decide +kernel) (Nat.le_of_ble_eq_true rfl) (fun Γ C hR hl9 => t_m_holdsFor (Nat.le_refl _) C e hR m h)

/-! ===== yX11_fall ===== -/
theorem dX11_fall_0 : decode cX11_fall 0 = .ok (.aload_n 0, 1) := by decide +kernel
theorem dX11_fall_1 : decode cX11_fall 1 = .ok (.getfield 9, 3) := by decide +kernel
theorem dX11_fall_4 : decode cX11_fall 4 = .ok (.iconst 3, 1) := by decide +kernel
theorem dX11_fall_5 : decode cX11_fall 5 = .ok (.iaload, 1) := by decide +kernel
theorem dX11_fall_6 : decode cX11_fall 6 = .ok (.ifCond .ne 8, 3) := by decide +kernel
theorem dX11_fall_9 : decode cX11_fall 9 = .ok (.aload_n 0, 1) := by decide +kernel
theorem dX11_fall_10 : decode cX11_fall 10 = .ok (.invokevirtual 144, 3) := by decide +kernel
theorem dX11_fall_13 : decode cX11_fall 13 = .ok (.return_, 1) := by decide +kernel
theorem dX11_fall_14 : decode cX11_fall 14 = .ok (.aload_n 0, 1) := by decide +kernel
theorem dX11_fall_15 : decode cX11_fall 15 = .ok (.getfield 9, 3) := by decide +kernel
theorem dX11_fall_18 : decode cX11_fall 18 = .ok (.iconst 3, 1) := by decide +kernel
theorem dX11_fall_19 : decode cX11_fall 19 = .ok (.dup2, 1) := by decide +kernel
theorem dX11_fall_20 : decode cX11_fall 20 = .ok (.iaload, 1) := by decide +kernel
theorem dX11_fall_21 : decode cX11_fall 21 = .ok (.iconst 1, 1) := by decide +kernel
theorem dX11_fall_22 : decode cX11_fall 22 = .ok (.isub, 1) := by decide +kernel
theorem dX11_fall_23 : decode cX11_fall 23 = .ok (.iastore, 1) := by decide +kernel
theorem dX11_fall_24 : decode cX11_fall 24 = .ok (.aload_n 0, 1) := by decide +kernel
theorem dX11_fall_25 : decode cX11_fall 25 = .ok (.getfield 9, 3) := by decide +kernel
theorem dX11_fall_28 : decode cX11_fall 28 = .ok (.bipush 8, 2) := by decide +kernel
theorem dX11_fall_30 : decode cX11_fall 30 = .ok (.iconst 0, 1) := by decide +kernel
theorem dX11_fall_31 : decode cX11_fall 31 = .ok (.iastore, 1) := by decide +kernel
theorem dX11_fall_32 : decode cX11_fall 32 = .ok (.aload_n 0, 1) := by decide +kernel
theorem dX11_fall_33 : decode cX11_fall 33 = .ok (.getfield 9, 3) := by decide +kernel
theorem dX11_fall_36 : decode cX11_fall 36 = .ok (.bipush 9, 2) := by decide +kernel
theorem dX11_fall_38 : decode cX11_fall 38 = .ok (.iconst 0, 1) := by decide +kernel
theorem dX11_fall_39 : decode cX11_fall 39 = .ok (.iastore, 1) := by decide +kernel
theorem dX11_fall_40 : decode cX11_fall 40 = .ok (.aload_n 0, 1) := by decide +kernel
theorem dX11_fall_41 : decode cX11_fall 41 = .ok (.getfield 9, 3) := by decide +kernel
theorem dX11_fall_44 : decode cX11_fall 44 = .ok (.bipush 49, 2) := by decide +kernel
theorem dX11_fall_46 : decode cX11_fall 46 = .ok (.dup2, 1) := by decide +kernel
theorem dX11_fall_47 : decode cX11_fall 47 = .ok (.iaload, 1) := by decide +kernel
theorem dX11_fall_48 : decode cX11_fall 48 = .ok (.iconst 1, 1) := by decide +kernel
theorem dX11_fall_49 : decode cX11_fall 49 = .ok (.iadd, 1) := by decide +kernel
theorem dX11_fall_50 : decode cX11_fall 50 = .ok (.iastore, 1) := by decide +kernel
theorem dX11_fall_51 : decode cX11_fall 51 = .ok (.aload_n 0, 1) := by decide +kernel
theorem dX11_fall_52 : decode cX11_fall 52 = .ok (.iconst 2, 1) := by decide +kernel
theorem dX11_fall_53 : decode cX11_fall 53 = .ok (.iconst (-1), 1) := by decide +kernel
theorem dX11_fall_54 : decode cX11_fall 54 = .ok (.invokevirtual 114, 3) := by decide +kernel
theorem dX11_fall_57 : decode cX11_fall 57 = .ok (.return_, 1) := by decide +kernel
def f_m_fall_51 (m : xM) : Option (xM) :=
     (Option.bind (f_m_tellEvent 2 (-1) m) fun q0 =>
      some q0)
set_option maxRecDepth 1000000 in
set_option maxHeartbeats 4000000 in
theorem t_m_fall_51 {Γ : xG} {d : Nat} (hd9 : 5 ≤ d) (C : xC Γ lay_M RX11 cX11_fall 1 d) {m9 : xM} (hR : xRv Γ lay_M cX11_fall m9) (m : xM) (h : f_m_fall_51 m = some m9) : xW Γ lay_M 1 51 [(0, .inr (.inr (some 0)))] [] m := by
  unfold f_m_fall_51 at h
  refine x_aload_n C dX11_fall_51 rfl ?_
  refine x_iconst C dX11_fall_52 ?_
  refine x_iconst C dX11_fall_53 ?_
  obtain ⟨q0, hq0, h⟩ := x_bind h
  refine x_callVI C dX11_fall_54 (xin_45 _ (List.mem_of_getElem? (i := 8) rfl)) xy_X11_tellEvent (xi_X11_tellEvent) (xs_X11_tellEvent) (by omega) (by decide) (b := 0) rfl ⟨_, _, rfl⟩ (av := [.inl 2, .inl (-1)]) rfl (Nat.le_of_ble_eq_true rfl) (c_m_tellEvent _ _ _ _ _ hq0) rfl ?_
  exact x_returnV hR dX11_fall_57 h
def f_m_fall (m : xM) : Option (xM) :=
     (if xib 3 3530 then (if xw (m 1 3) = 0 then (Option.bind (f_m_hang m) fun q1 =>
      some q1)
      else (if xib 3 3530 then (if xib 3 3530 then (if xib 8 3530 then (if xib 9 3530 then (if xib 49 3530 then (if xib 49 3530 then f_m_fall_51 (xu (xu (xu (xu m 1 3 ((m 1 3) - 1)) 1 8 0) 1 9 0) 1 49 ((m 1 49) + 1))
      else none)
      else none)
      else none)
      else none)
      else none)
      else none))
      else none)
set_option maxRecDepth 1000000 in
set_option maxHeartbeats 4000000 in
theorem t_m_fall {Γ : xG} {d : Nat} (hd9 : 5 ≤ d) (C : xC Γ lay_M RX11 cX11_fall 1 d) {m9 : xM} (hR : xRv Γ lay_M cX11_fall m9) (m : xM) (h : f_m_fall m = some m9) : xW Γ lay_M 1 0 [(0, .inr (.inr (some 0)))] [] m := by
  unfold f_m_fall at h
  refine x_aload_n C dX11_fall_0 rfl ?_
  refine x_getR C dX11_fall_1 fF_X11_9 rfl rfl ?_
  refine x_iconst C dX11_fall_4 ?_
  refine x_iaload C dX11_fall_5 rfl h (fun h => ?_)
  refine x_if_ne C 14 dX11_fall_6 (by decide) h (fun h => ?_) (fun h => ?_)
  · refine x_aload_n C dX11_fall_14 rfl ?_
    refine x_getR C dX11_fall_15 fF_X11_9 rfl rfl ?_
    refine x_iconst C dX11_fall_18 ?_
    refine x_dup2 C dX11_fall_19 rfl rfl ?_
    refine x_iaload C dX11_fall_20 rfl h (fun h => ?_)
    refine x_iconst C dX11_fall_21 ?_
    refine x_isub C dX11_fall_22 ?_
    refine x_iastore C dX11_fall_23 rfl h (fun h => ?_)
    refine x_aload_n C dX11_fall_24 rfl ?_
    refine x_getR C dX11_fall_25 fF_X11_9 rfl rfl ?_
    refine x_bipush C dX11_fall_28 (by decide) ?_
    refine x_iconst C dX11_fall_30 ?_
    refine x_iastore C dX11_fall_31 rfl h (fun h => ?_)
    refine x_aload_n C dX11_fall_32 rfl ?_
    refine x_getR C dX11_fall_33 fF_X11_9 rfl rfl ?_
    refine x_bipush C dX11_fall_36 (by decide) ?_
    refine x_iconst C dX11_fall_38 ?_
    refine x_iastore C dX11_fall_39 rfl h (fun h => ?_)
    refine x_aload_n C dX11_fall_40 rfl ?_
    refine x_getR C dX11_fall_41 fF_X11_9 rfl rfl ?_
    refine x_bipush C dX11_fall_44 (by decide) ?_
    refine x_dup2 C dX11_fall_46 rfl rfl ?_
    refine x_iaload C dX11_fall_47 rfl h (fun h => ?_)
    refine x_iconst C dX11_fall_48 ?_
    refine x_iadd C dX11_fall_49 ?_
    refine x_iastore C dX11_fall_50 rfl h (fun h => ?_)
    refine x_loc [(0, .inr (.inr (some 0)))] ⟨rfl, trivial⟩ ?_
    exact t_m_fall_51 hd9 C hR _ h
  · refine x_aload_n C dX11_fall_9 rfl ?_
    obtain ⟨q1, hq1, h⟩ := x_bind h
    refine x_callVI C dX11_fall_10 (xin_45 _ (List.mem_of_getElem? (i := 4) rfl)) xy_X11_hang (xi_X11_hang) (xs_X11_hang) (by omega) (by decide) (b := 0) rfl ⟨_, _, rfl⟩ (av := []) rfl (Nat.le_of_ble_eq_true rfl) (c_m_hang _ _ _ hq1) rfl ?_
    exact x_returnV hR dX11_fall_13 h
theorem c_m_fall (l : Launch) (m m9 : xM) (h : f_m_fall m = some m9) : xMet l yX11_fall cX11_fall 1 none 5 lay_M [.inr (.inr (some 0))] m none m9 :=
  xMet_v (by decide +kernel) (Nat.le_of_ble_eq_true rfl) (fun Γ C hR hl9 => t_m_fall (Nat.le_refl _) C hR m h)
/-! ===== yX11_timer ===== -/
theorem xy_X11_firstThat : xY yX11_firstThat cX11_firstThat 4 (some .int) 2 := ⟨(xin_47 _ (List.mem_of_getElem? (i := 18) rfl)), (xin_1 _ (List.mem_of_getElem? (i := 5) rfl)), by decide, by decide, by decide +kernel⟩
theorem xi_X11_firstThat : Cond.instanceMethod yX11_firstThat ∈ wsL_law := (xin_47 _ (List.mem_of_getElem? (i := 16) rfl))
theorem xs_X11_firstThat : Cond.selects yX11_firstThat.cls yX11_firstThat yX11_firstThat ∈ wsL_law := (xin_47 _ (List.mem_of_getElem? (i := 17) rfl))
theorem xy_X11_fall : xY yX11_fall cX11_fall 1 none 0 := ⟨(xin_47 _ (List.mem_of_getElem? (i := 22) rfl)), (xin_1 _ (List.mem_of_getElem? (i := 5) rfl)), by decide, by decide, by decide +kernel⟩
theorem xi_X11_fall : Cond.instanceMethod yX11_fall ∈ wsL_law := (xin_47 _ (List.mem_of_getElem? (i := 20) rfl))
theorem xs_X11_fall : Cond.selects yX11_fall.cls yX11_fall yX11_fall ∈ wsL_law := (xin_47 _ (List.mem_of_getElem? (i := 21) rfl))
theorem dX11_timer_0 : decode cX11_timer 0 = .ok (.aload_n 0, 1) := by decide +kernel
theorem dX11_timer_1 : decode cX11_timer 1 = .ok (.iload_n 1, 1) := by decide +kernel
theorem dX11_timer_2 : decode cX11_timer 2 = .ok (.iconst 0, 1) := by decide +kernel
theorem dX11_timer_3 : decode cX11_timer 3 = .ok (.invokevirtual 156, 3) := by decide +kernel
theorem dX11_timer_6 : decode cX11_timer 6 = .ok (.istore_n 2, 1) := by decide +kernel
theorem dX11_timer_7 : decode cX11_timer 7 = .ok (.iload_n 2, 1) := by decide +kernel
theorem dX11_timer_8 : decode cX11_timer 8 = .ok (.iconst (-1), 1) := by decide +kernel
theorem dX11_timer_9 : decode cX11_timer 9 = .ok (.if_icmp .eq 27, 3) := by decide +kernel
theorem dX11_timer_12 : decode cX11_timer 12 = .ok (.aload_n 0, 1) := by decide +kernel
theorem dX11_timer_13 : decode cX11_timer 13 = .ok (.getfield 9, 3) := by decide +kernel
theorem dX11_timer_16 : decode cX11_timer 16 = .ok (.iconst 0, 1) := by decide +kernel
theorem dX11_timer_17 : decode cX11_timer 17 = .ok (.iaload, 1) := by decide +kernel
theorem dX11_timer_18 : decode cX11_timer 18 = .ok (.aload_n 0, 1) := by decide +kernel
theorem dX11_timer_19 : decode cX11_timer 19 = .ok (.iload_n 1, 1) := by decide +kernel
theorem dX11_timer_20 : decode cX11_timer 20 = .ok (.iload_n 2, 1) := by decide +kernel
theorem dX11_timer_21 : decode cX11_timer 21 = .ok (.iconst 2, 1) := by decide +kernel
theorem dX11_timer_22 : decode cX11_timer 22 = .ok (.invokevirtual 124, 3) := by decide +kernel
theorem dX11_timer_25 : decode cX11_timer 25 = .ok (.isub, 1) := by decide +kernel
theorem dX11_timer_26 : decode cX11_timer 26 = .ok (.aload_n 0, 1) := by decide +kernel
theorem dX11_timer_27 : decode cX11_timer 27 = .ok (.getfield 9, 3) := by decide +kernel
theorem dX11_timer_30 : decode cX11_timer 30 = .ok (.bipush 16, 2) := by decide +kernel
theorem dX11_timer_32 : decode cX11_timer 32 = .ok (.iaload, 1) := by decide +kernel
theorem dX11_timer_33 : decode cX11_timer 33 = .ok (.if_icmp .ge 4, 3) := by decide +kernel
theorem dX11_timer_36 : decode cX11_timer 36 = .ok (.return_, 1) := by decide +kernel
theorem dX11_timer_37 : decode cX11_timer 37 = .ok (.iconst 0, 1) := by decide +kernel
theorem dX11_timer_38 : decode cX11_timer 38 = .ok (.istore_n 3, 1) := by decide +kernel
theorem dX11_timer_39 : decode cX11_timer 39 = .ok (.iload_n 3, 1) := by decide +kernel
theorem dX11_timer_40 : decode cX11_timer 40 = .ok (.aload_n 0, 1) := by decide +kernel
theorem dX11_timer_41 : decode cX11_timer 41 = .ok (.iload_n 1, 1) := by decide +kernel
theorem dX11_timer_42 : decode cX11_timer 42 = .ok (.iconst 1, 1) := by decide +kernel
theorem dX11_timer_43 : decode cX11_timer 43 = .ok (.invokevirtual 101, 3) := by decide +kernel
theorem dX11_timer_46 : decode cX11_timer 46 = .ok (.if_icmp .ge 21, 3) := by decide +kernel
theorem dX11_timer_49 : decode cX11_timer 49 = .ok (.aload_n 0, 1) := by decide +kernel
theorem dX11_timer_50 : decode cX11_timer 50 = .ok (.getfield 9, 3) := by decide +kernel
theorem dX11_timer_53 : decode cX11_timer 53 = .ok (.iload_n 1, 1) := by decide +kernel
theorem dX11_timer_54 : decode cX11_timer 54 = .ok (.iload_n 3, 1) := by decide +kernel
theorem dX11_timer_55 : decode cX11_timer 55 = .ok (.iconst 3, 1) := by decide +kernel
theorem dX11_timer_56 : decode cX11_timer 56 = .ok (.invokestatic 73, 3) := by decide +kernel
theorem dX11_timer_59 : decode cX11_timer 59 = .ok (.iconst 1, 1) := by decide +kernel
theorem dX11_timer_60 : decode cX11_timer 60 = .ok (.iastore, 1) := by decide +kernel
theorem dX11_timer_61 : decode cX11_timer 61 = .ok (.iinc 3 1, 3) := by decide +kernel
theorem dX11_timer_64 : decode cX11_timer 64 = .ok (.goto (-25), 3) := by decide +kernel
theorem dX11_timer_67 : decode cX11_timer 67 = .ok (.aload_n 0, 1) := by decide +kernel
theorem dX11_timer_68 : decode cX11_timer 68 = .ok (.getfield 9, 3) := by decide +kernel
theorem dX11_timer_71 : decode cX11_timer 71 = .ok (.iload_n 1, 1) := by decide +kernel
theorem dX11_timer_72 : decode cX11_timer 72 = .ok (.bipush 9, 2) := by decide +kernel
theorem dX11_timer_74 : decode cX11_timer 74 = .ok (.invokestatic 69, 3) := by decide +kernel
theorem dX11_timer_77 : decode cX11_timer 77 = .ok (.iconst 1, 1) := by decide +kernel
theorem dX11_timer_78 : decode cX11_timer 78 = .ok (.iastore, 1) := by decide +kernel
theorem dX11_timer_79 : decode cX11_timer 79 = .ok (.aload_n 0, 1) := by decide +kernel
theorem dX11_timer_80 : decode cX11_timer 80 = .ok (.getfield 9, 3) := by decide +kernel
theorem dX11_timer_83 : decode cX11_timer 83 = .ok (.bipush 48, 2) := by decide +kernel
theorem dX11_timer_85 : decode cX11_timer 85 = .ok (.dup2, 1) := by decide +kernel
theorem dX11_timer_86 : decode cX11_timer 86 = .ok (.iaload, 1) := by decide +kernel
theorem dX11_timer_87 : decode cX11_timer 87 = .ok (.iconst 1, 1) := by decide +kernel
theorem dX11_timer_88 : decode cX11_timer 88 = .ok (.iadd, 1) := by decide +kernel
theorem dX11_timer_89 : decode cX11_timer 89 = .ok (.iastore, 1) := by decide +kernel
theorem dX11_timer_90 : decode cX11_timer 90 = .ok (.aload_n 0, 1) := by decide +kernel
theorem dX11_timer_91 : decode cX11_timer 91 = .ok (.getfield 9, 3) := by decide +kernel
theorem dX11_timer_94 : decode cX11_timer 94 = .ok (.bipush 8, 2) := by decide +kernel
theorem dX11_timer_96 : decode cX11_timer 96 = .ok (.dup2, 1) := by decide +kernel
theorem dX11_timer_97 : decode cX11_timer 97 = .ok (.iaload, 1) := by decide +kernel
theorem dX11_timer_98 : decode cX11_timer 98 = .ok (.iconst 1, 1) := by decide +kernel
theorem dX11_timer_99 : decode cX11_timer 99 = .ok (.iadd, 1) := by decide +kernel
theorem dX11_timer_100 : decode cX11_timer 100 = .ok (.iastore, 1) := by decide +kernel
theorem dX11_timer_101 : decode cX11_timer 101 = .ok (.aload_n 0, 1) := by decide +kernel
theorem dX11_timer_102 : decode cX11_timer 102 = .ok (.getfield 9, 3) := by decide +kernel
theorem dX11_timer_105 : decode cX11_timer 105 = .ok (.bipush 9, 2) := by decide +kernel
theorem dX11_timer_107 : decode cX11_timer 107 = .ok (.iconst 0, 1) := by decide +kernel
theorem dX11_timer_108 : decode cX11_timer 108 = .ok (.iastore, 1) := by decide +kernel
theorem dX11_timer_109 : decode cX11_timer 109 = .ok (.aload_n 0, 1) := by decide +kernel
theorem dX11_timer_110 : decode cX11_timer 110 = .ok (.bipush 6, 2) := by decide +kernel
theorem dX11_timer_112 : decode cX11_timer 112 = .ok (.iload_n 1, 1) := by decide +kernel
theorem dX11_timer_113 : decode cX11_timer 113 = .ok (.invokevirtual 114, 3) := by decide +kernel
theorem dX11_timer_116 : decode cX11_timer 116 = .ok (.aload_n 0, 1) := by decide +kernel
theorem dX11_timer_117 : decode cX11_timer 117 = .ok (.getfield 9, 3) := by decide +kernel
theorem dX11_timer_120 : decode cX11_timer 120 = .ok (.bipush 8, 2) := by decide +kernel
theorem dX11_timer_122 : decode cX11_timer 122 = .ok (.iaload, 1) := by decide +kernel
theorem dX11_timer_123 : decode cX11_timer 123 = .ok (.aload_n 0, 1) := by decide +kernel
theorem dX11_timer_124 : decode cX11_timer 124 = .ok (.getfield 9, 3) := by decide +kernel
theorem dX11_timer_127 : decode cX11_timer 127 = .ok (.bipush 17, 2) := by decide +kernel
theorem dX11_timer_129 : decode cX11_timer 129 = .ok (.iaload, 1) := by decide +kernel
theorem dX11_timer_130 : decode cX11_timer 130 = .ok (.if_icmp .lt 7, 3) := by decide +kernel
theorem dX11_timer_133 : decode cX11_timer 133 = .ok (.aload_n 0, 1) := by decide +kernel
theorem dX11_timer_134 : decode cX11_timer 134 = .ok (.invokevirtual 159, 3) := by decide +kernel
theorem dX11_timer_137 : decode cX11_timer 137 = .ok (.return_, 1) := by decide +kernel
def f_m_timer_90 (e : Int) (m : xM) : Option (xM) :=
     (if xib 8 3530 then (if xib 8 3530 then (if xib 9 3530 then (Option.bind (f_m_tellEvent 6 e (xu (xu m 1 8 ((m 1 8) + 1)) 1 9 0)) fun q4 =>
      (if xib 8 3530 then (if xib 17 3530 then (if xw (q4 1 8) < xw (q4 1 17) then some q4
      else (Option.bind (f_m_fall q4) fun q5 =>
      some q5))
      else none)
      else none))
      else none)
      else none)
      else none)
set_option maxRecDepth 1000000 in
set_option maxHeartbeats 4000000 in
theorem t_m_timer_90 {Γ : xG} {d : Nat} (hd9 : 6 ≤ d) (C : xC Γ lay_M RX11 cX11_timer 4 d) (e : Int) {m9 : xM} (hR : xRv Γ lay_M cX11_timer m9) (m : xM) (h : f_m_timer_90 e m = some m9) : xW Γ lay_M 4 90 [(0, .inr (.inr (some 0))), (1, .inl e)] [] m := by
  unfold f_m_timer_90 at h
  refine x_aload_n C dX11_timer_90 rfl ?_
  refine x_getR C dX11_timer_91 fF_X11_9 rfl rfl ?_
  refine x_bipush C dX11_timer_94 (by decide) ?_
  refine x_dup2 C dX11_timer_96 rfl rfl ?_
  refine x_iaload C dX11_timer_97 rfl h (fun h => ?_)
  refine x_iconst C dX11_timer_98 ?_
  refine x_iadd C dX11_timer_99 ?_
  refine x_iastore C dX11_timer_100 rfl h (fun h => ?_)
  refine x_aload_n C dX11_timer_101 rfl ?_
  refine x_getR C dX11_timer_102 fF_X11_9 rfl rfl ?_
  refine x_bipush C dX11_timer_105 (by decide) ?_
  refine x_iconst C dX11_timer_107 ?_
  refine x_iastore C dX11_timer_108 rfl h (fun h => ?_)
  refine x_aload_n C dX11_timer_109 rfl ?_
  refine x_bipush C dX11_timer_110 (by decide) ?_
  refine x_iload_n C dX11_timer_112 rfl ?_
  obtain ⟨q4, hq4, h⟩ := x_bind h
  refine x_callVI C dX11_timer_113 (xin_45 _ (List.mem_of_getElem? (i := 8) rfl)) xy_X11_tellEvent (xi_X11_tellEvent) (xs_X11_tellEvent) (by omega) (by decide) (b := 0) rfl ⟨_, _, rfl⟩ (av := [.inl 6, .inl e]) rfl (Nat.le_of_ble_eq_true rfl) (c_m_tellEvent _ _ _ _ _ hq4) rfl ?_
  refine x_aload_n C dX11_timer_116 rfl ?_
  refine x_getR C dX11_timer_117 fF_X11_9 rfl rfl ?_
  refine x_bipush C dX11_timer_120 (by decide) ?_
  refine x_iaload C dX11_timer_122 rfl h (fun h => ?_)
  refine x_aload_n C dX11_timer_123 rfl ?_
  refine x_getR C dX11_timer_124 fF_X11_9 rfl rfl ?_
  refine x_bipush C dX11_timer_127 (by decide) ?_
  refine x_iaload C dX11_timer_129 rfl h (fun h => ?_)
  refine x_icmp_lt C 137 dX11_timer_130 (by decide) h (fun h => ?_) (fun h => ?_)
  · exact x_returnV hR dX11_timer_137 h
  · refine x_aload_n C dX11_timer_133 rfl ?_
    obtain ⟨q5, hq5, h⟩ := x_bind h
    refine x_callVI C dX11_timer_134 (xin_47 _ (List.mem_of_getElem? (i := 19) rfl)) xy_X11_fall (xi_X11_fall) (xs_X11_fall) (by omega) (by decide) (b := 0) rfl ⟨_, _, rfl⟩ (av := []) rfl (Nat.le_of_ble_eq_true rfl) (c_m_fall _ _ _ hq5) rfl ?_
    exact x_returnV hR dX11_timer_137 h
def f_m_timer_67 (e : Int) (m : xM) : Option (xM) :=
     (Option.bind (f_m_endAt e 9 (xvw [] m)) fun q3 =>
      (if xib q3 3530 then (if xib 48 3530 then (if xib 48 3530 then f_m_timer_90 e (xu (xu m 1 (xix q3) 1) 1 48 (((xu m 1 (xix q3) 1) 1 48) + 1))
      else none)
      else none)
      else none))
set_option maxRecDepth 1000000 in
set_option maxHeartbeats 4000000 in
theorem t_m_timer_67 {Γ : xG} {d : Nat} (hd9 : 6 ≤ d) (C : xC Γ lay_M RX11 cX11_timer 4 d) (e : Int) {m9 : xM} (hR : xRv Γ lay_M cX11_timer m9) (m : xM) (h : f_m_timer_67 e m = some m9) : xW Γ lay_M 4 67 [(0, .inr (.inr (some 0))), (1, .inl e)] [] m := by
  unfold f_m_timer_67 at h
  refine x_aload_n C dX11_timer_67 rfl ?_
  refine x_getR C dX11_timer_68 fF_X11_9 rfl rfl ?_
  refine x_iload_n C dX11_timer_71 rfl ?_
  refine x_bipush C dX11_timer_72 (by decide) ?_
  obtain ⟨q3, hq3, h⟩ := x_bind h
  refine x_callSp C dX11_timer_74 (xin_27 _ (List.mem_of_getElem? (i := 18) rfl)) xy_X11_endAt (xt_X11_endAt) [] xv_49 (by omega) (by decide) (av := [.inl e, .inl 9]) rfl (Nat.le_of_ble_eq_true rfl) (c_m_endAt _ _ _ _ _ hq3) rfl ?_
  refine x_iconst C dX11_timer_77 ?_
  refine x_iastore C dX11_timer_78 rfl h (fun h => ?_)
  refine x_aload_n C dX11_timer_79 rfl ?_
  refine x_getR C dX11_timer_80 fF_X11_9 rfl rfl ?_
  refine x_bipush C dX11_timer_83 (by decide) ?_
  refine x_dup2 C dX11_timer_85 rfl rfl ?_
  refine x_iaload C dX11_timer_86 rfl h (fun h => ?_)
  refine x_iconst C dX11_timer_87 ?_
  refine x_iadd C dX11_timer_88 ?_
  refine x_iastore C dX11_timer_89 rfl h (fun h => ?_)
  refine x_loc [(0, .inr (.inr (some 0))), (1, .inl e)] ⟨rfl, rfl, trivial⟩ ?_
  exact t_m_timer_90 hd9 C _ hR _ h
def f_m_timer_39 (e : Int) : Nat → Int → xM → Option (xM)
  | 0, _, _ => none
  | n + 1, x3, m =>
     (Option.bind (f_m_of e 1 m) fun q2 =>
      (if xw x3 < xw q2 then (Option.bind (f_m_frameAt e x3 3 (xvw [] m)) fun q6 =>
      (if xib q6 3530 then f_m_timer_39 e n (x3 + 1) (xu m 1 (xix q6) 1)
      else none))
      else f_m_timer_67 e m))
set_option maxRecDepth 1000000 in
set_option maxHeartbeats 4000000 in
theorem t_m_timer_39 {Γ : xG} {d : Nat} (hd9 : 6 ≤ d) (C : xC Γ lay_M RX11 cX11_timer 4 d) (e : Int) {m9 : xM} (hR : xRv Γ lay_M cX11_timer m9) : ∀ (n : Nat) (x3 : Int) (m : xM), f_m_timer_39 e n x3 m = some m9 → xW Γ lay_M 4 39 [(0, .inr (.inr (some 0))), (1, .inl e), (3, .inl x3)] [] m := by
  intro n
  induction n with
  | zero => intro _ _ h; cases h
  | succ n ih =>
    intro x3 m h
    rw [f_m_timer_39] at h
    refine x_iload_n C dX11_timer_39 rfl ?_
    refine x_aload_n C dX11_timer_40 rfl ?_
    refine x_iload_n C dX11_timer_41 rfl ?_
    refine x_iconst C dX11_timer_42 ?_
    obtain ⟨q2, hq2, h⟩ := x_bind h
    refine x_callVI C dX11_timer_43 (xin_27 _ (List.mem_of_getElem? (i := 14) rfl)) xy_X11_of (xi_X11_of) (xs_X11_of) (by omega) (by decide) (b := 0) rfl ⟨_, _, rfl⟩ (av := [.inl e, .inl 1]) rfl (Nat.le_of_ble_eq_true rfl) (c_m_of _ _ _ _ _ hq2) rfl ?_
    refine x_icmp_ge C 67 dX11_timer_46 (by decide) h (fun h => ?_) (fun h => ?_)
    · refine x_loc [(0, .inr (.inr (some 0))), (1, .inl e)] ⟨rfl, rfl, trivial⟩ ?_
      exact t_m_timer_67 hd9 C _ hR _ h
    · refine x_aload_n C dX11_timer_49 rfl ?_
      refine x_getR C dX11_timer_50 fF_X11_9 rfl rfl ?_
      refine x_iload_n C dX11_timer_53 rfl ?_
      refine x_iload_n C dX11_timer_54 rfl ?_
      refine x_iconst C dX11_timer_55 ?_
      obtain ⟨q6, hq6, h⟩ := x_bind h
      refine x_callSp C dX11_timer_56 (xin_28 _ (List.mem_of_getElem? (i := 5) rfl)) xy_X11_frameAt (xt_X11_frameAt) [] xv_49 (by omega) (by decide) (av := [.inl e, .inl x3, .inl 3]) rfl (Nat.le_of_ble_eq_true rfl) (c_m_frameAt _ _ _ _ _ _ hq6) rfl ?_
      refine x_iconst C dX11_timer_59 ?_
      refine x_iastore C dX11_timer_60 rfl h (fun h => ?_)
      refine x_iinc C dX11_timer_61 (by decide) rfl ?_
      refine x_goto C 39 dX11_timer_64 (by decide) ?_
      refine x_loc [(0, .inr (.inr (some 0))), (1, .inl e), (3, .inl (x3 + 1))] ⟨rfl, rfl, rfl, trivial⟩ ?_
      exact ih _ _ h
def f_m_timer (e : Int) (m : xM) : Option (xM) :=
     (Option.bind (f_m_firstThat e 0 m) fun q0 =>
      (if xw q0 = xw (-1) then some m
      else (if xib 0 3530 then (Option.bind (f_m_ofFrame e q0 2 m) fun q1 =>
      (if xib 16 3530 then (if xw ((m 1 0) - q1) < xw (m 1 16) then some m
      else f_m_timer_39 e fu 0 m)
      else none))
      else none)))
set_option maxRecDepth 1000000 in
set_option maxHeartbeats 4000000 in
theorem t_m_timer {Γ : xG} {d : Nat} (hd9 : 6 ≤ d) (C : xC Γ lay_M RX11 cX11_timer 4 d) (e : Int) {m9 : xM} (hR : xRv Γ lay_M cX11_timer m9) (m : xM) (h : f_m_timer e m = some m9) : xW Γ lay_M 4 0 [(0, .inr (.inr (some 0))), (1, .inl e)] [] m := by
  unfold f_m_timer at h
  refine x_aload_n C dX11_timer_0 rfl ?_
  refine x_iload_n C dX11_timer_1 rfl ?_
  refine x_iconst C dX11_timer_2 ?_
  obtain ⟨q0, hq0, h⟩ := x_bind h
  refine x_callVI C dX11_timer_3 (xin_47 _ (List.mem_of_getElem? (i := 15) rfl)) xy_X11_firstThat (xi_X11_firstThat) (xs_X11_firstThat) (by omega) (by decide) (b := 0) rfl ⟨_, _, rfl⟩ (av := [.inl e, .inl 0]) rfl (Nat.le_of_ble_eq_true rfl) (c_m_firstThat _ _ _ _ _ hq0) rfl ?_
  refine x_istore_n C dX11_timer_6 (by decide) ?_
  refine x_iload_n C dX11_timer_7 rfl ?_
  refine x_iconst C dX11_timer_8 ?_
  refine x_icmp_eq C 36 dX11_timer_9 (by decide) h (fun h => ?_) (fun h => ?_)
  · exact x_returnV hR dX11_timer_36 h
  · refine x_aload_n C dX11_timer_12 rfl ?_
    refine x_getR C dX11_timer_13 fF_X11_9 rfl rfl ?_
    refine x_iconst C dX11_timer_16 ?_
    refine x_iaload C dX11_timer_17 rfl h (fun h => ?_)
    refine x_aload_n C dX11_timer_18 rfl ?_
    refine x_iload_n C dX11_timer_19 rfl ?_
    refine x_iload_n C dX11_timer_20 rfl ?_
    refine x_iconst C dX11_timer_21 ?_
    obtain ⟨q1, hq1, h⟩ := x_bind h
    refine x_callVI C dX11_timer_22 (xin_28 _ (List.mem_of_getElem? (i := 1) rfl)) xy_X11_ofFrame (xi_X11_ofFrame) (xs_X11_ofFrame) (by omega) (by decide) (b := 0) rfl ⟨_, _, rfl⟩ (av := [.inl e, .inl q0, .inl 2]) rfl (Nat.le_of_ble_eq_true rfl) (c_m_ofFrame _ _ _ _ _ _ hq1) rfl ?_
    refine x_isub C dX11_timer_25 ?_
    refine x_aload_n C dX11_timer_26 rfl ?_
    refine x_getR C dX11_timer_27 fF_X11_9 rfl rfl ?_
    refine x_bipush C dX11_timer_30 (by decide) ?_
    refine x_iaload C dX11_timer_32 rfl h (fun h => ?_)
    refine x_icmp_ge C 37 dX11_timer_33 (by decide) h (fun h => ?_) (fun h => ?_)
    · refine x_iconst C dX11_timer_37 ?_
      refine x_istore_n C dX11_timer_38 (by decide) ?_
      refine x_loc [(0, .inr (.inr (some 0))), (1, .inl e), (3, .inl 0)] ⟨rfl, rfl, rfl, trivial⟩ ?_
      exact t_m_timer_39 hd9 C _ hR fu _ _ h
    · exact x_returnV hR dX11_timer_36 h
theorem c_m_timer (l : Launch) (e : Int) (m m9 : xM) (h : f_m_timer e m = some m9) : xMet l yX11_timer cX11_timer 4 none 6 lay_M [.inr (.inr (some 0)), .inl e] m none m9 :=
  xMet_v (by decide +kernel) (Nat.le_of_ble_eq_true rfl) (fun Γ C hR hl9 => t_m_timer (Nat.le_refl _) C e hR m h)
/-! ===== yX11_rise ===== -/
theorem xy_X11_isRate : xY yX11_isRate cX11_isRate 2 (some .boolean) 1 := ⟨(xin_29 _ (List.mem_of_getElem? (i := 0) rfl)), (xin_1 _ (List.mem_of_getElem? (i := 5) rfl)), by decide, by decide, by decide +kernel⟩
theorem xi_X11_isRate : Cond.instanceMethod yX11_isRate ∈ wsL_law := (xin_28 _ (List.mem_of_getElem? (i := 22) rfl))
theorem xs_X11_isRate : Cond.selects yX11_isRate.cls yX11_isRate yX11_isRate ∈ wsL_law := (xin_28 _ (List.mem_of_getElem? (i := 23) rfl))
theorem dX11_rise_0 : decode cX11_rise 0 = .ok (.aload_n 0, 1) := by decide +kernel
theorem dX11_rise_1 : decode cX11_rise 1 = .ok (.getfield 9, 3) := by decide +kernel
theorem dX11_rise_4 : decode cX11_rise 4 = .ok (.iconst 3, 1) := by decide +kernel
theorem dX11_rise_5 : decode cX11_rise 5 = .ok (.iaload, 1) := by decide +kernel
theorem dX11_rise_6 : decode cX11_rise 6 = .ok (.iconst 1, 1) := by decide +kernel
theorem dX11_rise_7 : decode cX11_rise 7 = .ok (.iadd, 1) := by decide +kernel
theorem dX11_rise_8 : decode cX11_rise 8 = .ok (.istore_n 1, 1) := by decide +kernel
theorem dX11_rise_9 : decode cX11_rise 9 = .ok (.aload_n 0, 1) := by decide +kernel
theorem dX11_rise_10 : decode cX11_rise 10 = .ok (.getfield 9, 3) := by decide +kernel
theorem dX11_rise_13 : decode cX11_rise 13 = .ok (.bipush 9, 2) := by decide +kernel
theorem dX11_rise_15 : decode cX11_rise 15 = .ok (.iaload, 1) := by decide +kernel
theorem dX11_rise_16 : decode cX11_rise 16 = .ok (.aload_n 0, 1) := by decide +kernel
theorem dX11_rise_17 : decode cX11_rise 17 = .ok (.getfield 9, 3) := by decide +kernel
theorem dX11_rise_20 : decode cX11_rise 20 = .ok (.bipush 18, 2) := by decide +kernel
theorem dX11_rise_22 : decode cX11_rise 22 = .ok (.iaload, 1) := by decide +kernel
theorem dX11_rise_23 : decode cX11_rise 23 = .ok (.if_icmp .lt 61, 3) := by decide +kernel
theorem dX11_rise_26 : decode cX11_rise 26 = .ok (.aload_n 0, 1) := by decide +kernel
theorem dX11_rise_27 : decode cX11_rise 27 = .ok (.iload_n 1, 1) := by decide +kernel
theorem dX11_rise_28 : decode cX11_rise 28 = .ok (.invokevirtual 162, 3) := by decide +kernel
theorem dX11_rise_31 : decode cX11_rise 31 = .ok (.ifCond .eq 53, 3) := by decide +kernel
theorem dX11_rise_34 : decode cX11_rise 34 = .ok (.aload_n 0, 1) := by decide +kernel
theorem dX11_rise_35 : decode cX11_rise 35 = .ok (.getfield 9, 3) := by decide +kernel
theorem dX11_rise_38 : decode cX11_rise 38 = .ok (.bipush 40, 2) := by decide +kernel
theorem dX11_rise_40 : decode cX11_rise 40 = .ok (.iload_n 1, 1) := by decide +kernel
theorem dX11_rise_41 : decode cX11_rise 41 = .ok (.iadd, 1) := by decide +kernel
theorem dX11_rise_42 : decode cX11_rise 42 = .ok (.iaload, 1) := by decide +kernel
theorem dX11_rise_43 : decode cX11_rise 43 = .ok (.aload_n 0, 1) := by decide +kernel
theorem dX11_rise_44 : decode cX11_rise 44 = .ok (.getfield 9, 3) := by decide +kernel
theorem dX11_rise_47 : decode cX11_rise 47 = .ok (.iconst 2, 1) := by decide +kernel
theorem dX11_rise_48 : decode cX11_rise 48 = .ok (.iaload, 1) := by decide +kernel
theorem dX11_rise_49 : decode cX11_rise 49 = .ok (.if_icmp .gt 35, 3) := by decide +kernel
theorem dX11_rise_52 : decode cX11_rise 52 = .ok (.aload_n 0, 1) := by decide +kernel
theorem dX11_rise_53 : decode cX11_rise 53 = .ok (.getfield 9, 3) := by decide +kernel
theorem dX11_rise_56 : decode cX11_rise 56 = .ok (.iconst 3, 1) := by decide +kernel
theorem dX11_rise_57 : decode cX11_rise 57 = .ok (.iload_n 1, 1) := by decide +kernel
theorem dX11_rise_58 : decode cX11_rise 58 = .ok (.iastore, 1) := by decide +kernel
theorem dX11_rise_59 : decode cX11_rise 59 = .ok (.aload_n 0, 1) := by decide +kernel
theorem dX11_rise_60 : decode cX11_rise 60 = .ok (.getfield 9, 3) := by decide +kernel
theorem dX11_rise_63 : decode cX11_rise 63 = .ok (.bipush 9, 2) := by decide +kernel
theorem dX11_rise_65 : decode cX11_rise 65 = .ok (.iconst 0, 1) := by decide +kernel
theorem dX11_rise_66 : decode cX11_rise 66 = .ok (.iastore, 1) := by decide +kernel
theorem dX11_rise_67 : decode cX11_rise 67 = .ok (.aload_n 0, 1) := by decide +kernel
theorem dX11_rise_68 : decode cX11_rise 68 = .ok (.getfield 9, 3) := by decide +kernel
theorem dX11_rise_71 : decode cX11_rise 71 = .ok (.bipush 50, 2) := by decide +kernel
theorem dX11_rise_73 : decode cX11_rise 73 = .ok (.dup2, 1) := by decide +kernel
theorem dX11_rise_74 : decode cX11_rise 74 = .ok (.iaload, 1) := by decide +kernel
theorem dX11_rise_75 : decode cX11_rise 75 = .ok (.iconst 1, 1) := by decide +kernel
theorem dX11_rise_76 : decode cX11_rise 76 = .ok (.iadd, 1) := by decide +kernel
theorem dX11_rise_77 : decode cX11_rise 77 = .ok (.iastore, 1) := by decide +kernel
theorem dX11_rise_78 : decode cX11_rise 78 = .ok (.aload_n 0, 1) := by decide +kernel
theorem dX11_rise_79 : decode cX11_rise 79 = .ok (.iconst 3, 1) := by decide +kernel
theorem dX11_rise_80 : decode cX11_rise 80 = .ok (.iconst (-1), 1) := by decide +kernel
theorem dX11_rise_81 : decode cX11_rise 81 = .ok (.invokevirtual 114, 3) := by decide +kernel
theorem dX11_rise_84 : decode cX11_rise 84 = .ok (.return_, 1) := by decide +kernel
def f_m_rise (m : xM) : Option (xM) :=
     (if xib 3 3530 then (if xib 9 3530 then (if xib 18 3530 then (if xw (m 1 9) < xw (m 1 18) then some m
      else (Option.bind (f_m_isRate ((m 1 3) + 1) m) fun q0 =>
      (if xw q0 = 0 then some m
      else (if xib (40 + ((m 1 3) + 1)) 3530 then (if xib 2 3530 then (if xw (m 1 2) < xw (m 1 (xix (40 + ((m 1 3) + 1)))) then some m
      else (if xib 3 3530 then (if xib 9 3530 then (if xib 50 3530 then (if xib 50 3530 then (Option.bind (f_m_tellEvent 3 (-1) (xu (xu (xu m 1 3 ((m 1 3) + 1)) 1 9 0) 1 50 ((m 1 50) + 1))) fun q1 =>
      some q1)
      else none)
      else none)
      else none)
      else none))
      else none)
      else none))))
      else none)
      else none)
      else none)
set_option maxRecDepth 1000000 in
set_option maxHeartbeats 4000000 in
theorem t_m_rise {Γ : xG} {d : Nat} (hd9 : 4 ≤ d) (C : xC Γ lay_M RX11 cX11_rise 2 d) {m9 : xM} (hR : xRv Γ lay_M cX11_rise m9) (m : xM) (h : f_m_rise m = some m9) : xW Γ lay_M 2 0 [(0, .inr (.inr (some 0)))] [] m := by
  unfold f_m_rise at h
  refine x_aload_n C dX11_rise_0 rfl ?_
  refine x_getR C dX11_rise_1 fF_X11_9 rfl rfl ?_
  refine x_iconst C dX11_rise_4 ?_
  refine x_iaload C dX11_rise_5 rfl h (fun h => ?_)
  refine x_iconst C dX11_rise_6 ?_
  refine x_iadd C dX11_rise_7 ?_
  refine x_istore_n C dX11_rise_8 (by decide) ?_
  refine x_aload_n C dX11_rise_9 rfl ?_
  refine x_getR C dX11_rise_10 fF_X11_9 rfl rfl ?_
  refine x_bipush C dX11_rise_13 (by decide) ?_
  refine x_iaload C dX11_rise_15 rfl h (fun h => ?_)
  refine x_aload_n C dX11_rise_16 rfl ?_
  refine x_getR C dX11_rise_17 fF_X11_9 rfl rfl ?_
  refine x_bipush C dX11_rise_20 (by decide) ?_
  refine x_iaload C dX11_rise_22 rfl h (fun h => ?_)
  refine x_icmp_lt C 84 dX11_rise_23 (by decide) h (fun h => ?_) (fun h => ?_)
  · exact x_returnV hR dX11_rise_84 h
  · refine x_aload_n C dX11_rise_26 rfl ?_
    refine x_iload_n C dX11_rise_27 rfl ?_
    obtain ⟨q0, hq0, h⟩ := x_bind h
    refine x_callVI C dX11_rise_28 (xin_28 _ (List.mem_of_getElem? (i := 21) rfl)) xy_X11_isRate (xi_X11_isRate) (xs_X11_isRate) (by omega) (by decide) (b := 0) rfl ⟨_, _, rfl⟩ (av := [.inl ((m 1 3) + 1)]) rfl (Nat.le_of_ble_eq_true rfl) (c_m_isRate _ _ _ _ hq0) rfl ?_
    refine x_if_eq C 84 dX11_rise_31 (by decide) h (fun h => ?_) (fun h => ?_)
    · exact x_returnV hR dX11_rise_84 h
    · refine x_aload_n C dX11_rise_34 rfl ?_
      refine x_getR C dX11_rise_35 fF_X11_9 rfl rfl ?_
      refine x_bipush C dX11_rise_38 (by decide) ?_
      refine x_iload_n C dX11_rise_40 rfl ?_
      refine x_iadd C dX11_rise_41 ?_
      refine x_iaload C dX11_rise_42 rfl h (fun h => ?_)
      refine x_aload_n C dX11_rise_43 rfl ?_
      refine x_getR C dX11_rise_44 fF_X11_9 rfl rfl ?_
      refine x_iconst C dX11_rise_47 ?_
      refine x_iaload C dX11_rise_48 rfl h (fun h => ?_)
      refine x_icmp_gt C 84 dX11_rise_49 (by decide) h (fun h => ?_) (fun h => ?_)
      · exact x_returnV hR dX11_rise_84 h
      · refine x_aload_n C dX11_rise_52 rfl ?_
        refine x_getR C dX11_rise_53 fF_X11_9 rfl rfl ?_
        refine x_iconst C dX11_rise_56 ?_
        refine x_iload_n C dX11_rise_57 rfl ?_
        refine x_iastore C dX11_rise_58 rfl h (fun h => ?_)
        refine x_aload_n C dX11_rise_59 rfl ?_
        refine x_getR C dX11_rise_60 fF_X11_9 rfl rfl ?_
        refine x_bipush C dX11_rise_63 (by decide) ?_
        refine x_iconst C dX11_rise_65 ?_
        refine x_iastore C dX11_rise_66 rfl h (fun h => ?_)
        refine x_aload_n C dX11_rise_67 rfl ?_
        refine x_getR C dX11_rise_68 fF_X11_9 rfl rfl ?_
        refine x_bipush C dX11_rise_71 (by decide) ?_
        refine x_dup2 C dX11_rise_73 rfl rfl ?_
        refine x_iaload C dX11_rise_74 rfl h (fun h => ?_)
        refine x_iconst C dX11_rise_75 ?_
        refine x_iadd C dX11_rise_76 ?_
        refine x_iastore C dX11_rise_77 rfl h (fun h => ?_)
        refine x_aload_n C dX11_rise_78 rfl ?_
        refine x_iconst C dX11_rise_79 ?_
        refine x_iconst C dX11_rise_80 ?_
        obtain ⟨q1, hq1, h⟩ := x_bind h
        refine x_callVI C dX11_rise_81 (xin_45 _ (List.mem_of_getElem? (i := 8) rfl)) xy_X11_tellEvent (xi_X11_tellEvent) (xs_X11_tellEvent) (by omega) (by decide) (b := 0) rfl ⟨_, _, rfl⟩ (av := [.inl 3, .inl (-1)]) rfl (Nat.le_of_ble_eq_true rfl) (c_m_tellEvent _ _ _ _ _ hq1) rfl ?_
        exact x_returnV hR dX11_rise_84 h
theorem c_m_rise (l : Launch) (m m9 : xM) (h : f_m_rise m = some m9) : xMet l yX11_rise cX11_rise 2 none 4 lay_M [.inr (.inr (some 0))] m none m9 :=
  xMet_v (by decide +kernel) (Nat.le_of_ble_eq_true rfl) (fun Γ C hR hl9 => t_m_rise (Nat.le_refl _) C hR m h)
/-! ===== yX11_launch ===== -/
theorem xy_X11_keepWords : xY yX11_keepWords cX11_keepWords 3 none 1 := ⟨(xin_34 _ (List.mem_of_getElem? (i := 15) rfl)), (xin_1 _ (List.mem_of_getElem? (i := 5) rfl)), by decide, by decide, by decide +kernel⟩
theorem xi_X11_keepWords : Cond.instanceMethod yX11_keepWords ∈ wsL_law := (xin_34 _ (List.mem_of_getElem? (i := 13) rfl))
theorem xs_X11_keepWords : Cond.selects yX11_keepWords.cls yX11_keepWords yX11_keepWords ∈ wsL_law := (xin_34 _ (List.mem_of_getElem? (i := 14) rfl))
theorem xy_X11_write : xY yX11_write cX11_write 7 (some .int) 3 := ⟨(xin_34 _ (List.mem_of_getElem? (i := 20) rfl)), (xin_1 _ (List.mem_of_getElem? (i := 5) rfl)), by decide, by decide, by decide +kernel⟩
theorem xi_X11_write : Cond.instanceMethod yX11_write ∈ wsL_law := (xin_34 _ (List.mem_of_getElem? (i := 18) rfl))
theorem xs_X11_write : Cond.selects yX11_write.cls yX11_write yX11_write ∈ wsL_law := (xin_34 _ (List.mem_of_getElem? (i := 19) rfl))
theorem xy_X11_takeWordsBack : xY yX11_takeWordsBack cX11_takeWordsBack 3 none 1 := ⟨(xin_35 _ (List.mem_of_getElem? (i := 4) rfl)), (xin_1 _ (List.mem_of_getElem? (i := 5) rfl)), by decide, by decide, by decide +kernel⟩
theorem xi_X11_takeWordsBack : Cond.instanceMethod yX11_takeWordsBack ∈ wsL_law := (xin_35 _ (List.mem_of_getElem? (i := 2) rfl))
theorem xs_X11_takeWordsBack : Cond.selects yX11_takeWordsBack.cls yX11_takeWordsBack yX11_takeWordsBack ∈ wsL_law := (xin_35 _ (List.mem_of_getElem? (i := 3) rfl))
theorem dX11_launch_0 : decode cX11_launch 0 = .ok (.aload_n 0, 1) := by decide +kernel
theorem dX11_launch_1 : decode cX11_launch 1 = .ok (.iload_n 1, 1) := by decide +kernel
theorem dX11_launch_2 : decode cX11_launch 2 = .ok (.invokevirtual 165, 3) := by decide +kernel
theorem dX11_launch_5 : decode cX11_launch 5 = .ok (.aload_n 0, 1) := by decide +kernel
theorem dX11_launch_6 : decode cX11_launch 6 = .ok (.iload_n 1, 1) := by decide +kernel
theorem dX11_launch_7 : decode cX11_launch 7 = .ok (.bipush 9, 2) := by decide +kernel
theorem dX11_launch_9 : decode cX11_launch 9 = .ok (.invokevirtual 101, 3) := by decide +kernel
theorem dX11_launch_12 : decode cX11_launch 12 = .ok (.istore 5, 2) := by decide +kernel
theorem dX11_launch_14 : decode cX11_launch 14 = .ok (.aload_n 0, 1) := by decide +kernel
theorem dX11_launch_15 : decode cX11_launch 15 = .ok (.iload_n 1, 1) := by decide +kernel
theorem dX11_launch_16 : decode cX11_launch 16 = .ok (.iload_n 3, 1) := by decide +kernel
theorem dX11_launch_17 : decode cX11_launch 17 = .ok (.iload 4, 2) := by decide +kernel
theorem dX11_launch_19 : decode cX11_launch 19 = .ok (.invokevirtual 168, 3) := by decide +kernel
theorem dX11_launch_22 : decode cX11_launch 22 = .ok (.istore 6, 2) := by decide +kernel
theorem dX11_launch_24 : decode cX11_launch 24 = .ok (.aload_n 0, 1) := by decide +kernel
theorem dX11_launch_25 : decode cX11_launch 25 = .ok (.iload_n 1, 1) := by decide +kernel
theorem dX11_launch_26 : decode cX11_launch 26 = .ok (.iconst 5, 1) := by decide +kernel
theorem dX11_launch_27 : decode cX11_launch 27 = .ok (.invokevirtual 101, 3) := by decide +kernel
theorem dX11_launch_30 : decode cX11_launch 30 = .ok (.iload 6, 2) := by decide +kernel
theorem dX11_launch_32 : decode cX11_launch 32 = .ok (.if_icmp .ge 10, 3) := by decide +kernel
theorem dX11_launch_35 : decode cX11_launch 35 = .ok (.aload_n 0, 1) := by decide +kernel
theorem dX11_launch_36 : decode cX11_launch 36 = .ok (.iload_n 1, 1) := by decide +kernel
theorem dX11_launch_37 : decode cX11_launch 37 = .ok (.invokevirtual 171, 3) := by decide +kernel
theorem dX11_launch_40 : decode cX11_launch 40 = .ok (.iconst 0, 1) := by decide +kernel
theorem dX11_launch_41 : decode cX11_launch 41 = .ok (.ireturn, 1) := by decide +kernel
theorem dX11_launch_42 : decode cX11_launch 42 = .ok (.aload_n 0, 1) := by decide +kernel
theorem dX11_launch_43 : decode cX11_launch 43 = .ok (.getfield 9, 3) := by decide +kernel
theorem dX11_launch_46 : decode cX11_launch 46 = .ok (.iload_n 1, 1) := by decide +kernel
theorem dX11_launch_47 : decode cX11_launch 47 = .ok (.iconst 5, 1) := by decide +kernel
theorem dX11_launch_48 : decode cX11_launch 48 = .ok (.invokestatic 69, 3) := by decide +kernel
theorem dX11_launch_51 : decode cX11_launch 51 = .ok (.dup2, 1) := by decide +kernel
theorem dX11_launch_52 : decode cX11_launch 52 = .ok (.iaload, 1) := by decide +kernel
theorem dX11_launch_53 : decode cX11_launch 53 = .ok (.iload 6, 2) := by decide +kernel
theorem dX11_launch_55 : decode cX11_launch 55 = .ok (.isub, 1) := by decide +kernel
theorem dX11_launch_56 : decode cX11_launch 56 = .ok (.iastore, 1) := by decide +kernel
theorem dX11_launch_57 : decode cX11_launch 57 = .ok (.aload_n 0, 1) := by decide +kernel
theorem dX11_launch_58 : decode cX11_launch 58 = .ok (.getfield 9, 3) := by decide +kernel
theorem dX11_launch_61 : decode cX11_launch 61 = .ok (.iload_n 1, 1) := by decide +kernel
theorem dX11_launch_62 : decode cX11_launch 62 = .ok (.bipush 9, 2) := by decide +kernel
theorem dX11_launch_64 : decode cX11_launch 64 = .ok (.invokestatic 69, 3) := by decide +kernel
theorem dX11_launch_67 : decode cX11_launch 67 = .ok (.iconst 0, 1) := by decide +kernel
theorem dX11_launch_68 : decode cX11_launch 68 = .ok (.iastore, 1) := by decide +kernel
theorem dX11_launch_69 : decode cX11_launch 69 = .ok (.aload_n 0, 1) := by decide +kernel
theorem dX11_launch_70 : decode cX11_launch 70 = .ok (.iconst 0, 1) := by decide +kernel
theorem dX11_launch_71 : decode cX11_launch 71 = .ok (.iconst 1, 1) := by decide +kernel
theorem dX11_launch_72 : decode cX11_launch 72 = .ok (.iload_n 1, 1) := by decide +kernel
theorem dX11_launch_73 : decode cX11_launch 73 = .ok (.isub, 1) := by decide +kernel
theorem dX11_launch_74 : decode cX11_launch 74 = .ok (.iload_n 2, 1) := by decide +kernel
theorem dX11_launch_75 : decode cX11_launch 75 = .ok (.invokevirtual 121, 3) := by decide +kernel
theorem dX11_launch_78 : decode cX11_launch 78 = .ok (.istore 7, 2) := by decide +kernel
theorem dX11_launch_80 : decode cX11_launch 80 = .ok (.aload_n 0, 1) := by decide +kernel
theorem dX11_launch_81 : decode cX11_launch 81 = .ok (.getfield 9, 3) := by decide +kernel
theorem dX11_launch_84 : decode cX11_launch 84 = .ok (.bipush 25, 2) := by decide +kernel
theorem dX11_launch_86 : decode cX11_launch 86 = .ok (.aload_n 0, 1) := by decide +kernel
theorem dX11_launch_87 : decode cX11_launch 87 = .ok (.getfield 9, 3) := by decide +kernel
theorem dX11_launch_90 : decode cX11_launch 90 = .ok (.bipush 45, 2) := by decide +kernel
theorem dX11_launch_92 : decode cX11_launch 92 = .ok (.iaload, 1) := by decide +kernel
theorem dX11_launch_93 : decode cX11_launch 93 = .ok (.aload_n 0, 1) := by decide +kernel
theorem dX11_launch_94 : decode cX11_launch 94 = .ok (.getfield 9, 3) := by decide +kernel
theorem dX11_launch_97 : decode cX11_launch 97 = .ok (.bipush 19, 2) := by decide +kernel
theorem dX11_launch_99 : decode cX11_launch 99 = .ok (.iaload, 1) := by decide +kernel
theorem dX11_launch_100 : decode cX11_launch 100 = .ok (.irem, 1) := by decide +kernel
theorem dX11_launch_101 : decode cX11_launch 101 = .ok (.iadd, 1) := by decide +kernel
theorem dX11_launch_102 : decode cX11_launch 102 = .ok (.iaload, 1) := by decide +kernel
theorem dX11_launch_103 : decode cX11_launch 103 = .ok (.istore 8, 2) := by decide +kernel
theorem dX11_launch_105 : decode cX11_launch 105 = .ok (.iload 8, 2) := by decide +kernel
theorem dX11_launch_107 : decode cX11_launch 107 = .ok (.aload_n 0, 1) := by decide +kernel
theorem dX11_launch_108 : decode cX11_launch 108 = .ok (.getfield 9, 3) := by decide +kernel
theorem dX11_launch_111 : decode cX11_launch 111 = .ok (.iconst 3, 1) := by decide +kernel
theorem dX11_launch_112 : decode cX11_launch 112 = .ok (.iaload, 1) := by decide +kernel
theorem dX11_launch_113 : decode cX11_launch 113 = .ok (.iadd, 1) := by decide +kernel
theorem dX11_launch_114 : decode cX11_launch 114 = .ok (.aload_n 0, 1) := by decide +kernel
theorem dX11_launch_115 : decode cX11_launch 115 = .ok (.getfield 9, 3) := by decide +kernel
theorem dX11_launch_118 : decode cX11_launch 118 = .ok (.iconst 2, 1) := by decide +kernel
theorem dX11_launch_119 : decode cX11_launch 119 = .ok (.iaload, 1) := by decide +kernel
theorem dX11_launch_120 : decode cX11_launch 120 = .ok (.if_icmp .le 7, 3) := by decide +kernel
theorem dX11_launch_123 : decode cX11_launch 123 = .ok (.iconst 1, 1) := by decide +kernel
theorem dX11_launch_124 : decode cX11_launch 124 = .ok (.goto 4, 3) := by decide +kernel
theorem dX11_launch_127 : decode cX11_launch 127 = .ok (.iconst 0, 1) := by decide +kernel
theorem dX11_launch_128 : decode cX11_launch 128 = .ok (.istore 9, 2) := by decide +kernel
theorem dX11_launch_130 : decode cX11_launch 130 = .ok (.aload_n 0, 1) := by decide +kernel
theorem dX11_launch_131 : decode cX11_launch 131 = .ok (.getfield 9, 3) := by decide +kernel
theorem dX11_launch_134 : decode cX11_launch 134 = .ok (.iload 7, 2) := by decide +kernel
theorem dX11_launch_136 : decode cX11_launch 136 = .ok (.iconst 4, 1) := by decide +kernel
theorem dX11_launch_137 : decode cX11_launch 137 = .ok (.invokestatic 111, 3) := by decide +kernel
theorem dX11_launch_140 : decode cX11_launch 140 = .ok (.iload 4, 2) := by decide +kernel
theorem dX11_launch_142 : decode cX11_launch 142 = .ok (.iastore, 1) := by decide +kernel
theorem dX11_launch_143 : decode cX11_launch 143 = .ok (.aload_n 0, 1) := by decide +kernel
theorem dX11_launch_144 : decode cX11_launch 144 = .ok (.getfield 9, 3) := by decide +kernel
theorem dX11_launch_147 : decode cX11_launch 147 = .ok (.iload 7, 2) := by decide +kernel
theorem dX11_launch_149 : decode cX11_launch 149 = .ok (.iconst 5, 1) := by decide +kernel
theorem dX11_launch_150 : decode cX11_launch 150 = .ok (.invokestatic 111, 3) := by decide +kernel
theorem dX11_launch_153 : decode cX11_launch 153 = .ok (.iload 9, 2) := by decide +kernel
theorem dX11_launch_155 : decode cX11_launch 155 = .ok (.iastore, 1) := by decide +kernel
theorem dX11_launch_156 : decode cX11_launch 156 = .ok (.aload_n 0, 1) := by decide +kernel
theorem dX11_launch_157 : decode cX11_launch 157 = .ok (.getfield 9, 3) := by decide +kernel
theorem dX11_launch_160 : decode cX11_launch 160 = .ok (.iload 7, 2) := by decide +kernel
theorem dX11_launch_162 : decode cX11_launch 162 = .ok (.bipush 6, 2) := by decide +kernel
theorem dX11_launch_164 : decode cX11_launch 164 = .ok (.invokestatic 111, 3) := by decide +kernel
theorem dX11_launch_167 : decode cX11_launch 167 = .ok (.iload 5, 2) := by decide +kernel
theorem dX11_launch_169 : decode cX11_launch 169 = .ok (.iastore, 1) := by decide +kernel
theorem dX11_launch_170 : decode cX11_launch 170 = .ok (.iconst 0, 1) := by decide +kernel
theorem dX11_launch_171 : decode cX11_launch 171 = .ok (.istore 10, 2) := by decide +kernel
theorem dX11_launch_173 : decode cX11_launch 173 = .ok (.iload 10, 2) := by decide +kernel
theorem dX11_launch_175 : decode cX11_launch 175 = .ok (.iload 4, 2) := by decide +kernel
theorem dX11_launch_177 : decode cX11_launch 177 = .ok (.if_icmp .ge 33, 3) := by decide +kernel
theorem dX11_launch_180 : decode cX11_launch 180 = .ok (.aload_n 0, 1) := by decide +kernel
theorem dX11_launch_181 : decode cX11_launch 181 = .ok (.getfield 9, 3) := by decide +kernel
theorem dX11_launch_184 : decode cX11_launch 184 = .ok (.iload 7, 2) := by decide +kernel
theorem dX11_launch_186 : decode cX11_launch 186 = .ok (.bipush 7, 2) := by decide +kernel
theorem dX11_launch_188 : decode cX11_launch 188 = .ok (.iload 10, 2) := by decide +kernel
theorem dX11_launch_190 : decode cX11_launch 190 = .ok (.iadd, 1) := by decide +kernel
theorem dX11_launch_191 : decode cX11_launch 191 = .ok (.invokestatic 111, 3) := by decide +kernel
theorem dX11_launch_194 : decode cX11_launch 194 = .ok (.aload_n 0, 1) := by decide +kernel
theorem dX11_launch_195 : decode cX11_launch 195 = .ok (.getfield 9, 3) := by decide +kernel
theorem dX11_launch_198 : decode cX11_launch 198 = .ok (.iload_n 3, 1) := by decide +kernel
theorem dX11_launch_199 : decode cX11_launch 199 = .ok (.iload 10, 2) := by decide +kernel
theorem dX11_launch_201 : decode cX11_launch 201 = .ok (.iadd, 1) := by decide +kernel
theorem dX11_launch_202 : decode cX11_launch 202 = .ok (.iaload, 1) := by decide +kernel
theorem dX11_launch_203 : decode cX11_launch 203 = .ok (.iastore, 1) := by decide +kernel
theorem dX11_launch_204 : decode cX11_launch 204 = .ok (.iinc 10 1, 3) := by decide +kernel
theorem dX11_launch_207 : decode cX11_launch 207 = .ok (.goto (-34), 3) := by decide +kernel
theorem dX11_launch_210 : decode cX11_launch 210 = .ok (.aload_n 0, 1) := by decide +kernel
theorem dX11_launch_211 : decode cX11_launch 211 = .ok (.getfield 9, 3) := by decide +kernel
theorem dX11_launch_214 : decode cX11_launch 214 = .ok (.bipush 45, 2) := by decide +kernel
theorem dX11_launch_216 : decode cX11_launch 216 = .ok (.dup2, 1) := by decide +kernel
theorem dX11_launch_217 : decode cX11_launch 217 = .ok (.iaload, 1) := by decide +kernel
theorem dX11_launch_218 : decode cX11_launch 218 = .ok (.iconst 1, 1) := by decide +kernel
theorem dX11_launch_219 : decode cX11_launch 219 = .ok (.iadd, 1) := by decide +kernel
theorem dX11_launch_220 : decode cX11_launch 220 = .ok (.iastore, 1) := by decide +kernel
theorem dX11_launch_221 : decode cX11_launch 221 = .ok (.aload_n 0, 1) := by decide +kernel
theorem dX11_launch_222 : decode cX11_launch 222 = .ok (.getfield 9, 3) := by decide +kernel
theorem dX11_launch_225 : decode cX11_launch 225 = .ok (.bipush 46, 2) := by decide +kernel
theorem dX11_launch_227 : decode cX11_launch 227 = .ok (.dup2, 1) := by decide +kernel
theorem dX11_launch_228 : decode cX11_launch 228 = .ok (.iaload, 1) := by decide +kernel
theorem dX11_launch_229 : decode cX11_launch 229 = .ok (.iload 9, 2) := by decide +kernel
theorem dX11_launch_231 : decode cX11_launch 231 = .ok (.iadd, 1) := by decide +kernel
theorem dX11_launch_232 : decode cX11_launch 232 = .ok (.iastore, 1) := by decide +kernel
theorem dX11_launch_233 : decode cX11_launch 233 = .ok (.aload_n 0, 1) := by decide +kernel
theorem dX11_launch_234 : decode cX11_launch 234 = .ok (.getfield 9, 3) := by decide +kernel
theorem dX11_launch_237 : decode cX11_launch 237 = .ok (.bipush 54, 2) := by decide +kernel
theorem dX11_launch_239 : decode cX11_launch 239 = .ok (.dup2, 1) := by decide +kernel
theorem dX11_launch_240 : decode cX11_launch 240 = .ok (.iaload, 1) := by decide +kernel
theorem dX11_launch_241 : decode cX11_launch 241 = .ok (.iload 6, 2) := by decide +kernel
theorem dX11_launch_243 : decode cX11_launch 243 = .ok (.iadd, 1) := by decide +kernel
theorem dX11_launch_244 : decode cX11_launch 244 = .ok (.iastore, 1) := by decide +kernel
theorem dX11_launch_245 : decode cX11_launch 245 = .ok (.iconst 1, 1) := by decide +kernel
theorem dX11_launch_246 : decode cX11_launch 246 = .ok (.ireturn, 1) := by decide +kernel
def f_m_launch_210 (e : Int) (b : Int) (f : Int) (z : Int) (x6 : Int) (x9 : Int) (m : xM) : Option (Int × xM) :=
     (if xib 45 3530 then (if xib 45 3530 then (if xib 46 3530 then (if xib 46 3530 then (if xib 54 3530 then (if xib 54 3530 then some (1, (xu (xu (xu m 1 45 ((m 1 45) + 1)) 1 46 ((m 1 46) + x9)) 1 54 ((m 1 54) + x6)))
      else none)
      else none)
      else none)
      else none)
      else none)
      else none)
set_option maxRecDepth 1000000 in
set_option maxHeartbeats 4000000 in
theorem t_m_launch_210 {Γ : xG} {d : Nat} (hd9 : 5 ≤ d) (C : xC Γ lay_M RX11 cX11_launch 11 d) (e : Int) (b : Int) (f : Int) (z : Int) {r : Int} {m9 : xM} (hR : xRz Γ lay_M cX11_launch r m9) (x6 : Int) (x9 : Int) (m : xM) (h : f_m_launch_210 e b f z x6 x9 m = some (r, m9)) : xW Γ lay_M 11 210 [(0, .inr (.inr (some 0))), (6, .inl x6), (9, .inl x9)] [] m := by
  unfold f_m_launch_210 at h
  refine x_aload_n C dX11_launch_210 rfl ?_
  refine x_getR C dX11_launch_211 fF_X11_9 rfl rfl ?_
  refine x_bipush C dX11_launch_214 (by decide) ?_
  refine x_dup2 C dX11_launch_216 rfl rfl ?_
  refine x_iaload C dX11_launch_217 rfl h (fun h => ?_)
  refine x_iconst C dX11_launch_218 ?_
  refine x_iadd C dX11_launch_219 ?_
  refine x_iastore C dX11_launch_220 rfl h (fun h => ?_)
  refine x_aload_n C dX11_launch_221 rfl ?_
  refine x_getR C dX11_launch_222 fF_X11_9 rfl rfl ?_
  refine x_bipush C dX11_launch_225 (by decide) ?_
  refine x_dup2 C dX11_launch_227 rfl rfl ?_
  refine x_iaload C dX11_launch_228 rfl h (fun h => ?_)
  refine x_iload C dX11_launch_229 rfl ?_
  refine x_iadd C dX11_launch_231 ?_
  refine x_iastore C dX11_launch_232 rfl h (fun h => ?_)
  refine x_aload_n C dX11_launch_233 rfl ?_
  refine x_getR C dX11_launch_234 fF_X11_9 rfl rfl ?_
  refine x_bipush C dX11_launch_237 (by decide) ?_
  refine x_dup2 C dX11_launch_239 rfl rfl ?_
  refine x_iaload C dX11_launch_240 rfl h (fun h => ?_)
  refine x_iload C dX11_launch_241 rfl ?_
  refine x_iadd C dX11_launch_243 ?_
  refine x_iastore C dX11_launch_244 rfl h (fun h => ?_)
  refine x_iconst C dX11_launch_245 ?_
  exact x_zreturn hR (by decide) dX11_launch_246 h
def f_m_launch_173 (e : Int) (b : Int) (f : Int) (z : Int) : Nat → Int → Int → Int → Int → xM → Option (Int × xM)
  | 0, _, _, _, _, _ => none
  | n + 1, x6, x7, x9, x10, m =>
     (if xw x10 < xw z then (Option.bind (f_m_flyAt x7 (7 + x10) (xvw [] m)) fun q10 =>
      (if xib (f + x10) 3530 then (if xib q10 3530 then f_m_launch_173 e b f z n x6 x7 x9 (x10 + 1) (xu m 1 (xix q10) (m 1 (xix (f + x10))))
      else none)
      else none))
      else f_m_launch_210 e b f z x6 x9 m)
set_option maxRecDepth 1000000 in
set_option maxHeartbeats 4000000 in
theorem t_m_launch_173 {Γ : xG} {d : Nat} (hd9 : 5 ≤ d) (C : xC Γ lay_M RX11 cX11_launch 11 d) (e : Int) (b : Int) (f : Int) (z : Int) {r : Int} {m9 : xM} (hR : xRz Γ lay_M cX11_launch r m9) : ∀ (n : Nat) (x6 : Int) (x7 : Int) (x9 : Int) (x10 : Int) (m : xM), f_m_launch_173 e b f z n x6 x7 x9 x10 m = some (r, m9) → xW Γ lay_M 11 173 [(0, .inr (.inr (some 0))), (3, .inl f), (4, .inl z), (6, .inl x6), (7, .inl x7), (9, .inl x9), (10, .inl x10)] [] m := by
  intro n
  induction n with
  | zero => intro _ _ _ _ _ h; cases h
  | succ n ih =>
    intro x6 x7 x9 x10 m h
    rw [f_m_launch_173] at h
    refine x_iload C dX11_launch_173 rfl ?_
    refine x_iload C dX11_launch_175 rfl ?_
    refine x_icmp_ge C 210 dX11_launch_177 (by decide) h (fun h => ?_) (fun h => ?_)
    · refine x_loc [(0, .inr (.inr (some 0))), (6, .inl x6), (9, .inl x9)] ⟨rfl, rfl, rfl, trivial⟩ ?_
      exact t_m_launch_210 hd9 C _ _ _ _ hR _ _ _ h
    · refine x_aload_n C dX11_launch_180 rfl ?_
      refine x_getR C dX11_launch_181 fF_X11_9 rfl rfl ?_
      refine x_iload C dX11_launch_184 rfl ?_
      refine x_bipush C dX11_launch_186 (by decide) ?_
      refine x_iload C dX11_launch_188 rfl ?_
      refine x_iadd C dX11_launch_190 ?_
      obtain ⟨q10, hq10, h⟩ := x_bind h
      refine x_callSp C dX11_launch_191 (xin_46 _ (List.mem_of_getElem? (i := 12) rfl)) xy_X11_flyAt (xt_X11_flyAt) [] xv_49 (by omega) (by decide) (av := [.inl x7, .inl (7 + x10)]) rfl (Nat.le_of_ble_eq_true rfl) (c_m_flyAt _ _ _ _ _ hq10) rfl ?_
      refine x_aload_n C dX11_launch_194 rfl ?_
      refine x_getR C dX11_launch_195 fF_X11_9 rfl rfl ?_
      refine x_iload_n C dX11_launch_198 rfl ?_
      refine x_iload C dX11_launch_199 rfl ?_
      refine x_iadd C dX11_launch_201 ?_
      refine x_iaload C dX11_launch_202 rfl h (fun h => ?_)
      refine x_iastore C dX11_launch_203 rfl h (fun h => ?_)
      refine x_iinc C dX11_launch_204 (by decide) rfl ?_
      refine x_goto C 173 dX11_launch_207 (by decide) ?_
      refine x_loc [(0, .inr (.inr (some 0))), (3, .inl f), (4, .inl z), (6, .inl x6), (7, .inl x7), (9, .inl x9), (10, .inl (x10 + 1))] ⟨rfl, rfl, rfl, rfl, rfl, rfl, rfl, trivial⟩ ?_
      exact ih _ _ _ _ _ h
def f_m_launch_128 (e : Int) (b : Int) (f : Int) (z : Int) (x5 : Int) (x6 : Int) (x7 : Int) (s0 : Int) (m : xM) : Option (Int × xM) :=
     (Option.bind (f_m_flyAt x7 4 (xvw [] m)) fun q7 =>
      (if xib q7 3530 then (Option.bind (f_m_flyAt x7 5 (xvw [] (xu m 1 (xix q7) z))) fun q8 =>
      (if xib q8 3530 then (Option.bind (f_m_flyAt x7 6 (xvw [] (xu (xu m 1 (xix q7) z) 1 (xix q8) s0))) fun q9 =>
      (if xib q9 3530 then f_m_launch_173 e b f z fu x6 x7 s0 0 (xu (xu (xu m 1 (xix q7) z) 1 (xix q8) s0) 1 (xix q9) x5)
      else none))
      else none))
      else none))
set_option maxRecDepth 1000000 in
set_option maxHeartbeats 4000000 in
theorem t_m_launch_128 {Γ : xG} {d : Nat} (hd9 : 5 ≤ d) (C : xC Γ lay_M RX11 cX11_launch 11 d) (e : Int) (b : Int) (f : Int) (z : Int) {r : Int} {m9 : xM} (hR : xRz Γ lay_M cX11_launch r m9) (x5 : Int) (x6 : Int) (x7 : Int) (s0 : Int) (m : xM) (h : f_m_launch_128 e b f z x5 x6 x7 s0 m = some (r, m9)) : xW Γ lay_M 11 128 [(0, .inr (.inr (some 0))), (3, .inl f), (4, .inl z), (5, .inl x5), (6, .inl x6), (7, .inl x7)] [.inl s0] m := by
  unfold f_m_launch_128 at h
  refine x_istore C dX11_launch_128 (by decide) ?_
  refine x_aload_n C dX11_launch_130 rfl ?_
  refine x_getR C dX11_launch_131 fF_X11_9 rfl rfl ?_
  refine x_iload C dX11_launch_134 rfl ?_
  refine x_iconst C dX11_launch_136 ?_
  obtain ⟨q7, hq7, h⟩ := x_bind h
  refine x_callSp C dX11_launch_137 (xin_46 _ (List.mem_of_getElem? (i := 12) rfl)) xy_X11_flyAt (xt_X11_flyAt) [] xv_49 (by omega) (by decide) (av := [.inl x7, .inl 4]) rfl (Nat.le_of_ble_eq_true rfl) (c_m_flyAt _ _ _ _ _ hq7) rfl ?_
  refine x_iload C dX11_launch_140 rfl ?_
  refine x_iastore C dX11_launch_142 rfl h (fun h => ?_)
  refine x_aload_n C dX11_launch_143 rfl ?_
  refine x_getR C dX11_launch_144 fF_X11_9 rfl rfl ?_
  refine x_iload C dX11_launch_147 rfl ?_
  refine x_iconst C dX11_launch_149 ?_
  obtain ⟨q8, hq8, h⟩ := x_bind h
  refine x_callSp C dX11_launch_150 (xin_46 _ (List.mem_of_getElem? (i := 12) rfl)) xy_X11_flyAt (xt_X11_flyAt) [] xv_49 (by omega) (by decide) (av := [.inl x7, .inl 5]) rfl (Nat.le_of_ble_eq_true rfl) (c_m_flyAt _ _ _ _ _ hq8) rfl ?_
  refine x_iload C dX11_launch_153 rfl ?_
  refine x_iastore C dX11_launch_155 rfl h (fun h => ?_)
  refine x_aload_n C dX11_launch_156 rfl ?_
  refine x_getR C dX11_launch_157 fF_X11_9 rfl rfl ?_
  refine x_iload C dX11_launch_160 rfl ?_
  refine x_bipush C dX11_launch_162 (by decide) ?_
  obtain ⟨q9, hq9, h⟩ := x_bind h
  refine x_callSp C dX11_launch_164 (xin_46 _ (List.mem_of_getElem? (i := 12) rfl)) xy_X11_flyAt (xt_X11_flyAt) [] xv_49 (by omega) (by decide) (av := [.inl x7, .inl 6]) rfl (Nat.le_of_ble_eq_true rfl) (c_m_flyAt _ _ _ _ _ hq9) rfl ?_
  refine x_iload C dX11_launch_167 rfl ?_
  refine x_iastore C dX11_launch_169 rfl h (fun h => ?_)
  refine x_iconst C dX11_launch_170 ?_
  refine x_istore C dX11_launch_171 (by decide) ?_
  refine x_loc [(0, .inr (.inr (some 0))), (3, .inl f), (4, .inl z), (6, .inl x6), (7, .inl x7), (9, .inl s0), (10, .inl 0)] ⟨rfl, rfl, rfl, rfl, rfl, rfl, rfl, trivial⟩ ?_
  exact t_m_launch_173 hd9 C _ _ _ _ hR fu _ _ _ _ _ h
def f_m_launch_69 (e : Int) (b : Int) (f : Int) (z : Int) (x5 : Int) (x6 : Int) (m : xM) : Option (Int × xM) :=
     (Option.bind (f_m_fly 0 (1 - e) b m) fun q6 =>
      (if xib 45 3530 then (if xib 19 3530 then (if xw (q6.2 1 19) = 0 then none
      else (if xib (25 + (xirem (q6.2 1 45) (q6.2 1 19))) 3530 then (if xib 3 3530 then (if xib 2 3530 then (if xw (q6.2 1 2) < xw ((q6.2 1 (xix (25 + (xirem (q6.2 1 45) (q6.2 1 19))))) + (q6.2 1 3)) then f_m_launch_128 e b f z x5 x6 q6.1 1 q6.2
      else f_m_launch_128 e b f z x5 x6 q6.1 0 q6.2)
      else none)
      else none)
      else none))
      else none)
      else none))
set_option maxRecDepth 1000000 in
set_option maxHeartbeats 4000000 in
theorem t_m_launch_69 {Γ : xG} {d : Nat} (hd9 : 5 ≤ d) (C : xC Γ lay_M RX11 cX11_launch 11 d) (e : Int) (b : Int) (f : Int) (z : Int) {r : Int} {m9 : xM} (hR : xRz Γ lay_M cX11_launch r m9) (x5 : Int) (x6 : Int) (m : xM) (h : f_m_launch_69 e b f z x5 x6 m = some (r, m9)) : xW Γ lay_M 11 69 [(0, .inr (.inr (some 0))), (1, .inl e), (2, .inl b), (3, .inl f), (4, .inl z), (5, .inl x5), (6, .inl x6)] [] m := by
  unfold f_m_launch_69 at h
  refine x_aload_n C dX11_launch_69 rfl ?_
  refine x_iconst C dX11_launch_70 ?_
  refine x_iconst C dX11_launch_71 ?_
  refine x_iload_n C dX11_launch_72 rfl ?_
  refine x_isub C dX11_launch_73 ?_
  refine x_iload_n C dX11_launch_74 rfl ?_
  obtain ⟨q6, hq6, h⟩ := x_bind h
  refine x_callVI C dX11_launch_75 (xin_47 _ (List.mem_of_getElem? (i := 3) rfl)) xy_X11_fly (xi_X11_fly) (xs_X11_fly) (by omega) (by decide) (b := 0) rfl ⟨_, _, rfl⟩ (av := [.inl 0, .inl (1 - e), .inl b]) rfl (Nat.le_of_ble_eq_true rfl) (c_m_fly _ _ _ _ _ q6.1 q6.2 hq6) rfl ?_
  refine x_istore C dX11_launch_78 (by decide) ?_
  refine x_aload_n C dX11_launch_80 rfl ?_
  refine x_getR C dX11_launch_81 fF_X11_9 rfl rfl ?_
  refine x_bipush C dX11_launch_84 (by decide) ?_
  refine x_aload_n C dX11_launch_86 rfl ?_
  refine x_getR C dX11_launch_87 fF_X11_9 rfl rfl ?_
  refine x_bipush C dX11_launch_90 (by decide) ?_
  refine x_iaload C dX11_launch_92 rfl h (fun h => ?_)
  refine x_aload_n C dX11_launch_93 rfl ?_
  refine x_getR C dX11_launch_94 fF_X11_9 rfl rfl ?_
  refine x_bipush C dX11_launch_97 (by decide) ?_
  refine x_iaload C dX11_launch_99 rfl h (fun h => ?_)
  refine x_irem C dX11_launch_100 h (fun h9 h => ?_)
  refine x_iadd C dX11_launch_101 ?_
  refine x_iaload C dX11_launch_102 rfl h (fun h => ?_)
  refine x_istore C dX11_launch_103 (by decide) ?_
  refine x_iload C dX11_launch_105 rfl ?_
  refine x_aload_n C dX11_launch_107 rfl ?_
  refine x_getR C dX11_launch_108 fF_X11_9 rfl rfl ?_
  refine x_iconst C dX11_launch_111 ?_
  refine x_iaload C dX11_launch_112 rfl h (fun h => ?_)
  refine x_iadd C dX11_launch_113 ?_
  refine x_aload_n C dX11_launch_114 rfl ?_
  refine x_getR C dX11_launch_115 fF_X11_9 rfl rfl ?_
  refine x_iconst C dX11_launch_118 ?_
  refine x_iaload C dX11_launch_119 rfl h (fun h => ?_)
  refine x_icmp_le C 127 dX11_launch_120 (by decide) h (fun h => ?_) (fun h => ?_)
  · refine x_iconst C dX11_launch_127 ?_
    refine x_loc [(0, .inr (.inr (some 0))), (3, .inl f), (4, .inl z), (5, .inl x5), (6, .inl x6), (7, .inl q6.1)] ⟨rfl, rfl, rfl, rfl, rfl, rfl, trivial⟩ ?_
    exact t_m_launch_128 hd9 C _ _ _ _ hR _ _ _ _ _ h
  · refine x_iconst C dX11_launch_123 ?_
    refine x_goto C 128 dX11_launch_124 (by decide) ?_
    refine x_loc [(0, .inr (.inr (some 0))), (3, .inl f), (4, .inl z), (5, .inl x5), (6, .inl x6), (7, .inl q6.1)] ⟨rfl, rfl, rfl, rfl, rfl, rfl, trivial⟩ ?_
    exact t_m_launch_128 hd9 C _ _ _ _ hR _ _ _ _ _ h
def f_m_launch (e : Int) (b : Int) (f : Int) (z : Int) (m : xM) : Option (Int × xM) :=
     (Option.bind (f_m_keepWords e m) fun q0 =>
      (Option.bind (f_m_of e 9 q0) fun q1 =>
      (Option.bind (f_m_write e f z q0) fun q2 =>
      (Option.bind (f_m_of e 5 q2.2) fun q3 =>
      (if xw q3 < xw q2.1 then (Option.bind (f_m_takeWordsBack e q2.2) fun q11 =>
      some (0, q11))
      else (Option.bind (f_m_endAt e 5 (xvw [] q2.2)) fun q4 =>
      (if xib q4 3530 then (if xib q4 3530 then (Option.bind (f_m_endAt e 9 (xvw [] (xu q2.2 1 (xix q4) ((q2.2 1 (xix q4)) - q2.1)))) fun q5 =>
      (if xib q5 3530 then f_m_launch_69 e b f z q1 q2.1 (xu (xu q2.2 1 (xix q4) ((q2.2 1 (xix q4)) - q2.1)) 1 (xix q5) 0)
      else none))
      else none)
      else none)))))))
set_option maxRecDepth 1000000 in
set_option maxHeartbeats 4000000 in
theorem t_m_launch {Γ : xG} {d : Nat} (hd9 : 5 ≤ d) (C : xC Γ lay_M RX11 cX11_launch 11 d) (e : Int) (b : Int) (f : Int) (z : Int) {r : Int} {m9 : xM} (hR : xRz Γ lay_M cX11_launch r m9) (m : xM) (h : f_m_launch e b f z m = some (r, m9)) : xW Γ lay_M 11 0 [(0, .inr (.inr (some 0))), (1, .inl e), (2, .inl b), (3, .inl f), (4, .inl z)] [] m := by
  unfold f_m_launch at h
  refine x_aload_n C dX11_launch_0 rfl ?_
  refine x_iload_n C dX11_launch_1 rfl ?_
  obtain ⟨q0, hq0, h⟩ := x_bind h
  refine x_callVI C dX11_launch_2 (xin_34 _ (List.mem_of_getElem? (i := 12) rfl)) xy_X11_keepWords (xi_X11_keepWords) (xs_X11_keepWords) (by omega) (by decide) (b := 0) rfl ⟨_, _, rfl⟩ (av := [.inl e]) rfl (Nat.le_of_ble_eq_true rfl) (c_m_keepWords _ _ _ _ hq0) rfl ?_
  refine x_aload_n C dX11_launch_5 rfl ?_
  refine x_iload_n C dX11_launch_6 rfl ?_
  refine x_bipush C dX11_launch_7 (by decide) ?_
  obtain ⟨q1, hq1, h⟩ := x_bind h
  refine x_callVI C dX11_launch_9 (xin_27 _ (List.mem_of_getElem? (i := 14) rfl)) xy_X11_of (xi_X11_of) (xs_X11_of) (by omega) (by decide) (b := 0) rfl ⟨_, _, rfl⟩ (av := [.inl e, .inl 9]) rfl (Nat.le_of_ble_eq_true rfl) (c_m_of _ _ _ _ _ hq1) rfl ?_
  refine x_istore C dX11_launch_12 (by decide) ?_
  refine x_aload_n C dX11_launch_14 rfl ?_
  refine x_iload_n C dX11_launch_15 rfl ?_
  refine x_iload_n C dX11_launch_16 rfl ?_
  refine x_iload C dX11_launch_17 rfl ?_
  obtain ⟨q2, hq2, h⟩ := x_bind h
  refine x_callVI C dX11_launch_19 (xin_34 _ (List.mem_of_getElem? (i := 17) rfl)) xy_X11_write (xi_X11_write) (xs_X11_write) (by omega) (by decide) (b := 0) rfl ⟨_, _, rfl⟩ (av := [.inl e, .inl f, .inl z]) rfl (Nat.le_of_ble_eq_true rfl) (c_m_write _ _ _ _ _ q2.1 q2.2 hq2) rfl ?_
  refine x_istore C dX11_launch_22 (by decide) ?_
  refine x_aload_n C dX11_launch_24 rfl ?_
  refine x_iload_n C dX11_launch_25 rfl ?_
  refine x_iconst C dX11_launch_26 ?_
  obtain ⟨q3, hq3, h⟩ := x_bind h
  refine x_callVI C dX11_launch_27 (xin_27 _ (List.mem_of_getElem? (i := 14) rfl)) xy_X11_of (xi_X11_of) (xs_X11_of) (by omega) (by decide) (b := 0) rfl ⟨_, _, rfl⟩ (av := [.inl e, .inl 5]) rfl (Nat.le_of_ble_eq_true rfl) (c_m_of _ _ _ _ _ hq3) rfl ?_
  refine x_iload C dX11_launch_30 rfl ?_
  refine x_icmp_ge C 42 dX11_launch_32 (by decide) h (fun h => ?_) (fun h => ?_)
  · refine x_aload_n C dX11_launch_42 rfl ?_
    refine x_getR C dX11_launch_43 fF_X11_9 rfl rfl ?_
    refine x_iload_n C dX11_launch_46 rfl ?_
    refine x_iconst C dX11_launch_47 ?_
    obtain ⟨q4, hq4, h⟩ := x_bind h
    refine x_callSp C dX11_launch_48 (xin_27 _ (List.mem_of_getElem? (i := 18) rfl)) xy_X11_endAt (xt_X11_endAt) [] xv_49 (by omega) (by decide) (av := [.inl e, .inl 5]) rfl (Nat.le_of_ble_eq_true rfl) (c_m_endAt _ _ _ _ _ hq4) rfl ?_
    refine x_dup2 C dX11_launch_51 rfl rfl ?_
    refine x_iaload C dX11_launch_52 rfl h (fun h => ?_)
    refine x_iload C dX11_launch_53 rfl ?_
    refine x_isub C dX11_launch_55 ?_
    refine x_iastore C dX11_launch_56 rfl h (fun h => ?_)
    refine x_aload_n C dX11_launch_57 rfl ?_
    refine x_getR C dX11_launch_58 fF_X11_9 rfl rfl ?_
    refine x_iload_n C dX11_launch_61 rfl ?_
    refine x_bipush C dX11_launch_62 (by decide) ?_
    obtain ⟨q5, hq5, h⟩ := x_bind h
    refine x_callSp C dX11_launch_64 (xin_27 _ (List.mem_of_getElem? (i := 18) rfl)) xy_X11_endAt (xt_X11_endAt) [] xv_49 (by omega) (by decide) (av := [.inl e, .inl 9]) rfl (Nat.le_of_ble_eq_true rfl) (c_m_endAt _ _ _ _ _ hq5) rfl ?_
    refine x_iconst C dX11_launch_67 ?_
    refine x_iastore C dX11_launch_68 rfl h (fun h => ?_)
    refine x_loc [(0, .inr (.inr (some 0))), (1, .inl e), (2, .inl b), (3, .inl f), (4, .inl z), (5, .inl q1), (6, .inl q2.1)] ⟨rfl, rfl, rfl, rfl, rfl, rfl, rfl, trivial⟩ ?_
    exact t_m_launch_69 hd9 C _ _ _ _ hR _ _ _ h
  · refine x_aload_n C dX11_launch_35 rfl ?_
    refine x_iload_n C dX11_launch_36 rfl ?_
    obtain ⟨q11, hq11, h⟩ := x_bind h
    refine x_callVI C dX11_launch_37 (xin_35 _ (List.mem_of_getElem? (i := 1) rfl)) xy_X11_takeWordsBack (xi_X11_takeWordsBack) (xs_X11_takeWordsBack) (by omega) (by decide) (b := 0) rfl ⟨_, _, rfl⟩ (av := [.inl e]) rfl (Nat.le_of_ble_eq_true rfl) (c_m_takeWordsBack _ _ _ _ hq11) rfl ?_
    refine x_iconst C dX11_launch_40 ?_
    exact x_zreturn hR (by decide) dX11_launch_41 h
theorem c_m_launch (l : Launch) (e : Int) (b : Int) (f : Int) (z : Int) (m : xM) (r : Int) (m9 : xM) (h : f_m_launch e b f z m = some (r, m9)) : xMet l yX11_launch cX11_launch 11 (some .boolean) 5 lay_M [.inr (.inr (some 0)), .inl e, .inl b, .inl f, .inl z] m (some (.inl r)) m9 :=
  xMet_z (by decide +kernel) (Nat.le_of_ble_eq_true rfl) (fun Γ C hR hl9 => t_m_launch (Nat.le_refl _) C e b f z hR m h)
/-! ===== yX11_sendAgain ===== -/
theorem xy_X11_launch : xY yX11_launch cX11_launch 11 (some .boolean) 4 := ⟨(xin_48 _ (List.mem_of_getElem? (i := 14) rfl)), (xin_1 _ (List.mem_of_getElem? (i := 5) rfl)), by decide, by decide, by decide +kernel⟩
theorem xi_X11_launch : Cond.instanceMethod yX11_launch ∈ wsL_law := (xin_48 _ (List.mem_of_getElem? (i := 12) rfl))
theorem xs_X11_launch : Cond.selects yX11_launch.cls yX11_launch yX11_launch ∈ wsL_law := (xin_48 _ (List.mem_of_getElem? (i := 13) rfl))
theorem dX11_sendAgain_0 : decode cX11_sendAgain 0 = .ok (.aload_n 0, 1) := by decide +kernel
theorem dX11_sendAgain_1 : decode cX11_sendAgain 1 = .ok (.iload_n 1, 1) := by decide +kernel
theorem dX11_sendAgain_2 : decode cX11_sendAgain 2 = .ok (.aload_n 0, 1) := by decide +kernel
theorem dX11_sendAgain_3 : decode cX11_sendAgain 3 = .ok (.iload_n 1, 1) := by decide +kernel
theorem dX11_sendAgain_4 : decode cX11_sendAgain 4 = .ok (.iload_n 2, 1) := by decide +kernel
theorem dX11_sendAgain_5 : decode cX11_sendAgain 5 = .ok (.iconst 0, 1) := by decide +kernel
theorem dX11_sendAgain_6 : decode cX11_sendAgain 6 = .ok (.invokevirtual 124, 3) := by decide +kernel
theorem dX11_sendAgain_9 : decode cX11_sendAgain 9 = .ok (.iload_n 1, 1) := by decide +kernel
theorem dX11_sendAgain_10 : decode cX11_sendAgain 10 = .ok (.iload_n 2, 1) := by decide +kernel
theorem dX11_sendAgain_11 : decode cX11_sendAgain 11 = .ok (.iconst 4, 1) := by decide +kernel
theorem dX11_sendAgain_12 : decode cX11_sendAgain 12 = .ok (.invokestatic 73, 3) := by decide +kernel
theorem dX11_sendAgain_15 : decode cX11_sendAgain 15 = .ok (.aload_n 0, 1) := by decide +kernel
theorem dX11_sendAgain_16 : decode cX11_sendAgain 16 = .ok (.iload_n 1, 1) := by decide +kernel
theorem dX11_sendAgain_17 : decode cX11_sendAgain 17 = .ok (.iload_n 2, 1) := by decide +kernel
theorem dX11_sendAgain_18 : decode cX11_sendAgain 18 = .ok (.iconst 1, 1) := by decide +kernel
theorem dX11_sendAgain_19 : decode cX11_sendAgain 19 = .ok (.invokevirtual 124, 3) := by decide +kernel
theorem dX11_sendAgain_22 : decode cX11_sendAgain 22 = .ok (.invokevirtual 174, 3) := by decide +kernel
theorem dX11_sendAgain_25 : decode cX11_sendAgain 25 = .ok (.ifCond .ne 5, 3) := by decide +kernel
theorem dX11_sendAgain_28 : decode cX11_sendAgain 28 = .ok (.iconst 0, 1) := by decide +kernel
theorem dX11_sendAgain_29 : decode cX11_sendAgain 29 = .ok (.ireturn, 1) := by decide +kernel
theorem dX11_sendAgain_30 : decode cX11_sendAgain 30 = .ok (.aload_n 0, 1) := by decide +kernel
theorem dX11_sendAgain_31 : decode cX11_sendAgain 31 = .ok (.getfield 9, 3) := by decide +kernel
theorem dX11_sendAgain_34 : decode cX11_sendAgain 34 = .ok (.iload_n 1, 1) := by decide +kernel
theorem dX11_sendAgain_35 : decode cX11_sendAgain 35 = .ok (.iload_n 2, 1) := by decide +kernel
theorem dX11_sendAgain_36 : decode cX11_sendAgain 36 = .ok (.iconst 3, 1) := by decide +kernel
theorem dX11_sendAgain_37 : decode cX11_sendAgain 37 = .ok (.invokestatic 73, 3) := by decide +kernel
theorem dX11_sendAgain_40 : decode cX11_sendAgain 40 = .ok (.iconst 0, 1) := by decide +kernel
theorem dX11_sendAgain_41 : decode cX11_sendAgain 41 = .ok (.iastore, 1) := by decide +kernel
theorem dX11_sendAgain_42 : decode cX11_sendAgain 42 = .ok (.aload_n 0, 1) := by decide +kernel
theorem dX11_sendAgain_43 : decode cX11_sendAgain 43 = .ok (.getfield 9, 3) := by decide +kernel
theorem dX11_sendAgain_46 : decode cX11_sendAgain 46 = .ok (.iload_n 1, 1) := by decide +kernel
theorem dX11_sendAgain_47 : decode cX11_sendAgain 47 = .ok (.iload_n 2, 1) := by decide +kernel
theorem dX11_sendAgain_48 : decode cX11_sendAgain 48 = .ok (.iconst 2, 1) := by decide +kernel
theorem dX11_sendAgain_49 : decode cX11_sendAgain 49 = .ok (.invokestatic 73, 3) := by decide +kernel
theorem dX11_sendAgain_52 : decode cX11_sendAgain 52 = .ok (.aload_n 0, 1) := by decide +kernel
theorem dX11_sendAgain_53 : decode cX11_sendAgain 53 = .ok (.getfield 9, 3) := by decide +kernel
theorem dX11_sendAgain_56 : decode cX11_sendAgain 56 = .ok (.iconst 0, 1) := by decide +kernel
theorem dX11_sendAgain_57 : decode cX11_sendAgain 57 = .ok (.iaload, 1) := by decide +kernel
theorem dX11_sendAgain_58 : decode cX11_sendAgain 58 = .ok (.iastore, 1) := by decide +kernel
theorem dX11_sendAgain_59 : decode cX11_sendAgain 59 = .ok (.iconst 1, 1) := by decide +kernel
theorem dX11_sendAgain_60 : decode cX11_sendAgain 60 = .ok (.ireturn, 1) := by decide +kernel
def f_m_sendAgain (e : Int) (f : Int) (m : xM) : Option (Int × xM) :=
     (Option.bind (f_m_ofFrame e f 0 m) fun q0 =>
      (Option.bind (f_m_frameAt e f 4 (xvw [] m)) fun q1 =>
      (Option.bind (f_m_ofFrame e f 1 m) fun q2 =>
      (Option.bind (f_m_launch e q0 q1 q2 m) fun q3 =>
      (if xw q3.1 = 0 then some (0, q3.2)
      else (Option.bind (f_m_frameAt e f 3 (xvw [] q3.2)) fun q4 =>
      (if xib q4 3530 then (Option.bind (f_m_frameAt e f 2 (xvw [] (xu q3.2 1 (xix q4) 0))) fun q5 =>
      (if xib 0 3530 then (if xib q5 3530 then some (1, (xu (xu q3.2 1 (xix q4) 0) 1 (xix q5) ((xu q3.2 1 (xix q4) 0) 1 0)))
      else none)
      else none))
      else none)))))))
set_option maxRecDepth 1000000 in
set_option maxHeartbeats 4000000 in
theorem t_m_sendAgain {Γ : xG} {d : Nat} (hd9 : 6 ≤ d) (C : xC Γ lay_M RX11 cX11_sendAgain 3 d) (e : Int) (f : Int) {r : Int} {m9 : xM} (hR : xRz Γ lay_M cX11_sendAgain r m9) (m : xM) (h : f_m_sendAgain e f m = some (r, m9)) : xW Γ lay_M 3 0 [(0, .inr (.inr (some 0))), (1, .inl e), (2, .inl f)] [] m := by
  unfold f_m_sendAgain at h
  refine x_aload_n C dX11_sendAgain_0 rfl ?_
  refine x_iload_n C dX11_sendAgain_1 rfl ?_
  refine x_aload_n C dX11_sendAgain_2 rfl ?_
  refine x_iload_n C dX11_sendAgain_3 rfl ?_
  refine x_iload_n C dX11_sendAgain_4 rfl ?_
  refine x_iconst C dX11_sendAgain_5 ?_
  obtain ⟨q0, hq0, h⟩ := x_bind h
  refine x_callVI C dX11_sendAgain_6 (xin_28 _ (List.mem_of_getElem? (i := 1) rfl)) xy_X11_ofFrame (xi_X11_ofFrame) (xs_X11_ofFrame) (by omega) (by decide) (b := 0) rfl ⟨_, _, rfl⟩ (av := [.inl e, .inl f, .inl 0]) rfl (Nat.le_of_ble_eq_true rfl) (c_m_ofFrame _ _ _ _ _ _ hq0) rfl ?_
  refine x_iload_n C dX11_sendAgain_9 rfl ?_
  refine x_iload_n C dX11_sendAgain_10 rfl ?_
  refine x_iconst C dX11_sendAgain_11 ?_
  obtain ⟨q1, hq1, h⟩ := x_bind h
  refine x_callSp C dX11_sendAgain_12 (xin_28 _ (List.mem_of_getElem? (i := 5) rfl)) xy_X11_frameAt (xt_X11_frameAt) [] xv_49 (by omega) (by decide) (av := [.inl e, .inl f, .inl 4]) rfl (Nat.le_of_ble_eq_true rfl) (c_m_frameAt _ _ _ _ _ _ hq1) rfl ?_
  refine x_aload_n C dX11_sendAgain_15 rfl ?_
  refine x_iload_n C dX11_sendAgain_16 rfl ?_
  refine x_iload_n C dX11_sendAgain_17 rfl ?_
  refine x_iconst C dX11_sendAgain_18 ?_
  obtain ⟨q2, hq2, h⟩ := x_bind h
  refine x_callVI C dX11_sendAgain_19 (xin_28 _ (List.mem_of_getElem? (i := 1) rfl)) xy_X11_ofFrame (xi_X11_ofFrame) (xs_X11_ofFrame) (by omega) (by decide) (b := 0) rfl ⟨_, _, rfl⟩ (av := [.inl e, .inl f, .inl 1]) rfl (Nat.le_of_ble_eq_true rfl) (c_m_ofFrame _ _ _ _ _ _ hq2) rfl ?_
  obtain ⟨q3, hq3, h⟩ := x_bind h
  refine x_callVI C dX11_sendAgain_22 (xin_48 _ (List.mem_of_getElem? (i := 11) rfl)) xy_X11_launch (xi_X11_launch) (xs_X11_launch) (by omega) (by decide) (b := 0) rfl ⟨_, _, rfl⟩ (av := [.inl e, .inl q0, .inl q1, .inl q2]) rfl (Nat.le_of_ble_eq_true rfl) (c_m_launch _ _ _ _ _ _ q3.1 q3.2 hq3) rfl ?_
  refine x_if_ne C 30 dX11_sendAgain_25 (by decide) h (fun h => ?_) (fun h => ?_)
  · refine x_aload_n C dX11_sendAgain_30 rfl ?_
    refine x_getR C dX11_sendAgain_31 fF_X11_9 rfl rfl ?_
    refine x_iload_n C dX11_sendAgain_34 rfl ?_
    refine x_iload_n C dX11_sendAgain_35 rfl ?_
    refine x_iconst C dX11_sendAgain_36 ?_
    obtain ⟨q4, hq4, h⟩ := x_bind h
    refine x_callSp C dX11_sendAgain_37 (xin_28 _ (List.mem_of_getElem? (i := 5) rfl)) xy_X11_frameAt (xt_X11_frameAt) [] xv_49 (by omega) (by decide) (av := [.inl e, .inl f, .inl 3]) rfl (Nat.le_of_ble_eq_true rfl) (c_m_frameAt _ _ _ _ _ _ hq4) rfl ?_
    refine x_iconst C dX11_sendAgain_40 ?_
    refine x_iastore C dX11_sendAgain_41 rfl h (fun h => ?_)
    refine x_aload_n C dX11_sendAgain_42 rfl ?_
    refine x_getR C dX11_sendAgain_43 fF_X11_9 rfl rfl ?_
    refine x_iload_n C dX11_sendAgain_46 rfl ?_
    refine x_iload_n C dX11_sendAgain_47 rfl ?_
    refine x_iconst C dX11_sendAgain_48 ?_
    obtain ⟨q5, hq5, h⟩ := x_bind h
    refine x_callSp C dX11_sendAgain_49 (xin_28 _ (List.mem_of_getElem? (i := 5) rfl)) xy_X11_frameAt (xt_X11_frameAt) [] xv_49 (by omega) (by decide) (av := [.inl e, .inl f, .inl 2]) rfl (Nat.le_of_ble_eq_true rfl) (c_m_frameAt _ _ _ _ _ _ hq5) rfl ?_
    refine x_aload_n C dX11_sendAgain_52 rfl ?_
    refine x_getR C dX11_sendAgain_53 fF_X11_9 rfl rfl ?_
    refine x_iconst C dX11_sendAgain_56 ?_
    refine x_iaload C dX11_sendAgain_57 rfl h (fun h => ?_)
    refine x_iastore C dX11_sendAgain_58 rfl h (fun h => ?_)
    refine x_iconst C dX11_sendAgain_59 ?_
    exact x_zreturn hR (by decide) dX11_sendAgain_60 h
  · refine x_iconst C dX11_sendAgain_28 ?_
    exact x_zreturn hR (by decide) dX11_sendAgain_29 h
theorem c_m_sendAgain (l : Launch) (e : Int) (f : Int) (m : xM) (r : Int) (m9 : xM) (h : f_m_sendAgain e f m = some (r, m9)) : xMet l yX11_sendAgain cX11_sendAgain 3 (some .boolean) 6 lay_M [.inr (.inr (some 0)), .inl e, .inl f] m (some (.inl r)) m9 :=
  xMet_z (by decide +kernel) (Nat.le_of_ble_eq_true rfl) (fun Γ C hR hl9 => t_m_sendAgain (Nat.le_refl _) C e f hR m h)
/-! ===== yX11_sendNew ===== -/
theorem dX11_sendNew_0 : decode cX11_sendNew 0 = .ok (.bipush 8, 2) := by decide +kernel
theorem dX11_sendNew_2 : decode cX11_sendNew 2 = .ok (.aload_n 0, 1) := by decide +kernel
theorem dX11_sendNew_3 : decode cX11_sendNew 3 = .ok (.iload_n 1, 1) := by decide +kernel
theorem dX11_sendNew_4 : decode cX11_sendNew 4 = .ok (.iconst 0, 1) := by decide +kernel
theorem dX11_sendNew_5 : decode cX11_sendNew 5 = .ok (.invokevirtual 101, 3) := by decide +kernel
theorem dX11_sendNew_8 : decode cX11_sendNew 8 = .ok (.invokestatic 96, 3) := by decide +kernel
theorem dX11_sendNew_11 : decode cX11_sendNew 11 = .ok (.istore_n 2, 1) := by decide +kernel
theorem dX11_sendNew_12 : decode cX11_sendNew 12 = .ok (.aload_n 0, 1) := by decide +kernel
theorem dX11_sendNew_13 : decode cX11_sendNew 13 = .ok (.iload_n 1, 1) := by decide +kernel
theorem dX11_sendNew_14 : decode cX11_sendNew 14 = .ok (.iconst 1, 1) := by decide +kernel
theorem dX11_sendNew_15 : decode cX11_sendNew 15 = .ok (.invokevirtual 101, 3) := by decide +kernel
theorem dX11_sendNew_18 : decode cX11_sendNew 18 = .ok (.aload_n 0, 1) := by decide +kernel
theorem dX11_sendNew_19 : decode cX11_sendNew 19 = .ok (.getfield 9, 3) := by decide +kernel
theorem dX11_sendNew_22 : decode cX11_sendNew 22 = .ok (.bipush 14, 2) := by decide +kernel
theorem dX11_sendNew_24 : decode cX11_sendNew 24 = .ok (.iaload, 1) := by decide +kernel
theorem dX11_sendNew_25 : decode cX11_sendNew 25 = .ok (.if_icmp .ge 28, 3) := by decide +kernel
theorem dX11_sendNew_28 : decode cX11_sendNew 28 = .ok (.iload_n 2, 1) := by decide +kernel
theorem dX11_sendNew_29 : decode cX11_sendNew 29 = .ok (.ifCond .eq 24, 3) := by decide +kernel
theorem dX11_sendNew_32 : decode cX11_sendNew 32 = .ok (.aload_n 0, 1) := by decide +kernel
theorem dX11_sendNew_33 : decode cX11_sendNew 33 = .ok (.iload_n 1, 1) := by decide +kernel
theorem dX11_sendNew_34 : decode cX11_sendNew 34 = .ok (.aload_n 0, 1) := by decide +kernel
theorem dX11_sendNew_35 : decode cX11_sendNew 35 = .ok (.iload_n 1, 1) := by decide +kernel
theorem dX11_sendNew_36 : decode cX11_sendNew 36 = .ok (.iconst 2, 1) := by decide +kernel
theorem dX11_sendNew_37 : decode cX11_sendNew 37 = .ok (.invokevirtual 101, 3) := by decide +kernel
theorem dX11_sendNew_40 : decode cX11_sendNew 40 = .ok (.iload_n 1, 1) := by decide +kernel
theorem dX11_sendNew_41 : decode cX11_sendNew 41 = .ok (.bipush 117, 2) := by decide +kernel
theorem dX11_sendNew_43 : decode cX11_sendNew 43 = .ok (.invokestatic 69, 3) := by decide +kernel
theorem dX11_sendNew_46 : decode cX11_sendNew 46 = .ok (.iload_n 2, 1) := by decide +kernel
theorem dX11_sendNew_47 : decode cX11_sendNew 47 = .ok (.invokevirtual 174, 3) := by decide +kernel
theorem dX11_sendNew_50 : decode cX11_sendNew 50 = .ok (.ifCond .ne 5, 3) := by decide +kernel
theorem dX11_sendNew_53 : decode cX11_sendNew 53 = .ok (.iconst 0, 1) := by decide +kernel
theorem dX11_sendNew_54 : decode cX11_sendNew 54 = .ok (.ireturn, 1) := by decide +kernel
theorem dX11_sendNew_55 : decode cX11_sendNew 55 = .ok (.aload_n 0, 1) := by decide +kernel
theorem dX11_sendNew_56 : decode cX11_sendNew 56 = .ok (.iload_n 1, 1) := by decide +kernel
theorem dX11_sendNew_57 : decode cX11_sendNew 57 = .ok (.iconst 1, 1) := by decide +kernel
theorem dX11_sendNew_58 : decode cX11_sendNew 58 = .ok (.invokevirtual 101, 3) := by decide +kernel
theorem dX11_sendNew_61 : decode cX11_sendNew 61 = .ok (.istore_n 3, 1) := by decide +kernel
theorem dX11_sendNew_62 : decode cX11_sendNew 62 = .ok (.aload_n 0, 1) := by decide +kernel
theorem dX11_sendNew_63 : decode cX11_sendNew 63 = .ok (.getfield 9, 3) := by decide +kernel
theorem dX11_sendNew_66 : decode cX11_sendNew 66 = .ok (.iload_n 1, 1) := by decide +kernel
theorem dX11_sendNew_67 : decode cX11_sendNew 67 = .ok (.iload_n 3, 1) := by decide +kernel
theorem dX11_sendNew_68 : decode cX11_sendNew 68 = .ok (.iconst 0, 1) := by decide +kernel
theorem dX11_sendNew_69 : decode cX11_sendNew 69 = .ok (.invokestatic 73, 3) := by decide +kernel
theorem dX11_sendNew_72 : decode cX11_sendNew 72 = .ok (.aload_n 0, 1) := by decide +kernel
theorem dX11_sendNew_73 : decode cX11_sendNew 73 = .ok (.iload_n 1, 1) := by decide +kernel
theorem dX11_sendNew_74 : decode cX11_sendNew 74 = .ok (.iconst 2, 1) := by decide +kernel
theorem dX11_sendNew_75 : decode cX11_sendNew 75 = .ok (.invokevirtual 101, 3) := by decide +kernel
theorem dX11_sendNew_78 : decode cX11_sendNew 78 = .ok (.iastore, 1) := by decide +kernel
theorem dX11_sendNew_79 : decode cX11_sendNew 79 = .ok (.aload_n 0, 1) := by decide +kernel
theorem dX11_sendNew_80 : decode cX11_sendNew 80 = .ok (.getfield 9, 3) := by decide +kernel
theorem dX11_sendNew_83 : decode cX11_sendNew 83 = .ok (.iload_n 1, 1) := by decide +kernel
theorem dX11_sendNew_84 : decode cX11_sendNew 84 = .ok (.iload_n 3, 1) := by decide +kernel
theorem dX11_sendNew_85 : decode cX11_sendNew 85 = .ok (.iconst 1, 1) := by decide +kernel
theorem dX11_sendNew_86 : decode cX11_sendNew 86 = .ok (.invokestatic 73, 3) := by decide +kernel
theorem dX11_sendNew_89 : decode cX11_sendNew 89 = .ok (.iload_n 2, 1) := by decide +kernel
theorem dX11_sendNew_90 : decode cX11_sendNew 90 = .ok (.iastore, 1) := by decide +kernel
theorem dX11_sendNew_91 : decode cX11_sendNew 91 = .ok (.aload_n 0, 1) := by decide +kernel
theorem dX11_sendNew_92 : decode cX11_sendNew 92 = .ok (.getfield 9, 3) := by decide +kernel
theorem dX11_sendNew_95 : decode cX11_sendNew 95 = .ok (.iload_n 1, 1) := by decide +kernel
theorem dX11_sendNew_96 : decode cX11_sendNew 96 = .ok (.iload_n 3, 1) := by decide +kernel
theorem dX11_sendNew_97 : decode cX11_sendNew 97 = .ok (.iconst 2, 1) := by decide +kernel
theorem dX11_sendNew_98 : decode cX11_sendNew 98 = .ok (.invokestatic 73, 3) := by decide +kernel
theorem dX11_sendNew_101 : decode cX11_sendNew 101 = .ok (.aload_n 0, 1) := by decide +kernel
theorem dX11_sendNew_102 : decode cX11_sendNew 102 = .ok (.getfield 9, 3) := by decide +kernel
theorem dX11_sendNew_105 : decode cX11_sendNew 105 = .ok (.iconst 0, 1) := by decide +kernel
theorem dX11_sendNew_106 : decode cX11_sendNew 106 = .ok (.iaload, 1) := by decide +kernel
theorem dX11_sendNew_107 : decode cX11_sendNew 107 = .ok (.iastore, 1) := by decide +kernel
theorem dX11_sendNew_108 : decode cX11_sendNew 108 = .ok (.aload_n 0, 1) := by decide +kernel
theorem dX11_sendNew_109 : decode cX11_sendNew 109 = .ok (.getfield 9, 3) := by decide +kernel
theorem dX11_sendNew_112 : decode cX11_sendNew 112 = .ok (.iload_n 1, 1) := by decide +kernel
theorem dX11_sendNew_113 : decode cX11_sendNew 113 = .ok (.iload_n 3, 1) := by decide +kernel
theorem dX11_sendNew_114 : decode cX11_sendNew 114 = .ok (.iconst 3, 1) := by decide +kernel
theorem dX11_sendNew_115 : decode cX11_sendNew 115 = .ok (.invokestatic 73, 3) := by decide +kernel
theorem dX11_sendNew_118 : decode cX11_sendNew 118 = .ok (.iconst 0, 1) := by decide +kernel
theorem dX11_sendNew_119 : decode cX11_sendNew 119 = .ok (.iastore, 1) := by decide +kernel
theorem dX11_sendNew_120 : decode cX11_sendNew 120 = .ok (.iconst 0, 1) := by decide +kernel
theorem dX11_sendNew_121 : decode cX11_sendNew 121 = .ok (.istore 4, 2) := by decide +kernel
theorem dX11_sendNew_123 : decode cX11_sendNew 123 = .ok (.iload 4, 2) := by decide +kernel
theorem dX11_sendNew_125 : decode cX11_sendNew 125 = .ok (.iload_n 2, 1) := by decide +kernel
theorem dX11_sendNew_126 : decode cX11_sendNew 126 = .ok (.if_icmp .ge 33, 3) := by decide +kernel
theorem dX11_sendNew_129 : decode cX11_sendNew 129 = .ok (.aload_n 0, 1) := by decide +kernel
theorem dX11_sendNew_130 : decode cX11_sendNew 130 = .ok (.getfield 9, 3) := by decide +kernel
theorem dX11_sendNew_133 : decode cX11_sendNew 133 = .ok (.iload_n 1, 1) := by decide +kernel
theorem dX11_sendNew_134 : decode cX11_sendNew 134 = .ok (.iload_n 3, 1) := by decide +kernel
theorem dX11_sendNew_135 : decode cX11_sendNew 135 = .ok (.iconst 4, 1) := by decide +kernel
theorem dX11_sendNew_136 : decode cX11_sendNew 136 = .ok (.iload 4, 2) := by decide +kernel
theorem dX11_sendNew_138 : decode cX11_sendNew 138 = .ok (.iadd, 1) := by decide +kernel
theorem dX11_sendNew_139 : decode cX11_sendNew 139 = .ok (.invokestatic 73, 3) := by decide +kernel
theorem dX11_sendNew_142 : decode cX11_sendNew 142 = .ok (.aload_n 0, 1) := by decide +kernel
theorem dX11_sendNew_143 : decode cX11_sendNew 143 = .ok (.iload_n 1, 1) := by decide +kernel
theorem dX11_sendNew_144 : decode cX11_sendNew 144 = .ok (.bipush 117, 2) := by decide +kernel
theorem dX11_sendNew_146 : decode cX11_sendNew 146 = .ok (.iload 4, 2) := by decide +kernel
theorem dX11_sendNew_148 : decode cX11_sendNew 148 = .ok (.iadd, 1) := by decide +kernel
theorem dX11_sendNew_149 : decode cX11_sendNew 149 = .ok (.invokevirtual 101, 3) := by decide +kernel
theorem dX11_sendNew_152 : decode cX11_sendNew 152 = .ok (.iastore, 1) := by decide +kernel
theorem dX11_sendNew_153 : decode cX11_sendNew 153 = .ok (.iinc 4 1, 3) := by decide +kernel
theorem dX11_sendNew_156 : decode cX11_sendNew 156 = .ok (.goto (-33), 3) := by decide +kernel
theorem dX11_sendNew_159 : decode cX11_sendNew 159 = .ok (.aload_n 0, 1) := by decide +kernel
theorem dX11_sendNew_160 : decode cX11_sendNew 160 = .ok (.getfield 9, 3) := by decide +kernel
theorem dX11_sendNew_163 : decode cX11_sendNew 163 = .ok (.iload_n 1, 1) := by decide +kernel
theorem dX11_sendNew_164 : decode cX11_sendNew 164 = .ok (.iconst 1, 1) := by decide +kernel
theorem dX11_sendNew_165 : decode cX11_sendNew 165 = .ok (.invokestatic 69, 3) := by decide +kernel
theorem dX11_sendNew_168 : decode cX11_sendNew 168 = .ok (.dup2, 1) := by decide +kernel
theorem dX11_sendNew_169 : decode cX11_sendNew 169 = .ok (.iaload, 1) := by decide +kernel
theorem dX11_sendNew_170 : decode cX11_sendNew 170 = .ok (.iconst 1, 1) := by decide +kernel
theorem dX11_sendNew_171 : decode cX11_sendNew 171 = .ok (.iadd, 1) := by decide +kernel
theorem dX11_sendNew_172 : decode cX11_sendNew 172 = .ok (.iastore, 1) := by decide +kernel
theorem dX11_sendNew_173 : decode cX11_sendNew 173 = .ok (.aload_n 0, 1) := by decide +kernel
theorem dX11_sendNew_174 : decode cX11_sendNew 174 = .ok (.getfield 9, 3) := by decide +kernel
theorem dX11_sendNew_177 : decode cX11_sendNew 177 = .ok (.iload_n 1, 1) := by decide +kernel
theorem dX11_sendNew_178 : decode cX11_sendNew 178 = .ok (.iconst 2, 1) := by decide +kernel
theorem dX11_sendNew_179 : decode cX11_sendNew 179 = .ok (.invokestatic 69, 3) := by decide +kernel
theorem dX11_sendNew_182 : decode cX11_sendNew 182 = .ok (.dup2, 1) := by decide +kernel
theorem dX11_sendNew_183 : decode cX11_sendNew 183 = .ok (.iaload, 1) := by decide +kernel
theorem dX11_sendNew_184 : decode cX11_sendNew 184 = .ok (.iconst 1, 1) := by decide +kernel
theorem dX11_sendNew_185 : decode cX11_sendNew 185 = .ok (.iadd, 1) := by decide +kernel
theorem dX11_sendNew_186 : decode cX11_sendNew 186 = .ok (.iastore, 1) := by decide +kernel
theorem dX11_sendNew_187 : decode cX11_sendNew 187 = .ok (.aload_n 0, 1) := by decide +kernel
theorem dX11_sendNew_188 : decode cX11_sendNew 188 = .ok (.getfield 9, 3) := by decide +kernel
theorem dX11_sendNew_191 : decode cX11_sendNew 191 = .ok (.iload_n 1, 1) := by decide +kernel
theorem dX11_sendNew_192 : decode cX11_sendNew 192 = .ok (.iconst 0, 1) := by decide +kernel
theorem dX11_sendNew_193 : decode cX11_sendNew 193 = .ok (.invokestatic 69, 3) := by decide +kernel
theorem dX11_sendNew_196 : decode cX11_sendNew 196 = .ok (.dup2, 1) := by decide +kernel
theorem dX11_sendNew_197 : decode cX11_sendNew 197 = .ok (.iaload, 1) := by decide +kernel
theorem dX11_sendNew_198 : decode cX11_sendNew 198 = .ok (.iload_n 2, 1) := by decide +kernel
theorem dX11_sendNew_199 : decode cX11_sendNew 199 = .ok (.isub, 1) := by decide +kernel
theorem dX11_sendNew_200 : decode cX11_sendNew 200 = .ok (.iastore, 1) := by decide +kernel
theorem dX11_sendNew_201 : decode cX11_sendNew 201 = .ok (.iconst 0, 1) := by decide +kernel
theorem dX11_sendNew_202 : decode cX11_sendNew 202 = .ok (.istore 4, 2) := by decide +kernel
theorem dX11_sendNew_204 : decode cX11_sendNew 204 = .ok (.iload 4, 2) := by decide +kernel
theorem dX11_sendNew_206 : decode cX11_sendNew 206 = .ok (.aload_n 0, 1) := by decide +kernel
theorem dX11_sendNew_207 : decode cX11_sendNew 207 = .ok (.iload_n 1, 1) := by decide +kernel
theorem dX11_sendNew_208 : decode cX11_sendNew 208 = .ok (.iconst 0, 1) := by decide +kernel
theorem dX11_sendNew_209 : decode cX11_sendNew 209 = .ok (.invokevirtual 101, 3) := by decide +kernel
theorem dX11_sendNew_212 : decode cX11_sendNew 212 = .ok (.if_icmp .ge 35, 3) := by decide +kernel
theorem dX11_sendNew_215 : decode cX11_sendNew 215 = .ok (.aload_n 0, 1) := by decide +kernel
theorem dX11_sendNew_216 : decode cX11_sendNew 216 = .ok (.getfield 9, 3) := by decide +kernel
theorem dX11_sendNew_219 : decode cX11_sendNew 219 = .ok (.iload_n 1, 1) := by decide +kernel
theorem dX11_sendNew_220 : decode cX11_sendNew 220 = .ok (.bipush 117, 2) := by decide +kernel
theorem dX11_sendNew_222 : decode cX11_sendNew 222 = .ok (.iload 4, 2) := by decide +kernel
theorem dX11_sendNew_224 : decode cX11_sendNew 224 = .ok (.iadd, 1) := by decide +kernel
theorem dX11_sendNew_225 : decode cX11_sendNew 225 = .ok (.invokestatic 69, 3) := by decide +kernel
theorem dX11_sendNew_228 : decode cX11_sendNew 228 = .ok (.aload_n 0, 1) := by decide +kernel
theorem dX11_sendNew_229 : decode cX11_sendNew 229 = .ok (.iload_n 1, 1) := by decide +kernel
theorem dX11_sendNew_230 : decode cX11_sendNew 230 = .ok (.bipush 117, 2) := by decide +kernel
theorem dX11_sendNew_232 : decode cX11_sendNew 232 = .ok (.iload 4, 2) := by decide +kernel
theorem dX11_sendNew_234 : decode cX11_sendNew 234 = .ok (.iadd, 1) := by decide +kernel
theorem dX11_sendNew_235 : decode cX11_sendNew 235 = .ok (.iload_n 2, 1) := by decide +kernel
theorem dX11_sendNew_236 : decode cX11_sendNew 236 = .ok (.iadd, 1) := by decide +kernel
theorem dX11_sendNew_237 : decode cX11_sendNew 237 = .ok (.invokevirtual 101, 3) := by decide +kernel
theorem dX11_sendNew_240 : decode cX11_sendNew 240 = .ok (.iastore, 1) := by decide +kernel
theorem dX11_sendNew_241 : decode cX11_sendNew 241 = .ok (.iinc 4 1, 3) := by decide +kernel
theorem dX11_sendNew_244 : decode cX11_sendNew 244 = .ok (.goto (-40), 3) := by decide +kernel
theorem dX11_sendNew_247 : decode cX11_sendNew 247 = .ok (.iconst 1, 1) := by decide +kernel
theorem dX11_sendNew_248 : decode cX11_sendNew 248 = .ok (.ireturn, 1) := by decide +kernel
def f_m_sendNew_204 (e : Int) : Nat → Int → Int → xM → Option (Int × xM)
  | 0, _, _, _ => none
  | n + 1, x2, x4, m =>
     (Option.bind (f_m_of e 0 m) fun q14 =>
      (if xw x4 < xw q14 then (Option.bind (f_m_endAt e (117 + x4) (xvw [] m)) fun q15 =>
      (Option.bind (f_m_of e ((117 + x4) + x2) m) fun q16 =>
      (if xib q15 3530 then f_m_sendNew_204 e n x2 (x4 + 1) (xu m 1 (xix q15) q16)
      else none)))
      else some (1, m)))
set_option maxRecDepth 1000000 in
set_option maxHeartbeats 4000000 in
theorem t_m_sendNew_204 {Γ : xG} {d : Nat} (hd9 : 6 ≤ d) (C : xC Γ lay_M RX11 cX11_sendNew 5 d) (e : Int) {r : Int} {m9 : xM} (hR : xRz Γ lay_M cX11_sendNew r m9) : ∀ (n : Nat) (x2 : Int) (x4 : Int) (m : xM), f_m_sendNew_204 e n x2 x4 m = some (r, m9) → xW Γ lay_M 5 204 [(0, .inr (.inr (some 0))), (1, .inl e), (2, .inl x2), (4, .inl x4)] [] m := by
  intro n
  induction n with
  | zero => intro _ _ _ h; cases h
  | succ n ih =>
    intro x2 x4 m h
    rw [f_m_sendNew_204] at h
    refine x_iload C dX11_sendNew_204 rfl ?_
    refine x_aload_n C dX11_sendNew_206 rfl ?_
    refine x_iload_n C dX11_sendNew_207 rfl ?_
    refine x_iconst C dX11_sendNew_208 ?_
    obtain ⟨q14, hq14, h⟩ := x_bind h
    refine x_callVI C dX11_sendNew_209 (xin_27 _ (List.mem_of_getElem? (i := 14) rfl)) xy_X11_of (xi_X11_of) (xs_X11_of) (by omega) (by decide) (b := 0) rfl ⟨_, _, rfl⟩ (av := [.inl e, .inl 0]) rfl (Nat.le_of_ble_eq_true rfl) (c_m_of _ _ _ _ _ hq14) rfl ?_
    refine x_icmp_ge C 247 dX11_sendNew_212 (by decide) h (fun h => ?_) (fun h => ?_)
    · refine x_iconst C dX11_sendNew_247 ?_
      exact x_zreturn hR (by decide) dX11_sendNew_248 h
    · refine x_aload_n C dX11_sendNew_215 rfl ?_
      refine x_getR C dX11_sendNew_216 fF_X11_9 rfl rfl ?_
      refine x_iload_n C dX11_sendNew_219 rfl ?_
      refine x_bipush C dX11_sendNew_220 (by decide) ?_
      refine x_iload C dX11_sendNew_222 rfl ?_
      refine x_iadd C dX11_sendNew_224 ?_
      obtain ⟨q15, hq15, h⟩ := x_bind h
      refine x_callSp C dX11_sendNew_225 (xin_27 _ (List.mem_of_getElem? (i := 18) rfl)) xy_X11_endAt (xt_X11_endAt) [] xv_49 (by omega) (by decide) (av := [.inl e, .inl (117 + x4)]) rfl (Nat.le_of_ble_eq_true rfl) (c_m_endAt _ _ _ _ _ hq15) rfl ?_
      refine x_aload_n C dX11_sendNew_228 rfl ?_
      refine x_iload_n C dX11_sendNew_229 rfl ?_
      refine x_bipush C dX11_sendNew_230 (by decide) ?_
      refine x_iload C dX11_sendNew_232 rfl ?_
      refine x_iadd C dX11_sendNew_234 ?_
      refine x_iload_n C dX11_sendNew_235 rfl ?_
      refine x_iadd C dX11_sendNew_236 ?_
      obtain ⟨q16, hq16, h⟩ := x_bind h
      refine x_callVI C dX11_sendNew_237 (xin_27 _ (List.mem_of_getElem? (i := 14) rfl)) xy_X11_of (xi_X11_of) (xs_X11_of) (by omega) (by decide) (b := 0) rfl ⟨_, _, rfl⟩ (av := [.inl e, .inl ((117 + x4) + x2)]) rfl (Nat.le_of_ble_eq_true rfl) (c_m_of _ _ _ _ _ hq16) rfl ?_
      refine x_iastore C dX11_sendNew_240 rfl h (fun h => ?_)
      refine x_iinc C dX11_sendNew_241 (by decide) rfl ?_
      refine x_goto C 204 dX11_sendNew_244 (by decide) ?_
      refine x_loc [(0, .inr (.inr (some 0))), (1, .inl e), (2, .inl x2), (4, .inl (x4 + 1))] ⟨rfl, rfl, rfl, rfl, trivial⟩ ?_
      exact ih _ _ _ h
def f_m_sendNew_187 (e : Int) (x2 : Int) (m : xM) : Option (Int × xM) :=
     (Option.bind (f_m_endAt e 0 (xvw [] m)) fun q13 =>
      (if xib q13 3530 then (if xib q13 3530 then f_m_sendNew_204 e fu x2 0 (xu m 1 (xix q13) ((m 1 (xix q13)) - x2))
      else none)
      else none))
set_option maxRecDepth 1000000 in
set_option maxHeartbeats 4000000 in
theorem t_m_sendNew_187 {Γ : xG} {d : Nat} (hd9 : 6 ≤ d) (C : xC Γ lay_M RX11 cX11_sendNew 5 d) (e : Int) {r : Int} {m9 : xM} (hR : xRz Γ lay_M cX11_sendNew r m9) (x2 : Int) (m : xM) (h : f_m_sendNew_187 e x2 m = some (r, m9)) : xW Γ lay_M 5 187 [(0, .inr (.inr (some 0))), (1, .inl e), (2, .inl x2)] [] m := by
  unfold f_m_sendNew_187 at h
  refine x_aload_n C dX11_sendNew_187 rfl ?_
  refine x_getR C dX11_sendNew_188 fF_X11_9 rfl rfl ?_
  refine x_iload_n C dX11_sendNew_191 rfl ?_
  refine x_iconst C dX11_sendNew_192 ?_
  obtain ⟨q13, hq13, h⟩ := x_bind h
  refine x_callSp C dX11_sendNew_193 (xin_27 _ (List.mem_of_getElem? (i := 18) rfl)) xy_X11_endAt (xt_X11_endAt) [] xv_49 (by omega) (by decide) (av := [.inl e, .inl 0]) rfl (Nat.le_of_ble_eq_true rfl) (c_m_endAt _ _ _ _ _ hq13) rfl ?_
  refine x_dup2 C dX11_sendNew_196 rfl rfl ?_
  refine x_iaload C dX11_sendNew_197 rfl h (fun h => ?_)
  refine x_iload_n C dX11_sendNew_198 rfl ?_
  refine x_isub C dX11_sendNew_199 ?_
  refine x_iastore C dX11_sendNew_200 rfl h (fun h => ?_)
  refine x_iconst C dX11_sendNew_201 ?_
  refine x_istore C dX11_sendNew_202 (by decide) ?_
  refine x_loc [(0, .inr (.inr (some 0))), (1, .inl e), (2, .inl x2), (4, .inl 0)] ⟨rfl, rfl, rfl, rfl, trivial⟩ ?_
  exact t_m_sendNew_204 hd9 C _ hR fu _ _ _ h
def f_m_sendNew_159 (e : Int) (x2 : Int) (m : xM) : Option (Int × xM) :=
     (Option.bind (f_m_endAt e 1 (xvw [] m)) fun q11 =>
      (if xib q11 3530 then (if xib q11 3530 then (Option.bind (f_m_endAt e 2 (xvw [] (xu m 1 (xix q11) ((m 1 (xix q11)) + 1)))) fun q12 =>
      (if xib q12 3530 then (if xib q12 3530 then f_m_sendNew_187 e x2 (xu (xu m 1 (xix q11) ((m 1 (xix q11)) + 1)) 1 (xix q12) (((xu m 1 (xix q11) ((m 1 (xix q11)) + 1)) 1 (xix q12)) + 1))
      else none)
      else none))
      else none)
      else none))
set_option maxRecDepth 1000000 in
set_option maxHeartbeats 4000000 in
theorem t_m_sendNew_159 {Γ : xG} {d : Nat} (hd9 : 6 ≤ d) (C : xC Γ lay_M RX11 cX11_sendNew 5 d) (e : Int) {r : Int} {m9 : xM} (hR : xRz Γ lay_M cX11_sendNew r m9) (x2 : Int) (m : xM) (h : f_m_sendNew_159 e x2 m = some (r, m9)) : xW Γ lay_M 5 159 [(0, .inr (.inr (some 0))), (1, .inl e), (2, .inl x2)] [] m := by
  unfold f_m_sendNew_159 at h
  refine x_aload_n C dX11_sendNew_159 rfl ?_
  refine x_getR C dX11_sendNew_160 fF_X11_9 rfl rfl ?_
  refine x_iload_n C dX11_sendNew_163 rfl ?_
  refine x_iconst C dX11_sendNew_164 ?_
  obtain ⟨q11, hq11, h⟩ := x_bind h
  refine x_callSp C dX11_sendNew_165 (xin_27 _ (List.mem_of_getElem? (i := 18) rfl)) xy_X11_endAt (xt_X11_endAt) [] xv_49 (by omega) (by decide) (av := [.inl e, .inl 1]) rfl (Nat.le_of_ble_eq_true rfl) (c_m_endAt _ _ _ _ _ hq11) rfl ?_
  refine x_dup2 C dX11_sendNew_168 rfl rfl ?_
  refine x_iaload C dX11_sendNew_169 rfl h (fun h => ?_)
  refine x_iconst C dX11_sendNew_170 ?_
  refine x_iadd C dX11_sendNew_171 ?_
  refine x_iastore C dX11_sendNew_172 rfl h (fun h => ?_)
  refine x_aload_n C dX11_sendNew_173 rfl ?_
  refine x_getR C dX11_sendNew_174 fF_X11_9 rfl rfl ?_
  refine x_iload_n C dX11_sendNew_177 rfl ?_
  refine x_iconst C dX11_sendNew_178 ?_
  obtain ⟨q12, hq12, h⟩ := x_bind h
  refine x_callSp C dX11_sendNew_179 (xin_27 _ (List.mem_of_getElem? (i := 18) rfl)) xy_X11_endAt (xt_X11_endAt) [] xv_49 (by omega) (by decide) (av := [.inl e, .inl 2]) rfl (Nat.le_of_ble_eq_true rfl) (c_m_endAt _ _ _ _ _ hq12) rfl ?_
  refine x_dup2 C dX11_sendNew_182 rfl rfl ?_
  refine x_iaload C dX11_sendNew_183 rfl h (fun h => ?_)
  refine x_iconst C dX11_sendNew_184 ?_
  refine x_iadd C dX11_sendNew_185 ?_
  refine x_iastore C dX11_sendNew_186 rfl h (fun h => ?_)
  refine x_loc [(0, .inr (.inr (some 0))), (1, .inl e), (2, .inl x2)] ⟨rfl, rfl, rfl, trivial⟩ ?_
  exact t_m_sendNew_187 hd9 C _ hR _ _ h
def f_m_sendNew_123 (e : Int) : Nat → Int → Int → Int → xM → Option (Int × xM)
  | 0, _, _, _, _ => none
  | n + 1, x2, x3, x4, m =>
     (if xw x4 < xw x2 then (Option.bind (f_m_frameAt e x3 (4 + x4) (xvw [] m)) fun q17 =>
      (Option.bind (f_m_of e (117 + x4) m) fun q18 =>
      (if xib q17 3530 then f_m_sendNew_123 e n x2 x3 (x4 + 1) (xu m 1 (xix q17) q18)
      else none)))
      else f_m_sendNew_159 e x2 m)
set_option maxRecDepth 1000000 in
set_option maxHeartbeats 4000000 in
theorem t_m_sendNew_123 {Γ : xG} {d : Nat} (hd9 : 6 ≤ d) (C : xC Γ lay_M RX11 cX11_sendNew 5 d) (e : Int) {r : Int} {m9 : xM} (hR : xRz Γ lay_M cX11_sendNew r m9) : ∀ (n : Nat) (x2 : Int) (x3 : Int) (x4 : Int) (m : xM), f_m_sendNew_123 e n x2 x3 x4 m = some (r, m9) → xW Γ lay_M 5 123 [(0, .inr (.inr (some 0))), (1, .inl e), (2, .inl x2), (3, .inl x3), (4, .inl x4)] [] m := by
  intro n
  induction n with
  | zero => intro _ _ _ _ h; cases h
  | succ n ih =>
    intro x2 x3 x4 m h
    rw [f_m_sendNew_123] at h
    refine x_iload C dX11_sendNew_123 rfl ?_
    refine x_iload_n C dX11_sendNew_125 rfl ?_
    refine x_icmp_ge C 159 dX11_sendNew_126 (by decide) h (fun h => ?_) (fun h => ?_)
    · refine x_loc [(0, .inr (.inr (some 0))), (1, .inl e), (2, .inl x2)] ⟨rfl, rfl, rfl, trivial⟩ ?_
      exact t_m_sendNew_159 hd9 C _ hR _ _ h
    · refine x_aload_n C dX11_sendNew_129 rfl ?_
      refine x_getR C dX11_sendNew_130 fF_X11_9 rfl rfl ?_
      refine x_iload_n C dX11_sendNew_133 rfl ?_
      refine x_iload_n C dX11_sendNew_134 rfl ?_
      refine x_iconst C dX11_sendNew_135 ?_
      refine x_iload C dX11_sendNew_136 rfl ?_
      refine x_iadd C dX11_sendNew_138 ?_
      obtain ⟨q17, hq17, h⟩ := x_bind h
      refine x_callSp C dX11_sendNew_139 (xin_28 _ (List.mem_of_getElem? (i := 5) rfl)) xy_X11_frameAt (xt_X11_frameAt) [] xv_49 (by omega) (by decide) (av := [.inl e, .inl x3, .inl (4 + x4)]) rfl (Nat.le_of_ble_eq_true rfl) (c_m_frameAt _ _ _ _ _ _ hq17) rfl ?_
      refine x_aload_n C dX11_sendNew_142 rfl ?_
      refine x_iload_n C dX11_sendNew_143 rfl ?_
      refine x_bipush C dX11_sendNew_144 (by decide) ?_
      refine x_iload C dX11_sendNew_146 rfl ?_
      refine x_iadd C dX11_sendNew_148 ?_
      obtain ⟨q18, hq18, h⟩ := x_bind h
      refine x_callVI C dX11_sendNew_149 (xin_27 _ (List.mem_of_getElem? (i := 14) rfl)) xy_X11_of (xi_X11_of) (xs_X11_of) (by omega) (by decide) (b := 0) rfl ⟨_, _, rfl⟩ (av := [.inl e, .inl (117 + x4)]) rfl (Nat.le_of_ble_eq_true rfl) (c_m_of _ _ _ _ _ hq18) rfl ?_
      refine x_iastore C dX11_sendNew_152 rfl h (fun h => ?_)
      refine x_iinc C dX11_sendNew_153 (by decide) rfl ?_
      refine x_goto C 123 dX11_sendNew_156 (by decide) ?_
      refine x_loc [(0, .inr (.inr (some 0))), (1, .inl e), (2, .inl x2), (3, .inl x3), (4, .inl (x4 + 1))] ⟨rfl, rfl, rfl, rfl, rfl, trivial⟩ ?_
      exact ih _ _ _ _ h
def f_m_sendNew_91 (e : Int) (x2 : Int) (x3 : Int) (m : xM) : Option (Int × xM) :=
     (Option.bind (f_m_frameAt e x3 2 (xvw [] m)) fun q9 =>
      (if xib 0 3530 then (if xib q9 3530 then (Option.bind (f_m_frameAt e x3 3 (xvw [] (xu m 1 (xix q9) (m 1 0)))) fun q10 =>
      (if xib q10 3530 then f_m_sendNew_123 e fu x2 x3 0 (xu (xu m 1 (xix q9) (m 1 0)) 1 (xix q10) 0)
      else none))
      else none)
      else none))
set_option maxRecDepth 1000000 in
set_option maxHeartbeats 4000000 in
theorem t_m_sendNew_91 {Γ : xG} {d : Nat} (hd9 : 6 ≤ d) (C : xC Γ lay_M RX11 cX11_sendNew 5 d) (e : Int) {r : Int} {m9 : xM} (hR : xRz Γ lay_M cX11_sendNew r m9) (x2 : Int) (x3 : Int) (m : xM) (h : f_m_sendNew_91 e x2 x3 m = some (r, m9)) : xW Γ lay_M 5 91 [(0, .inr (.inr (some 0))), (1, .inl e), (2, .inl x2), (3, .inl x3)] [] m := by
  unfold f_m_sendNew_91 at h
  refine x_aload_n C dX11_sendNew_91 rfl ?_
  refine x_getR C dX11_sendNew_92 fF_X11_9 rfl rfl ?_
  refine x_iload_n C dX11_sendNew_95 rfl ?_
  refine x_iload_n C dX11_sendNew_96 rfl ?_
  refine x_iconst C dX11_sendNew_97 ?_
  obtain ⟨q9, hq9, h⟩ := x_bind h
  refine x_callSp C dX11_sendNew_98 (xin_28 _ (List.mem_of_getElem? (i := 5) rfl)) xy_X11_frameAt (xt_X11_frameAt) [] xv_49 (by omega) (by decide) (av := [.inl e, .inl x3, .inl 2]) rfl (Nat.le_of_ble_eq_true rfl) (c_m_frameAt _ _ _ _ _ _ hq9) rfl ?_
  refine x_aload_n C dX11_sendNew_101 rfl ?_
  refine x_getR C dX11_sendNew_102 fF_X11_9 rfl rfl ?_
  refine x_iconst C dX11_sendNew_105 ?_
  refine x_iaload C dX11_sendNew_106 rfl h (fun h => ?_)
  refine x_iastore C dX11_sendNew_107 rfl h (fun h => ?_)
  refine x_aload_n C dX11_sendNew_108 rfl ?_
  refine x_getR C dX11_sendNew_109 fF_X11_9 rfl rfl ?_
  refine x_iload_n C dX11_sendNew_112 rfl ?_
  refine x_iload_n C dX11_sendNew_113 rfl ?_
  refine x_iconst C dX11_sendNew_114 ?_
  obtain ⟨q10, hq10, h⟩ := x_bind h
  refine x_callSp C dX11_sendNew_115 (xin_28 _ (List.mem_of_getElem? (i := 5) rfl)) xy_X11_frameAt (xt_X11_frameAt) [] xv_49 (by omega) (by decide) (av := [.inl e, .inl x3, .inl 3]) rfl (Nat.le_of_ble_eq_true rfl) (c_m_frameAt _ _ _ _ _ _ hq10) rfl ?_
  refine x_iconst C dX11_sendNew_118 ?_
  refine x_iastore C dX11_sendNew_119 rfl h (fun h => ?_)
  refine x_iconst C dX11_sendNew_120 ?_
  refine x_istore C dX11_sendNew_121 (by decide) ?_
  refine x_loc [(0, .inr (.inr (some 0))), (1, .inl e), (2, .inl x2), (3, .inl x3), (4, .inl 0)] ⟨rfl, rfl, rfl, rfl, rfl, trivial⟩ ?_
  exact t_m_sendNew_123 hd9 C _ hR fu _ _ _ _ h
def f_m_sendNew (e : Int) (m : xM) : Option (Int × xM) :=
     (Option.bind (f_m_of e 0 m) fun q0 =>
      (Option.bind (f_m_of e 1 m) fun q1 =>
      (if xib 14 3530 then (if xw q1 < xw (m 1 14) then (if xw (if xw q0 < xw 8 then q0 else 8) = 0 then some (0, m)
      else (Option.bind (f_m_of e 2 m) fun q2 =>
      (Option.bind (f_m_endAt e 117 (xvw [] m)) fun q3 =>
      (Option.bind (f_m_launch e q2 q3 (if xw q0 < xw 8 then q0 else 8) m) fun q4 =>
      (if xw q4.1 = 0 then some (0, q4.2)
      else (Option.bind (f_m_of e 1 q4.2) fun q5 =>
      (Option.bind (f_m_frameAt e q5 0 (xvw [] q4.2)) fun q6 =>
      (Option.bind (f_m_of e 2 q4.2) fun q7 =>
      (if xib q6 3530 then (Option.bind (f_m_frameAt e q5 1 (xvw [] (xu q4.2 1 (xix q6) q7))) fun q8 =>
      (if xib q8 3530 then f_m_sendNew_91 e (if xw q0 < xw 8 then q0 else 8) q5 (xu (xu q4.2 1 (xix q6) q7) 1 (xix q8) (if xw q0 < xw 8 then q0 else 8))
      else none))
      else none)))))))))
      else some (0, m))
      else none)))
set_option maxRecDepth 1000000 in
set_option maxHeartbeats 4000000 in
theorem t_m_sendNew {Γ : xG} {d : Nat} (hd9 : 6 ≤ d) (C : xC Γ lay_M RX11 cX11_sendNew 5 d) (e : Int) {r : Int} {m9 : xM} (hR : xRz Γ lay_M cX11_sendNew r m9) (m : xM) (h : f_m_sendNew e m = some (r, m9)) : xW Γ lay_M 5 0 [(0, .inr (.inr (some 0))), (1, .inl e)] [] m := by
  unfold f_m_sendNew at h
  refine x_bipush C dX11_sendNew_0 (by decide) ?_
  refine x_aload_n C dX11_sendNew_2 rfl ?_
  refine x_iload_n C dX11_sendNew_3 rfl ?_
  refine x_iconst C dX11_sendNew_4 ?_
  obtain ⟨q0, hq0, h⟩ := x_bind h
  refine x_callVI C dX11_sendNew_5 (xin_27 _ (List.mem_of_getElem? (i := 14) rfl)) xy_X11_of (xi_X11_of) (xs_X11_of) (by omega) (by decide) (b := 0) rfl ⟨_, _, rfl⟩ (av := [.inl e, .inl 0]) rfl (Nat.le_of_ble_eq_true rfl) (c_m_of _ _ _ _ _ hq0) rfl ?_
  refine x_min C dX11_sendNew_8 (xin_30 _ (List.mem_of_getElem? (i := 15) rfl)) gm_min_s gm_math gm_min_c (by omega) (Nat.le_of_ble_eq_true rfl) ?_
  refine x_istore_n C dX11_sendNew_11 (by decide) ?_
  refine x_aload_n C dX11_sendNew_12 rfl ?_
  refine x_iload_n C dX11_sendNew_13 rfl ?_
  refine x_iconst C dX11_sendNew_14 ?_
  obtain ⟨q1, hq1, h⟩ := x_bind h
  refine x_callVI C dX11_sendNew_15 (xin_27 _ (List.mem_of_getElem? (i := 14) rfl)) xy_X11_of (xi_X11_of) (xs_X11_of) (by omega) (by decide) (b := 0) rfl ⟨_, _, rfl⟩ (av := [.inl e, .inl 1]) rfl (Nat.le_of_ble_eq_true rfl) (c_m_of _ _ _ _ _ hq1) rfl ?_
  refine x_aload_n C dX11_sendNew_18 rfl ?_
  refine x_getR C dX11_sendNew_19 fF_X11_9 rfl rfl ?_
  refine x_bipush C dX11_sendNew_22 (by decide) ?_
  refine x_iaload C dX11_sendNew_24 rfl h (fun h => ?_)
  refine x_icmp_ge C 53 dX11_sendNew_25 (by decide) h (fun h => ?_) (fun h => ?_)
  · refine x_iconst C dX11_sendNew_53 ?_
    exact x_zreturn hR (by decide) dX11_sendNew_54 h
  · refine x_iload_n C dX11_sendNew_28 rfl ?_
    refine x_if_eq C 53 dX11_sendNew_29 (by decide) h (fun h => ?_) (fun h => ?_)
    · refine x_iconst C dX11_sendNew_53 ?_
      exact x_zreturn hR (by decide) dX11_sendNew_54 h
    · refine x_aload_n C dX11_sendNew_32 rfl ?_
      refine x_iload_n C dX11_sendNew_33 rfl ?_
      refine x_aload_n C dX11_sendNew_34 rfl ?_
      refine x_iload_n C dX11_sendNew_35 rfl ?_
      refine x_iconst C dX11_sendNew_36 ?_
      obtain ⟨q2, hq2, h⟩ := x_bind h
      refine x_callVI C dX11_sendNew_37 (xin_27 _ (List.mem_of_getElem? (i := 14) rfl)) xy_X11_of (xi_X11_of) (xs_X11_of) (by omega) (by decide) (b := 0) rfl ⟨_, _, rfl⟩ (av := [.inl e, .inl 2]) rfl (Nat.le_of_ble_eq_true rfl) (c_m_of _ _ _ _ _ hq2) rfl ?_
      refine x_iload_n C dX11_sendNew_40 rfl ?_
      refine x_bipush C dX11_sendNew_41 (by decide) ?_
      obtain ⟨q3, hq3, h⟩ := x_bind h
      refine x_callSp C dX11_sendNew_43 (xin_27 _ (List.mem_of_getElem? (i := 18) rfl)) xy_X11_endAt (xt_X11_endAt) [] xv_49 (by omega) (by decide) (av := [.inl e, .inl 117]) rfl (Nat.le_of_ble_eq_true rfl) (c_m_endAt _ _ _ _ _ hq3) rfl ?_
      refine x_iload_n C dX11_sendNew_46 rfl ?_
      obtain ⟨q4, hq4, h⟩ := x_bind h
      refine x_callVI C dX11_sendNew_47 (xin_48 _ (List.mem_of_getElem? (i := 11) rfl)) xy_X11_launch (xi_X11_launch) (xs_X11_launch) (by omega) (by decide) (b := 0) rfl ⟨_, _, rfl⟩ (av := [.inl e, .inl q2, .inl q3, .inl (if xw q0 < xw 8 then q0 else 8)]) rfl (Nat.le_of_ble_eq_true rfl) (c_m_launch _ _ _ _ _ _ q4.1 q4.2 hq4) rfl ?_
      refine x_if_ne C 55 dX11_sendNew_50 (by decide) h (fun h => ?_) (fun h => ?_)
      · refine x_aload_n C dX11_sendNew_55 rfl ?_
        refine x_iload_n C dX11_sendNew_56 rfl ?_
        refine x_iconst C dX11_sendNew_57 ?_
        obtain ⟨q5, hq5, h⟩ := x_bind h
        refine x_callVI C dX11_sendNew_58 (xin_27 _ (List.mem_of_getElem? (i := 14) rfl)) xy_X11_of (xi_X11_of) (xs_X11_of) (by omega) (by decide) (b := 0) rfl ⟨_, _, rfl⟩ (av := [.inl e, .inl 1]) rfl (Nat.le_of_ble_eq_true rfl) (c_m_of _ _ _ _ _ hq5) rfl ?_
        refine x_istore_n C dX11_sendNew_61 (by decide) ?_
        refine x_aload_n C dX11_sendNew_62 rfl ?_
        refine x_getR C dX11_sendNew_63 fF_X11_9 rfl rfl ?_
        refine x_iload_n C dX11_sendNew_66 rfl ?_
        refine x_iload_n C dX11_sendNew_67 rfl ?_
        refine x_iconst C dX11_sendNew_68 ?_
        obtain ⟨q6, hq6, h⟩ := x_bind h
        refine x_callSp C dX11_sendNew_69 (xin_28 _ (List.mem_of_getElem? (i := 5) rfl)) xy_X11_frameAt (xt_X11_frameAt) [] xv_49 (by omega) (by decide) (av := [.inl e, .inl q5, .inl 0]) rfl (Nat.le_of_ble_eq_true rfl) (c_m_frameAt _ _ _ _ _ _ hq6) rfl ?_
        refine x_aload_n C dX11_sendNew_72 rfl ?_
        refine x_iload_n C dX11_sendNew_73 rfl ?_
        refine x_iconst C dX11_sendNew_74 ?_
        obtain ⟨q7, hq7, h⟩ := x_bind h
        refine x_callVI C dX11_sendNew_75 (xin_27 _ (List.mem_of_getElem? (i := 14) rfl)) xy_X11_of (xi_X11_of) (xs_X11_of) (by omega) (by decide) (b := 0) rfl ⟨_, _, rfl⟩ (av := [.inl e, .inl 2]) rfl (Nat.le_of_ble_eq_true rfl) (c_m_of _ _ _ _ _ hq7) rfl ?_
        refine x_iastore C dX11_sendNew_78 rfl h (fun h => ?_)
        refine x_aload_n C dX11_sendNew_79 rfl ?_
        refine x_getR C dX11_sendNew_80 fF_X11_9 rfl rfl ?_
        refine x_iload_n C dX11_sendNew_83 rfl ?_
        refine x_iload_n C dX11_sendNew_84 rfl ?_
        refine x_iconst C dX11_sendNew_85 ?_
        obtain ⟨q8, hq8, h⟩ := x_bind h
        refine x_callSp C dX11_sendNew_86 (xin_28 _ (List.mem_of_getElem? (i := 5) rfl)) xy_X11_frameAt (xt_X11_frameAt) [] xv_49 (by omega) (by decide) (av := [.inl e, .inl q5, .inl 1]) rfl (Nat.le_of_ble_eq_true rfl) (c_m_frameAt _ _ _ _ _ _ hq8) rfl ?_
        refine x_iload_n C dX11_sendNew_89 rfl ?_
        refine x_iastore C dX11_sendNew_90 rfl h (fun h => ?_)
        refine x_loc [(0, .inr (.inr (some 0))), (1, .inl e), (2, .inl (if xw q0 < xw 8 then q0 else 8)), (3, .inl q5)] ⟨rfl, rfl, rfl, rfl, trivial⟩ ?_
        exact t_m_sendNew_91 hd9 C _ hR _ _ _ h
      · refine x_iconst C dX11_sendNew_53 ?_
        exact x_zreturn hR (by decide) dX11_sendNew_54 h
theorem c_m_sendNew (l : Launch) (e : Int) (m : xM) (r : Int) (m9 : xM) (h : f_m_sendNew e m = some (r, m9)) : xMet l yX11_sendNew cX11_sendNew 5 (some .boolean) 6 lay_M [.inr (.inr (some 0)), .inl e] m (some (.inl r)) m9 :=
  xMet_z (by decide +kernel) (Nat.le_of_ble_eq_true rfl) (fun Γ C hR hl9 => t_m_sendNew (Nat.le_refl _) C e hR m h)

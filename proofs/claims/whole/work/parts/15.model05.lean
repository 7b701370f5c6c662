/-! ===== yX11_sendAll ===== -/
theorem xy_X11_sendNew : xY yX11_sendNew cX11_sendNew 5 (some .boolean) 1 := ⟨(xin_48 _ (List.mem_of_getElem? (i := 18) rfl)), (xin_1 _ (List.mem_of_getElem? (i := 5) rfl)), by decide, by decide, by decide +kernel⟩
theorem xi_X11_sendNew : Cond.instanceMethod yX11_sendNew ∈ wsL_law := (xin_48 _ (List.mem_of_getElem? (i := 16) rfl))
theorem xs_X11_sendNew : Cond.selects yX11_sendNew.cls yX11_sendNew yX11_sendNew ∈ wsL_law := (xin_48 _ (List.mem_of_getElem? (i := 17) rfl))
theorem xy_X11_sendAgain : xY yX11_sendAgain cX11_sendAgain 3 (some .boolean) 2 := ⟨(xin_48 _ (List.mem_of_getElem? (i := 10) rfl)), (xin_1 _ (List.mem_of_getElem? (i := 5) rfl)), by decide, by decide, by decide +kernel⟩
theorem xi_X11_sendAgain : Cond.instanceMethod yX11_sendAgain ∈ wsL_law := (xin_48 _ (List.mem_of_getElem? (i := 8) rfl))
theorem xs_X11_sendAgain : Cond.selects yX11_sendAgain.cls yX11_sendAgain yX11_sendAgain ∈ wsL_law := (xin_48 _ (List.mem_of_getElem? (i := 9) rfl))
theorem dX11_sendAll_0 : decode cX11_sendAll 0 = .ok (.aload_n 0, 1) := by decide +kernel
theorem dX11_sendAll_1 : decode cX11_sendAll 1 = .ok (.getfield 9, 3) := by decide +kernel
theorem dX11_sendAll_4 : decode cX11_sendAll 4 = .ok (.bipush 35, 2) := by decide +kernel
theorem dX11_sendAll_6 : decode cX11_sendAll 6 = .ok (.aload_n 0, 1) := by decide +kernel
theorem dX11_sendAll_7 : decode cX11_sendAll 7 = .ok (.getfield 9, 3) := by decide +kernel
theorem dX11_sendAll_10 : decode cX11_sendAll 10 = .ok (.iconst 3, 1) := by decide +kernel
theorem dX11_sendAll_11 : decode cX11_sendAll 11 = .ok (.iaload, 1) := by decide +kernel
theorem dX11_sendAll_12 : decode cX11_sendAll 12 = .ok (.iadd, 1) := by decide +kernel
theorem dX11_sendAll_13 : decode cX11_sendAll 13 = .ok (.iaload, 1) := by decide +kernel
theorem dX11_sendAll_14 : decode cX11_sendAll 14 = .ok (.istore_n 2, 1) := by decide +kernel
theorem dX11_sendAll_15 : decode cX11_sendAll 15 = .ok (.aload_n 0, 1) := by decide +kernel
theorem dX11_sendAll_16 : decode cX11_sendAll 16 = .ok (.getfield 9, 3) := by decide +kernel
theorem dX11_sendAll_19 : decode cX11_sendAll 19 = .ok (.iload_n 1, 1) := by decide +kernel
theorem dX11_sendAll_20 : decode cX11_sendAll 20 = .ok (.iconst 5, 1) := by decide +kernel
theorem dX11_sendAll_21 : decode cX11_sendAll 21 = .ok (.invokestatic 69, 3) := by decide +kernel
theorem dX11_sendAll_24 : decode cX11_sendAll 24 = .ok (.iload_n 2, 1) := by decide +kernel
theorem dX11_sendAll_25 : decode cX11_sendAll 25 = .ok (.bipush 28, 2) := by decide +kernel
theorem dX11_sendAll_27 : decode cX11_sendAll 27 = .ok (.iadd, 1) := by decide +kernel
theorem dX11_sendAll_28 : decode cX11_sendAll 28 = .ok (.aload_n 0, 1) := by decide +kernel
theorem dX11_sendAll_29 : decode cX11_sendAll 29 = .ok (.iload_n 1, 1) := by decide +kernel
theorem dX11_sendAll_30 : decode cX11_sendAll 30 = .ok (.iconst 5, 1) := by decide +kernel
theorem dX11_sendAll_31 : decode cX11_sendAll 31 = .ok (.invokevirtual 101, 3) := by decide +kernel
theorem dX11_sendAll_34 : decode cX11_sendAll 34 = .ok (.iload_n 2, 1) := by decide +kernel
theorem dX11_sendAll_35 : decode cX11_sendAll 35 = .ok (.iadd, 1) := by decide +kernel
theorem dX11_sendAll_36 : decode cX11_sendAll 36 = .ok (.invokestatic 96, 3) := by decide +kernel
theorem dX11_sendAll_39 : decode cX11_sendAll 39 = .ok (.iastore, 1) := by decide +kernel
theorem dX11_sendAll_40 : decode cX11_sendAll 40 = .ok (.aload_n 0, 1) := by decide +kernel
theorem dX11_sendAll_41 : decode cX11_sendAll 41 = .ok (.iload_n 1, 1) := by decide +kernel
theorem dX11_sendAll_42 : decode cX11_sendAll 42 = .ok (.bipush 6, 2) := by decide +kernel
theorem dX11_sendAll_44 : decode cX11_sendAll 44 = .ok (.invokevirtual 101, 3) := by decide +kernel
theorem dX11_sendAll_47 : decode cX11_sendAll 47 = .ok (.ifCond .ne 7, 3) := by decide +kernel
theorem dX11_sendAll_50 : decode cX11_sendAll 50 = .ok (.iconst 1, 1) := by decide +kernel
theorem dX11_sendAll_51 : decode cX11_sendAll 51 = .ok (.goto 4, 3) := by decide +kernel
theorem dX11_sendAll_54 : decode cX11_sendAll 54 = .ok (.iconst 0, 1) := by decide +kernel
theorem dX11_sendAll_55 : decode cX11_sendAll 55 = .ok (.istore_n 3, 1) := by decide +kernel
theorem dX11_sendAll_56 : decode cX11_sendAll 56 = .ok (.iload_n 3, 1) := by decide +kernel
theorem dX11_sendAll_57 : decode cX11_sendAll 57 = .ok (.ifCond .eq 36, 3) := by decide +kernel
theorem dX11_sendAll_60 : decode cX11_sendAll 60 = .ok (.aload_n 0, 1) := by decide +kernel
theorem dX11_sendAll_61 : decode cX11_sendAll 61 = .ok (.iload_n 1, 1) := by decide +kernel
theorem dX11_sendAll_62 : decode cX11_sendAll 62 = .ok (.iconst 1, 1) := by decide +kernel
theorem dX11_sendAll_63 : decode cX11_sendAll 63 = .ok (.invokevirtual 156, 3) := by decide +kernel
theorem dX11_sendAll_66 : decode cX11_sendAll 66 = .ok (.istore 4, 2) := by decide +kernel
theorem dX11_sendAll_68 : decode cX11_sendAll 68 = .ok (.iload 4, 2) := by decide +kernel
theorem dX11_sendAll_70 : decode cX11_sendAll 70 = .ok (.iconst (-1), 1) := by decide +kernel
theorem dX11_sendAll_71 : decode cX11_sendAll 71 = .ok (.if_icmp .eq 13, 3) := by decide +kernel
theorem dX11_sendAll_74 : decode cX11_sendAll 74 = .ok (.aload_n 0, 1) := by decide +kernel
theorem dX11_sendAll_75 : decode cX11_sendAll 75 = .ok (.iload_n 1, 1) := by decide +kernel
theorem dX11_sendAll_76 : decode cX11_sendAll 76 = .ok (.iload 4, 2) := by decide +kernel
theorem dX11_sendAll_78 : decode cX11_sendAll 78 = .ok (.invokevirtual 178, 3) := by decide +kernel
theorem dX11_sendAll_81 : decode cX11_sendAll 81 = .ok (.goto 8, 3) := by decide +kernel
theorem dX11_sendAll_84 : decode cX11_sendAll 84 = .ok (.aload_n 0, 1) := by decide +kernel
theorem dX11_sendAll_85 : decode cX11_sendAll 85 = .ok (.iload_n 1, 1) := by decide +kernel
theorem dX11_sendAll_86 : decode cX11_sendAll 86 = .ok (.invokevirtual 182, 3) := by decide +kernel
theorem dX11_sendAll_89 : decode cX11_sendAll 89 = .ok (.istore_n 3, 1) := by decide +kernel
theorem dX11_sendAll_90 : decode cX11_sendAll 90 = .ok (.goto (-34), 3) := by decide +kernel
theorem dX11_sendAll_93 : decode cX11_sendAll 93 = .ok (.return_, 1) := by decide +kernel
def f_m_sendAll_89 (e : Int) (k56 : Int → xM → Option (xM)) (s0 : Int) (m : xM) : Option (xM) :=
     k56 s0 m
set_option maxRecDepth 1000000 in
set_option maxHeartbeats 4000000 in
theorem t_m_sendAll_89 {Γ : xG} {d : Nat} (hd9 : 7 ≤ d) (C : xC Γ lay_M RX11 cX11_sendAll 5 d) (e : Int) {m9 : xM} (hR : xRv Γ lay_M cX11_sendAll m9) {k56 : Int → xM → Option (xM)} (hk56 : ∀ (x3 : Int) (m : xM), k56 x3 m = some m9 → xW Γ lay_M 5 56 [(0, .inr (.inr (some 0))), (1, .inl e), (3, .inl x3)] [] m) (s0 : Int) (m : xM) (h : f_m_sendAll_89 e k56 s0 m = some m9) : xW Γ lay_M 5 89 [(0, .inr (.inr (some 0))), (1, .inl e)] [.inl s0] m := by
  unfold f_m_sendAll_89 at h
  refine x_istore_n C dX11_sendAll_89 (by decide) ?_
  refine x_goto C 56 dX11_sendAll_90 (by decide) ?_
  refine x_loc [(0, .inr (.inr (some 0))), (1, .inl e), (3, .inl s0)] ⟨rfl, rfl, rfl, trivial⟩ ?_
  exact hk56 _ _ h
def f_m_sendAll_56 (e : Int) : Nat → Int → xM → Option (xM)
  | 0, _, _ => none
  | n + 1, x3, m =>
     (if xw x3 = 0 then some m
      else (Option.bind (f_m_firstThat e 1 m) fun q3 =>
      (if xw q3 = xw (-1) then (Option.bind (f_m_sendNew e m) fun q4 =>
      f_m_sendAll_89 e (f_m_sendAll_56 e n) q4.1 q4.2)
      else (Option.bind (f_m_sendAgain e q3 m) fun q5 =>
      f_m_sendAll_89 e (f_m_sendAll_56 e n) q5.1 q5.2))))
set_option maxRecDepth 1000000 in
set_option maxHeartbeats 4000000 in
theorem t_m_sendAll_56 {Γ : xG} {d : Nat} (hd9 : 7 ≤ d) (C : xC Γ lay_M RX11 cX11_sendAll 5 d) (e : Int) {m9 : xM} (hR : xRv Γ lay_M cX11_sendAll m9) : ∀ (n : Nat) (x3 : Int) (m : xM), f_m_sendAll_56 e n x3 m = some m9 → xW Γ lay_M 5 56 [(0, .inr (.inr (some 0))), (1, .inl e), (3, .inl x3)] [] m := by
  intro n
  induction n with
  | zero => intro _ _ h; cases h
  | succ n ih =>
    intro x3 m h
    rw [f_m_sendAll_56] at h
    refine x_iload_n C dX11_sendAll_56 rfl ?_
    refine x_if_eq C 93 dX11_sendAll_57 (by decide) h (fun h => ?_) (fun h => ?_)
    · exact x_returnV hR dX11_sendAll_93 h
    · refine x_aload_n C dX11_sendAll_60 rfl ?_
      refine x_iload_n C dX11_sendAll_61 rfl ?_
      refine x_iconst C dX11_sendAll_62 ?_
      obtain ⟨q3, hq3, h⟩ := x_bind h
      refine x_callVI C dX11_sendAll_63 (xin_47 _ (List.mem_of_getElem? (i := 15) rfl)) xy_X11_firstThat (xi_X11_firstThat) (xs_X11_firstThat) (by omega) (by decide) (b := 0) rfl ⟨_, _, rfl⟩ (av := [.inl e, .inl 1]) rfl (Nat.le_of_ble_eq_true rfl) (c_m_firstThat _ _ _ _ _ hq3) rfl ?_
      refine x_istore C dX11_sendAll_66 (by decide) ?_
      refine x_iload C dX11_sendAll_68 rfl ?_
      refine x_iconst C dX11_sendAll_70 ?_
      refine x_icmp_eq C 84 dX11_sendAll_71 (by decide) h (fun h => ?_) (fun h => ?_)
      · refine x_aload_n C dX11_sendAll_84 rfl ?_
        refine x_iload_n C dX11_sendAll_85 rfl ?_
        obtain ⟨q4, hq4, h⟩ := x_bind h
        refine x_callVI C dX11_sendAll_86 (xin_48 _ (List.mem_of_getElem? (i := 15) rfl)) xy_X11_sendNew (xi_X11_sendNew) (xs_X11_sendNew) (by omega) (by decide) (b := 0) rfl ⟨_, _, rfl⟩ (av := [.inl e]) rfl (Nat.le_of_ble_eq_true rfl) (c_m_sendNew _ _ _ q4.1 q4.2 hq4) rfl ?_
        refine x_loc [(0, .inr (.inr (some 0))), (1, .inl e)] ⟨rfl, rfl, trivial⟩ ?_
        exact t_m_sendAll_89 hd9 C _ hR ih _ _ h
      · refine x_aload_n C dX11_sendAll_74 rfl ?_
        refine x_iload_n C dX11_sendAll_75 rfl ?_
        refine x_iload C dX11_sendAll_76 rfl ?_
        obtain ⟨q5, hq5, h⟩ := x_bind h
        refine x_callVI C dX11_sendAll_78 (xin_48 _ (List.mem_of_getElem? (i := 7) rfl)) xy_X11_sendAgain (xi_X11_sendAgain) (xs_X11_sendAgain) (by omega) (by decide) (b := 0) rfl ⟨_, _, rfl⟩ (av := [.inl e, .inl q3]) rfl (Nat.le_of_ble_eq_true rfl) (c_m_sendAgain _ _ _ _ q5.1 q5.2 hq5) rfl ?_
        refine x_goto C 89 dX11_sendAll_81 (by decide) ?_
        refine x_loc [(0, .inr (.inr (some 0))), (1, .inl e)] ⟨rfl, rfl, trivial⟩ ?_
        exact t_m_sendAll_89 hd9 C _ hR ih _ _ h
def f_m_sendAll_55 (e : Int) (s0 : Int) (m : xM) : Option (xM) :=
     f_m_sendAll_56 e fu s0 m
set_option maxRecDepth 1000000 in
set_option maxHeartbeats 4000000 in
theorem t_m_sendAll_55 {Γ : xG} {d : Nat} (hd9 : 7 ≤ d) (C : xC Γ lay_M RX11 cX11_sendAll 5 d) (e : Int) {m9 : xM} (hR : xRv Γ lay_M cX11_sendAll m9) (s0 : Int) (m : xM) (h : f_m_sendAll_55 e s0 m = some m9) : xW Γ lay_M 5 55 [(0, .inr (.inr (some 0))), (1, .inl e)] [.inl s0] m := by
  unfold f_m_sendAll_55 at h
  refine x_istore_n C dX11_sendAll_55 (by decide) ?_
  refine x_loc [(0, .inr (.inr (some 0))), (1, .inl e), (3, .inl s0)] ⟨rfl, rfl, rfl, trivial⟩ ?_
  exact t_m_sendAll_56 hd9 C _ hR fu _ _ h
def f_m_sendAll_40 (e : Int) (m : xM) : Option (xM) :=
     (Option.bind (f_m_of e 6 m) fun q2 =>
      (if xw q2 = 0 then f_m_sendAll_55 e 1 m
      else f_m_sendAll_55 e 0 m))
set_option maxRecDepth 1000000 in
set_option maxHeartbeats 4000000 in
theorem t_m_sendAll_40 {Γ : xG} {d : Nat} (hd9 : 7 ≤ d) (C : xC Γ lay_M RX11 cX11_sendAll 5 d) (e : Int) {m9 : xM} (hR : xRv Γ lay_M cX11_sendAll m9) (m : xM) (h : f_m_sendAll_40 e m = some m9) : xW Γ lay_M 5 40 [(0, .inr (.inr (some 0))), (1, .inl e)] [] m := by
  unfold f_m_sendAll_40 at h
  refine x_aload_n C dX11_sendAll_40 rfl ?_
  refine x_iload_n C dX11_sendAll_41 rfl ?_
  refine x_bipush C dX11_sendAll_42 (by decide) ?_
  obtain ⟨q2, hq2, h⟩ := x_bind h
  refine x_callVI C dX11_sendAll_44 (xin_27 _ (List.mem_of_getElem? (i := 14) rfl)) xy_X11_of (xi_X11_of) (xs_X11_of) (by omega) (by decide) (b := 0) rfl ⟨_, _, rfl⟩ (av := [.inl e, .inl 6]) rfl (Nat.le_of_ble_eq_true rfl) (c_m_of _ _ _ _ _ hq2) rfl ?_
  refine x_if_ne C 54 dX11_sendAll_47 (by decide) h (fun h => ?_) (fun h => ?_)
  · refine x_iconst C dX11_sendAll_54 ?_
    refine x_loc [(0, .inr (.inr (some 0))), (1, .inl e)] ⟨rfl, rfl, trivial⟩ ?_
    exact t_m_sendAll_55 hd9 C _ hR _ _ h
  · refine x_iconst C dX11_sendAll_50 ?_
    refine x_goto C 55 dX11_sendAll_51 (by decide) ?_
    refine x_loc [(0, .inr (.inr (some 0))), (1, .inl e)] ⟨rfl, rfl, trivial⟩ ?_
    exact t_m_sendAll_55 hd9 C _ hR _ _ h
def f_m_sendAll (e : Int) (m : xM) : Option (xM) :=
     (if xib 3 3530 then (if xib (35 + (m 1 3)) 3530 then (Option.bind (f_m_endAt e 5 (xvw [] m)) fun q0 =>
      (Option.bind (f_m_of e 5 m) fun q1 =>
      (if xib q0 3530 then f_m_sendAll_40 e (xu m 1 (xix q0) (if xw (q1 + (m 1 (xix (35 + (m 1 3))))) < xw ((m 1 (xix (35 + (m 1 3)))) + 28) then q1 + (m 1 (xix (35 + (m 1 3)))) else (m 1 (xix (35 + (m 1 3)))) + 28))
      else none)))
      else none)
      else none)
set_option maxRecDepth 1000000 in
set_option maxHeartbeats 4000000 in
theorem t_m_sendAll {Γ : xG} {d : Nat} (hd9 : 7 ≤ d) (C : xC Γ lay_M RX11 cX11_sendAll 5 d) (e : Int) {m9 : xM} (hR : xRv Γ lay_M cX11_sendAll m9) (m : xM) (h : f_m_sendAll e m = some m9) : xW Γ lay_M 5 0 [(0, .inr (.inr (some 0))), (1, .inl e)] [] m := by
  unfold f_m_sendAll at h
  refine x_aload_n C dX11_sendAll_0 rfl ?_
  refine x_getR C dX11_sendAll_1 fF_X11_9 rfl rfl ?_
  refine x_bipush C dX11_sendAll_4 (by decide) ?_
  refine x_aload_n C dX11_sendAll_6 rfl ?_
  refine x_getR C dX11_sendAll_7 fF_X11_9 rfl rfl ?_
  refine x_iconst C dX11_sendAll_10 ?_
  refine x_iaload C dX11_sendAll_11 rfl h (fun h => ?_)
  refine x_iadd C dX11_sendAll_12 ?_
  refine x_iaload C dX11_sendAll_13 rfl h (fun h => ?_)
  refine x_istore_n C dX11_sendAll_14 (by decide) ?_
  refine x_aload_n C dX11_sendAll_15 rfl ?_
  refine x_getR C dX11_sendAll_16 fF_X11_9 rfl rfl ?_
  refine x_iload_n C dX11_sendAll_19 rfl ?_
  refine x_iconst C dX11_sendAll_20 ?_
  obtain ⟨q0, hq0, h⟩ := x_bind h
  refine x_callSp C dX11_sendAll_21 (xin_27 _ (List.mem_of_getElem? (i := 18) rfl)) xy_X11_endAt (xt_X11_endAt) [] xv_49 (by omega) (by decide) (av := [.inl e, .inl 5]) rfl (Nat.le_of_ble_eq_true rfl) (c_m_endAt _ _ _ _ _ hq0) rfl ?_
  refine x_iload_n C dX11_sendAll_24 rfl ?_
  refine x_bipush C dX11_sendAll_25 (by decide) ?_
  refine x_iadd C dX11_sendAll_27 ?_
  refine x_aload_n C dX11_sendAll_28 rfl ?_
  refine x_iload_n C dX11_sendAll_29 rfl ?_
  refine x_iconst C dX11_sendAll_30 ?_
  obtain ⟨q1, hq1, h⟩ := x_bind h
  refine x_callVI C dX11_sendAll_31 (xin_27 _ (List.mem_of_getElem? (i := 14) rfl)) xy_X11_of (xi_X11_of) (xs_X11_of) (by omega) (by decide) (b := 0) rfl ⟨_, _, rfl⟩ (av := [.inl e, .inl 5]) rfl (Nat.le_of_ble_eq_true rfl) (c_m_of _ _ _ _ _ hq1) rfl ?_
  refine x_iload_n C dX11_sendAll_34 rfl ?_
  refine x_iadd C dX11_sendAll_35 ?_
  refine x_min C dX11_sendAll_36 (xin_30 _ (List.mem_of_getElem? (i := 15) rfl)) gm_min_s gm_math gm_min_c (by omega) (Nat.le_of_ble_eq_true rfl) ?_
  refine x_iastore C dX11_sendAll_39 rfl h (fun h => ?_)
  refine x_loc [(0, .inr (.inr (some 0))), (1, .inl e)] ⟨rfl, rfl, trivial⟩ ?_
  exact t_m_sendAll_40 hd9 C _ hR _ h
theorem c_m_sendAll (l : Launch) (e : Int) (m m9 : xM) (h : f_m_sendAll e m = some m9) : xMet l yX11_sendAll cX11_sendAll 5 none 7 lay_M [.inr (.inr (some 0)), .inl e] m none m9 :=
  xMet_v (by decide +kernel) (Nat.le_of_ble_eq_true rfl) (fun Γ C hR hl9 => t_m_sendAll (Nat.le_refl _) C e hR m h)
/-! ===== yX11_passOnline ===== -/
theorem xy_X11_arrivals : xY yX11_arrivals cX11_arrivals 2 none 0 := ⟨(xin_46 _ (List.mem_of_getElem? (i := 11) rfl)), (xin_1 _ (List.mem_of_getElem? (i := 5) rfl)), by decide, by decide, by decide +kernel⟩
theorem xi_X11_arrivals : Cond.instanceMethod yX11_arrivals ∈ wsL_law := (xin_46 _ (List.mem_of_getElem? (i := 9) rfl))
theorem xs_X11_arrivals : Cond.selects yX11_arrivals.cls yX11_arrivals yX11_arrivals ∈ wsL_law := (xin_46 _ (List.mem_of_getElem? (i := 10) rfl))
theorem xy_X11_rise : xY yX11_rise cX11_rise 2 none 0 := ⟨(xin_48 _ (List.mem_of_getElem? (i := 2) rfl)), (xin_1 _ (List.mem_of_getElem? (i := 5) rfl)), by decide, by decide, by decide +kernel⟩
theorem xi_X11_rise : Cond.instanceMethod yX11_rise ∈ wsL_law := (xin_48 _ (List.mem_of_getElem? (i := 0) rfl))
theorem xs_X11_rise : Cond.selects yX11_rise.cls yX11_rise yX11_rise ∈ wsL_law := (xin_48 _ (List.mem_of_getElem? (i := 1) rfl))
theorem xy_X11_sendAll : xY yX11_sendAll cX11_sendAll 5 none 1 := ⟨(xin_48 _ (List.mem_of_getElem? (i := 6) rfl)), (xin_1 _ (List.mem_of_getElem? (i := 5) rfl)), by decide, by decide, by decide +kernel⟩
theorem xi_X11_sendAll : Cond.instanceMethod yX11_sendAll ∈ wsL_law := (xin_48 _ (List.mem_of_getElem? (i := 4) rfl))
theorem xs_X11_sendAll : Cond.selects yX11_sendAll.cls yX11_sendAll yX11_sendAll ∈ wsL_law := (xin_48 _ (List.mem_of_getElem? (i := 5) rfl))
theorem xy_X11_timer : xY yX11_timer cX11_timer 4 none 1 := ⟨(xin_47 _ (List.mem_of_getElem? (i := 14) rfl)), (xin_1 _ (List.mem_of_getElem? (i := 5) rfl)), by decide, by decide, by decide +kernel⟩
theorem xi_X11_timer : Cond.instanceMethod yX11_timer ∈ wsL_law := (xin_47 _ (List.mem_of_getElem? (i := 12) rfl))
theorem xs_X11_timer : Cond.selects yX11_timer.cls yX11_timer yX11_timer ∈ wsL_law := (xin_47 _ (List.mem_of_getElem? (i := 13) rfl))
theorem xy_X11_loseCarrier : xY yX11_loseCarrier cX11_loseCarrier 1 none 0 := ⟨(xin_46 _ (List.mem_of_getElem? (i := 7) rfl)), (xin_1 _ (List.mem_of_getElem? (i := 5) rfl)), by decide, by decide, by decide +kernel⟩
theorem xi_X11_loseCarrier : Cond.instanceMethod yX11_loseCarrier ∈ wsL_law := (xin_46 _ (List.mem_of_getElem? (i := 5) rfl))
theorem xs_X11_loseCarrier : Cond.selects yX11_loseCarrier.cls yX11_loseCarrier yX11_loseCarrier ∈ wsL_law := (xin_46 _ (List.mem_of_getElem? (i := 6) rfl))
theorem dX11_passOnline_0 : decode cX11_passOnline 0 = .ok (.aload_n 0, 1) := by decide +kernel
theorem dX11_passOnline_1 : decode cX11_passOnline 1 = .ok (.getfield 9, 3) := by decide +kernel
theorem dX11_passOnline_4 : decode cX11_passOnline 4 = .ok (.iconst 2, 1) := by decide +kernel
theorem dX11_passOnline_5 : decode cX11_passOnline 5 = .ok (.iaload, 1) := by decide +kernel
theorem dX11_passOnline_6 : decode cX11_passOnline 6 = .ok (.ifCond .ne 8, 3) := by decide +kernel
theorem dX11_passOnline_9 : decode cX11_passOnline 9 = .ok (.aload_n 0, 1) := by decide +kernel
theorem dX11_passOnline_10 : decode cX11_passOnline 10 = .ok (.invokevirtual 185, 3) := by decide +kernel
theorem dX11_passOnline_13 : decode cX11_passOnline 13 = .ok (.return_, 1) := by decide +kernel
theorem dX11_passOnline_14 : decode cX11_passOnline 14 = .ok (.aload_n 0, 1) := by decide +kernel
theorem dX11_passOnline_15 : decode cX11_passOnline 15 = .ok (.invokevirtual 188, 3) := by decide +kernel
theorem dX11_passOnline_18 : decode cX11_passOnline 18 = .ok (.iconst 0, 1) := by decide +kernel
theorem dX11_passOnline_19 : decode cX11_passOnline 19 = .ok (.istore_n 1, 1) := by decide +kernel
theorem dX11_passOnline_20 : decode cX11_passOnline 20 = .ok (.iload_n 1, 1) := by decide +kernel
theorem dX11_passOnline_21 : decode cX11_passOnline 21 = .ok (.iconst 2, 1) := by decide +kernel
theorem dX11_passOnline_22 : decode cX11_passOnline 22 = .ok (.if_icmp .ge 22, 3) := by decide +kernel
theorem dX11_passOnline_25 : decode cX11_passOnline 25 = .ok (.aload_n 0, 1) := by decide +kernel
theorem dX11_passOnline_26 : decode cX11_passOnline 26 = .ok (.iconst 2, 1) := by decide +kernel
theorem dX11_passOnline_27 : decode cX11_passOnline 27 = .ok (.invokevirtual 77, 3) := by decide +kernel
theorem dX11_passOnline_30 : decode cX11_passOnline 30 = .ok (.ifCond .eq 14, 3) := by decide +kernel
theorem dX11_passOnline_33 : decode cX11_passOnline 33 = .ok (.aload_n 0, 1) := by decide +kernel
theorem dX11_passOnline_34 : decode cX11_passOnline 34 = .ok (.iload_n 1, 1) := by decide +kernel
theorem dX11_passOnline_35 : decode cX11_passOnline 35 = .ok (.invokevirtual 191, 3) := by decide +kernel
theorem dX11_passOnline_38 : decode cX11_passOnline 38 = .ok (.iinc 1 1, 3) := by decide +kernel
theorem dX11_passOnline_41 : decode cX11_passOnline 41 = .ok (.goto (-21), 3) := by decide +kernel
theorem dX11_passOnline_44 : decode cX11_passOnline 44 = .ok (.aload_n 0, 1) := by decide +kernel
theorem dX11_passOnline_45 : decode cX11_passOnline 45 = .ok (.iconst 2, 1) := by decide +kernel
theorem dX11_passOnline_46 : decode cX11_passOnline 46 = .ok (.invokevirtual 77, 3) := by decide +kernel
theorem dX11_passOnline_49 : decode cX11_passOnline 49 = .ok (.ifCond .eq 17, 3) := by decide +kernel
theorem dX11_passOnline_52 : decode cX11_passOnline 52 = .ok (.aload_n 0, 1) := by decide +kernel
theorem dX11_passOnline_53 : decode cX11_passOnline 53 = .ok (.invokevirtual 194, 3) := by decide +kernel
theorem dX11_passOnline_56 : decode cX11_passOnline 56 = .ok (.aload_n 0, 1) := by decide +kernel
theorem dX11_passOnline_57 : decode cX11_passOnline 57 = .ok (.iconst 0, 1) := by decide +kernel
theorem dX11_passOnline_58 : decode cX11_passOnline 58 = .ok (.invokevirtual 197, 3) := by decide +kernel
theorem dX11_passOnline_61 : decode cX11_passOnline 61 = .ok (.aload_n 0, 1) := by decide +kernel
theorem dX11_passOnline_62 : decode cX11_passOnline 62 = .ok (.iconst 1, 1) := by decide +kernel
theorem dX11_passOnline_63 : decode cX11_passOnline 63 = .ok (.invokevirtual 197, 3) := by decide +kernel
theorem dX11_passOnline_66 : decode cX11_passOnline 66 = .ok (.return_, 1) := by decide +kernel
def f_m_passOnline_44 (m : xM) : Option (xM) :=
     (Option.bind (f_m_isPhase 2 m) fun q1 =>
      (if xw q1 = 0 then some m
      else (Option.bind (f_m_rise m) fun q2 =>
      (Option.bind (f_m_sendAll 0 q2) fun q3 =>
      (Option.bind (f_m_sendAll 1 q3) fun q4 =>
      some q4)))))
set_option maxRecDepth 1000000 in
set_option maxHeartbeats 4000000 in
theorem t_m_passOnline_44 {Γ : xG} {d : Nat} (hd9 : 8 ≤ d) (C : xC Γ lay_M RX11 cX11_passOnline 2 d) {m9 : xM} (hR : xRv Γ lay_M cX11_passOnline m9) (m : xM) (h : f_m_passOnline_44 m = some m9) : xW Γ lay_M 2 44 [(0, .inr (.inr (some 0)))] [] m := by
  unfold f_m_passOnline_44 at h
  refine x_aload_n C dX11_passOnline_44 rfl ?_
  refine x_iconst C dX11_passOnline_45 ?_
  obtain ⟨q1, hq1, h⟩ := x_bind h
  refine x_callVI C dX11_passOnline_46 (xin_25 _ (List.mem_of_getElem? (i := 12) rfl)) xy_X11_isPhase (xi_X11_isPhase) (xs_X11_isPhase) (by omega) (by decide) (b := 0) rfl ⟨_, _, rfl⟩ (av := [.inl 2]) rfl (Nat.le_of_ble_eq_true rfl) (c_m_isPhase _ _ _ _ hq1) rfl ?_
  refine x_if_eq C 66 dX11_passOnline_49 (by decide) h (fun h => ?_) (fun h => ?_)
  · exact x_returnV hR dX11_passOnline_66 h
  · refine x_aload_n C dX11_passOnline_52 rfl ?_
    obtain ⟨q2, hq2, h⟩ := x_bind h
    refine x_callVI C dX11_passOnline_53 (xin_47 _ (List.mem_of_getElem? (i := 23) rfl)) xy_X11_rise (xi_X11_rise) (xs_X11_rise) (by omega) (by decide) (b := 0) rfl ⟨_, _, rfl⟩ (av := []) rfl (Nat.le_of_ble_eq_true rfl) (c_m_rise _ _ _ hq2) rfl ?_
    refine x_aload_n C dX11_passOnline_56 rfl ?_
    refine x_iconst C dX11_passOnline_57 ?_
    obtain ⟨q3, hq3, h⟩ := x_bind h
    refine x_callVI C dX11_passOnline_58 (xin_48 _ (List.mem_of_getElem? (i := 3) rfl)) xy_X11_sendAll (xi_X11_sendAll) (xs_X11_sendAll) (by omega) (by decide) (b := 0) rfl ⟨_, _, rfl⟩ (av := [.inl 0]) rfl (Nat.le_of_ble_eq_true rfl) (c_m_sendAll _ _ _ _ hq3) rfl ?_
    refine x_aload_n C dX11_passOnline_61 rfl ?_
    refine x_iconst C dX11_passOnline_62 ?_
    obtain ⟨q4, hq4, h⟩ := x_bind h
    refine x_callVI C dX11_passOnline_63 (xin_48 _ (List.mem_of_getElem? (i := 3) rfl)) xy_X11_sendAll (xi_X11_sendAll) (xs_X11_sendAll) (by omega) (by decide) (b := 0) rfl ⟨_, _, rfl⟩ (av := [.inl 1]) rfl (Nat.le_of_ble_eq_true rfl) (c_m_sendAll _ _ _ _ hq4) rfl ?_
    exact x_returnV hR dX11_passOnline_66 h
def f_m_passOnline_20 : Nat → Int → xM → Option (xM)
  | 0, _, _ => none
  | n + 1, x1, m =>
     (if xw x1 < xw 2 then (Option.bind (f_m_isPhase 2 m) fun q5 =>
      (if xw q5 = 0 then f_m_passOnline_44 m
      else (Option.bind (f_m_timer x1 m) fun q6 =>
      f_m_passOnline_20 n (x1 + 1) q6)))
      else f_m_passOnline_44 m)
set_option maxRecDepth 1000000 in
set_option maxHeartbeats 4000000 in
theorem t_m_passOnline_20 {Γ : xG} {d : Nat} (hd9 : 8 ≤ d) (C : xC Γ lay_M RX11 cX11_passOnline 2 d) {m9 : xM} (hR : xRv Γ lay_M cX11_passOnline m9) : ∀ (n : Nat) (x1 : Int) (m : xM), f_m_passOnline_20 n x1 m = some m9 → xW Γ lay_M 2 20 [(0, .inr (.inr (some 0))), (1, .inl x1)] [] m := by
  intro n
  induction n with
  | zero => intro _ _ h; cases h
  | succ n ih =>
    intro x1 m h
    rw [f_m_passOnline_20] at h
    refine x_iload_n C dX11_passOnline_20 rfl ?_
    refine x_iconst C dX11_passOnline_21 ?_
    refine x_icmp_ge C 44 dX11_passOnline_22 (by decide) h (fun h => ?_) (fun h => ?_)
    · refine x_loc [(0, .inr (.inr (some 0)))] ⟨rfl, trivial⟩ ?_
      exact t_m_passOnline_44 hd9 C hR _ h
    · refine x_aload_n C dX11_passOnline_25 rfl ?_
      refine x_iconst C dX11_passOnline_26 ?_
      obtain ⟨q5, hq5, h⟩ := x_bind h
      refine x_callVI C dX11_passOnline_27 (xin_25 _ (List.mem_of_getElem? (i := 12) rfl)) xy_X11_isPhase (xi_X11_isPhase) (xs_X11_isPhase) (by omega) (by decide) (b := 0) rfl ⟨_, _, rfl⟩ (av := [.inl 2]) rfl (Nat.le_of_ble_eq_true rfl) (c_m_isPhase _ _ _ _ hq5) rfl ?_
      refine x_if_eq C 44 dX11_passOnline_30 (by decide) h (fun h => ?_) (fun h => ?_)
      · refine x_loc [(0, .inr (.inr (some 0)))] ⟨rfl, trivial⟩ ?_
        exact t_m_passOnline_44 hd9 C hR _ h
      · refine x_aload_n C dX11_passOnline_33 rfl ?_
        refine x_iload_n C dX11_passOnline_34 rfl ?_
        obtain ⟨q6, hq6, h⟩ := x_bind h
        refine x_callVI C dX11_passOnline_35 (xin_47 _ (List.mem_of_getElem? (i := 11) rfl)) xy_X11_timer (xi_X11_timer) (xs_X11_timer) (by omega) (by decide) (b := 0) rfl ⟨_, _, rfl⟩ (av := [.inl x1]) rfl (Nat.le_of_ble_eq_true rfl) (c_m_timer _ _ _ _ hq6) rfl ?_
        refine x_iinc C dX11_passOnline_38 (by decide) rfl ?_
        refine x_goto C 20 dX11_passOnline_41 (by decide) ?_
        refine x_loc [(0, .inr (.inr (some 0))), (1, .inl (x1 + 1))] ⟨rfl, rfl, trivial⟩ ?_
        exact ih _ _ h
def f_m_passOnline (m : xM) : Option (xM) :=
     (if xib 2 3530 then (if xw (m 1 2) = 0 then (Option.bind (f_m_loseCarrier m) fun q7 =>
      some q7)
      else (Option.bind (f_m_arrivals m) fun q0 =>
      f_m_passOnline_20 fu 0 q0))
      else none)
set_option maxRecDepth 1000000 in
set_option maxHeartbeats 4000000 in
theorem t_m_passOnline {Γ : xG} {d : Nat} (hd9 : 8 ≤ d) (C : xC Γ lay_M RX11 cX11_passOnline 2 d) {m9 : xM} (hR : xRv Γ lay_M cX11_passOnline m9) (m : xM) (h : f_m_passOnline m = some m9) : xW Γ lay_M 2 0 [(0, .inr (.inr (some 0)))] [] m := by
  unfold f_m_passOnline at h
  refine x_aload_n C dX11_passOnline_0 rfl ?_
  refine x_getR C dX11_passOnline_1 fF_X11_9 rfl rfl ?_
  refine x_iconst C dX11_passOnline_4 ?_
  refine x_iaload C dX11_passOnline_5 rfl h (fun h => ?_)
  refine x_if_ne C 14 dX11_passOnline_6 (by decide) h (fun h => ?_) (fun h => ?_)
  · refine x_aload_n C dX11_passOnline_14 rfl ?_
    obtain ⟨q0, hq0, h⟩ := x_bind h
    refine x_callVI C dX11_passOnline_15 (xin_46 _ (List.mem_of_getElem? (i := 8) rfl)) xy_X11_arrivals (xi_X11_arrivals) (xs_X11_arrivals) (by omega) (by decide) (b := 0) rfl ⟨_, _, rfl⟩ (av := []) rfl (Nat.le_of_ble_eq_true rfl) (c_m_arrivals _ _ _ hq0) rfl ?_
    refine x_iconst C dX11_passOnline_18 ?_
    refine x_istore_n C dX11_passOnline_19 (by decide) ?_
    refine x_loc [(0, .inr (.inr (some 0))), (1, .inl 0)] ⟨rfl, rfl, trivial⟩ ?_
    exact t_m_passOnline_20 hd9 C hR fu _ _ h
  · refine x_aload_n C dX11_passOnline_9 rfl ?_
    obtain ⟨q7, hq7, h⟩ := x_bind h
    refine x_callVI C dX11_passOnline_10 (xin_46 _ (List.mem_of_getElem? (i := 4) rfl)) xy_X11_loseCarrier (xi_X11_loseCarrier) (xs_X11_loseCarrier) (by omega) (by decide) (b := 0) rfl ⟨_, _, rfl⟩ (av := []) rfl (Nat.le_of_ble_eq_true rfl) (c_m_loseCarrier _ _ _ hq7) rfl ?_
    exact x_returnV hR dX11_passOnline_13 h
theorem c_m_passOnline (l : Launch) (m m9 : xM) (h : f_m_passOnline m = some m9) : xMet l yX11_passOnline cX11_passOnline 2 none 8 lay_M [.inr (.inr (some 0))] m none m9 :=
  xMet_v (by decide +kernel) (Nat.le_of_ble_eq_true rfl) (fun Γ C hR hl9 => t_m_passOnline (Nat.le_refl _) C hR m h)
/-! ===== yX11_passTick ===== -/
theorem xy_X11_passTraining : xY yX11_passTraining cX11_passTraining 1 none 0 := ⟨(xin_45 _ (List.mem_of_getElem? (i := 3) rfl)), (xin_1 _ (List.mem_of_getElem? (i := 5) rfl)), by decide, by decide, by decide +kernel⟩
theorem xi_X11_passTraining : Cond.instanceMethod yX11_passTraining ∈ wsL_law := (xin_45 _ (List.mem_of_getElem? (i := 1) rfl))
theorem xs_X11_passTraining : Cond.selects yX11_passTraining.cls yX11_passTraining yX11_passTraining ∈ wsL_law := (xin_45 _ (List.mem_of_getElem? (i := 2) rfl))
theorem xy_X11_passOnline : xY yX11_passOnline cX11_passOnline 2 none 0 := ⟨(xin_46 _ (List.mem_of_getElem? (i := 3) rfl)), (xin_1 _ (List.mem_of_getElem? (i := 5) rfl)), by decide, by decide, by decide +kernel⟩
theorem xi_X11_passOnline : Cond.instanceMethod yX11_passOnline ∈ wsL_law := (xin_46 _ (List.mem_of_getElem? (i := 1) rfl))
theorem xs_X11_passOnline : Cond.selects yX11_passOnline.cls yX11_passOnline yX11_passOnline ∈ wsL_law := (xin_46 _ (List.mem_of_getElem? (i := 2) rfl))
theorem xy_X11_passLoss : xY yX11_passLoss cX11_passLoss 1 none 0 := ⟨(xin_48 _ (List.mem_of_getElem? (i := 22) rfl)), (xin_1 _ (List.mem_of_getElem? (i := 5) rfl)), by decide, by decide, by decide +kernel⟩
theorem xi_X11_passLoss : Cond.instanceMethod yX11_passLoss ∈ wsL_law := (xin_48 _ (List.mem_of_getElem? (i := 20) rfl))
theorem xs_X11_passLoss : Cond.selects yX11_passLoss.cls yX11_passLoss yX11_passLoss ∈ wsL_law := (xin_48 _ (List.mem_of_getElem? (i := 21) rfl))
theorem dX11_passTick_0 : decode cX11_passTick 0 = .ok (.aload_n 0, 1) := by decide +kernel
theorem dX11_passTick_1 : decode cX11_passTick 1 = .ok (.getfield 9, 3) := by decide +kernel
theorem dX11_passTick_4 : decode cX11_passTick 4 = .ok (.iconst 1, 1) := by decide +kernel
theorem dX11_passTick_5 : decode cX11_passTick 5 = .ok (.iaload, 1) := by decide +kernel
theorem dX11_passTick_6 : decode cX11_passTick 6 = .ok (.tableswitch 47 1 3 #[26, 33, 40], 26) := by decide +kernel
theorem dX11_passTick_32 : decode cX11_passTick 32 = .ok (.aload_n 0, 1) := by decide +kernel
theorem dX11_passTick_33 : decode cX11_passTick 33 = .ok (.invokevirtual 200, 3) := by decide +kernel
theorem dX11_passTick_36 : decode cX11_passTick 36 = .ok (.goto 17, 3) := by decide +kernel
theorem dX11_passTick_39 : decode cX11_passTick 39 = .ok (.aload_n 0, 1) := by decide +kernel
theorem dX11_passTick_40 : decode cX11_passTick 40 = .ok (.invokevirtual 203, 3) := by decide +kernel
theorem dX11_passTick_43 : decode cX11_passTick 43 = .ok (.goto 10, 3) := by decide +kernel
theorem dX11_passTick_46 : decode cX11_passTick 46 = .ok (.aload_n 0, 1) := by decide +kernel
theorem dX11_passTick_47 : decode cX11_passTick 47 = .ok (.invokevirtual 206, 3) := by decide +kernel
theorem dX11_passTick_50 : decode cX11_passTick 50 = .ok (.goto 3, 3) := by decide +kernel
theorem dX11_passTick_53 : decode cX11_passTick 53 = .ok (.aload_n 0, 1) := by decide +kernel
theorem dX11_passTick_54 : decode cX11_passTick 54 = .ok (.getfield 9, 3) := by decide +kernel
theorem dX11_passTick_57 : decode cX11_passTick 57 = .ok (.iconst 0, 1) := by decide +kernel
theorem dX11_passTick_58 : decode cX11_passTick 58 = .ok (.dup2, 1) := by decide +kernel
theorem dX11_passTick_59 : decode cX11_passTick 59 = .ok (.iaload, 1) := by decide +kernel
theorem dX11_passTick_60 : decode cX11_passTick 60 = .ok (.iconst 1, 1) := by decide +kernel
theorem dX11_passTick_61 : decode cX11_passTick 61 = .ok (.iadd, 1) := by decide +kernel
theorem dX11_passTick_62 : decode cX11_passTick 62 = .ok (.iastore, 1) := by decide +kernel
theorem dX11_passTick_63 : decode cX11_passTick 63 = .ok (.return_, 1) := by decide +kernel
def f_m_passTick_53 (m : xM) : Option (xM) :=
     (if xib 0 3530 then (if xib 0 3530 then some (xu m 1 0 ((m 1 0) + 1))
      else none)
      else none)
set_option maxRecDepth 1000000 in
set_option maxHeartbeats 4000000 in
theorem t_m_passTick_53 {Γ : xG} {d : Nat} (hd9 : 9 ≤ d) (C : xC Γ lay_M RX11 cX11_passTick 1 d) {m9 : xM} (hR : xRv Γ lay_M cX11_passTick m9) (m : xM) (h : f_m_passTick_53 m = some m9) : xW Γ lay_M 1 53 [(0, .inr (.inr (some 0)))] [] m := by
  unfold f_m_passTick_53 at h
  refine x_aload_n C dX11_passTick_53 rfl ?_
  refine x_getR C dX11_passTick_54 fF_X11_9 rfl rfl ?_
  refine x_iconst C dX11_passTick_57 ?_
  refine x_dup2 C dX11_passTick_58 rfl rfl ?_
  refine x_iaload C dX11_passTick_59 rfl h (fun h => ?_)
  refine x_iconst C dX11_passTick_60 ?_
  refine x_iadd C dX11_passTick_61 ?_
  refine x_iastore C dX11_passTick_62 rfl h (fun h => ?_)
  exact x_returnV hR dX11_passTick_63 h
def f_m_passTick (m : xM) : Option (xM) :=
     (if xib 1 3530 then (if xw (m 1 1) = 1 then (Option.bind (f_m_passTraining m) fun q0 =>
      f_m_passTick_53 q0)
      else (if xw (m 1 1) = 2 then (Option.bind (f_m_passOnline m) fun q1 =>
      f_m_passTick_53 q1)
      else (if xw (m 1 1) = 3 then (Option.bind (f_m_passLoss m) fun q2 =>
      f_m_passTick_53 q2)
      else f_m_passTick_53 m)))
      else none)
set_option maxRecDepth 1000000 in
set_option maxHeartbeats 4000000 in
theorem t_m_passTick {Γ : xG} {d : Nat} (hd9 : 9 ≤ d) (C : xC Γ lay_M RX11 cX11_passTick 1 d) {m9 : xM} (hR : xRv Γ lay_M cX11_passTick m9) (m : xM) (h : f_m_passTick m = some m9) : xW Γ lay_M 1 0 [(0, .inr (.inr (some 0)))] [] m := by
  unfold f_m_passTick at h
  refine x_aload_n C dX11_passTick_0 rfl ?_
  refine x_getR C dX11_passTick_1 fF_X11_9 rfl rfl ?_
  refine x_iconst C dX11_passTick_4 ?_
  refine x_iaload C dX11_passTick_5 rfl h (fun h => ?_)
  refine x_ite h (fun hc0 h => ?_) (fun hc0 h => ?_)
  · refine x_tabIn C 32 1 dX11_passTick_6 hc0 (by decide) (by decide) rfl (by decide) ?_
    refine x_aload_n C dX11_passTick_32 rfl ?_
    obtain ⟨q0, hq0, h⟩ := x_bind h
    refine x_callVI C dX11_passTick_33 (xin_45 _ (List.mem_of_getElem? (i := 0) rfl)) xy_X11_passTraining (xi_X11_passTraining) (xs_X11_passTraining) (by omega) (by decide) (b := 0) rfl ⟨_, _, rfl⟩ (av := []) rfl (Nat.le_of_ble_eq_true rfl) (c_m_passTraining _ _ _ hq0) rfl ?_
    refine x_goto C 53 dX11_passTick_36 (by decide) ?_
    refine x_loc [(0, .inr (.inr (some 0)))] ⟨rfl, trivial⟩ ?_
    exact t_m_passTick_53 hd9 C hR _ h
  refine x_ite h (fun hc1 h => ?_) (fun hc1 h => ?_)
  · refine x_tabIn C 39 2 dX11_passTick_6 hc1 (by decide) (by decide) rfl (by decide) ?_
    refine x_aload_n C dX11_passTick_39 rfl ?_
    obtain ⟨q1, hq1, h⟩ := x_bind h
    refine x_callVI C dX11_passTick_40 (xin_46 _ (List.mem_of_getElem? (i := 0) rfl)) xy_X11_passOnline (xi_X11_passOnline) (xs_X11_passOnline) (by omega) (by decide) (b := 0) rfl ⟨_, _, rfl⟩ (av := []) rfl (Nat.le_of_ble_eq_true rfl) (c_m_passOnline _ _ _ hq1) rfl ?_
    refine x_goto C 53 dX11_passTick_43 (by decide) ?_
    refine x_loc [(0, .inr (.inr (some 0)))] ⟨rfl, trivial⟩ ?_
    exact t_m_passTick_53 hd9 C hR _ h
  refine x_ite h (fun hc2 h => ?_) (fun hc2 h => ?_)
  · refine x_tabIn C 46 3 dX11_passTick_6 hc2 (by decide) (by decide) rfl (by decide) ?_
    refine x_aload_n C dX11_passTick_46 rfl ?_
    obtain ⟨q2, hq2, h⟩ := x_bind h
    refine x_callVI C dX11_passTick_47 (xin_48 _ (List.mem_of_getElem? (i := 19) rfl)) xy_X11_passLoss (xi_X11_passLoss) (xs_X11_passLoss) (by omega) (by decide) (b := 0) rfl ⟨_, _, rfl⟩ (av := []) rfl (Nat.le_of_ble_eq_true rfl) (c_m_passLoss _ _ _ hq2) rfl ?_
    refine x_goto C 53 dX11_passTick_50 (by decide) ?_
    refine x_loc [(0, .inr (.inr (some 0)))] ⟨rfl, trivial⟩ ?_
    exact t_m_passTick_53 hd9 C hR _ h
  refine x_tabOut C 53 (x := (m 1 1)) dX11_passTick_6 (by omega) (by decide) ?_
  refine x_loc [(0, .inr (.inr (some 0)))] ⟨rfl, trivial⟩ ?_
  exact t_m_passTick_53 hd9 C hR _ h
theorem c_m_passTick (l : Launch) (m m9 : xM) (h : f_m_passTick m = some m9) : xMet l yX11_passTick cX11_passTick 1 none 9 lay_M [.inr (.inr (some 0))] m none m9 :=
  xMet_v (by decide +kernel) (Nat.le_of_ble_eq_true rfl) (fun Γ C hR hl9 => t_m_passTick (Nat.le_refl _) C hR m h)
/-! ===== yX11_size ===== -/
theorem fF_X11_209 : xF RX11 209 13 13 .int false := ⟨RX11, TX11, 26, tyX11, rfl, by decide, (xin_10 _ (List.mem_of_getElem? (i := 9) rfl)), rfl, inlX11, tyX11_ok, nmX11, rfl, rfl⟩
theorem xy_X11_raise : xY yX11_raise cX11_raise 2 (some .int) 1 := ⟨(xin_19 _ (List.mem_of_getElem? (i := 1) rfl)), (xin_1 _ (List.mem_of_getElem? (i := 5) rfl)), by decide, by decide, by decide +kernel⟩
theorem xi_X11_raise : Cond.instanceMethod yX11_raise ∈ wsL_law := (xin_18 _ (List.mem_of_getElem? (i := 23) rfl))
theorem xs_X11_raise : Cond.selects yX11_raise.cls yX11_raise yX11_raise ∈ wsL_law := (xin_19 _ (List.mem_of_getElem? (i := 0) rfl))
theorem dX11_size_0 : decode cX11_size 0 = .ok (.aload_n 0, 1) := by decide +kernel
theorem dX11_size_1 : decode cX11_size 1 = .ok (.iconst 0, 1) := by decide +kernel
theorem dX11_size_2 : decode cX11_size 2 = .ok (.putfield 66, 3) := by decide +kernel
theorem dX11_size_5 : decode cX11_size 5 = .ok (.iload_n 1, 1) := by decide +kernel
theorem dX11_size_6 : decode cX11_size 6 = .ok (.tableswitch 137 0 11 #[62, 62, 62, 69, 74, 74, 74, 93, 113, 113, 62, 132], 62) := by decide +kernel
theorem dX11_size_68 : decode cX11_size 68 = .ok (.aload_n 0, 1) := by decide +kernel
theorem dX11_size_69 : decode cX11_size 69 = .ok (.getfield 9, 3) := by decide +kernel
theorem dX11_size_72 : decode cX11_size 72 = .ok (.iload_n 1, 1) := by decide +kernel
theorem dX11_size_73 : decode cX11_size 73 = .ok (.iaload, 1) := by decide +kernel
theorem dX11_size_74 : decode cX11_size 74 = .ok (.ireturn, 1) := by decide +kernel
theorem dX11_size_75 : decode cX11_size 75 = .ok (.aload_n 0, 1) := by decide +kernel
theorem dX11_size_76 : decode cX11_size 76 = .ok (.invokevirtual 85, 3) := by decide +kernel
theorem dX11_size_79 : decode cX11_size 79 = .ok (.ireturn, 1) := by decide +kernel
theorem dX11_size_80 : decode cX11_size 80 = .ok (.aload_n 0, 1) := by decide +kernel
theorem dX11_size_81 : decode cX11_size 81 = .ok (.iconst 1, 1) := by decide +kernel
theorem dX11_size_82 : decode cX11_size 82 = .ok (.invokevirtual 77, 3) := by decide +kernel
theorem dX11_size_85 : decode cX11_size 85 = .ok (.ifCond .eq 12, 3) := by decide +kernel
theorem dX11_size_88 : decode cX11_size 88 = .ok (.aload_n 0, 1) := by decide +kernel
theorem dX11_size_89 : decode cX11_size 89 = .ok (.getfield 9, 3) := by decide +kernel
theorem dX11_size_92 : decode cX11_size 92 = .ok (.iload_n 1, 1) := by decide +kernel
theorem dX11_size_93 : decode cX11_size 93 = .ok (.iaload, 1) := by decide +kernel
theorem dX11_size_94 : decode cX11_size 94 = .ok (.goto 4, 3) := by decide +kernel
theorem dX11_size_97 : decode cX11_size 97 = .ok (.iconst (-1), 1) := by decide +kernel
theorem dX11_size_98 : decode cX11_size 98 = .ok (.ireturn, 1) := by decide +kernel
theorem dX11_size_99 : decode cX11_size 99 = .ok (.aload_n 0, 1) := by decide +kernel
theorem dX11_size_100 : decode cX11_size 100 = .ok (.iconst 3, 1) := by decide +kernel
theorem dX11_size_101 : decode cX11_size 101 = .ok (.invokevirtual 77, 3) := by decide +kernel
theorem dX11_size_104 : decode cX11_size 104 = .ok (.ifCond .eq 13, 3) := by decide +kernel
theorem dX11_size_107 : decode cX11_size 107 = .ok (.aload_n 0, 1) := by decide +kernel
theorem dX11_size_108 : decode cX11_size 108 = .ok (.getfield 9, 3) := by decide +kernel
theorem dX11_size_111 : decode cX11_size 111 = .ok (.bipush 7, 2) := by decide +kernel
theorem dX11_size_113 : decode cX11_size 113 = .ok (.iaload, 1) := by decide +kernel
theorem dX11_size_114 : decode cX11_size 114 = .ok (.goto 4, 3) := by decide +kernel
theorem dX11_size_117 : decode cX11_size 117 = .ok (.iconst (-1), 1) := by decide +kernel
theorem dX11_size_118 : decode cX11_size 118 = .ok (.ireturn, 1) := by decide +kernel
theorem dX11_size_119 : decode cX11_size 119 = .ok (.aload_n 0, 1) := by decide +kernel
theorem dX11_size_120 : decode cX11_size 120 = .ok (.iconst 2, 1) := by decide +kernel
theorem dX11_size_121 : decode cX11_size 121 = .ok (.invokevirtual 77, 3) := by decide +kernel
theorem dX11_size_124 : decode cX11_size 124 = .ok (.ifCond .eq 12, 3) := by decide +kernel
theorem dX11_size_127 : decode cX11_size 127 = .ok (.aload_n 0, 1) := by decide +kernel
theorem dX11_size_128 : decode cX11_size 128 = .ok (.getfield 9, 3) := by decide +kernel
theorem dX11_size_131 : decode cX11_size 131 = .ok (.iload_n 1, 1) := by decide +kernel
theorem dX11_size_132 : decode cX11_size 132 = .ok (.iaload, 1) := by decide +kernel
theorem dX11_size_133 : decode cX11_size 133 = .ok (.goto 4, 3) := by decide +kernel
theorem dX11_size_136 : decode cX11_size 136 = .ok (.iconst 0, 1) := by decide +kernel
theorem dX11_size_137 : decode cX11_size 137 = .ok (.ireturn, 1) := by decide +kernel
theorem dX11_size_138 : decode cX11_size 138 = .ok (.aload_n 0, 1) := by decide +kernel
theorem dX11_size_139 : decode cX11_size 139 = .ok (.getfield 209, 3) := by decide +kernel
theorem dX11_size_142 : decode cX11_size 142 = .ok (.ireturn, 1) := by decide +kernel
theorem dX11_size_143 : decode cX11_size 143 = .ok (.aload_n 0, 1) := by decide +kernel
theorem dX11_size_144 : decode cX11_size 144 = .ok (.iconst 1, 1) := by decide +kernel
theorem dX11_size_145 : decode cX11_size 145 = .ok (.invokevirtual 212, 3) := by decide +kernel
theorem dX11_size_148 : decode cX11_size 148 = .ok (.ireturn, 1) := by decide +kernel
def f_m_size (w : Int) (m : xM) : Option (Int × xM) :=
     (if xw w = 0 then (if xib w 3530 then some ((m 1 (xix w)), (xu m 0 6 0))
      else none)
      else (if xw w = 1 then (if xib w 3530 then some ((m 1 (xix w)), (xu m 0 6 0))
      else none)
      else (if xw w = 2 then (if xib w 3530 then some ((m 1 (xix w)), (xu m 0 6 0))
      else none)
      else (if xw w = 3 then (Option.bind (f_m_rateNow (xu m 0 6 0)) fun q0 =>
      some (q0, (xu m 0 6 0)))
      else (if xw w = 4 then (Option.bind (f_m_isPhase 1 (xu m 0 6 0)) fun q1 =>
      (if xw q1 = 0 then some ((-1), (xu m 0 6 0))
      else (if xib w 3530 then some ((m 1 (xix w)), (xu m 0 6 0))
      else none)))
      else (if xw w = 5 then (Option.bind (f_m_isPhase 1 (xu m 0 6 0)) fun q2 =>
      (if xw q2 = 0 then some ((-1), (xu m 0 6 0))
      else (if xib w 3530 then some ((m 1 (xix w)), (xu m 0 6 0))
      else none)))
      else (if xw w = 6 then (Option.bind (f_m_isPhase 1 (xu m 0 6 0)) fun q3 =>
      (if xw q3 = 0 then some ((-1), (xu m 0 6 0))
      else (if xib w 3530 then some ((m 1 (xix w)), (xu m 0 6 0))
      else none)))
      else (if xw w = 7 then (Option.bind (f_m_isPhase 3 (xu m 0 6 0)) fun q4 =>
      (if xw q4 = 0 then some ((-1), (xu m 0 6 0))
      else (if xib 7 3530 then some ((m 1 7), (xu m 0 6 0))
      else none)))
      else (if xw w = 8 then (Option.bind (f_m_isPhase 2 (xu m 0 6 0)) fun q5 =>
      (if xw q5 = 0 then some (0, (xu m 0 6 0))
      else (if xib w 3530 then some ((m 1 (xix w)), (xu m 0 6 0))
      else none)))
      else (if xw w = 9 then (Option.bind (f_m_isPhase 2 (xu m 0 6 0)) fun q6 =>
      (if xw q6 = 0 then some (0, (xu m 0 6 0))
      else (if xib w 3530 then some ((m 1 (xix w)), (xu m 0 6 0))
      else none)))
      else (if xw w = 10 then (if xib w 3530 then some ((m 1 (xix w)), (xu m 0 6 0))
      else none)
      else (if xw w = 11 then some ((m 0 13), (xu m 0 6 0))
      else (Option.bind (f_m_raise 1 (xu m 0 6 0)) fun q7 =>
      some (q7.1, q7.2))))))))))))))
set_option maxRecDepth 1000000 in
set_option maxHeartbeats 4000000 in
theorem t_m_size {Γ : xG} {d : Nat} (hd9 : 3 ≤ d) (C : xC Γ lay_M RX11 cX11_size 2 d) (w : Int) {r : Int} {m9 : xM} (hR : xRi Γ lay_M cX11_size r m9) (m : xM) (h : f_m_size w m = some (r, m9)) : xW Γ lay_M 2 0 [(0, .inr (.inr (some 0))), (1, .inl w)] [] m := by
  unfold f_m_size at h
  refine x_aload_n C dX11_size_0 rfl ?_
  refine x_iconst C dX11_size_1 ?_
  refine x_putI C dX11_size_2 fF_X11_66 rfl rfl ?_
  refine x_iload_n C dX11_size_5 rfl ?_
  refine x_ite h (fun hc0 h => ?_) (fun hc0 h => ?_)
  · refine x_tabIn C 68 0 dX11_size_6 hc0 (by decide) (by decide) rfl (by decide) ?_
    refine x_aload_n C dX11_size_68 rfl ?_
    refine x_getR C dX11_size_69 fF_X11_9 rfl rfl ?_
    refine x_iload_n C dX11_size_72 rfl ?_
    refine x_iaload C dX11_size_73 rfl h (fun h => ?_)
    exact x_ireturn hR dX11_size_74 h
  refine x_ite h (fun hc1 h => ?_) (fun hc1 h => ?_)
  · refine x_tabIn C 68 1 dX11_size_6 hc1 (by decide) (by decide) rfl (by decide) ?_
    refine x_aload_n C dX11_size_68 rfl ?_
    refine x_getR C dX11_size_69 fF_X11_9 rfl rfl ?_
    refine x_iload_n C dX11_size_72 rfl ?_
    refine x_iaload C dX11_size_73 rfl h (fun h => ?_)
    exact x_ireturn hR dX11_size_74 h
  refine x_ite h (fun hc2 h => ?_) (fun hc2 h => ?_)
  · refine x_tabIn C 68 2 dX11_size_6 hc2 (by decide) (by decide) rfl (by decide) ?_
    refine x_aload_n C dX11_size_68 rfl ?_
    refine x_getR C dX11_size_69 fF_X11_9 rfl rfl ?_
    refine x_iload_n C dX11_size_72 rfl ?_
    refine x_iaload C dX11_size_73 rfl h (fun h => ?_)
    exact x_ireturn hR dX11_size_74 h
  refine x_ite h (fun hc3 h => ?_) (fun hc3 h => ?_)
  · refine x_tabIn C 75 3 dX11_size_6 hc3 (by decide) (by decide) rfl (by decide) ?_
    refine x_aload_n C dX11_size_75 rfl ?_
    obtain ⟨q0, hq0, h⟩ := x_bind h
    refine x_callVI C dX11_size_76 (xin_25 _ (List.mem_of_getElem? (i := 8) rfl)) xy_X11_rateNow (xi_X11_rateNow) (xs_X11_rateNow) (by omega) (by decide) (b := 0) rfl ⟨_, _, rfl⟩ (av := []) rfl (Nat.le_of_ble_eq_true rfl) (c_m_rateNow _ _ _ hq0) rfl ?_
    exact x_ireturn hR dX11_size_79 h
  refine x_ite h (fun hc4 h => ?_) (fun hc4 h => ?_)
  · refine x_tabIn C 80 4 dX11_size_6 hc4 (by decide) (by decide) rfl (by decide) ?_
    refine x_aload_n C dX11_size_80 rfl ?_
    refine x_iconst C dX11_size_81 ?_
    obtain ⟨q1, hq1, h⟩ := x_bind h
    refine x_callVI C dX11_size_82 (xin_25 _ (List.mem_of_getElem? (i := 12) rfl)) xy_X11_isPhase (xi_X11_isPhase) (xs_X11_isPhase) (by omega) (by decide) (b := 0) rfl ⟨_, _, rfl⟩ (av := [.inl 1]) rfl (Nat.le_of_ble_eq_true rfl) (c_m_isPhase _ _ _ _ hq1) rfl ?_
    refine x_if_eq C 97 dX11_size_85 (by decide) h (fun h => ?_) (fun h => ?_)
    · refine x_iconst C dX11_size_97 ?_
      exact x_ireturn hR dX11_size_98 h
    · refine x_aload_n C dX11_size_88 rfl ?_
      refine x_getR C dX11_size_89 fF_X11_9 rfl rfl ?_
      refine x_iload_n C dX11_size_92 rfl ?_
      refine x_iaload C dX11_size_93 rfl h (fun h => ?_)
      refine x_goto C 98 dX11_size_94 (by decide) ?_
      exact x_ireturn hR dX11_size_98 h
  refine x_ite h (fun hc5 h => ?_) (fun hc5 h => ?_)
  · refine x_tabIn C 80 5 dX11_size_6 hc5 (by decide) (by decide) rfl (by decide) ?_
    refine x_aload_n C dX11_size_80 rfl ?_
    refine x_iconst C dX11_size_81 ?_
    obtain ⟨q2, hq2, h⟩ := x_bind h
    refine x_callVI C dX11_size_82 (xin_25 _ (List.mem_of_getElem? (i := 12) rfl)) xy_X11_isPhase (xi_X11_isPhase) (xs_X11_isPhase) (by omega) (by decide) (b := 0) rfl ⟨_, _, rfl⟩ (av := [.inl 1]) rfl (Nat.le_of_ble_eq_true rfl) (c_m_isPhase _ _ _ _ hq2) rfl ?_
    refine x_if_eq C 97 dX11_size_85 (by decide) h (fun h => ?_) (fun h => ?_)
    · refine x_iconst C dX11_size_97 ?_
      exact x_ireturn hR dX11_size_98 h
    · refine x_aload_n C dX11_size_88 rfl ?_
      refine x_getR C dX11_size_89 fF_X11_9 rfl rfl ?_
      refine x_iload_n C dX11_size_92 rfl ?_
      refine x_iaload C dX11_size_93 rfl h (fun h => ?_)
      refine x_goto C 98 dX11_size_94 (by decide) ?_
      exact x_ireturn hR dX11_size_98 h
  refine x_ite h (fun hc6 h => ?_) (fun hc6 h => ?_)
  · refine x_tabIn C 80 6 dX11_size_6 hc6 (by decide) (by decide) rfl (by decide) ?_
    refine x_aload_n C dX11_size_80 rfl ?_
    refine x_iconst C dX11_size_81 ?_
    obtain ⟨q3, hq3, h⟩ := x_bind h
    refine x_callVI C dX11_size_82 (xin_25 _ (List.mem_of_getElem? (i := 12) rfl)) xy_X11_isPhase (xi_X11_isPhase) (xs_X11_isPhase) (by omega) (by decide) (b := 0) rfl ⟨_, _, rfl⟩ (av := [.inl 1]) rfl (Nat.le_of_ble_eq_true rfl) (c_m_isPhase _ _ _ _ hq3) rfl ?_
    refine x_if_eq C 97 dX11_size_85 (by decide) h (fun h => ?_) (fun h => ?_)
    · refine x_iconst C dX11_size_97 ?_
      exact x_ireturn hR dX11_size_98 h
    · refine x_aload_n C dX11_size_88 rfl ?_
      refine x_getR C dX11_size_89 fF_X11_9 rfl rfl ?_
      refine x_iload_n C dX11_size_92 rfl ?_
      refine x_iaload C dX11_size_93 rfl h (fun h => ?_)
      refine x_goto C 98 dX11_size_94 (by decide) ?_
      exact x_ireturn hR dX11_size_98 h
  refine x_ite h (fun hc7 h => ?_) (fun hc7 h => ?_)
  · refine x_tabIn C 99 7 dX11_size_6 hc7 (by decide) (by decide) rfl (by decide) ?_
    refine x_aload_n C dX11_size_99 rfl ?_
    refine x_iconst C dX11_size_100 ?_
    obtain ⟨q4, hq4, h⟩ := x_bind h
    refine x_callVI C dX11_size_101 (xin_25 _ (List.mem_of_getElem? (i := 12) rfl)) xy_X11_isPhase (xi_X11_isPhase) (xs_X11_isPhase) (by omega) (by decide) (b := 0) rfl ⟨_, _, rfl⟩ (av := [.inl 3]) rfl (Nat.le_of_ble_eq_true rfl) (c_m_isPhase _ _ _ _ hq4) rfl ?_
    refine x_if_eq C 117 dX11_size_104 (by decide) h (fun h => ?_) (fun h => ?_)
    · refine x_iconst C dX11_size_117 ?_
      exact x_ireturn hR dX11_size_118 h
    · refine x_aload_n C dX11_size_107 rfl ?_
      refine x_getR C dX11_size_108 fF_X11_9 rfl rfl ?_
      refine x_bipush C dX11_size_111 (by decide) ?_
      refine x_iaload C dX11_size_113 rfl h (fun h => ?_)
      refine x_goto C 118 dX11_size_114 (by decide) ?_
      exact x_ireturn hR dX11_size_118 h
  refine x_ite h (fun hc8 h => ?_) (fun hc8 h => ?_)
  · refine x_tabIn C 119 8 dX11_size_6 hc8 (by decide) (by decide) rfl (by decide) ?_
    refine x_aload_n C dX11_size_119 rfl ?_
    refine x_iconst C dX11_size_120 ?_
    obtain ⟨q5, hq5, h⟩ := x_bind h
    refine x_callVI C dX11_size_121 (xin_25 _ (List.mem_of_getElem? (i := 12) rfl)) xy_X11_isPhase (xi_X11_isPhase) (xs_X11_isPhase) (by omega) (by decide) (b := 0) rfl ⟨_, _, rfl⟩ (av := [.inl 2]) rfl (Nat.le_of_ble_eq_true rfl) (c_m_isPhase _ _ _ _ hq5) rfl ?_
    refine x_if_eq C 136 dX11_size_124 (by decide) h (fun h => ?_) (fun h => ?_)
    · refine x_iconst C dX11_size_136 ?_
      exact x_ireturn hR dX11_size_137 h
    · refine x_aload_n C dX11_size_127 rfl ?_
      refine x_getR C dX11_size_128 fF_X11_9 rfl rfl ?_
      refine x_iload_n C dX11_size_131 rfl ?_
      refine x_iaload C dX11_size_132 rfl h (fun h => ?_)
      refine x_goto C 137 dX11_size_133 (by decide) ?_
      exact x_ireturn hR dX11_size_137 h
  refine x_ite h (fun hc9 h => ?_) (fun hc9 h => ?_)
  · refine x_tabIn C 119 9 dX11_size_6 hc9 (by decide) (by decide) rfl (by decide) ?_
    refine x_aload_n C dX11_size_119 rfl ?_
    refine x_iconst C dX11_size_120 ?_
    obtain ⟨q6, hq6, h⟩ := x_bind h
    refine x_callVI C dX11_size_121 (xin_25 _ (List.mem_of_getElem? (i := 12) rfl)) xy_X11_isPhase (xi_X11_isPhase) (xs_X11_isPhase) (by omega) (by decide) (b := 0) rfl ⟨_, _, rfl⟩ (av := [.inl 2]) rfl (Nat.le_of_ble_eq_true rfl) (c_m_isPhase _ _ _ _ hq6) rfl ?_
    refine x_if_eq C 136 dX11_size_124 (by decide) h (fun h => ?_) (fun h => ?_)
    · refine x_iconst C dX11_size_136 ?_
      exact x_ireturn hR dX11_size_137 h
    · refine x_aload_n C dX11_size_127 rfl ?_
      refine x_getR C dX11_size_128 fF_X11_9 rfl rfl ?_
      refine x_iload_n C dX11_size_131 rfl ?_
      refine x_iaload C dX11_size_132 rfl h (fun h => ?_)
      refine x_goto C 137 dX11_size_133 (by decide) ?_
      exact x_ireturn hR dX11_size_137 h
  refine x_ite h (fun hc10 h => ?_) (fun hc10 h => ?_)
  · refine x_tabIn C 68 10 dX11_size_6 hc10 (by decide) (by decide) rfl (by decide) ?_
    refine x_aload_n C dX11_size_68 rfl ?_
    refine x_getR C dX11_size_69 fF_X11_9 rfl rfl ?_
    refine x_iload_n C dX11_size_72 rfl ?_
    refine x_iaload C dX11_size_73 rfl h (fun h => ?_)
    exact x_ireturn hR dX11_size_74 h
  refine x_ite h (fun hc11 h => ?_) (fun hc11 h => ?_)
  · refine x_tabIn C 138 11 dX11_size_6 hc11 (by decide) (by decide) rfl (by decide) ?_
    refine x_aload_n C dX11_size_138 rfl ?_
    refine x_getI C dX11_size_139 fF_X11_209 rfl rfl ?_
    exact x_ireturn hR dX11_size_142 h
  refine x_tabOut C 143 (x := w) dX11_size_6 (by omega) (by decide) ?_
  refine x_aload_n C dX11_size_143 rfl ?_
  refine x_iconst C dX11_size_144 ?_
  obtain ⟨q7, hq7, h⟩ := x_bind h
  refine x_callVI C dX11_size_145 (xin_18 _ (List.mem_of_getElem? (i := 22) rfl)) xy_X11_raise (xi_X11_raise) (xs_X11_raise) (by omega) (by decide) (b := 0) rfl ⟨_, _, rfl⟩ (av := [.inl 1]) rfl (Nat.le_of_ble_eq_true rfl) (c_m_raise _ _ _ q7.1 q7.2 hq7) rfl ?_
  exact x_ireturn hR dX11_size_148 h
theorem c_m_size (l : Launch) (w : Int) (m : xM) (r : Int) (m9 : xM) (h : f_m_size w m = some (r, m9)) : xMet l yX11_size cX11_size 2 (some .int) 3 lay_M [.inr (.inr (some 0)), .inl w] m (some (.inl r)) m9 :=
  xMet_i (by decide +kernel) (Nat.le_of_ble_eq_true rfl) (fun Γ C hR hl9 => t_m_size (Nat.le_refl _) C w hR m h)
/-! ===== yX11_total ===== -/
theorem dX11_total_0 : decode cX11_total 0 = .ok (.aload_n 0, 1) := by decide +kernel
theorem dX11_total_1 : decode cX11_total 1 = .ok (.iconst 0, 1) := by decide +kernel
theorem dX11_total_2 : decode cX11_total 2 = .ok (.putfield 66, 3) := by decide +kernel
theorem dX11_total_5 : decode cX11_total 5 = .ok (.iload_n 1, 1) := by decide +kernel
theorem dX11_total_6 : decode cX11_total 6 = .ok (.iconst 0, 1) := by decide +kernel
theorem dX11_total_7 : decode cX11_total 7 = .ok (.bipush 10, 2) := by decide +kernel
theorem dX11_total_9 : decode cX11_total 9 = .ok (.invokestatic 81, 3) := by decide +kernel
theorem dX11_total_12 : decode cX11_total 12 = .ok (.ifCond .eq 15, 3) := by decide +kernel
theorem dX11_total_15 : decode cX11_total 15 = .ok (.aload_n 0, 1) := by decide +kernel
theorem dX11_total_16 : decode cX11_total 16 = .ok (.getfield 9, 3) := by decide +kernel
theorem dX11_total_19 : decode cX11_total 19 = .ok (.bipush 45, 2) := by decide +kernel
theorem dX11_total_21 : decode cX11_total 21 = .ok (.iload_n 1, 1) := by decide +kernel
theorem dX11_total_22 : decode cX11_total 22 = .ok (.iadd, 1) := by decide +kernel
theorem dX11_total_23 : decode cX11_total 23 = .ok (.iaload, 1) := by decide +kernel
theorem dX11_total_24 : decode cX11_total 24 = .ok (.goto 8, 3) := by decide +kernel
theorem dX11_total_27 : decode cX11_total 27 = .ok (.aload_n 0, 1) := by decide +kernel
theorem dX11_total_28 : decode cX11_total 28 = .ok (.iconst 1, 1) := by decide +kernel
theorem dX11_total_29 : decode cX11_total 29 = .ok (.invokevirtual 212, 3) := by decide +kernel
theorem dX11_total_32 : decode cX11_total 32 = .ok (.ireturn, 1) := by decide +kernel
def f_m_total (w : Int) (m : xM) : Option (Int × xM) :=
     (Option.bind (f_m_inRange w 0 10 (xvw [] (xu m 0 6 0))) fun q0 =>
      (if xw q0 = 0 then (Option.bind (f_m_raise 1 (xu m 0 6 0)) fun q1 =>
      some (q1.1, q1.2))
      else (if xib (45 + w) 3530 then some ((m 1 (xix (45 + w))), (xu m 0 6 0))
      else none)))
set_option maxRecDepth 1000000 in
set_option maxHeartbeats 4000000 in
theorem t_m_total {Γ : xG} {d : Nat} (hd9 : 2 ≤ d) (C : xC Γ lay_M RX11 cX11_total 2 d) (w : Int) {r : Int} {m9 : xM} (hR : xRi Γ lay_M cX11_total r m9) (m : xM) (h : f_m_total w m = some (r, m9)) : xW Γ lay_M 2 0 [(0, .inr (.inr (some 0))), (1, .inl w)] [] m := by
  unfold f_m_total at h
  refine x_aload_n C dX11_total_0 rfl ?_
  refine x_iconst C dX11_total_1 ?_
  refine x_putI C dX11_total_2 fF_X11_66 rfl rfl ?_
  refine x_iload_n C dX11_total_5 rfl ?_
  refine x_iconst C dX11_total_6 ?_
  refine x_bipush C dX11_total_7 (by decide) ?_
  obtain ⟨q0, hq0, h⟩ := x_bind h
  refine x_callSp C dX11_total_9 (xin_18 _ (List.mem_of_getElem? (i := 19) rfl)) xy_X11_inRange (xt_X11_inRange) [] xv_49 (by omega) (by decide) (av := [.inl w, .inl 0, .inl 10]) rfl (Nat.le_of_ble_eq_true rfl) (c_m_inRange _ _ _ _ _ _ hq0) rfl ?_
  refine x_if_eq C 27 dX11_total_12 (by decide) h (fun h => ?_) (fun h => ?_)
  · refine x_aload_n C dX11_total_27 rfl ?_
    refine x_iconst C dX11_total_28 ?_
    obtain ⟨q1, hq1, h⟩ := x_bind h
    refine x_callVI C dX11_total_29 (xin_18 _ (List.mem_of_getElem? (i := 22) rfl)) xy_X11_raise (xi_X11_raise) (xs_X11_raise) (by omega) (by decide) (b := 0) rfl ⟨_, _, rfl⟩ (av := [.inl 1]) rfl (Nat.le_of_ble_eq_true rfl) (c_m_raise _ _ _ q1.1 q1.2 hq1) rfl ?_
    exact x_ireturn hR dX11_total_32 h
  · refine x_aload_n C dX11_total_15 rfl ?_
    refine x_getR C dX11_total_16 fF_X11_9 rfl rfl ?_
    refine x_bipush C dX11_total_19 (by decide) ?_
    refine x_iload_n C dX11_total_21 rfl ?_
    refine x_iadd C dX11_total_22 ?_
    refine x_iaload C dX11_total_23 rfl h (fun h => ?_)
    refine x_goto C 32 dX11_total_24 (by decide) ?_
    exact x_ireturn hR dX11_total_32 h
theorem c_m_total (l : Launch) (w : Int) (m : xM) (r : Int) (m9 : xM) (h : f_m_total w m = some (r, m9)) : xMet l yX11_total cX11_total 2 (some .int) 2 lay_M [.inr (.inr (some 0)), .inl w] m (some (.inl r)) m9 :=
  xMet_i (by decide +kernel) (Nat.le_of_ble_eq_true rfl) (fun Γ C hR hl9 => t_m_total (Nat.le_refl _) C w hR m h)
/-! ===== yX11_end ===== -/
theorem xy_X11_isEnd : xY yX11_isEnd cX11_isEnd 1 (some .boolean) 1 := ⟨(xin_27 _ (List.mem_of_getElem? (i := 13) rfl)), (xin_1 _ (List.mem_of_getElem? (i := 5) rfl)), by decide, by decide, by decide +kernel⟩
theorem xt_X11_isEnd : Cond.static yX11_isEnd ∈ wsL_law := (xin_27 _ (List.mem_of_getElem? (i := 12) rfl))
theorem xy_X11_countThat : xY yX11_countThat cX11_countThat 5 (some .int) 2 := ⟨(xin_28 _ (List.mem_of_getElem? (i := 0) rfl)), (xin_1 _ (List.mem_of_getElem? (i := 5) rfl)), by decide, by decide, by decide +kernel⟩
theorem xi_X11_countThat : Cond.instanceMethod yX11_countThat ∈ wsL_law := (xin_27 _ (List.mem_of_getElem? (i := 22) rfl))
theorem xs_X11_countThat : Cond.selects yX11_countThat.cls yX11_countThat yX11_countThat ∈ wsL_law := (xin_27 _ (List.mem_of_getElem? (i := 23) rfl))
theorem dX11_end_0 : decode cX11_end 0 = .ok (.aload_n 0, 1) := by decide +kernel
theorem dX11_end_1 : decode cX11_end 1 = .ok (.iconst 0, 1) := by decide +kernel
theorem dX11_end_2 : decode cX11_end 2 = .ok (.putfield 66, 3) := by decide +kernel
theorem dX11_end_5 : decode cX11_end 5 = .ok (.iload_n 1, 1) := by decide +kernel
theorem dX11_end_6 : decode cX11_end 6 = .ok (.invokestatic 215, 3) := by decide +kernel
theorem dX11_end_9 : decode cX11_end 9 = .ok (.ifCond .ne 9, 3) := by decide +kernel
theorem dX11_end_12 : decode cX11_end 12 = .ok (.aload_n 0, 1) := by decide +kernel
theorem dX11_end_13 : decode cX11_end 13 = .ok (.iconst 1, 1) := by decide +kernel
theorem dX11_end_14 : decode cX11_end 14 = .ok (.invokevirtual 212, 3) := by decide +kernel
theorem dX11_end_17 : decode cX11_end 17 = .ok (.ireturn, 1) := by decide +kernel
theorem dX11_end_18 : decode cX11_end 18 = .ok (.iload_n 2, 1) := by decide +kernel
theorem dX11_end_19 : decode cX11_end 19 = .ok (.tableswitch 85 0 9 #[53, 60, 67, 74, 74, 74, 74, 74, 74, 74], 53) := by decide +kernel
theorem dX11_end_72 : decode cX11_end 72 = .ok (.aload_n 0, 1) := by decide +kernel
theorem dX11_end_73 : decode cX11_end 73 = .ok (.iload_n 1, 1) := by decide +kernel
theorem dX11_end_74 : decode cX11_end 74 = .ok (.iconst 0, 1) := by decide +kernel
theorem dX11_end_75 : decode cX11_end 75 = .ok (.invokevirtual 101, 3) := by decide +kernel
theorem dX11_end_78 : decode cX11_end 78 = .ok (.ireturn, 1) := by decide +kernel
theorem dX11_end_79 : decode cX11_end 79 = .ok (.aload_n 0, 1) := by decide +kernel
theorem dX11_end_80 : decode cX11_end 80 = .ok (.iload_n 1, 1) := by decide +kernel
theorem dX11_end_81 : decode cX11_end 81 = .ok (.iconst 0, 1) := by decide +kernel
theorem dX11_end_82 : decode cX11_end 82 = .ok (.invokevirtual 218, 3) := by decide +kernel
theorem dX11_end_85 : decode cX11_end 85 = .ok (.ireturn, 1) := by decide +kernel
theorem dX11_end_86 : decode cX11_end 86 = .ok (.aload_n 0, 1) := by decide +kernel
theorem dX11_end_87 : decode cX11_end 87 = .ok (.iload_n 1, 1) := by decide +kernel
theorem dX11_end_88 : decode cX11_end 88 = .ok (.iconst 1, 1) := by decide +kernel
theorem dX11_end_89 : decode cX11_end 89 = .ok (.invokevirtual 218, 3) := by decide +kernel
theorem dX11_end_92 : decode cX11_end 92 = .ok (.ireturn, 1) := by decide +kernel
theorem dX11_end_93 : decode cX11_end 93 = .ok (.aload_n 0, 1) := by decide +kernel
theorem dX11_end_94 : decode cX11_end 94 = .ok (.iload_n 1, 1) := by decide +kernel
theorem dX11_end_95 : decode cX11_end 95 = .ok (.iconst 2, 1) := by decide +kernel
theorem dX11_end_96 : decode cX11_end 96 = .ok (.iload_n 2, 1) := by decide +kernel
theorem dX11_end_97 : decode cX11_end 97 = .ok (.iadd, 1) := by decide +kernel
theorem dX11_end_98 : decode cX11_end 98 = .ok (.iconst 3, 1) := by decide +kernel
theorem dX11_end_99 : decode cX11_end 99 = .ok (.isub, 1) := by decide +kernel
theorem dX11_end_100 : decode cX11_end 100 = .ok (.invokevirtual 101, 3) := by decide +kernel
theorem dX11_end_103 : decode cX11_end 103 = .ok (.ireturn, 1) := by decide +kernel
theorem dX11_end_104 : decode cX11_end 104 = .ok (.aload_n 0, 1) := by decide +kernel
theorem dX11_end_105 : decode cX11_end 105 = .ok (.iconst 1, 1) := by decide +kernel
theorem dX11_end_106 : decode cX11_end 106 = .ok (.invokevirtual 212, 3) := by decide +kernel
theorem dX11_end_109 : decode cX11_end 109 = .ok (.ireturn, 1) := by decide +kernel
def f_m_end (e : Int) (w : Int) (m : xM) : Option (Int × xM) :=
     (Option.bind (f_m_isEnd e (xvw [] (xu m 0 6 0))) fun q0 =>
      (if xw q0 = 0 then (Option.bind (f_m_raise 1 (xu m 0 6 0)) fun q12 =>
      some (q12.1, q12.2))
      else (if xw w = 0 then (Option.bind (f_m_of e 0 (xu m 0 6 0)) fun q1 =>
      some (q1, (xu m 0 6 0)))
      else (if xw w = 1 then (Option.bind (f_m_countThat e 0 (xu m 0 6 0)) fun q2 =>
      some (q2, (xu m 0 6 0)))
      else (if xw w = 2 then (Option.bind (f_m_countThat e 1 (xu m 0 6 0)) fun q3 =>
      some (q3, (xu m 0 6 0)))
      else (if xw w = 3 then (Option.bind (f_m_of e ((2 + w) - 3) (xu m 0 6 0)) fun q4 =>
      some (q4, (xu m 0 6 0)))
      else (if xw w = 4 then (Option.bind (f_m_of e ((2 + w) - 3) (xu m 0 6 0)) fun q5 =>
      some (q5, (xu m 0 6 0)))
      else (if xw w = 5 then (Option.bind (f_m_of e ((2 + w) - 3) (xu m 0 6 0)) fun q6 =>
      some (q6, (xu m 0 6 0)))
      else (if xw w = 6 then (Option.bind (f_m_of e ((2 + w) - 3) (xu m 0 6 0)) fun q7 =>
      some (q7, (xu m 0 6 0)))
      else (if xw w = 7 then (Option.bind (f_m_of e ((2 + w) - 3) (xu m 0 6 0)) fun q8 =>
      some (q8, (xu m 0 6 0)))
      else (if xw w = 8 then (Option.bind (f_m_of e ((2 + w) - 3) (xu m 0 6 0)) fun q9 =>
      some (q9, (xu m 0 6 0)))
      else (if xw w = 9 then (Option.bind (f_m_of e ((2 + w) - 3) (xu m 0 6 0)) fun q10 =>
      some (q10, (xu m 0 6 0)))
      else (Option.bind (f_m_raise 1 (xu m 0 6 0)) fun q11 =>
      some (q11.1, q11.2))))))))))))))
set_option maxRecDepth 1000000 in
set_option maxHeartbeats 4000000 in
theorem t_m_end {Γ : xG} {d : Nat} (hd9 : 5 ≤ d) (C : xC Γ lay_M RX11 cX11_end 3 d) (e : Int) (w : Int) {r : Int} {m9 : xM} (hR : xRi Γ lay_M cX11_end r m9) (m : xM) (h : f_m_end e w m = some (r, m9)) : xW Γ lay_M 3 0 [(0, .inr (.inr (some 0))), (1, .inl e), (2, .inl w)] [] m := by
  unfold f_m_end at h
  refine x_aload_n C dX11_end_0 rfl ?_
  refine x_iconst C dX11_end_1 ?_
  refine x_putI C dX11_end_2 fF_X11_66 rfl rfl ?_
  refine x_iload_n C dX11_end_5 rfl ?_
  obtain ⟨q0, hq0, h⟩ := x_bind h
  refine x_callSp C dX11_end_6 (xin_27 _ (List.mem_of_getElem? (i := 11) rfl)) xy_X11_isEnd (xt_X11_isEnd) [] xv_49 (by omega) (by decide) (av := [.inl e]) rfl (Nat.le_of_ble_eq_true rfl) (c_m_isEnd _ _ _ _ hq0) rfl ?_
  refine x_if_ne C 18 dX11_end_9 (by decide) h (fun h => ?_) (fun h => ?_)
  · refine x_iload_n C dX11_end_18 rfl ?_
    refine x_ite h (fun hc0 h => ?_) (fun hc0 h => ?_)
    · refine x_tabIn C 72 0 dX11_end_19 hc0 (by decide) (by decide) rfl (by decide) ?_
      refine x_aload_n C dX11_end_72 rfl ?_
      refine x_iload_n C dX11_end_73 rfl ?_
      refine x_iconst C dX11_end_74 ?_
      obtain ⟨q1, hq1, h⟩ := x_bind h
      refine x_callVI C dX11_end_75 (xin_27 _ (List.mem_of_getElem? (i := 14) rfl)) xy_X11_of (xi_X11_of) (xs_X11_of) (by omega) (by decide) (b := 0) rfl ⟨_, _, rfl⟩ (av := [.inl e, .inl 0]) rfl (Nat.le_of_ble_eq_true rfl) (c_m_of _ _ _ _ _ hq1) rfl ?_
      exact x_ireturn hR dX11_end_78 h
    refine x_ite h (fun hc1 h => ?_) (fun hc1 h => ?_)
    · refine x_tabIn C 79 1 dX11_end_19 hc1 (by decide) (by decide) rfl (by decide) ?_
      refine x_aload_n C dX11_end_79 rfl ?_
      refine x_iload_n C dX11_end_80 rfl ?_
      refine x_iconst C dX11_end_81 ?_
      obtain ⟨q2, hq2, h⟩ := x_bind h
      refine x_callVI C dX11_end_82 (xin_27 _ (List.mem_of_getElem? (i := 21) rfl)) xy_X11_countThat (xi_X11_countThat) (xs_X11_countThat) (by omega) (by decide) (b := 0) rfl ⟨_, _, rfl⟩ (av := [.inl e, .inl 0]) rfl (Nat.le_of_ble_eq_true rfl) (c_m_countThat _ _ _ _ _ hq2) rfl ?_
      exact x_ireturn hR dX11_end_85 h
    refine x_ite h (fun hc2 h => ?_) (fun hc2 h => ?_)
    · refine x_tabIn C 86 2 dX11_end_19 hc2 (by decide) (by decide) rfl (by decide) ?_
      refine x_aload_n C dX11_end_86 rfl ?_
      refine x_iload_n C dX11_end_87 rfl ?_
      refine x_iconst C dX11_end_88 ?_
      obtain ⟨q3, hq3, h⟩ := x_bind h
      refine x_callVI C dX11_end_89 (xin_27 _ (List.mem_of_getElem? (i := 21) rfl)) xy_X11_countThat (xi_X11_countThat) (xs_X11_countThat) (by omega) (by decide) (b := 0) rfl ⟨_, _, rfl⟩ (av := [.inl e, .inl 1]) rfl (Nat.le_of_ble_eq_true rfl) (c_m_countThat _ _ _ _ _ hq3) rfl ?_
      exact x_ireturn hR dX11_end_92 h
    refine x_ite h (fun hc3 h => ?_) (fun hc3 h => ?_)
    · refine x_tabIn C 93 3 dX11_end_19 hc3 (by decide) (by decide) rfl (by decide) ?_
      refine x_aload_n C dX11_end_93 rfl ?_
      refine x_iload_n C dX11_end_94 rfl ?_
      refine x_iconst C dX11_end_95 ?_
      refine x_iload_n C dX11_end_96 rfl ?_
      refine x_iadd C dX11_end_97 ?_
      refine x_iconst C dX11_end_98 ?_
      refine x_isub C dX11_end_99 ?_
      obtain ⟨q4, hq4, h⟩ := x_bind h
      refine x_callVI C dX11_end_100 (xin_27 _ (List.mem_of_getElem? (i := 14) rfl)) xy_X11_of (xi_X11_of) (xs_X11_of) (by omega) (by decide) (b := 0) rfl ⟨_, _, rfl⟩ (av := [.inl e, .inl ((2 + w) - 3)]) rfl (Nat.le_of_ble_eq_true rfl) (c_m_of _ _ _ _ _ hq4) rfl ?_
      exact x_ireturn hR dX11_end_103 h
    refine x_ite h (fun hc4 h => ?_) (fun hc4 h => ?_)
    · refine x_tabIn C 93 4 dX11_end_19 hc4 (by decide) (by decide) rfl (by decide) ?_
      refine x_aload_n C dX11_end_93 rfl ?_
      refine x_iload_n C dX11_end_94 rfl ?_
      refine x_iconst C dX11_end_95 ?_
      refine x_iload_n C dX11_end_96 rfl ?_
      refine x_iadd C dX11_end_97 ?_
      refine x_iconst C dX11_end_98 ?_
      refine x_isub C dX11_end_99 ?_
      obtain ⟨q5, hq5, h⟩ := x_bind h
      refine x_callVI C dX11_end_100 (xin_27 _ (List.mem_of_getElem? (i := 14) rfl)) xy_X11_of (xi_X11_of) (xs_X11_of) (by omega) (by decide) (b := 0) rfl ⟨_, _, rfl⟩ (av := [.inl e, .inl ((2 + w) - 3)]) rfl (Nat.le_of_ble_eq_true rfl) (c_m_of _ _ _ _ _ hq5) rfl ?_
      exact x_ireturn hR dX11_end_103 h
    refine x_ite h (fun hc5 h => ?_) (fun hc5 h => ?_)
    · refine x_tabIn C 93 5 dX11_end_19 hc5 (by decide) (by decide) rfl (by decide) ?_
      refine x_aload_n C dX11_end_93 rfl ?_
      refine x_iload_n C dX11_end_94 rfl ?_
      refine x_iconst C dX11_end_95 ?_
      refine x_iload_n C dX11_end_96 rfl ?_
      refine x_iadd C dX11_end_97 ?_
      refine x_iconst C dX11_end_98 ?_
      refine x_isub C dX11_end_99 ?_
      obtain ⟨q6, hq6, h⟩ := x_bind h
      refine x_callVI C dX11_end_100 (xin_27 _ (List.mem_of_getElem? (i := 14) rfl)) xy_X11_of (xi_X11_of) (xs_X11_of) (by omega) (by decide) (b := 0) rfl ⟨_, _, rfl⟩ (av := [.inl e, .inl ((2 + w) - 3)]) rfl (Nat.le_of_ble_eq_true rfl) (c_m_of _ _ _ _ _ hq6) rfl ?_
      exact x_ireturn hR dX11_end_103 h
    refine x_ite h (fun hc6 h => ?_) (fun hc6 h => ?_)
    · refine x_tabIn C 93 6 dX11_end_19 hc6 (by decide) (by decide) rfl (by decide) ?_
      refine x_aload_n C dX11_end_93 rfl ?_
      refine x_iload_n C dX11_end_94 rfl ?_
      refine x_iconst C dX11_end_95 ?_
      refine x_iload_n C dX11_end_96 rfl ?_
      refine x_iadd C dX11_end_97 ?_
      refine x_iconst C dX11_end_98 ?_
      refine x_isub C dX11_end_99 ?_
      obtain ⟨q7, hq7, h⟩ := x_bind h
      refine x_callVI C dX11_end_100 (xin_27 _ (List.mem_of_getElem? (i := 14) rfl)) xy_X11_of (xi_X11_of) (xs_X11_of) (by omega) (by decide) (b := 0) rfl ⟨_, _, rfl⟩ (av := [.inl e, .inl ((2 + w) - 3)]) rfl (Nat.le_of_ble_eq_true rfl) (c_m_of _ _ _ _ _ hq7) rfl ?_
      exact x_ireturn hR dX11_end_103 h
    refine x_ite h (fun hc7 h => ?_) (fun hc7 h => ?_)
    · refine x_tabIn C 93 7 dX11_end_19 hc7 (by decide) (by decide) rfl (by decide) ?_
      refine x_aload_n C dX11_end_93 rfl ?_
      refine x_iload_n C dX11_end_94 rfl ?_
      refine x_iconst C dX11_end_95 ?_
      refine x_iload_n C dX11_end_96 rfl ?_
      refine x_iadd C dX11_end_97 ?_
      refine x_iconst C dX11_end_98 ?_
      refine x_isub C dX11_end_99 ?_
      obtain ⟨q8, hq8, h⟩ := x_bind h
      refine x_callVI C dX11_end_100 (xin_27 _ (List.mem_of_getElem? (i := 14) rfl)) xy_X11_of (xi_X11_of) (xs_X11_of) (by omega) (by decide) (b := 0) rfl ⟨_, _, rfl⟩ (av := [.inl e, .inl ((2 + w) - 3)]) rfl (Nat.le_of_ble_eq_true rfl) (c_m_of _ _ _ _ _ hq8) rfl ?_
      exact x_ireturn hR dX11_end_103 h
    refine x_ite h (fun hc8 h => ?_) (fun hc8 h => ?_)
    · refine x_tabIn C 93 8 dX11_end_19 hc8 (by decide) (by decide) rfl (by decide) ?_
      refine x_aload_n C dX11_end_93 rfl ?_
      refine x_iload_n C dX11_end_94 rfl ?_
      refine x_iconst C dX11_end_95 ?_
      refine x_iload_n C dX11_end_96 rfl ?_
      refine x_iadd C dX11_end_97 ?_
      refine x_iconst C dX11_end_98 ?_
      refine x_isub C dX11_end_99 ?_
      obtain ⟨q9, hq9, h⟩ := x_bind h
      refine x_callVI C dX11_end_100 (xin_27 _ (List.mem_of_getElem? (i := 14) rfl)) xy_X11_of (xi_X11_of) (xs_X11_of) (by omega) (by decide) (b := 0) rfl ⟨_, _, rfl⟩ (av := [.inl e, .inl ((2 + w) - 3)]) rfl (Nat.le_of_ble_eq_true rfl) (c_m_of _ _ _ _ _ hq9) rfl ?_
      exact x_ireturn hR dX11_end_103 h
    refine x_ite h (fun hc9 h => ?_) (fun hc9 h => ?_)
    · refine x_tabIn C 93 9 dX11_end_19 hc9 (by decide) (by decide) rfl (by decide) ?_
      refine x_aload_n C dX11_end_93 rfl ?_
      refine x_iload_n C dX11_end_94 rfl ?_
      refine x_iconst C dX11_end_95 ?_
      refine x_iload_n C dX11_end_96 rfl ?_
      refine x_iadd C dX11_end_97 ?_
      refine x_iconst C dX11_end_98 ?_
      refine x_isub C dX11_end_99 ?_
      obtain ⟨q10, hq10, h⟩ := x_bind h
      refine x_callVI C dX11_end_100 (xin_27 _ (List.mem_of_getElem? (i := 14) rfl)) xy_X11_of (xi_X11_of) (xs_X11_of) (by omega) (by decide) (b := 0) rfl ⟨_, _, rfl⟩ (av := [.inl e, .inl ((2 + w) - 3)]) rfl (Nat.le_of_ble_eq_true rfl) (c_m_of _ _ _ _ _ hq10) rfl ?_
      exact x_ireturn hR dX11_end_103 h
    refine x_tabOut C 104 (x := w) dX11_end_19 (by omega) (by decide) ?_
    refine x_aload_n C dX11_end_104 rfl ?_
    refine x_iconst C dX11_end_105 ?_
    obtain ⟨q11, hq11, h⟩ := x_bind h
    refine x_callVI C dX11_end_106 (xin_18 _ (List.mem_of_getElem? (i := 22) rfl)) xy_X11_raise (xi_X11_raise) (xs_X11_raise) (by omega) (by decide) (b := 0) rfl ⟨_, _, rfl⟩ (av := [.inl 1]) rfl (Nat.le_of_ble_eq_true rfl) (c_m_raise _ _ _ q11.1 q11.2 hq11) rfl ?_
    exact x_ireturn hR dX11_end_109 h
  · refine x_aload_n C dX11_end_12 rfl ?_
    refine x_iconst C dX11_end_13 ?_
    obtain ⟨q12, hq12, h⟩ := x_bind h
    refine x_callVI C dX11_end_14 (xin_18 _ (List.mem_of_getElem? (i := 22) rfl)) xy_X11_raise (xi_X11_raise) (xs_X11_raise) (by omega) (by decide) (b := 0) rfl ⟨_, _, rfl⟩ (av := [.inl 1]) rfl (Nat.le_of_ble_eq_true rfl) (c_m_raise _ _ _ q12.1 q12.2 hq12) rfl ?_
    exact x_ireturn hR dX11_end_17 h
theorem c_m_end (l : Launch) (e : Int) (w : Int) (m : xM) (r : Int) (m9 : xM) (h : f_m_end e w m = some (r, m9)) : xMet l yX11_end cX11_end 3 (some .int) 5 lay_M [.inr (.inr (some 0)), .inl e, .inl w] m (some (.inl r)) m9 :=
  xMet_i (by decide +kernel) (Nat.le_of_ble_eq_true rfl) (fun Γ C hR hl9 => t_m_end (Nat.le_refl _) C e w hR m h)
/-! ===== yX11_rate ===== -/
theorem dX11_rate_0 : decode cX11_rate 0 = .ok (.aload_n 0, 1) := by decide +kernel
theorem dX11_rate_1 : decode cX11_rate 1 = .ok (.iconst 0, 1) := by decide +kernel
theorem dX11_rate_2 : decode cX11_rate 2 = .ok (.putfield 66, 3) := by decide +kernel
theorem dX11_rate_5 : decode cX11_rate 5 = .ok (.aload_n 0, 1) := by decide +kernel
theorem dX11_rate_6 : decode cX11_rate 6 = .ok (.iload_n 1, 1) := by decide +kernel
theorem dX11_rate_7 : decode cX11_rate 7 = .ok (.invokevirtual 162, 3) := by decide +kernel
theorem dX11_rate_10 : decode cX11_rate 10 = .ok (.ifCond .eq 12, 3) := by decide +kernel
theorem dX11_rate_13 : decode cX11_rate 13 = .ok (.iload_n 2, 1) := by decide +kernel
theorem dX11_rate_14 : decode cX11_rate 14 = .ok (.iconst 0, 1) := by decide +kernel
theorem dX11_rate_15 : decode cX11_rate 15 = .ok (.iconst 1, 1) := by decide +kernel
theorem dX11_rate_16 : decode cX11_rate 16 = .ok (.invokestatic 81, 3) := by decide +kernel
theorem dX11_rate_19 : decode cX11_rate 19 = .ok (.ifCond .ne 9, 3) := by decide +kernel
theorem dX11_rate_22 : decode cX11_rate 22 = .ok (.aload_n 0, 1) := by decide +kernel
theorem dX11_rate_23 : decode cX11_rate 23 = .ok (.iconst 1, 1) := by decide +kernel
theorem dX11_rate_24 : decode cX11_rate 24 = .ok (.invokevirtual 212, 3) := by decide +kernel
theorem dX11_rate_27 : decode cX11_rate 27 = .ok (.ireturn, 1) := by decide +kernel
theorem dX11_rate_28 : decode cX11_rate 28 = .ok (.aload_n 0, 1) := by decide +kernel
theorem dX11_rate_29 : decode cX11_rate 29 = .ok (.getfield 9, 3) := by decide +kernel
theorem dX11_rate_32 : decode cX11_rate 32 = .ok (.iload_n 2, 1) := by decide +kernel
theorem dX11_rate_33 : decode cX11_rate 33 = .ok (.ifCond .ne 10, 3) := by decide +kernel
theorem dX11_rate_36 : decode cX11_rate 36 = .ok (.bipush 35, 2) := by decide +kernel
theorem dX11_rate_38 : decode cX11_rate 38 = .ok (.iload_n 1, 1) := by decide +kernel
theorem dX11_rate_39 : decode cX11_rate 39 = .ok (.iadd, 1) := by decide +kernel
theorem dX11_rate_40 : decode cX11_rate 40 = .ok (.goto 7, 3) := by decide +kernel
theorem dX11_rate_43 : decode cX11_rate 43 = .ok (.bipush 40, 2) := by decide +kernel
theorem dX11_rate_45 : decode cX11_rate 45 = .ok (.iload_n 1, 1) := by decide +kernel
theorem dX11_rate_46 : decode cX11_rate 46 = .ok (.iadd, 1) := by decide +kernel
theorem dX11_rate_47 : decode cX11_rate 47 = .ok (.iaload, 1) := by decide +kernel
theorem dX11_rate_48 : decode cX11_rate 48 = .ok (.ireturn, 1) := by decide +kernel
def f_m_rate_22 (z : Int) (w : Int) (m : xM) : Option (Int × xM) :=
     (Option.bind (f_m_raise 1 m) fun q1 =>
      some (q1.1, q1.2))
set_option maxRecDepth 1000000 in
set_option maxHeartbeats 4000000 in
theorem t_m_rate_22 {Γ : xG} {d : Nat} (hd9 : 3 ≤ d) (C : xC Γ lay_M RX11 cX11_rate 3 d) (z : Int) (w : Int) {r : Int} {m9 : xM} (hR : xRi Γ lay_M cX11_rate r m9) (m : xM) (h : f_m_rate_22 z w m = some (r, m9)) : xW Γ lay_M 3 22 [(0, .inr (.inr (some 0)))] [] m := by
  unfold f_m_rate_22 at h
  refine x_aload_n C dX11_rate_22 rfl ?_
  refine x_iconst C dX11_rate_23 ?_
  obtain ⟨q1, hq1, h⟩ := x_bind h
  refine x_callVI C dX11_rate_24 (xin_18 _ (List.mem_of_getElem? (i := 22) rfl)) xy_X11_raise (xi_X11_raise) (xs_X11_raise) (by omega) (by decide) (b := 0) rfl ⟨_, _, rfl⟩ (av := [.inl 1]) rfl (Nat.le_of_ble_eq_true rfl) (c_m_raise _ _ _ q1.1 q1.2 hq1) rfl ?_
  exact x_ireturn hR dX11_rate_27 h
def f_m_rate_47 (z : Int) (w : Int) (s0 : Int) (m : xM) : Option (Int × xM) :=
     (if xib s0 3530 then some ((m 1 (xix s0)), m)
      else none)
set_option maxRecDepth 1000000 in
set_option maxHeartbeats 4000000 in
theorem t_m_rate_47 {Γ : xG} {d : Nat} (hd9 : 3 ≤ d) (C : xC Γ lay_M RX11 cX11_rate 3 d) (z : Int) (w : Int) {r : Int} {m9 : xM} (hR : xRi Γ lay_M cX11_rate r m9) (s0 : Int) (m : xM) (h : f_m_rate_47 z w s0 m = some (r, m9)) : xW Γ lay_M 3 47 [] [.inl s0, .inr (.inr (some 1))] m := by
  unfold f_m_rate_47 at h
  refine x_iaload C dX11_rate_47 rfl h (fun h => ?_)
  exact x_ireturn hR dX11_rate_48 h
def f_m_rate (z : Int) (w : Int) (m : xM) : Option (Int × xM) :=
     (Option.bind (f_m_isRate z (xu m 0 6 0)) fun q0 =>
      (if xw q0 = 0 then f_m_rate_22 z w (xu m 0 6 0)
      else (Option.bind (f_m_inRange w 0 1 (xvw [] (xu m 0 6 0))) fun q2 =>
      (if xw q2 = 0 then f_m_rate_22 z w (xu m 0 6 0)
      else (if xw w = 0 then f_m_rate_47 z w (35 + z) (xu m 0 6 0)
      else f_m_rate_47 z w (40 + z) (xu m 0 6 0))))))
set_option maxRecDepth 1000000 in
set_option maxHeartbeats 4000000 in
theorem t_m_rate {Γ : xG} {d : Nat} (hd9 : 3 ≤ d) (C : xC Γ lay_M RX11 cX11_rate 3 d) (z : Int) (w : Int) {r : Int} {m9 : xM} (hR : xRi Γ lay_M cX11_rate r m9) (m : xM) (h : f_m_rate z w m = some (r, m9)) : xW Γ lay_M 3 0 [(0, .inr (.inr (some 0))), (1, .inl z), (2, .inl w)] [] m := by
  unfold f_m_rate at h
  refine x_aload_n C dX11_rate_0 rfl ?_
  refine x_iconst C dX11_rate_1 ?_
  refine x_putI C dX11_rate_2 fF_X11_66 rfl rfl ?_
  refine x_aload_n C dX11_rate_5 rfl ?_
  refine x_iload_n C dX11_rate_6 rfl ?_
  obtain ⟨q0, hq0, h⟩ := x_bind h
  refine x_callVI C dX11_rate_7 (xin_28 _ (List.mem_of_getElem? (i := 21) rfl)) xy_X11_isRate (xi_X11_isRate) (xs_X11_isRate) (by omega) (by decide) (b := 0) rfl ⟨_, _, rfl⟩ (av := [.inl z]) rfl (Nat.le_of_ble_eq_true rfl) (c_m_isRate _ _ _ _ hq0) rfl ?_
  refine x_if_eq C 22 dX11_rate_10 (by decide) h (fun h => ?_) (fun h => ?_)
  · refine x_loc [(0, .inr (.inr (some 0)))] ⟨rfl, trivial⟩ ?_
    exact t_m_rate_22 hd9 C _ _ hR _ h
  · refine x_iload_n C dX11_rate_13 rfl ?_
    refine x_iconst C dX11_rate_14 ?_
    refine x_iconst C dX11_rate_15 ?_
    obtain ⟨q2, hq2, h⟩ := x_bind h
    refine x_callSp C dX11_rate_16 (xin_18 _ (List.mem_of_getElem? (i := 19) rfl)) xy_X11_inRange (xt_X11_inRange) [] xv_49 (by omega) (by decide) (av := [.inl w, .inl 0, .inl 1]) rfl (Nat.le_of_ble_eq_true rfl) (c_m_inRange _ _ _ _ _ _ hq2) rfl ?_
    refine x_if_ne C 28 dX11_rate_19 (by decide) h (fun h => ?_) (fun h => ?_)
    · refine x_aload_n C dX11_rate_28 rfl ?_
      refine x_getR C dX11_rate_29 fF_X11_9 rfl rfl ?_
      refine x_iload_n C dX11_rate_32 rfl ?_
      refine x_if_ne C 43 dX11_rate_33 (by decide) h (fun h => ?_) (fun h => ?_)
      · refine x_bipush C dX11_rate_43 (by decide) ?_
        refine x_iload_n C dX11_rate_45 rfl ?_
        refine x_iadd C dX11_rate_46 ?_
        refine x_loc [] trivial ?_
        exact t_m_rate_47 hd9 C _ _ hR _ _ h
      · refine x_bipush C dX11_rate_36 (by decide) ?_
        refine x_iload_n C dX11_rate_38 rfl ?_
        refine x_iadd C dX11_rate_39 ?_
        refine x_goto C 47 dX11_rate_40 (by decide) ?_
        refine x_loc [] trivial ?_
        exact t_m_rate_47 hd9 C _ _ hR _ _ h
    · refine x_loc [(0, .inr (.inr (some 0)))] ⟨rfl, trivial⟩ ?_
      exact t_m_rate_22 hd9 C _ _ hR _ h
theorem c_m_rate (l : Launch) (z : Int) (w : Int) (m : xM) (r : Int) (m9 : xM) (h : f_m_rate z w m = some (r, m9)) : xMet l yX11_rate cX11_rate 3 (some .int) 3 lay_M [.inr (.inr (some 0)), .inl z, .inl w] m (some (.inl r)) m9 :=
  xMet_i (by decide +kernel) (Nat.le_of_ble_eq_true rfl) (fun Γ C hR hl9 => t_m_rate (Nat.le_refl _) C z w hR m h)
/-! ===== yX11_frame ===== -/
theorem dX11_frame_0 : decode cX11_frame 0 = .ok (.aload_n 0, 1) := by decide +kernel
theorem dX11_frame_1 : decode cX11_frame 1 = .ok (.iconst 0, 1) := by decide +kernel
theorem dX11_frame_2 : decode cX11_frame 2 = .ok (.putfield 66, 3) := by decide +kernel
theorem dX11_frame_5 : decode cX11_frame 5 = .ok (.iload_n 1, 1) := by decide +kernel
theorem dX11_frame_6 : decode cX11_frame 6 = .ok (.invokestatic 215, 3) := by decide +kernel
theorem dX11_frame_9 : decode cX11_frame 9 = .ok (.ifCond .eq 32, 3) := by decide +kernel
theorem dX11_frame_12 : decode cX11_frame 12 = .ok (.iload_n 2, 1) := by decide +kernel
theorem dX11_frame_13 : decode cX11_frame 13 = .ok (.iconst 0, 1) := by decide +kernel
theorem dX11_frame_14 : decode cX11_frame 14 = .ok (.aload_n 0, 1) := by decide +kernel
theorem dX11_frame_15 : decode cX11_frame 15 = .ok (.iload_n 1, 1) := by decide +kernel
theorem dX11_frame_16 : decode cX11_frame 16 = .ok (.iconst 1, 1) := by decide +kernel
theorem dX11_frame_17 : decode cX11_frame 17 = .ok (.invokevirtual 101, 3) := by decide +kernel
theorem dX11_frame_20 : decode cX11_frame 20 = .ok (.iconst 1, 1) := by decide +kernel
theorem dX11_frame_21 : decode cX11_frame 21 = .ok (.isub, 1) := by decide +kernel
theorem dX11_frame_22 : decode cX11_frame 22 = .ok (.invokestatic 81, 3) := by decide +kernel
theorem dX11_frame_25 : decode cX11_frame 25 = .ok (.ifCond .eq 16, 3) := by decide +kernel
theorem dX11_frame_28 : decode cX11_frame 28 = .ok (.iload_n 3, 1) := by decide +kernel
theorem dX11_frame_29 : decode cX11_frame 29 = .ok (.iconst 0, 1) := by decide +kernel
theorem dX11_frame_30 : decode cX11_frame 30 = .ok (.iconst 3, 1) := by decide +kernel
theorem dX11_frame_31 : decode cX11_frame 31 = .ok (.invokestatic 81, 3) := by decide +kernel
theorem dX11_frame_34 : decode cX11_frame 34 = .ok (.ifCond .eq 7, 3) := by decide +kernel
theorem dX11_frame_37 : decode cX11_frame 37 = .ok (.iconst 1, 1) := by decide +kernel
theorem dX11_frame_38 : decode cX11_frame 38 = .ok (.goto 4, 3) := by decide +kernel
theorem dX11_frame_41 : decode cX11_frame 41 = .ok (.iconst 0, 1) := by decide +kernel
theorem dX11_frame_42 : decode cX11_frame 42 = .ok (.istore 4, 2) := by decide +kernel
theorem dX11_frame_44 : decode cX11_frame 44 = .ok (.iload 4, 2) := by decide +kernel
theorem dX11_frame_46 : decode cX11_frame 46 = .ok (.ifCond .eq 13, 3) := by decide +kernel
theorem dX11_frame_49 : decode cX11_frame 49 = .ok (.aload_n 0, 1) := by decide +kernel
theorem dX11_frame_50 : decode cX11_frame 50 = .ok (.iload_n 1, 1) := by decide +kernel
theorem dX11_frame_51 : decode cX11_frame 51 = .ok (.iload_n 2, 1) := by decide +kernel
theorem dX11_frame_52 : decode cX11_frame 52 = .ok (.iload_n 3, 1) := by decide +kernel
theorem dX11_frame_53 : decode cX11_frame 53 = .ok (.invokevirtual 124, 3) := by decide +kernel
theorem dX11_frame_56 : decode cX11_frame 56 = .ok (.goto 8, 3) := by decide +kernel
theorem dX11_frame_59 : decode cX11_frame 59 = .ok (.aload_n 0, 1) := by decide +kernel
theorem dX11_frame_60 : decode cX11_frame 60 = .ok (.iconst 1, 1) := by decide +kernel
theorem dX11_frame_61 : decode cX11_frame 61 = .ok (.invokevirtual 212, 3) := by decide +kernel
theorem dX11_frame_64 : decode cX11_frame 64 = .ok (.ireturn, 1) := by decide +kernel
def f_m_frame_42 (e : Int) (p : Int) (w : Int) (s0 : Int) (m : xM) : Option (Int × xM) :=
     (if xw s0 = 0 then (Option.bind (f_m_raise 1 m) fun q1 =>
      some (q1.1, q1.2))
      else (Option.bind (f_m_ofFrame e p w m) fun q2 =>
      some (q2, m)))
set_option maxRecDepth 1000000 in
set_option maxHeartbeats 4000000 in
theorem t_m_frame_42 {Γ : xG} {d : Nat} (hd9 : 4 ≤ d) (C : xC Γ lay_M RX11 cX11_frame 5 d) (e : Int) (p : Int) (w : Int) {r : Int} {m9 : xM} (hR : xRi Γ lay_M cX11_frame r m9) (s0 : Int) (m : xM) (h : f_m_frame_42 e p w s0 m = some (r, m9)) : xW Γ lay_M 5 42 [(0, .inr (.inr (some 0))), (1, .inl e), (2, .inl p), (3, .inl w)] [.inl s0] m := by
  unfold f_m_frame_42 at h
  refine x_istore C dX11_frame_42 (by decide) ?_
  refine x_iload C dX11_frame_44 rfl ?_
  refine x_if_eq C 59 dX11_frame_46 (by decide) h (fun h => ?_) (fun h => ?_)
  · refine x_aload_n C dX11_frame_59 rfl ?_
    refine x_iconst C dX11_frame_60 ?_
    obtain ⟨q1, hq1, h⟩ := x_bind h
    refine x_callVI C dX11_frame_61 (xin_18 _ (List.mem_of_getElem? (i := 22) rfl)) xy_X11_raise (xi_X11_raise) (xs_X11_raise) (by omega) (by decide) (b := 0) rfl ⟨_, _, rfl⟩ (av := [.inl 1]) rfl (Nat.le_of_ble_eq_true rfl) (c_m_raise _ _ _ q1.1 q1.2 hq1) rfl ?_
    exact x_ireturn hR dX11_frame_64 h
  · refine x_aload_n C dX11_frame_49 rfl ?_
    refine x_iload_n C dX11_frame_50 rfl ?_
    refine x_iload_n C dX11_frame_51 rfl ?_
    refine x_iload_n C dX11_frame_52 rfl ?_
    obtain ⟨q2, hq2, h⟩ := x_bind h
    refine x_callVI C dX11_frame_53 (xin_28 _ (List.mem_of_getElem? (i := 1) rfl)) xy_X11_ofFrame (xi_X11_ofFrame) (xs_X11_ofFrame) (by omega) (by decide) (b := 0) rfl ⟨_, _, rfl⟩ (av := [.inl e, .inl p, .inl w]) rfl (Nat.le_of_ble_eq_true rfl) (c_m_ofFrame _ _ _ _ _ _ hq2) rfl ?_
    refine x_goto C 64 dX11_frame_56 (by decide) ?_
    exact x_ireturn hR dX11_frame_64 h
def f_m_frame_41 (e : Int) (p : Int) (w : Int) (m : xM) : Option (Int × xM) :=
     f_m_frame_42 e p w 0 m
set_option maxRecDepth 1000000 in
set_option maxHeartbeats 4000000 in
theorem t_m_frame_41 {Γ : xG} {d : Nat} (hd9 : 4 ≤ d) (C : xC Γ lay_M RX11 cX11_frame 5 d) (e : Int) (p : Int) (w : Int) {r : Int} {m9 : xM} (hR : xRi Γ lay_M cX11_frame r m9) (m : xM) (h : f_m_frame_41 e p w m = some (r, m9)) : xW Γ lay_M 5 41 [(0, .inr (.inr (some 0))), (1, .inl e), (2, .inl p), (3, .inl w)] [] m := by
  unfold f_m_frame_41 at h
  refine x_iconst C dX11_frame_41 ?_
  refine x_loc [(0, .inr (.inr (some 0))), (1, .inl e), (2, .inl p), (3, .inl w)] ⟨rfl, rfl, rfl, rfl, trivial⟩ ?_
  exact t_m_frame_42 hd9 C _ _ _ hR _ _ h
def f_m_frame (e : Int) (p : Int) (w : Int) (m : xM) : Option (Int × xM) :=
     (Option.bind (f_m_isEnd e (xvw [] (xu m 0 6 0))) fun q0 =>
      (if xw q0 = 0 then f_m_frame_41 e p w (xu m 0 6 0)
      else (Option.bind (f_m_of e 1 (xu m 0 6 0)) fun q3 =>
      (Option.bind (f_m_inRange p 0 (q3 - 1) (xvw [] (xu m 0 6 0))) fun q4 =>
      (if xw q4 = 0 then f_m_frame_41 e p w (xu m 0 6 0)
      else (Option.bind (f_m_inRange w 0 3 (xvw [] (xu m 0 6 0))) fun q5 =>
      (if xw q5 = 0 then f_m_frame_41 e p w (xu m 0 6 0)
      else f_m_frame_42 e p w 1 (xu m 0 6 0))))))))
set_option maxRecDepth 1000000 in
set_option maxHeartbeats 4000000 in
theorem t_m_frame {Γ : xG} {d : Nat} (hd9 : 4 ≤ d) (C : xC Γ lay_M RX11 cX11_frame 5 d) (e : Int) (p : Int) (w : Int) {r : Int} {m9 : xM} (hR : xRi Γ lay_M cX11_frame r m9) (m : xM) (h : f_m_frame e p w m = some (r, m9)) : xW Γ lay_M 5 0 [(0, .inr (.inr (some 0))), (1, .inl e), (2, .inl p), (3, .inl w)] [] m := by
  unfold f_m_frame at h
  refine x_aload_n C dX11_frame_0 rfl ?_
  refine x_iconst C dX11_frame_1 ?_
  refine x_putI C dX11_frame_2 fF_X11_66 rfl rfl ?_
  refine x_iload_n C dX11_frame_5 rfl ?_
  obtain ⟨q0, hq0, h⟩ := x_bind h
  refine x_callSp C dX11_frame_6 (xin_27 _ (List.mem_of_getElem? (i := 11) rfl)) xy_X11_isEnd (xt_X11_isEnd) [] xv_49 (by omega) (by decide) (av := [.inl e]) rfl (Nat.le_of_ble_eq_true rfl) (c_m_isEnd _ _ _ _ hq0) rfl ?_
  refine x_if_eq C 41 dX11_frame_9 (by decide) h (fun h => ?_) (fun h => ?_)
  · refine x_loc [(0, .inr (.inr (some 0))), (1, .inl e), (2, .inl p), (3, .inl w)] ⟨rfl, rfl, rfl, rfl, trivial⟩ ?_
    exact t_m_frame_41 hd9 C _ _ _ hR _ h
  · refine x_iload_n C dX11_frame_12 rfl ?_
    refine x_iconst C dX11_frame_13 ?_
    refine x_aload_n C dX11_frame_14 rfl ?_
    refine x_iload_n C dX11_frame_15 rfl ?_
    refine x_iconst C dX11_frame_16 ?_
    obtain ⟨q3, hq3, h⟩ := x_bind h
    refine x_callVI C dX11_frame_17 (xin_27 _ (List.mem_of_getElem? (i := 14) rfl)) xy_X11_of (xi_X11_of) (xs_X11_of) (by omega) (by decide) (b := 0) rfl ⟨_, _, rfl⟩ (av := [.inl e, .inl 1]) rfl (Nat.le_of_ble_eq_true rfl) (c_m_of _ _ _ _ _ hq3) rfl ?_
    refine x_iconst C dX11_frame_20 ?_
    refine x_isub C dX11_frame_21 ?_
    obtain ⟨q4, hq4, h⟩ := x_bind h
    refine x_callSp C dX11_frame_22 (xin_18 _ (List.mem_of_getElem? (i := 19) rfl)) xy_X11_inRange (xt_X11_inRange) [] xv_49 (by omega) (by decide) (av := [.inl p, .inl 0, .inl (q3 - 1)]) rfl (Nat.le_of_ble_eq_true rfl) (c_m_inRange _ _ _ _ _ _ hq4) rfl ?_
    refine x_if_eq C 41 dX11_frame_25 (by decide) h (fun h => ?_) (fun h => ?_)
    · refine x_loc [(0, .inr (.inr (some 0))), (1, .inl e), (2, .inl p), (3, .inl w)] ⟨rfl, rfl, rfl, rfl, trivial⟩ ?_
      exact t_m_frame_41 hd9 C _ _ _ hR _ h
    · refine x_iload_n C dX11_frame_28 rfl ?_
      refine x_iconst C dX11_frame_29 ?_
      refine x_iconst C dX11_frame_30 ?_
      obtain ⟨q5, hq5, h⟩ := x_bind h
      refine x_callSp C dX11_frame_31 (xin_18 _ (List.mem_of_getElem? (i := 19) rfl)) xy_X11_inRange (xt_X11_inRange) [] xv_49 (by omega) (by decide) (av := [.inl w, .inl 0, .inl 3]) rfl (Nat.le_of_ble_eq_true rfl) (c_m_inRange _ _ _ _ _ _ hq5) rfl ?_
      refine x_if_eq C 41 dX11_frame_34 (by decide) h (fun h => ?_) (fun h => ?_)
      · refine x_loc [(0, .inr (.inr (some 0))), (1, .inl e), (2, .inl p), (3, .inl w)] ⟨rfl, rfl, rfl, rfl, trivial⟩ ?_
        exact t_m_frame_41 hd9 C _ _ _ hR _ h
      · refine x_iconst C dX11_frame_37 ?_
        refine x_goto C 42 dX11_frame_38 (by decide) ?_
        refine x_loc [(0, .inr (.inr (some 0))), (1, .inl e), (2, .inl p), (3, .inl w)] ⟨rfl, rfl, rfl, rfl, trivial⟩ ?_
        exact t_m_frame_42 hd9 C _ _ _ hR _ _ h
theorem c_m_frame (l : Launch) (e : Int) (p : Int) (w : Int) (m : xM) (r : Int) (m9 : xM) (h : f_m_frame e p w m = some (r, m9)) : xMet l yX11_frame cX11_frame 5 (some .int) 4 lay_M [.inr (.inr (some 0)), .inl e, .inl p, .inl w] m (some (.inl r)) m9 :=
  xMet_i (by decide +kernel) (Nat.le_of_ble_eq_true rfl) (fun Γ C hR hl9 => t_m_frame (Nat.le_refl _) C e p w hR m h)
/-! ===== yX11_received ===== -/
theorem dX11_received_0 : decode cX11_received 0 = .ok (.aload_n 0, 1) := by decide +kernel
theorem dX11_received_1 : decode cX11_received 1 = .ok (.iconst 0, 1) := by decide +kernel
theorem dX11_received_2 : decode cX11_received 2 = .ok (.putfield 66, 3) := by decide +kernel
theorem dX11_received_5 : decode cX11_received 5 = .ok (.iload_n 1, 1) := by decide +kernel
theorem dX11_received_6 : decode cX11_received 6 = .ok (.invokestatic 215, 3) := by decide +kernel
theorem dX11_received_9 : decode cX11_received 9 = .ok (.ifCond .ne 9, 3) := by decide +kernel
theorem dX11_received_12 : decode cX11_received 12 = .ok (.aload_n 0, 1) := by decide +kernel
theorem dX11_received_13 : decode cX11_received 13 = .ok (.iconst 1, 1) := by decide +kernel
theorem dX11_received_14 : decode cX11_received 14 = .ok (.invokevirtual 212, 3) := by decide +kernel
theorem dX11_received_17 : decode cX11_received 17 = .ok (.ireturn, 1) := by decide +kernel
theorem dX11_received_18 : decode cX11_received 18 = .ok (.iload_n 2, 1) := by decide +kernel
theorem dX11_received_19 : decode cX11_received 19 = .ok (.iconst 0, 1) := by decide +kernel
theorem dX11_received_20 : decode cX11_received 20 = .ok (.sipush 400, 3) := by decide +kernel
theorem dX11_received_23 : decode cX11_received 23 = .ok (.aload_n 0, 1) := by decide +kernel
theorem dX11_received_24 : decode cX11_received 24 = .ok (.iload_n 1, 1) := by decide +kernel
theorem dX11_received_25 : decode cX11_received 25 = .ok (.iconst 4, 1) := by decide +kernel
theorem dX11_received_26 : decode cX11_received 26 = .ok (.invokevirtual 101, 3) := by decide +kernel
theorem dX11_received_29 : decode cX11_received 29 = .ok (.invokestatic 96, 3) := by decide +kernel
theorem dX11_received_32 : decode cX11_received 32 = .ok (.iconst 1, 1) := by decide +kernel
theorem dX11_received_33 : decode cX11_received 33 = .ok (.isub, 1) := by decide +kernel
theorem dX11_received_34 : decode cX11_received 34 = .ok (.invokestatic 81, 3) := by decide +kernel
theorem dX11_received_37 : decode cX11_received 37 = .ok (.ifCond .eq 16, 3) := by decide +kernel
theorem dX11_received_40 : decode cX11_received 40 = .ok (.aload_n 0, 1) := by decide +kernel
theorem dX11_received_41 : decode cX11_received 41 = .ok (.iload_n 1, 1) := by decide +kernel
theorem dX11_received_42 : decode cX11_received 42 = .ok (.sipush 317, 3) := by decide +kernel
theorem dX11_received_45 : decode cX11_received 45 = .ok (.iload_n 2, 1) := by decide +kernel
theorem dX11_received_46 : decode cX11_received 46 = .ok (.iadd, 1) := by decide +kernel
theorem dX11_received_47 : decode cX11_received 47 = .ok (.invokevirtual 101, 3) := by decide +kernel
theorem dX11_received_50 : decode cX11_received 50 = .ok (.goto 4, 3) := by decide +kernel
theorem dX11_received_53 : decode cX11_received 53 = .ok (.iconst (-1), 1) := by decide +kernel
theorem dX11_received_54 : decode cX11_received 54 = .ok (.ireturn, 1) := by decide +kernel
def f_m_received (e : Int) (p : Int) (m : xM) : Option (Int × xM) :=
     (Option.bind (f_m_isEnd e (xvw [] (xu m 0 6 0))) fun q0 =>
      (if xw q0 = 0 then (Option.bind (f_m_raise 1 (xu m 0 6 0)) fun q4 =>
      some (q4.1, q4.2))
      else (Option.bind (f_m_of e 4 (xu m 0 6 0)) fun q1 =>
      (Option.bind (f_m_inRange p 0 ((if xw q1 < xw 400 then q1 else 400) - 1) (xvw [] (xu m 0 6 0))) fun q2 =>
      (if xw q2 = 0 then some ((-1), (xu m 0 6 0))
      else (Option.bind (f_m_of e (317 + p) (xu m 0 6 0)) fun q3 =>
      some (q3, (xu m 0 6 0))))))))
set_option maxRecDepth 1000000 in
set_option maxHeartbeats 4000000 in
theorem t_m_received {Γ : xG} {d : Nat} (hd9 : 3 ≤ d) (C : xC Γ lay_M RX11 cX11_received 3 d) (e : Int) (p : Int) {r : Int} {m9 : xM} (hR : xRi Γ lay_M cX11_received r m9) (m : xM) (h : f_m_received e p m = some (r, m9)) : xW Γ lay_M 3 0 [(0, .inr (.inr (some 0))), (1, .inl e), (2, .inl p)] [] m := by
  unfold f_m_received at h
  refine x_aload_n C dX11_received_0 rfl ?_
  refine x_iconst C dX11_received_1 ?_
  refine x_putI C dX11_received_2 fF_X11_66 rfl rfl ?_
  refine x_iload_n C dX11_received_5 rfl ?_
  obtain ⟨q0, hq0, h⟩ := x_bind h
  refine x_callSp C dX11_received_6 (xin_27 _ (List.mem_of_getElem? (i := 11) rfl)) xy_X11_isEnd (xt_X11_isEnd) [] xv_49 (by omega) (by decide) (av := [.inl e]) rfl (Nat.le_of_ble_eq_true rfl) (c_m_isEnd _ _ _ _ hq0) rfl ?_
  refine x_if_ne C 18 dX11_received_9 (by decide) h (fun h => ?_) (fun h => ?_)
  · refine x_iload_n C dX11_received_18 rfl ?_
    refine x_iconst C dX11_received_19 ?_
    refine x_sipush C dX11_received_20 (by decide) ?_
    refine x_aload_n C dX11_received_23 rfl ?_
    refine x_iload_n C dX11_received_24 rfl ?_
    refine x_iconst C dX11_received_25 ?_
    obtain ⟨q1, hq1, h⟩ := x_bind h
    refine x_callVI C dX11_received_26 (xin_27 _ (List.mem_of_getElem? (i := 14) rfl)) xy_X11_of (xi_X11_of) (xs_X11_of) (by omega) (by decide) (b := 0) rfl ⟨_, _, rfl⟩ (av := [.inl e, .inl 4]) rfl (Nat.le_of_ble_eq_true rfl) (c_m_of _ _ _ _ _ hq1) rfl ?_
    refine x_min C dX11_received_29 (xin_30 _ (List.mem_of_getElem? (i := 15) rfl)) gm_min_s gm_math gm_min_c (by omega) (Nat.le_of_ble_eq_true rfl) ?_
    refine x_iconst C dX11_received_32 ?_
    refine x_isub C dX11_received_33 ?_
    obtain ⟨q2, hq2, h⟩ := x_bind h
    refine x_callSp C dX11_received_34 (xin_18 _ (List.mem_of_getElem? (i := 19) rfl)) xy_X11_inRange (xt_X11_inRange) [] xv_49 (by omega) (by decide) (av := [.inl p, .inl 0, .inl ((if xw q1 < xw 400 then q1 else 400) - 1)]) rfl (Nat.le_of_ble_eq_true rfl) (c_m_inRange _ _ _ _ _ _ hq2) rfl ?_
    refine x_if_eq C 53 dX11_received_37 (by decide) h (fun h => ?_) (fun h => ?_)
    · refine x_iconst C dX11_received_53 ?_
      exact x_ireturn hR dX11_received_54 h
    · refine x_aload_n C dX11_received_40 rfl ?_
      refine x_iload_n C dX11_received_41 rfl ?_
      refine x_sipush C dX11_received_42 (by decide) ?_
      refine x_iload_n C dX11_received_45 rfl ?_
      refine x_iadd C dX11_received_46 ?_
      obtain ⟨q3, hq3, h⟩ := x_bind h
      refine x_callVI C dX11_received_47 (xin_27 _ (List.mem_of_getElem? (i := 14) rfl)) xy_X11_of (xi_X11_of) (xs_X11_of) (by omega) (by decide) (b := 0) rfl ⟨_, _, rfl⟩ (av := [.inl e, .inl (317 + p)]) rfl (Nat.le_of_ble_eq_true rfl) (c_m_of _ _ _ _ _ hq3) rfl ?_
      refine x_goto C 54 dX11_received_50 (by decide) ?_
      exact x_ireturn hR dX11_received_54 h
  · refine x_aload_n C dX11_received_12 rfl ?_
    refine x_iconst C dX11_received_13 ?_
    obtain ⟨q4, hq4, h⟩ := x_bind h
    refine x_callVI C dX11_received_14 (xin_18 _ (List.mem_of_getElem? (i := 22) rfl)) xy_X11_raise (xi_X11_raise) (xs_X11_raise) (by omega) (by decide) (b := 0) rfl ⟨_, _, rfl⟩ (av := [.inl 1]) rfl (Nat.le_of_ble_eq_true rfl) (c_m_raise _ _ _ q4.1 q4.2 hq4) rfl ?_
    exact x_ireturn hR dX11_received_17 h
theorem c_m_received (l : Launch) (e : Int) (p : Int) (m : xM) (r : Int) (m9 : xM) (h : f_m_received e p m = some (r, m9)) : xMet l yX11_received cX11_received 3 (some .int) 3 lay_M [.inr (.inr (some 0)), .inl e, .inl p] m (some (.inl r)) m9 :=
  xMet_i (by decide +kernel) (Nat.le_of_ble_eq_true rfl) (fun Γ C hR hl9 => t_m_received (Nat.le_refl _) C e p hR m h)

/-! ===== yX3_sendFrom ===== -/
theorem xy_X6_speedOf : xY yX6_speedOf cX6_speedOf 2 (some .int) 1 := ⟨(xin_27 _ (List.mem_of_getElem? (i := 13) rfl)), (xin_1 _ (List.mem_of_getElem? (i := 13) rfl)), by decide, by decide, by decide +kernel⟩
theorem xi_X6_speedOf : Cond.instanceMethod yX6_speedOf ∈ wsL_law := (xin_27 _ (List.mem_of_getElem? (i := 11) rfl))
theorem xs_X6_speedOf : Cond.selects yX6_speedOf.cls yX6_speedOf yX6_speedOf ∈ wsL_law := (xin_27 _ (List.mem_of_getElem? (i := 12) rfl))
theorem fF_X3_293 : xF RX3 293 2 9 .boolean false := ⟨RX1, TX1, 11, tyX1, rfl, by decide, (xin_27 _ (List.mem_of_getElem? (i := 9) rfl)), rfl, inlX1, tyX1_ok, nmX1, rfl, rfl⟩
theorem xy_X3_sendNext : xY yX3_sendNext cX3_sendNext 7 (some .boolean) 1 := ⟨(xin_27 _ (List.mem_of_getElem? (i := 17) rfl)), (xin_1 _ (List.mem_of_getElem? (i := 18) rfl)), by decide, by decide, by decide +kernel⟩
theorem xi_X3_sendNext : Cond.instanceMethod yX3_sendNext ∈ wsL_law := (xin_27 _ (List.mem_of_getElem? (i := 15) rfl))
theorem xs_X3_sendNext : Cond.selects yX3_sendNext.cls yX3_sendNext yX3_sendNext ∈ wsL_law := (xin_27 _ (List.mem_of_getElem? (i := 16) rfl))
theorem dX3_sendFrom_0 : decode cX3_sendFrom 0 = .ok (.aload_n 0, 1) := by decide +kernel
theorem dX3_sendFrom_1 : decode cX3_sendFrom 1 = .ok (.iload_n 1, 1) := by decide +kernel
theorem dX3_sendFrom_2 : decode cX3_sendFrom 2 = .ok (.invokevirtual 226, 3) := by decide +kernel
theorem dX3_sendFrom_5 : decode cX3_sendFrom 5 = .ok (.astore_n 2, 1) := by decide +kernel
theorem dX3_sendFrom_6 : decode cX3_sendFrom 6 = .ok (.aload_n 0, 1) := by decide +kernel
theorem dX3_sendFrom_7 : decode cX3_sendFrom 7 = .ok (.getfield 46, 3) := by decide +kernel
theorem dX3_sendFrom_10 : decode cX3_sendFrom 10 = .ok (.aload_n 0, 1) := by decide +kernel
theorem dX3_sendFrom_11 : decode cX3_sendFrom 11 = .ok (.getfield 73, 3) := by decide +kernel
theorem dX3_sendFrom_14 : decode cX3_sendFrom 14 = .ok (.invokevirtual 281, 3) := by decide +kernel
theorem dX3_sendFrom_17 : decode cX3_sendFrom 17 = .ok (.istore_n 3, 1) := by decide +kernel
theorem dX3_sendFrom_18 : decode cX3_sendFrom 18 = .ok (.aload_n 2, 1) := by decide +kernel
theorem dX3_sendFrom_19 : decode cX3_sendFrom 19 = .ok (.aload_n 2, 1) := by decide +kernel
theorem dX3_sendFrom_20 : decode cX3_sendFrom 20 = .ok (.getfield 284, 3) := by decide +kernel
theorem dX3_sendFrom_23 : decode cX3_sendFrom 23 = .ok (.iload_n 3, 1) := by decide +kernel
theorem dX3_sendFrom_24 : decode cX3_sendFrom 24 = .ok (.iadd, 1) := by decide +kernel
theorem dX3_sendFrom_25 : decode cX3_sendFrom 25 = .ok (.iload_n 3, 1) := by decide +kernel
theorem dX3_sendFrom_26 : decode cX3_sendFrom 26 = .ok (.bipush 28, 2) := by decide +kernel
theorem dX3_sendFrom_28 : decode cX3_sendFrom 28 = .ok (.iadd, 1) := by decide +kernel
theorem dX3_sendFrom_29 : decode cX3_sendFrom 29 = .ok (.invokestatic 287, 3) := by decide +kernel
theorem dX3_sendFrom_32 : decode cX3_sendFrom 32 = .ok (.putfield 284, 3) := by decide +kernel
theorem dX3_sendFrom_35 : decode cX3_sendFrom 35 = .ok (.aload_n 2, 1) := by decide +kernel
theorem dX3_sendFrom_36 : decode cX3_sendFrom 36 = .ok (.getfield 293, 3) := by decide +kernel
theorem dX3_sendFrom_39 : decode cX3_sendFrom 39 = .ok (.ifCond .ne 7, 3) := by decide +kernel
theorem dX3_sendFrom_42 : decode cX3_sendFrom 42 = .ok (.iconst 1, 1) := by decide +kernel
theorem dX3_sendFrom_43 : decode cX3_sendFrom 43 = .ok (.goto 4, 3) := by decide +kernel
theorem dX3_sendFrom_46 : decode cX3_sendFrom 46 = .ok (.iconst 0, 1) := by decide +kernel
theorem dX3_sendFrom_47 : decode cX3_sendFrom 47 = .ok (.istore 4, 2) := by decide +kernel
theorem dX3_sendFrom_49 : decode cX3_sendFrom 49 = .ok (.iconst 0, 1) := by decide +kernel
theorem dX3_sendFrom_50 : decode cX3_sendFrom 50 = .ok (.istore 5, 2) := by decide +kernel
theorem dX3_sendFrom_52 : decode cX3_sendFrom 52 = .ok (.iload 5, 2) := by decide +kernel
theorem dX3_sendFrom_54 : decode cX3_sendFrom 54 = .ok (.bipush 7, 2) := by decide +kernel
theorem dX3_sendFrom_56 : decode cX3_sendFrom 56 = .ok (.if_icmp .ge 21, 3) := by decide +kernel
theorem dX3_sendFrom_59 : decode cX3_sendFrom 59 = .ok (.iload 4, 2) := by decide +kernel
theorem dX3_sendFrom_61 : decode cX3_sendFrom 61 = .ok (.ifCond .eq 16, 3) := by decide +kernel
theorem dX3_sendFrom_64 : decode cX3_sendFrom 64 = .ok (.aload_n 0, 1) := by decide +kernel
theorem dX3_sendFrom_65 : decode cX3_sendFrom 65 = .ok (.iload_n 1, 1) := by decide +kernel
theorem dX3_sendFrom_66 : decode cX3_sendFrom 66 = .ok (.invokevirtual 296, 3) := by decide +kernel
theorem dX3_sendFrom_69 : decode cX3_sendFrom 69 = .ok (.istore 4, 2) := by decide +kernel
theorem dX3_sendFrom_71 : decode cX3_sendFrom 71 = .ok (.iinc 5 1, 3) := by decide +kernel
theorem dX3_sendFrom_74 : decode cX3_sendFrom 74 = .ok (.goto (-22), 3) := by decide +kernel
theorem dX3_sendFrom_77 : decode cX3_sendFrom 77 = .ok (.return_, 1) := by decide +kernel
def f_L_sendFrom_52 (e : Int) : Nat → Int → Int → xM → Option (xM)
  | 0, _, _, _ => none
  | n + 1, x4, x5, m =>
     (if xw x5 < xw 7 then (if xw x4 = 0 then some m
      else (Option.bind (f_L_sendNext e m) fun q2 =>
      f_L_sendFrom_52 e n q2.1 (x5 + 1) q2.2))
      else some m)
set_option maxRecDepth 1000000 in
set_option maxHeartbeats 4000000 in
theorem t_L_sendFrom_52 {Γ : xG} {d : Nat} (hd9 : 5 ≤ d) (C : xC Γ lay_L0 RX3 cX3_sendFrom 6 d) (e : Int) (e_e : xw e = 0) {m9 : xM} (hR : xRv Γ lay_L0 cX3_sendFrom m9) : ∀ (n : Nat) (x4 : Int) (x5 : Int) (m : xM), f_L_sendFrom_52 e n x4 x5 m = some m9 → xW Γ lay_L0 6 52 [(0, .inr (.inr (some 0))), (1, .inl e), (4, .inl x4), (5, .inl x5)] [] m := by
  intro n
  induction n with
  | zero => intro _ _ _ h; cases h
  | succ n ih =>
    intro x4 x5 m h
    rw [f_L_sendFrom_52] at h
    refine x_iload C dX3_sendFrom_52 rfl ?_
    refine x_bipush C dX3_sendFrom_54 (by decide) ?_
    refine x_icmp_ge C 77 dX3_sendFrom_56 (by decide) h (fun h => ?_) (fun h => ?_)
    · exact x_returnV hR dX3_sendFrom_77 h
    · refine x_iload C dX3_sendFrom_59 rfl ?_
      refine x_if_eq C 77 dX3_sendFrom_61 (by decide) h (fun h => ?_) (fun h => ?_)
      · exact x_returnV hR dX3_sendFrom_77 h
      · refine x_aload_n C dX3_sendFrom_64 rfl ?_
        refine x_iload_n C dX3_sendFrom_65 rfl ?_
        obtain ⟨q2, hq2, h⟩ := x_bind h
        refine x_callVI C dX3_sendFrom_66 (xin_27 _ (List.mem_of_getElem? (i := 14) rfl)) xy_X3_sendNext (xi_X3_sendNext) (xs_X3_sendNext) (by omega) (by decide) (b := 0) rfl ⟨_, _, rfl⟩ (av := [.inl e]) rfl (Nat.le_of_ble_eq_true rfl) (c_L_sendNext _ _ (by first | decide | assumption | exact xw_1m0 (by assumption) | exact xw_1m1 (by assumption) | exact xw_ne1 (by assumption) | exact xw_n1m0 (by assumption)) _ q2.1 q2.2 hq2) rfl ?_
        refine x_istore C dX3_sendFrom_69 (by decide) ?_
        refine x_iinc C dX3_sendFrom_71 (by decide) rfl ?_
        refine x_goto C 52 dX3_sendFrom_74 (by decide) ?_
        refine x_loc [(0, .inr (.inr (some 0))), (1, .inl e), (4, .inl q2.1), (5, .inl (x5 + 1))] ⟨rfl, rfl, rfl, rfl, trivial⟩ ?_
        exact ih _ _ _ h
def f_L_sendFrom_47 (e : Int) (s0 : Int) (m : xM) : Option (xM) :=
     f_L_sendFrom_52 e fu s0 0 m
set_option maxRecDepth 1000000 in
set_option maxHeartbeats 4000000 in
theorem t_L_sendFrom_47 {Γ : xG} {d : Nat} (hd9 : 5 ≤ d) (C : xC Γ lay_L0 RX3 cX3_sendFrom 6 d) (e : Int) (e_e : xw e = 0) {m9 : xM} (hR : xRv Γ lay_L0 cX3_sendFrom m9) (s0 : Int) (m : xM) (h : f_L_sendFrom_47 e s0 m = some m9) : xW Γ lay_L0 6 47 [(0, .inr (.inr (some 0))), (1, .inl e)] [.inl s0] m := by
  unfold f_L_sendFrom_47 at h
  refine x_istore C dX3_sendFrom_47 (by decide) ?_
  refine x_iconst C dX3_sendFrom_49 ?_
  refine x_istore C dX3_sendFrom_50 (by decide) ?_
  refine x_loc [(0, .inr (.inr (some 0))), (1, .inl e), (4, .inl s0), (5, .inl 0)] ⟨rfl, rfl, rfl, rfl, trivial⟩ ?_
  exact t_L_sendFrom_52 hd9 C _ e_e hR fu _ _ _ h
def f_L_sendFrom_35 (e : Int) (m : xM) : Option (xM) :=
     (if xw (m 1 9) = 0 then f_L_sendFrom_47 e 1 m
      else f_L_sendFrom_47 e 0 m)
set_option maxRecDepth 1000000 in
set_option maxHeartbeats 4000000 in
theorem t_L_sendFrom_35 {Γ : xG} {d : Nat} (hd9 : 5 ≤ d) (C : xC Γ lay_L0 RX3 cX3_sendFrom 6 d) (e : Int) (e_e : xw e = 0) {m9 : xM} (hR : xRv Γ lay_L0 cX3_sendFrom m9) (m : xM) (h : f_L_sendFrom_35 e m = some m9) : xW Γ lay_L0 6 35 [(0, .inr (.inr (some 0))), (1, .inl e), (2, .inr (.inr (some 1)))] [] m := by
  unfold f_L_sendFrom_35 at h
  refine x_aload_n C dX3_sendFrom_35 rfl ?_
  refine x_getI C dX3_sendFrom_36 fF_X3_293 rfl rfl ?_
  refine x_if_ne C 46 dX3_sendFrom_39 (by decide) h (fun h => ?_) (fun h => ?_)
  · refine x_iconst C dX3_sendFrom_46 ?_
    refine x_loc [(0, .inr (.inr (some 0))), (1, .inl e)] ⟨rfl, rfl, trivial⟩ ?_
    exact t_L_sendFrom_47 hd9 C _ e_e hR _ _ h
  · refine x_iconst C dX3_sendFrom_42 ?_
    refine x_goto C 47 dX3_sendFrom_43 (by decide) ?_
    refine x_loc [(0, .inr (.inr (some 0))), (1, .inl e)] ⟨rfl, rfl, trivial⟩ ?_
    exact t_L_sendFrom_47 hd9 C _ e_e hR _ _ h
def f_L_sendFrom (e : Int) (m : xM) : Option (xM) :=
     (Option.bind (f_S_speed (m 0 10) (xvw [33, 34, 35, 36, 37] m)) fun q1 =>
      f_L_sendFrom_35 e (xu m 1 8 (if xw (q1 + 28) < xw ((m 1 8) + q1) then q1 + 28 else (m 1 8) + q1)))
set_option maxRecDepth 1000000 in
set_option maxHeartbeats 4000000 in
theorem t_L_sendFrom {Γ : xG} {d : Nat} (hd9 : 5 ≤ d) (C : xC Γ lay_L0 RX3 cX3_sendFrom 6 d) (e : Int) (e_e : xw e = 0) {m9 : xM} (hR : xRv Γ lay_L0 cX3_sendFrom m9) (m : xM) (h : f_L_sendFrom e m = some m9) : xW Γ lay_L0 6 0 [(0, .inr (.inr (some 0))), (1, .inl e)] [] m := by
  unfold f_L_sendFrom at h
  refine x_aload_n C dX3_sendFrom_0 rfl ?_
  refine x_iload_n C dX3_sendFrom_1 rfl ?_
  refine x_callVp C dX3_sendFrom_2 (xin_24 _ (List.mem_of_getElem? (i := 19) rfl)) xy_X3_endOf (xi_X3_endOf) (xs_X3_endOf) [0, 33, 1, 12, 23, 28, 30, 31] xv_21 (by omega) (by decide) (b := 0) rfl ⟨_, _, rfl⟩ (av := [.inl e]) rfl (Nat.le_of_ble_eq_true rfl) (c_endOf0 _ _ _ (by first | decide | assumption | exact xw_1m0 (by assumption) | exact xw_1m1 (by assumption) | exact xw_ne1 (by assumption) | exact xw_n1m0 (by assumption))) rfl ?_
  refine x_astore_n C dX3_sendFrom_5 (by decide) ?_
  refine x_aload_n C dX3_sendFrom_6 rfl ?_
  refine x_getR C dX3_sendFrom_7 fF_X3_46 rfl rfl ?_
  refine x_aload_n C dX3_sendFrom_10 rfl ?_
  refine x_getI C dX3_sendFrom_11 fF_X3_73 rfl rfl ?_
  obtain ⟨q1, hq1, h⟩ := x_bind h
  refine x_callVp C dX3_sendFrom_14 (xin_27 _ (List.mem_of_getElem? (i := 10) rfl)) xy_X6_speedOf (xi_X6_speedOf) (xs_X6_speedOf) [33, 34, 35, 36, 37] xv_18 (by omega) (by decide) (b := 0) rfl ⟨_, _, rfl⟩ (av := [.inl (m 0 10)]) rfl (Nat.le_of_ble_eq_true rfl) (c_S_speed _ _ _ _ hq1) rfl ?_
  refine x_istore_n C dX3_sendFrom_17 (by decide) ?_
  refine x_aload_n C dX3_sendFrom_18 rfl ?_
  refine x_aload_n C dX3_sendFrom_19 rfl ?_
  refine x_getI C dX3_sendFrom_20 fF_X3_284 rfl rfl ?_
  refine x_iload_n C dX3_sendFrom_23 rfl ?_
  refine x_iadd C dX3_sendFrom_24 ?_
  refine x_iload_n C dX3_sendFrom_25 rfl ?_
  refine x_bipush C dX3_sendFrom_26 (by decide) ?_
  refine x_iadd C dX3_sendFrom_28 ?_
  refine x_min C dX3_sendFrom_29 (xin_27 _ (List.mem_of_getElem? (i := 8) rfl)) gm_min_s gm_math gm_min_c (by omega) (Nat.le_of_ble_eq_true rfl) ?_
  refine x_putI C dX3_sendFrom_32 fF_X3_284 rfl rfl ?_
  refine x_loc [(0, .inr (.inr (some 0))), (1, .inl e), (2, .inr (.inr (some 1)))] ⟨rfl, rfl, rfl, trivial⟩ ?_
  exact t_L_sendFrom_35 hd9 C _ e_e hR _ h
theorem c_L_sendFrom (l : Launch) (e : Int) (e_e : xw e = 0) (m m9 : xM) (h : f_L_sendFrom e m = some m9) : xMet l yX3_sendFrom cX3_sendFrom 6 none 5 lay_L0 [.inr (.inr (some 0)), .inl e] m none m9 :=
  xMet_v (by decide +kernel) (Nat.le_of_ble_eq_true rfl) (fun Γ C hR hl9 => t_L_sendFrom (Nat.le_refl _) C e e_e hR m h)
/-! ===== yX3_sendFrom ===== -/
set_option maxRecDepth 1000000 in
set_option maxHeartbeats 4000000 in
theorem t_L_sendFrom_52_1 {Γ : xG} {d : Nat} (hd9 : 5 ≤ d) (C : xC Γ lay_L1 RX3 cX3_sendFrom 6 d) (e : Int) (e_e : xw e = 1) {m9 : xM} (hR : xRv Γ lay_L1 cX3_sendFrom m9) : ∀ (n : Nat) (x4 : Int) (x5 : Int) (m : xM), f_L_sendFrom_52 e n x4 x5 m = some m9 → xW Γ lay_L1 6 52 [(0, .inr (.inr (some 0))), (1, .inl e), (4, .inl x4), (5, .inl x5)] [] m := by
  intro n
  induction n with
  | zero => intro _ _ _ h; cases h
  | succ n ih =>
    intro x4 x5 m h
    rw [f_L_sendFrom_52] at h
    refine x_iload C dX3_sendFrom_52 rfl ?_
    refine x_bipush C dX3_sendFrom_54 (by decide) ?_
    refine x_icmp_ge C 77 dX3_sendFrom_56 (by decide) h (fun h => ?_) (fun h => ?_)
    · exact x_returnV hR dX3_sendFrom_77 h
    · refine x_iload C dX3_sendFrom_59 rfl ?_
      refine x_if_eq C 77 dX3_sendFrom_61 (by decide) h (fun h => ?_) (fun h => ?_)
      · exact x_returnV hR dX3_sendFrom_77 h
      · refine x_aload_n C dX3_sendFrom_64 rfl ?_
        refine x_iload_n C dX3_sendFrom_65 rfl ?_
        obtain ⟨q2, hq2, h⟩ := x_bind h
        refine x_callVI C dX3_sendFrom_66 (xin_27 _ (List.mem_of_getElem? (i := 14) rfl)) xy_X3_sendNext (xi_X3_sendNext) (xs_X3_sendNext) (by omega) (by decide) (b := 0) rfl ⟨_, _, rfl⟩ (av := [.inl e]) rfl (Nat.le_of_ble_eq_true rfl) (c_L_sendNext_1 _ _ (by first | decide | assumption | exact xw_1m0 (by assumption) | exact xw_1m1 (by assumption) | exact xw_ne1 (by assumption) | exact xw_n1m0 (by assumption)) _ q2.1 q2.2 hq2) rfl ?_
        refine x_istore C dX3_sendFrom_69 (by decide) ?_
        refine x_iinc C dX3_sendFrom_71 (by decide) rfl ?_
        refine x_goto C 52 dX3_sendFrom_74 (by decide) ?_
        refine x_loc [(0, .inr (.inr (some 0))), (1, .inl e), (4, .inl q2.1), (5, .inl (x5 + 1))] ⟨rfl, rfl, rfl, rfl, trivial⟩ ?_
        exact ih _ _ _ h
set_option maxRecDepth 1000000 in
set_option maxHeartbeats 4000000 in
theorem t_L_sendFrom_47_1 {Γ : xG} {d : Nat} (hd9 : 5 ≤ d) (C : xC Γ lay_L1 RX3 cX3_sendFrom 6 d) (e : Int) (e_e : xw e = 1) {m9 : xM} (hR : xRv Γ lay_L1 cX3_sendFrom m9) (s0 : Int) (m : xM) (h : f_L_sendFrom_47 e s0 m = some m9) : xW Γ lay_L1 6 47 [(0, .inr (.inr (some 0))), (1, .inl e)] [.inl s0] m := by
  unfold f_L_sendFrom_47 at h
  refine x_istore C dX3_sendFrom_47 (by decide) ?_
  refine x_iconst C dX3_sendFrom_49 ?_
  refine x_istore C dX3_sendFrom_50 (by decide) ?_
  refine x_loc [(0, .inr (.inr (some 0))), (1, .inl e), (4, .inl s0), (5, .inl 0)] ⟨rfl, rfl, rfl, rfl, trivial⟩ ?_
  exact t_L_sendFrom_52_1 hd9 C _ e_e hR fu _ _ _ h
set_option maxRecDepth 1000000 in
set_option maxHeartbeats 4000000 in
theorem t_L_sendFrom_35_1 {Γ : xG} {d : Nat} (hd9 : 5 ≤ d) (C : xC Γ lay_L1 RX3 cX3_sendFrom 6 d) (e : Int) (e_e : xw e = 1) {m9 : xM} (hR : xRv Γ lay_L1 cX3_sendFrom m9) (m : xM) (h : f_L_sendFrom_35 e m = some m9) : xW Γ lay_L1 6 35 [(0, .inr (.inr (some 0))), (1, .inl e), (2, .inr (.inr (some 1)))] [] m := by
  unfold f_L_sendFrom_35 at h
  refine x_aload_n C dX3_sendFrom_35 rfl ?_
  refine x_getI C dX3_sendFrom_36 fF_X3_293 rfl rfl ?_
  refine x_if_ne C 46 dX3_sendFrom_39 (by decide) h (fun h => ?_) (fun h => ?_)
  · refine x_iconst C dX3_sendFrom_46 ?_
    refine x_loc [(0, .inr (.inr (some 0))), (1, .inl e)] ⟨rfl, rfl, trivial⟩ ?_
    exact t_L_sendFrom_47_1 hd9 C _ e_e hR _ _ h
  · refine x_iconst C dX3_sendFrom_42 ?_
    refine x_goto C 47 dX3_sendFrom_43 (by decide) ?_
    refine x_loc [(0, .inr (.inr (some 0))), (1, .inl e)] ⟨rfl, rfl, trivial⟩ ?_
    exact t_L_sendFrom_47_1 hd9 C _ e_e hR _ _ h
set_option maxRecDepth 1000000 in
set_option maxHeartbeats 4000000 in
theorem t_L_sendFrom_1 {Γ : xG} {d : Nat} (hd9 : 5 ≤ d) (C : xC Γ lay_L1 RX3 cX3_sendFrom 6 d) (e : Int) (e_e : xw e = 1) {m9 : xM} (hR : xRv Γ lay_L1 cX3_sendFrom m9) (m : xM) (h : f_L_sendFrom e m = some m9) : xW Γ lay_L1 6 0 [(0, .inr (.inr (some 0))), (1, .inl e)] [] m := by
  unfold f_L_sendFrom at h
  refine x_aload_n C dX3_sendFrom_0 rfl ?_
  refine x_iload_n C dX3_sendFrom_1 rfl ?_
  refine x_callVp C dX3_sendFrom_2 (xin_24 _ (List.mem_of_getElem? (i := 19) rfl)) xy_X3_endOf (xi_X3_endOf) (xs_X3_endOf) [0, 33, 12, 1, 23, 28, 30, 31] xv_22 (by omega) (by decide) (b := 0) rfl ⟨_, _, rfl⟩ (av := [.inl e]) rfl (Nat.le_of_ble_eq_true rfl) (c_endOf1 _ _ _ (by first | decide | assumption | exact xw_1m0 (by assumption) | exact xw_1m1 (by assumption) | exact xw_ne1 (by assumption) | exact xw_n1m0 (by assumption))) rfl ?_
  refine x_astore_n C dX3_sendFrom_5 (by decide) ?_
  refine x_aload_n C dX3_sendFrom_6 rfl ?_
  refine x_getR C dX3_sendFrom_7 fF_X3_46 rfl rfl ?_
  refine x_aload_n C dX3_sendFrom_10 rfl ?_
  refine x_getI C dX3_sendFrom_11 fF_X3_73 rfl rfl ?_
  obtain ⟨q1, hq1, h⟩ := x_bind h
  refine x_callVp C dX3_sendFrom_14 (xin_27 _ (List.mem_of_getElem? (i := 10) rfl)) xy_X6_speedOf (xi_X6_speedOf) (xs_X6_speedOf) [33, 34, 35, 36, 37] xv_33 (by omega) (by decide) (b := 0) rfl ⟨_, _, rfl⟩ (av := [.inl (m 0 10)]) rfl (Nat.le_of_ble_eq_true rfl) (c_S_speed _ _ _ _ hq1) rfl ?_
  refine x_istore_n C dX3_sendFrom_17 (by decide) ?_
  refine x_aload_n C dX3_sendFrom_18 rfl ?_
  refine x_aload_n C dX3_sendFrom_19 rfl ?_
  refine x_getI C dX3_sendFrom_20 fF_X3_284 rfl rfl ?_
  refine x_iload_n C dX3_sendFrom_23 rfl ?_
  refine x_iadd C dX3_sendFrom_24 ?_
  refine x_iload_n C dX3_sendFrom_25 rfl ?_
  refine x_bipush C dX3_sendFrom_26 (by decide) ?_
  refine x_iadd C dX3_sendFrom_28 ?_
  refine x_min C dX3_sendFrom_29 (xin_27 _ (List.mem_of_getElem? (i := 8) rfl)) gm_min_s gm_math gm_min_c (by omega) (Nat.le_of_ble_eq_true rfl) ?_
  refine x_putI C dX3_sendFrom_32 fF_X3_284 rfl rfl ?_
  refine x_loc [(0, .inr (.inr (some 0))), (1, .inl e), (2, .inr (.inr (some 1)))] ⟨rfl, rfl, rfl, trivial⟩ ?_
  exact t_L_sendFrom_35_1 hd9 C _ e_e hR _ h
theorem c_L_sendFrom_1 (l : Launch) (e : Int) (e_e : xw e = 1) (m m9 : xM) (h : f_L_sendFrom e m = some m9) : xMet l yX3_sendFrom cX3_sendFrom 6 none 5 lay_L1 [.inr (.inr (some 0)), .inl e] m none m9 :=
  xMet_v (by decide +kernel) (Nat.le_of_ble_eq_true rfl) (fun Γ C hR hl9 => t_L_sendFrom_1 (Nat.le_refl _) C e e_e hR m h)
/-! ===== yX3_tick ===== -/
theorem xy_X3_arrive : xY yX3_arrive cX3_arrive 3 none 0 := ⟨(xin_24 _ (List.mem_of_getElem? (i := 0) rfl)), (xin_1 _ (List.mem_of_getElem? (i := 18) rfl)), by decide, by decide, by decide +kernel⟩
theorem xi_X3_arrive : Cond.instanceMethod yX3_arrive ∈ wsL_law := (xin_23 _ (List.mem_of_getElem? (i := 22) rfl))
theorem xs_X3_arrive : Cond.selects yX3_arrive.cls yX3_arrive yX3_arrive ∈ wsL_law := (xin_23 _ (List.mem_of_getElem? (i := 23) rfl))
theorem xy_X3_checkTimer : xY yX3_checkTimer cX3_checkTimer 4 none 1 := ⟨(xin_26 _ (List.mem_of_getElem? (i := 8) rfl)), (xin_1 _ (List.mem_of_getElem? (i := 18) rfl)), by decide, by decide, by decide +kernel⟩
theorem xi_X3_checkTimer : Cond.instanceMethod yX3_checkTimer ∈ wsL_law := (xin_26 _ (List.mem_of_getElem? (i := 6) rfl))
theorem xs_X3_checkTimer : Cond.selects yX3_checkTimer.cls yX3_checkTimer yX3_checkTimer ∈ wsL_law := (xin_26 _ (List.mem_of_getElem? (i := 7) rfl))
theorem xy_X3_rise : xY yX3_rise cX3_rise 1 none 0 := ⟨(xin_26 _ (List.mem_of_getElem? (i := 21) rfl)), (xin_1 _ (List.mem_of_getElem? (i := 18) rfl)), by decide, by decide, by decide +kernel⟩
theorem xi_X3_rise : Cond.instanceMethod yX3_rise ∈ wsL_law := (xin_26 _ (List.mem_of_getElem? (i := 19) rfl))
theorem xs_X3_rise : Cond.selects yX3_rise.cls yX3_rise yX3_rise ∈ wsL_law := (xin_26 _ (List.mem_of_getElem? (i := 20) rfl))
theorem xy_X3_sendFrom : xY yX3_sendFrom cX3_sendFrom 6 none 1 := ⟨(xin_27 _ (List.mem_of_getElem? (i := 6) rfl)), (xin_1 _ (List.mem_of_getElem? (i := 18) rfl)), by decide, by decide, by decide +kernel⟩
theorem xi_X3_sendFrom : Cond.instanceMethod yX3_sendFrom ∈ wsL_law := (xin_27 _ (List.mem_of_getElem? (i := 4) rfl))
theorem xs_X3_sendFrom : Cond.selects yX3_sendFrom.cls yX3_sendFrom yX3_sendFrom ∈ wsL_law := (xin_27 _ (List.mem_of_getElem? (i := 5) rfl))
theorem xy_X3_loseCarrier : xY yX3_loseCarrier cX3_loseCarrier 1 none 0 := ⟨(xin_23 _ (List.mem_of_getElem? (i := 20) rfl)), (xin_1 _ (List.mem_of_getElem? (i := 18) rfl)), by decide, by decide, by decide +kernel⟩
theorem xi_X3_loseCarrier : Cond.instanceMethod yX3_loseCarrier ∈ wsL_law := (xin_23 _ (List.mem_of_getElem? (i := 18) rfl))
theorem xs_X3_loseCarrier : Cond.selects yX3_loseCarrier.cls yX3_loseCarrier yX3_loseCarrier ∈ wsL_law := (xin_23 _ (List.mem_of_getElem? (i := 19) rfl))
theorem xy_X3_waitForCarrier : xY yX3_waitForCarrier cX3_waitForCarrier 1 none 0 := ⟨(xin_23 _ (List.mem_of_getElem? (i := 11) rfl)), (xin_1 _ (List.mem_of_getElem? (i := 18) rfl)), by decide, by decide, by decide +kernel⟩
theorem xi_X3_waitForCarrier : Cond.instanceMethod yX3_waitForCarrier ∈ wsL_law := (xin_23 _ (List.mem_of_getElem? (i := 9) rfl))
theorem xs_X3_waitForCarrier : Cond.selects yX3_waitForCarrier.cls yX3_waitForCarrier yX3_waitForCarrier ∈ wsL_law := (xin_23 _ (List.mem_of_getElem? (i := 10) rfl))
theorem xy_X3_train : xY yX3_train cX3_train 1 none 0 := ⟨(xin_21 _ (List.mem_of_getElem? (i := 13) rfl)), (xin_1 _ (List.mem_of_getElem? (i := 18) rfl)), by decide, by decide, by decide +kernel⟩
theorem xi_X3_train : Cond.instanceMethod yX3_train ∈ wsL_law := (xin_21 _ (List.mem_of_getElem? (i := 11) rfl))
theorem xs_X3_train : Cond.selects yX3_train.cls yX3_train yX3_train ∈ wsL_law := (xin_21 _ (List.mem_of_getElem? (i := 12) rfl))
theorem dX3_tick_0 : decode cX3_tick 0 = .ok (.aload_n 0, 1) := by decide +kernel
theorem dX3_tick_1 : decode cX3_tick 1 = .ok (.getfield 64, 3) := by decide +kernel
theorem dX3_tick_4 : decode cX3_tick 4 = .ok (.iconst 1, 1) := by decide +kernel
theorem dX3_tick_5 : decode cX3_tick 5 = .ok (.if_icmp .ne 10, 3) := by decide +kernel
theorem dX3_tick_8 : decode cX3_tick 8 = .ok (.aload_n 0, 1) := by decide +kernel
theorem dX3_tick_9 : decode cX3_tick 9 = .ok (.invokevirtual 127, 3) := by decide +kernel
theorem dX3_tick_12 : decode cX3_tick 12 = .ok (.goto 84, 3) := by decide +kernel
theorem dX3_tick_15 : decode cX3_tick 15 = .ok (.aload_n 0, 1) := by decide +kernel
theorem dX3_tick_16 : decode cX3_tick 16 = .ok (.getfield 64, 3) := by decide +kernel
theorem dX3_tick_19 : decode cX3_tick 19 = .ok (.iconst 3, 1) := by decide +kernel
theorem dX3_tick_20 : decode cX3_tick 20 = .ok (.if_icmp .ne 10, 3) := by decide +kernel
theorem dX3_tick_23 : decode cX3_tick 23 = .ok (.aload_n 0, 1) := by decide +kernel
theorem dX3_tick_24 : decode cX3_tick 24 = .ok (.invokevirtual 130, 3) := by decide +kernel
theorem dX3_tick_27 : decode cX3_tick 27 = .ok (.goto 69, 3) := by decide +kernel
theorem dX3_tick_30 : decode cX3_tick 30 = .ok (.aload_n 0, 1) := by decide +kernel
theorem dX3_tick_31 : decode cX3_tick 31 = .ok (.getfield 64, 3) := by decide +kernel
theorem dX3_tick_34 : decode cX3_tick 34 = .ok (.iconst 2, 1) := by decide +kernel
theorem dX3_tick_35 : decode cX3_tick 35 = .ok (.if_icmp .ne 17, 3) := by decide +kernel
theorem dX3_tick_38 : decode cX3_tick 38 = .ok (.aload_n 0, 1) := by decide +kernel
theorem dX3_tick_39 : decode cX3_tick 39 = .ok (.getfield 72, 3) := by decide +kernel
theorem dX3_tick_42 : decode cX3_tick 42 = .ok (.ifCond .ne 10, 3) := by decide +kernel
theorem dX3_tick_45 : decode cX3_tick 45 = .ok (.aload_n 0, 1) := by decide +kernel
theorem dX3_tick_46 : decode cX3_tick 46 = .ok (.invokevirtual 133, 3) := by decide +kernel
theorem dX3_tick_49 : decode cX3_tick 49 = .ok (.goto 47, 3) := by decide +kernel
theorem dX3_tick_52 : decode cX3_tick 52 = .ok (.aload_n 0, 1) := by decide +kernel
theorem dX3_tick_53 : decode cX3_tick 53 = .ok (.getfield 64, 3) := by decide +kernel
theorem dX3_tick_56 : decode cX3_tick 56 = .ok (.iconst 2, 1) := by decide +kernel
theorem dX3_tick_57 : decode cX3_tick 57 = .ok (.if_icmp .ne 39, 3) := by decide +kernel
theorem dX3_tick_60 : decode cX3_tick 60 = .ok (.aload_n 0, 1) := by decide +kernel
theorem dX3_tick_61 : decode cX3_tick 61 = .ok (.invokevirtual 136, 3) := by decide +kernel
theorem dX3_tick_64 : decode cX3_tick 64 = .ok (.aload_n 0, 1) := by decide +kernel
theorem dX3_tick_65 : decode cX3_tick 65 = .ok (.iconst 0, 1) := by decide +kernel
theorem dX3_tick_66 : decode cX3_tick 66 = .ok (.invokevirtual 139, 3) := by decide +kernel
theorem dX3_tick_69 : decode cX3_tick 69 = .ok (.aload_n 0, 1) := by decide +kernel
theorem dX3_tick_70 : decode cX3_tick 70 = .ok (.iconst 1, 1) := by decide +kernel
theorem dX3_tick_71 : decode cX3_tick 71 = .ok (.invokevirtual 139, 3) := by decide +kernel
theorem dX3_tick_74 : decode cX3_tick 74 = .ok (.aload_n 0, 1) := by decide +kernel
theorem dX3_tick_75 : decode cX3_tick 75 = .ok (.getfield 64, 3) := by decide +kernel
theorem dX3_tick_78 : decode cX3_tick 78 = .ok (.iconst 2, 1) := by decide +kernel
theorem dX3_tick_79 : decode cX3_tick 79 = .ok (.if_icmp .ne 17, 3) := by decide +kernel
theorem dX3_tick_82 : decode cX3_tick 82 = .ok (.aload_n 0, 1) := by decide +kernel
theorem dX3_tick_83 : decode cX3_tick 83 = .ok (.invokevirtual 143, 3) := by decide +kernel
theorem dX3_tick_86 : decode cX3_tick 86 = .ok (.aload_n 0, 1) := by decide +kernel
theorem dX3_tick_87 : decode cX3_tick 87 = .ok (.iconst 0, 1) := by decide +kernel
theorem dX3_tick_88 : decode cX3_tick 88 = .ok (.invokevirtual 146, 3) := by decide +kernel
theorem dX3_tick_91 : decode cX3_tick 91 = .ok (.aload_n 0, 1) := by decide +kernel
theorem dX3_tick_92 : decode cX3_tick 92 = .ok (.iconst 1, 1) := by decide +kernel
theorem dX3_tick_93 : decode cX3_tick 93 = .ok (.invokevirtual 146, 3) := by decide +kernel
theorem dX3_tick_96 : decode cX3_tick 96 = .ok (.aload_n 0, 1) := by decide +kernel
theorem dX3_tick_97 : decode cX3_tick 97 = .ok (.dup, 1) := by decide +kernel
theorem dX3_tick_98 : decode cX3_tick 98 = .ok (.getfield 61, 3) := by decide +kernel
theorem dX3_tick_101 : decode cX3_tick 101 = .ok (.iconst 1, 1) := by decide +kernel
theorem dX3_tick_102 : decode cX3_tick 102 = .ok (.iadd, 1) := by decide +kernel
theorem dX3_tick_103 : decode cX3_tick 103 = .ok (.putfield 61, 3) := by decide +kernel
theorem dX3_tick_106 : decode cX3_tick 106 = .ok (.return_, 1) := by decide +kernel
def f_L_tick_96 (m : xM) : Option (xM) :=
     some (xu m 0 7 ((m 0 7) + 1))
set_option maxRecDepth 1000000 in
set_option maxHeartbeats 4000000 in
theorem t_L_tick_96 {Γ : xG} {d : Nat} (hd9 : 6 ≤ d) (C : xC Γ lay_L0 RX3 cX3_tick 1 d) {m9 : xM} (hR : xRv Γ lay_L0 cX3_tick m9) (m : xM) (h : f_L_tick_96 m = some m9) : xW Γ lay_L0 1 96 [(0, .inr (.inr (some 0)))] [] m := by
  unfold f_L_tick_96 at h
  refine x_aload_n C dX3_tick_96 rfl ?_
  refine x_dup C dX3_tick_97 rfl ?_
  refine x_getI C dX3_tick_98 fF_X3_61 rfl rfl ?_
  refine x_iconst C dX3_tick_101 ?_
  refine x_iadd C dX3_tick_102 ?_
  refine x_putI C dX3_tick_103 fF_X3_61 rfl rfl ?_
  exact x_returnV hR dX3_tick_106 h
def f_L_tick_52 (m : xM) : Option (xM) :=
     (if xw (m 0 8) = xw 2 then (Option.bind (f_L_arrive m) fun q0 =>
      (Option.bind (f_L_timer0 0 q0) fun q1 =>
      (Option.bind (f_L_timer1 1 (xvw xT_1 q1)) fun q2 =>
      (if xw ((xmg xT_1 38 q1 q2) 0 8) = xw 2 then (Option.bind (f_L_rise (xmg xT_1 38 q1 q2)) fun q3 =>
      (Option.bind (f_L_sendFrom 0 q3) fun q4 =>
      (Option.bind (f_L_sendFrom 1 (xvw xT_1 q4)) fun q5 =>
      f_L_tick_96 (xmg xT_1 38 q4 q5))))
      else f_L_tick_96 (xmg xT_1 38 q1 q2)))))
      else f_L_tick_96 m)
set_option maxRecDepth 1000000 in
set_option maxHeartbeats 4000000 in
theorem t_L_tick_52 {Γ : xG} {d : Nat} (hd9 : 6 ≤ d) (C : xC Γ lay_L0 RX3 cX3_tick 1 d) {m9 : xM} (hR : xRv Γ lay_L0 cX3_tick m9) (m : xM) (h : f_L_tick_52 m = some m9) : xW Γ lay_L0 1 52 [(0, .inr (.inr (some 0)))] [] m := by
  unfold f_L_tick_52 at h
  refine x_aload_n C dX3_tick_52 rfl ?_
  refine x_getI C dX3_tick_53 fF_X3_64 rfl rfl ?_
  refine x_iconst C dX3_tick_56 ?_
  refine x_icmp_ne C 96 dX3_tick_57 (by decide) h (fun h => ?_) (fun h => ?_)
  · refine x_loc [(0, .inr (.inr (some 0)))] ⟨rfl, trivial⟩ ?_
    exact t_L_tick_96 hd9 C hR _ h
  · refine x_aload_n C dX3_tick_60 rfl ?_
    obtain ⟨q0, hq0, h⟩ := x_bind h
    refine x_callVI C dX3_tick_61 (xin_23 _ (List.mem_of_getElem? (i := 21) rfl)) xy_X3_arrive (xi_X3_arrive) (xs_X3_arrive) (by omega) (by decide) (b := 0) rfl ⟨_, _, rfl⟩ (av := []) rfl (Nat.le_of_ble_eq_true rfl) (c_L_arrive _ _ _ hq0) rfl ?_
    refine x_aload_n C dX3_tick_64 rfl ?_
    refine x_iconst C dX3_tick_65 ?_
    obtain ⟨q1, hq1, h⟩ := x_bind h
    refine x_callVI C dX3_tick_66 (xin_26 _ (List.mem_of_getElem? (i := 5) rfl)) xy_X3_checkTimer (xi_X3_checkTimer) (xs_X3_checkTimer) (by omega) (by decide) (b := 0) rfl ⟨_, _, rfl⟩ (av := [.inl 0]) rfl (Nat.le_of_ble_eq_true rfl) (c_L_timer0 _ _ (by first | decide | assumption | exact xw_1m0 (by assumption) | exact xw_1m1 (by assumption) | exact xw_ne1 (by assumption) | exact xw_n1m0 (by assumption)) _ _ hq1) rfl ?_
    refine x_aload_n C dX3_tick_69 rfl ?_
    refine x_iconst C dX3_tick_70 ?_
    obtain ⟨q2, hq2, h⟩ := x_bind h
    refine x_callV C dX3_tick_71 (xin_26 _ (List.mem_of_getElem? (i := 5) rfl)) xy_X3_checkTimer (xi_X3_checkTimer) (xs_X3_checkTimer) xT_1 xv_28 (by omega) (by decide) (b := 0) rfl ⟨_, _, rfl⟩ (av := [.inl 1]) rfl (Nat.le_of_ble_eq_true rfl) (c_L_timer1 _ _ (by first | decide | assumption | exact xw_1m0 (by assumption) | exact xw_1m1 (by assumption) | exact xw_ne1 (by assumption) | exact xw_n1m0 (by assumption)) _ _ hq2) rfl ?_
    refine x_aload_n C dX3_tick_74 rfl ?_
    refine x_getI C dX3_tick_75 fF_X3_64 rfl rfl ?_
    refine x_iconst C dX3_tick_78 ?_
    refine x_icmp_ne C 96 dX3_tick_79 (by decide) h (fun h => ?_) (fun h => ?_)
    · refine x_loc [(0, .inr (.inr (some 0)))] ⟨rfl, trivial⟩ ?_
      exact t_L_tick_96 hd9 C hR _ h
    · refine x_aload_n C dX3_tick_82 rfl ?_
      obtain ⟨q3, hq3, h⟩ := x_bind h
      refine x_callVI C dX3_tick_83 (xin_26 _ (List.mem_of_getElem? (i := 18) rfl)) xy_X3_rise (xi_X3_rise) (xs_X3_rise) (by omega) (by decide) (b := 0) rfl ⟨_, _, rfl⟩ (av := []) rfl (Nat.le_of_ble_eq_true rfl) (c_L_rise _ _ _ hq3) rfl ?_
      refine x_aload_n C dX3_tick_86 rfl ?_
      refine x_iconst C dX3_tick_87 ?_
      obtain ⟨q4, hq4, h⟩ := x_bind h
      refine x_callVI C dX3_tick_88 (xin_27 _ (List.mem_of_getElem? (i := 3) rfl)) xy_X3_sendFrom (xi_X3_sendFrom) (xs_X3_sendFrom) (by omega) (by decide) (b := 0) rfl ⟨_, _, rfl⟩ (av := [.inl 0]) rfl (Nat.le_of_ble_eq_true rfl) (c_L_sendFrom _ _ (by first | decide | assumption | exact xw_1m0 (by assumption) | exact xw_1m1 (by assumption) | exact xw_ne1 (by assumption) | exact xw_n1m0 (by assumption)) _ _ hq4) rfl ?_
      refine x_aload_n C dX3_tick_91 rfl ?_
      refine x_iconst C dX3_tick_92 ?_
      obtain ⟨q5, hq5, h⟩ := x_bind h
      refine x_callV C dX3_tick_93 (xin_27 _ (List.mem_of_getElem? (i := 3) rfl)) xy_X3_sendFrom (xi_X3_sendFrom) (xs_X3_sendFrom) xT_1 xv_28 (by omega) (by decide) (b := 0) rfl ⟨_, _, rfl⟩ (av := [.inl 1]) rfl (Nat.le_of_ble_eq_true rfl) (c_L_sendFrom_1 _ _ (by first | decide | assumption | exact xw_1m0 (by assumption) | exact xw_1m1 (by assumption) | exact xw_ne1 (by assumption) | exact xw_n1m0 (by assumption)) _ _ hq5) rfl ?_
      refine x_loc [(0, .inr (.inr (some 0)))] ⟨rfl, trivial⟩ ?_
      exact t_L_tick_96 hd9 C hR _ h
def f_L_tick (m : xM) : Option (xM) :=
     (if xw (m 0 8) = xw 1 then (Option.bind (f_L_train m) fun q8 =>
      f_L_tick_96 q8)
      else (if xw (m 0 8) = xw 3 then (Option.bind (f_L_wait m) fun q7 =>
      f_L_tick_96 q7)
      else (if xw (m 0 8) = xw 2 then (if xw (m 0 9) = 0 then (Option.bind (f_L_loseCarrier m) fun q6 =>
      f_L_tick_96 q6)
      else f_L_tick_52 m)
      else f_L_tick_52 m)))
set_option maxRecDepth 1000000 in
set_option maxHeartbeats 4000000 in
theorem t_L_tick {Γ : xG} {d : Nat} (hd9 : 6 ≤ d) (C : xC Γ lay_L0 RX3 cX3_tick 1 d) {m9 : xM} (hR : xRv Γ lay_L0 cX3_tick m9) (m : xM) (h : f_L_tick m = some m9) : xW Γ lay_L0 1 0 [(0, .inr (.inr (some 0)))] [] m := by
  unfold f_L_tick at h
  refine x_aload_n C dX3_tick_0 rfl ?_
  refine x_getI C dX3_tick_1 fF_X3_64 rfl rfl ?_
  refine x_iconst C dX3_tick_4 ?_
  refine x_icmp_ne C 15 dX3_tick_5 (by decide) h (fun h => ?_) (fun h => ?_)
  · refine x_aload_n C dX3_tick_15 rfl ?_
    refine x_getI C dX3_tick_16 fF_X3_64 rfl rfl ?_
    refine x_iconst C dX3_tick_19 ?_
    refine x_icmp_ne C 30 dX3_tick_20 (by decide) h (fun h => ?_) (fun h => ?_)
    · refine x_aload_n C dX3_tick_30 rfl ?_
      refine x_getI C dX3_tick_31 fF_X3_64 rfl rfl ?_
      refine x_iconst C dX3_tick_34 ?_
      refine x_icmp_ne C 52 dX3_tick_35 (by decide) h (fun h => ?_) (fun h => ?_)
      · refine x_loc [(0, .inr (.inr (some 0)))] ⟨rfl, trivial⟩ ?_
        exact t_L_tick_52 hd9 C hR _ h
      · refine x_aload_n C dX3_tick_38 rfl ?_
        refine x_getI C dX3_tick_39 fF_X3_72 rfl rfl ?_
        refine x_if_ne C 52 dX3_tick_42 (by decide) h (fun h => ?_) (fun h => ?_)
        · refine x_loc [(0, .inr (.inr (some 0)))] ⟨rfl, trivial⟩ ?_
          exact t_L_tick_52 hd9 C hR _ h
        · refine x_aload_n C dX3_tick_45 rfl ?_
          obtain ⟨q6, hq6, h⟩ := x_bind h
          refine x_callVI C dX3_tick_46 (xin_23 _ (List.mem_of_getElem? (i := 17) rfl)) xy_X3_loseCarrier (xi_X3_loseCarrier) (xs_X3_loseCarrier) (by omega) (by decide) (b := 0) rfl ⟨_, _, rfl⟩ (av := []) rfl (Nat.le_of_ble_eq_true rfl) (c_L_loseCarrier _ _ _ hq6) rfl ?_
          refine x_goto C 96 dX3_tick_49 (by decide) ?_
          refine x_loc [(0, .inr (.inr (some 0)))] ⟨rfl, trivial⟩ ?_
          exact t_L_tick_96 hd9 C hR _ h
    · refine x_aload_n C dX3_tick_23 rfl ?_
      obtain ⟨q7, hq7, h⟩ := x_bind h
      refine x_callVI C dX3_tick_24 (xin_23 _ (List.mem_of_getElem? (i := 8) rfl)) xy_X3_waitForCarrier (xi_X3_waitForCarrier) (xs_X3_waitForCarrier) (by omega) (by decide) (b := 0) rfl ⟨_, _, rfl⟩ (av := []) rfl (Nat.le_of_ble_eq_true rfl) (c_L_wait _ _ _ hq7) rfl ?_
      refine x_goto C 96 dX3_tick_27 (by decide) ?_
      refine x_loc [(0, .inr (.inr (some 0)))] ⟨rfl, trivial⟩ ?_
      exact t_L_tick_96 hd9 C hR _ h
  · refine x_aload_n C dX3_tick_8 rfl ?_
    obtain ⟨q8, hq8, h⟩ := x_bind h
    refine x_callVI C dX3_tick_9 (xin_21 _ (List.mem_of_getElem? (i := 10) rfl)) xy_X3_train (xi_X3_train) (xs_X3_train) (by omega) (by decide) (b := 0) rfl ⟨_, _, rfl⟩ (av := []) rfl (Nat.le_of_ble_eq_true rfl) (c_L_train _ _ _ hq8) rfl ?_
    refine x_goto C 96 dX3_tick_12 (by decide) ?_
    refine x_loc [(0, .inr (.inr (some 0)))] ⟨rfl, trivial⟩ ?_
    exact t_L_tick_96 hd9 C hR _ h
theorem c_L_tick (l : Launch) (m m9 : xM) (h : f_L_tick m = some m9) : xMet l yX3_tick cX3_tick 1 none 6 lay_L0 [.inr (.inr (some 0))] m none m9 :=
  xMet_v (by decide +kernel) (Nat.le_of_ble_eq_true rfl) (fun Γ C hR hl9 => t_L_tick (Nat.le_refl _) C hR m h)
/-! ===== yX3_run ===== -/
theorem xy_X3_tick : xY yX3_tick cX3_tick 1 none 0 := ⟨(xin_21 _ (List.mem_of_getElem? (i := 9) rfl)), (xin_1 _ (List.mem_of_getElem? (i := 18) rfl)), by decide, by decide, by decide +kernel⟩
theorem xi_X3_tick : Cond.instanceMethod yX3_tick ∈ wsL_law := (xin_21 _ (List.mem_of_getElem? (i := 7) rfl))
theorem xs_X3_tick : Cond.selects yX3_tick.cls yX3_tick yX3_tick ∈ wsL_law := (xin_21 _ (List.mem_of_getElem? (i := 8) rfl))
theorem dX3_run_0 : decode cX3_run 0 = .ok (.iconst 0, 1) := by decide +kernel
theorem dX3_run_1 : decode cX3_run 1 = .ok (.istore_n 2, 1) := by decide +kernel
theorem dX3_run_2 : decode cX3_run 2 = .ok (.iload_n 2, 1) := by decide +kernel
theorem dX3_run_3 : decode cX3_run 3 = .ok (.iload_n 1, 1) := by decide +kernel
theorem dX3_run_4 : decode cX3_run 4 = .ok (.if_icmp .ge 13, 3) := by decide +kernel
theorem dX3_run_7 : decode cX3_run 7 = .ok (.aload_n 0, 1) := by decide +kernel
theorem dX3_run_8 : decode cX3_run 8 = .ok (.invokevirtual 110, 3) := by decide +kernel
theorem dX3_run_11 : decode cX3_run 11 = .ok (.iinc 2 1, 3) := by decide +kernel
theorem dX3_run_14 : decode cX3_run 14 = .ok (.goto (-12), 3) := by decide +kernel
theorem dX3_run_17 : decode cX3_run 17 = .ok (.return_, 1) := by decide +kernel
def f_L_run_2 (z : Int) : Nat → Int → xM → Option (xM)
  | 0, _, _ => none
  | n + 1, x2, m =>
     (if xw x2 < xw z then (Option.bind (f_L_tick m) fun q0 =>
      f_L_run_2 z n (x2 + 1) q0)
      else some m)
set_option maxRecDepth 1000000 in
set_option maxHeartbeats 4000000 in
theorem t_L_run_2 {Γ : xG} {d : Nat} (hd9 : 7 ≤ d) (C : xC Γ lay_L0 RX3 cX3_run 3 d) (z : Int) {m9 : xM} (hR : xRv Γ lay_L0 cX3_run m9) : ∀ (n : Nat) (x2 : Int) (m : xM), f_L_run_2 z n x2 m = some m9 → xW Γ lay_L0 3 2 [(0, .inr (.inr (some 0))), (1, .inl z), (2, .inl x2)] [] m := by
  intro n
  induction n with
  | zero => intro _ _ h; cases h
  | succ n ih =>
    intro x2 m h
    rw [f_L_run_2] at h
    refine x_iload_n C dX3_run_2 rfl ?_
    refine x_iload_n C dX3_run_3 rfl ?_
    refine x_icmp_ge C 17 dX3_run_4 (by decide) h (fun h => ?_) (fun h => ?_)
    · exact x_returnV hR dX3_run_17 h
    · refine x_aload_n C dX3_run_7 rfl ?_
      obtain ⟨q0, hq0, h⟩ := x_bind h
      refine x_callVI C dX3_run_8 (xin_21 _ (List.mem_of_getElem? (i := 6) rfl)) xy_X3_tick (xi_X3_tick) (xs_X3_tick) (by omega) (by decide) (b := 0) rfl ⟨_, _, rfl⟩ (av := []) rfl (Nat.le_of_ble_eq_true rfl) (c_L_tick _ _ _ hq0) rfl ?_
      refine x_iinc C dX3_run_11 (by decide) rfl ?_
      refine x_goto C 2 dX3_run_14 (by decide) ?_
      refine x_loc [(0, .inr (.inr (some 0))), (1, .inl z), (2, .inl (x2 + 1))] ⟨rfl, rfl, rfl, trivial⟩ ?_
      exact ih _ _ h
def f_L_run (z : Int) (m : xM) : Option (xM) :=
     f_L_run_2 z fu 0 m
set_option maxRecDepth 1000000 in
set_option maxHeartbeats 4000000 in
theorem t_L_run {Γ : xG} {d : Nat} (hd9 : 7 ≤ d) (C : xC Γ lay_L0 RX3 cX3_run 3 d) (z : Int) {m9 : xM} (hR : xRv Γ lay_L0 cX3_run m9) (m : xM) (h : f_L_run z m = some m9) : xW Γ lay_L0 3 0 [(0, .inr (.inr (some 0))), (1, .inl z)] [] m := by
  unfold f_L_run at h
  refine x_iconst C dX3_run_0 ?_
  refine x_istore_n C dX3_run_1 (by decide) ?_
  refine x_loc [(0, .inr (.inr (some 0))), (1, .inl z), (2, .inl 0)] ⟨rfl, rfl, rfl, trivial⟩ ?_
  exact t_L_run_2 hd9 C _ hR fu _ _ h
theorem c_L_run (l : Launch) (z : Int) (m m9 : xM) (h : f_L_run z m = some m9) : xMet l yX3_run cX3_run 3 none 7 lay_L0 [.inr (.inr (some 0)), .inl z] m none m9 :=
  xMet_v (by decide +kernel) (Nat.le_of_ble_eq_true rfl) (fun Γ C hR hl9 => t_L_run (Nat.le_refl _) C z hR m h)
/-! ===== yX3_isFinished ===== -/
theorem dX3_isFinished_0 : decode cX3_isFinished 0 = .ok (.aload_n 0, 1) := by decide +kernel
theorem dX3_isFinished_1 : decode cX3_isFinished 1 = .ok (.getfield 64, 3) := by decide +kernel
theorem dX3_isFinished_4 : decode cX3_isFinished 4 = .ok (.iconst 2, 1) := by decide +kernel
theorem dX3_isFinished_5 : decode cX3_isFinished 5 = .ok (.if_icmp .ne 53, 3) := by decide +kernel
theorem dX3_isFinished_8 : decode cX3_isFinished 8 = .ok (.aload_n 0, 1) := by decide +kernel
theorem dX3_isFinished_9 : decode cX3_isFinished 9 = .ok (.getfield 12, 3) := by decide +kernel
theorem dX3_isFinished_12 : decode cX3_isFinished 12 = .ok (.getfield 117, 3) := by decide +kernel
theorem dX3_isFinished_15 : decode cX3_isFinished 15 = .ok (.ifCond .ne 43, 3) := by decide +kernel
theorem dX3_isFinished_18 : decode cX3_isFinished 18 = .ok (.aload_n 0, 1) := by decide +kernel
theorem dX3_isFinished_19 : decode cX3_isFinished 19 = .ok (.getfield 18, 3) := by decide +kernel
theorem dX3_isFinished_22 : decode cX3_isFinished 22 = .ok (.getfield 117, 3) := by decide +kernel
theorem dX3_isFinished_25 : decode cX3_isFinished 25 = .ok (.ifCond .ne 33, 3) := by decide +kernel
theorem dX3_isFinished_28 : decode cX3_isFinished 28 = .ok (.aload_n 0, 1) := by decide +kernel
theorem dX3_isFinished_29 : decode cX3_isFinished 29 = .ok (.getfield 12, 3) := by decide +kernel
theorem dX3_isFinished_32 : decode cX3_isFinished 32 = .ok (.getfield 120, 3) := by decide +kernel
theorem dX3_isFinished_35 : decode cX3_isFinished 35 = .ok (.getfield 124, 3) := by decide +kernel
theorem dX3_isFinished_38 : decode cX3_isFinished 38 = .ok (.ifCond .ne 20, 3) := by decide +kernel
theorem dX3_isFinished_41 : decode cX3_isFinished 41 = .ok (.aload_n 0, 1) := by decide +kernel
theorem dX3_isFinished_42 : decode cX3_isFinished 42 = .ok (.getfield 18, 3) := by decide +kernel
theorem dX3_isFinished_45 : decode cX3_isFinished 45 = .ok (.getfield 120, 3) := by decide +kernel
theorem dX3_isFinished_48 : decode cX3_isFinished 48 = .ok (.getfield 124, 3) := by decide +kernel
theorem dX3_isFinished_51 : decode cX3_isFinished 51 = .ok (.ifCond .ne 7, 3) := by decide +kernel
theorem dX3_isFinished_54 : decode cX3_isFinished 54 = .ok (.iconst 1, 1) := by decide +kernel
theorem dX3_isFinished_55 : decode cX3_isFinished 55 = .ok (.goto 4, 3) := by decide +kernel
theorem dX3_isFinished_58 : decode cX3_isFinished 58 = .ok (.iconst 0, 1) := by decide +kernel
theorem dX3_isFinished_59 : decode cX3_isFinished 59 = .ok (.ireturn, 1) := by decide +kernel
def f_L_finished (m : xM) : Option (Int) :=
     (if xw (m 0 8) = xw 2 then (if xw (m 1 5) = 0 then (if xw (m 12 5) = 0 then (if xw (m 4 4) = 0 then (if xw (m 15 4) = 0 then some 1
      else some 0)
      else some 0)
      else some 0)
      else some 0)
      else some 0)
set_option maxRecDepth 1000000 in
set_option maxHeartbeats 4000000 in
theorem t_L_finished {Γ : xG} {d : Nat} (hd9 : 1 ≤ d) (C : xC Γ lay_L0 RX3 cX3_isFinished 1 d) {r : Int} {m : xM} (hR : xRz Γ lay_L0 cX3_isFinished r m) (h : f_L_finished m = some r) : xW Γ lay_L0 1 0 [(0, .inr (.inr (some 0)))] [] m := by
  unfold f_L_finished at h
  refine x_aload_n C dX3_isFinished_0 rfl ?_
  refine x_getI C dX3_isFinished_1 fF_X3_64 rfl rfl ?_
  refine x_iconst C dX3_isFinished_4 ?_
  refine x_icmp_ne C 58 dX3_isFinished_5 (by decide) h (fun h => ?_) (fun h => ?_)
  · refine x_iconst C dX3_isFinished_58 ?_
    exact x_zreturnP hR (by decide) dX3_isFinished_59 h
  · refine x_aload_n C dX3_isFinished_8 rfl ?_
    refine x_getR C dX3_isFinished_9 fF_X3_12 rfl rfl ?_
    refine x_getI C dX3_isFinished_12 fF_X3_117 rfl rfl ?_
    refine x_if_ne C 58 dX3_isFinished_15 (by decide) h (fun h => ?_) (fun h => ?_)
    · refine x_iconst C dX3_isFinished_58 ?_
      exact x_zreturnP hR (by decide) dX3_isFinished_59 h
    · refine x_aload_n C dX3_isFinished_18 rfl ?_
      refine x_getR C dX3_isFinished_19 fF_X3_18 rfl rfl ?_
      refine x_getI C dX3_isFinished_22 fF_X3_117 rfl rfl ?_
      refine x_if_ne C 58 dX3_isFinished_25 (by decide) h (fun h => ?_) (fun h => ?_)
      · refine x_iconst C dX3_isFinished_58 ?_
        exact x_zreturnP hR (by decide) dX3_isFinished_59 h
      · refine x_aload_n C dX3_isFinished_28 rfl ?_
        refine x_getR C dX3_isFinished_29 fF_X3_12 rfl rfl ?_
        refine x_getR C dX3_isFinished_32 fF_X3_120 rfl rfl ?_
        refine x_getI C dX3_isFinished_35 fF_X3_124 rfl rfl ?_
        refine x_if_ne C 58 dX3_isFinished_38 (by decide) h (fun h => ?_) (fun h => ?_)
        · refine x_iconst C dX3_isFinished_58 ?_
          exact x_zreturnP hR (by decide) dX3_isFinished_59 h
        · refine x_aload_n C dX3_isFinished_41 rfl ?_
          refine x_getR C dX3_isFinished_42 fF_X3_18 rfl rfl ?_
          refine x_getR C dX3_isFinished_45 fF_X3_120 rfl rfl ?_
          refine x_getI C dX3_isFinished_48 fF_X3_124 rfl rfl ?_
          refine x_if_ne C 58 dX3_isFinished_51 (by decide) h (fun h => ?_) (fun h => ?_)
          · refine x_iconst C dX3_isFinished_58 ?_
            exact x_zreturnP hR (by decide) dX3_isFinished_59 h
          · refine x_iconst C dX3_isFinished_54 ?_
            refine x_goto C 59 dX3_isFinished_55 (by decide) ?_
            exact x_zreturnP hR (by decide) dX3_isFinished_59 h
theorem c_L_finished (l : Launch) (m : xM) (r : Int) (h : f_L_finished m = some r) : xMet l yX3_isFinished cX3_isFinished 1 (some .boolean) 1 lay_L0 [.inr (.inr (some 0))] m (some (.inl r)) m :=
  xMet_z (by decide +kernel) (Nat.le_of_ble_eq_true rfl) (fun Γ C hR hl9 => t_L_finished (Nat.le_refl _) C hR h)
/-! ===== yX3_runToFinish ===== -/
theorem xy_X3_isFinished : xY yX3_isFinished cX3_isFinished 1 (some .boolean) 0 := ⟨(xin_31 _ (List.mem_of_getElem? (i := 0) rfl)), (xin_1 _ (List.mem_of_getElem? (i := 18) rfl)), by decide, by decide, by decide +kernel⟩
theorem xi_X3_isFinished : Cond.instanceMethod yX3_isFinished ∈ wsL_law := (xin_30 _ (List.mem_of_getElem? (i := 22) rfl))
theorem xs_X3_isFinished : Cond.selects yX3_isFinished.cls yX3_isFinished yX3_isFinished ∈ wsL_law := (xin_30 _ (List.mem_of_getElem? (i := 23) rfl))
theorem dX3_runToFinish_0 : decode cX3_runToFinish 0 = .ok (.iconst 0, 1) := by decide +kernel
theorem dX3_runToFinish_1 : decode cX3_runToFinish 1 = .ok (.istore_n 1, 1) := by decide +kernel
theorem dX3_runToFinish_2 : decode cX3_runToFinish 2 = .ok (.iload_n 1, 1) := by decide +kernel
theorem dX3_runToFinish_3 : decode cX3_runToFinish 3 = .ok (.sipush 400, 3) := by decide +kernel
theorem dX3_runToFinish_6 : decode cX3_runToFinish 6 = .ok (.if_icmp .ge 31, 3) := by decide +kernel
theorem dX3_runToFinish_9 : decode cX3_runToFinish 9 = .ok (.aload_n 0, 1) := by decide +kernel
theorem dX3_runToFinish_10 : decode cX3_runToFinish 10 = .ok (.getfield 64, 3) := by decide +kernel
theorem dX3_runToFinish_13 : decode cX3_runToFinish 13 = .ok (.ifCond .ne 5, 3) := by decide +kernel
theorem dX3_runToFinish_16 : decode cX3_runToFinish 16 = .ok (.iconst (-1), 1) := by decide +kernel
theorem dX3_runToFinish_17 : decode cX3_runToFinish 17 = .ok (.ireturn, 1) := by decide +kernel
theorem dX3_runToFinish_18 : decode cX3_runToFinish 18 = .ok (.aload_n 0, 1) := by decide +kernel
theorem dX3_runToFinish_19 : decode cX3_runToFinish 19 = .ok (.invokevirtual 113, 3) := by decide +kernel
theorem dX3_runToFinish_22 : decode cX3_runToFinish 22 = .ok (.ifCond .eq 5, 3) := by decide +kernel
theorem dX3_runToFinish_25 : decode cX3_runToFinish 25 = .ok (.iload_n 1, 1) := by decide +kernel
theorem dX3_runToFinish_26 : decode cX3_runToFinish 26 = .ok (.ireturn, 1) := by decide +kernel
theorem dX3_runToFinish_27 : decode cX3_runToFinish 27 = .ok (.aload_n 0, 1) := by decide +kernel
theorem dX3_runToFinish_28 : decode cX3_runToFinish 28 = .ok (.invokevirtual 110, 3) := by decide +kernel
theorem dX3_runToFinish_31 : decode cX3_runToFinish 31 = .ok (.iinc 1 1, 3) := by decide +kernel
theorem dX3_runToFinish_34 : decode cX3_runToFinish 34 = .ok (.goto (-32), 3) := by decide +kernel
theorem dX3_runToFinish_37 : decode cX3_runToFinish 37 = .ok (.aload_n 0, 1) := by decide +kernel
theorem dX3_runToFinish_38 : decode cX3_runToFinish 38 = .ok (.invokevirtual 113, 3) := by decide +kernel
theorem dX3_runToFinish_41 : decode cX3_runToFinish 41 = .ok (.ifCond .eq 9, 3) := by decide +kernel
theorem dX3_runToFinish_44 : decode cX3_runToFinish 44 = .ok (.sipush 400, 3) := by decide +kernel
theorem dX3_runToFinish_47 : decode cX3_runToFinish 47 = .ok (.goto 4, 3) := by decide +kernel
theorem dX3_runToFinish_50 : decode cX3_runToFinish 50 = .ok (.iconst (-1), 1) := by decide +kernel
theorem dX3_runToFinish_51 : decode cX3_runToFinish 51 = .ok (.ireturn, 1) := by decide +kernel
def f_L_runToFinish_37 (m : xM) : Option (Int × xM) :=
     (Option.bind (f_L_finished m) fun q0 =>
      (if xw q0 = 0 then some ((-1), m)
      else some (400, m)))
set_option maxRecDepth 1000000 in
set_option maxHeartbeats 4000000 in
theorem t_L_runToFinish_37 {Γ : xG} {d : Nat} (hd9 : 7 ≤ d) (C : xC Γ lay_L0 RX3 cX3_runToFinish 2 d) {r : Int} {m9 : xM} (hR : xRi Γ lay_L0 cX3_runToFinish r m9) (m : xM) (h : f_L_runToFinish_37 m = some (r, m9)) : xW Γ lay_L0 2 37 [(0, .inr (.inr (some 0)))] [] m := by
  unfold f_L_runToFinish_37 at h
  refine x_aload_n C dX3_runToFinish_37 rfl ?_
  obtain ⟨q0, hq0, h⟩ := x_bind h
  refine x_callVI C dX3_runToFinish_38 (xin_30 _ (List.mem_of_getElem? (i := 21) rfl)) xy_X3_isFinished (xi_X3_isFinished) (xs_X3_isFinished) (by omega) (by decide) (b := 0) rfl ⟨_, _, rfl⟩ (av := []) rfl (Nat.le_of_ble_eq_true rfl) (c_L_finished _ _ _ hq0) rfl ?_
  refine x_if_eq C 50 dX3_runToFinish_41 (by decide) h (fun h => ?_) (fun h => ?_)
  · refine x_iconst C dX3_runToFinish_50 ?_
    exact x_ireturn hR dX3_runToFinish_51 h
  · refine x_sipush C dX3_runToFinish_44 (by decide) ?_
    refine x_goto C 51 dX3_runToFinish_47 (by decide) ?_
    exact x_ireturn hR dX3_runToFinish_51 h
def f_L_runToFinish_2 : Nat → Int → xM → Option (Int × xM)
  | 0, _, _ => none
  | n + 1, x1, m =>
     (if xw x1 < xw 400 then (if xw (m 0 8) = 0 then some ((-1), m)
      else (Option.bind (f_L_finished m) fun q1 =>
      (if xw q1 = 0 then (Option.bind (f_L_tick m) fun q2 =>
      f_L_runToFinish_2 n (x1 + 1) q2)
      else some (x1, m))))
      else f_L_runToFinish_37 m)
set_option maxRecDepth 1000000 in
set_option maxHeartbeats 4000000 in
theorem t_L_runToFinish_2 {Γ : xG} {d : Nat} (hd9 : 7 ≤ d) (C : xC Γ lay_L0 RX3 cX3_runToFinish 2 d) {r : Int} {m9 : xM} (hR : xRi Γ lay_L0 cX3_runToFinish r m9) : ∀ (n : Nat) (x1 : Int) (m : xM), f_L_runToFinish_2 n x1 m = some (r, m9) → xW Γ lay_L0 2 2 [(0, .inr (.inr (some 0))), (1, .inl x1)] [] m := by
  intro n
  induction n with
  | zero => intro _ _ h; cases h
  | succ n ih =>
    intro x1 m h
    rw [f_L_runToFinish_2] at h
    refine x_iload_n C dX3_runToFinish_2 rfl ?_
    refine x_sipush C dX3_runToFinish_3 (by decide) ?_
    refine x_icmp_ge C 37 dX3_runToFinish_6 (by decide) h (fun h => ?_) (fun h => ?_)
    · refine x_loc [(0, .inr (.inr (some 0)))] ⟨rfl, trivial⟩ ?_
      exact t_L_runToFinish_37 hd9 C hR _ h
    · refine x_aload_n C dX3_runToFinish_9 rfl ?_
      refine x_getI C dX3_runToFinish_10 fF_X3_64 rfl rfl ?_
      refine x_if_ne C 18 dX3_runToFinish_13 (by decide) h (fun h => ?_) (fun h => ?_)
      · refine x_aload_n C dX3_runToFinish_18 rfl ?_
        obtain ⟨q1, hq1, h⟩ := x_bind h
        refine x_callVI C dX3_runToFinish_19 (xin_30 _ (List.mem_of_getElem? (i := 21) rfl)) xy_X3_isFinished (xi_X3_isFinished) (xs_X3_isFinished) (by omega) (by decide) (b := 0) rfl ⟨_, _, rfl⟩ (av := []) rfl (Nat.le_of_ble_eq_true rfl) (c_L_finished _ _ _ hq1) rfl ?_
        refine x_if_eq C 27 dX3_runToFinish_22 (by decide) h (fun h => ?_) (fun h => ?_)
        · refine x_aload_n C dX3_runToFinish_27 rfl ?_
          obtain ⟨q2, hq2, h⟩ := x_bind h
          refine x_callVI C dX3_runToFinish_28 (xin_21 _ (List.mem_of_getElem? (i := 6) rfl)) xy_X3_tick (xi_X3_tick) (xs_X3_tick) (by omega) (by decide) (b := 0) rfl ⟨_, _, rfl⟩ (av := []) rfl (Nat.le_of_ble_eq_true rfl) (c_L_tick _ _ _ hq2) rfl ?_
          refine x_iinc C dX3_runToFinish_31 (by decide) rfl ?_
          refine x_goto C 2 dX3_runToFinish_34 (by decide) ?_
          refine x_loc [(0, .inr (.inr (some 0))), (1, .inl (x1 + 1))] ⟨rfl, rfl, trivial⟩ ?_
          exact ih _ _ h
        · refine x_iload_n C dX3_runToFinish_25 rfl ?_
          exact x_ireturn hR dX3_runToFinish_26 h
      · refine x_iconst C dX3_runToFinish_16 ?_
        exact x_ireturn hR dX3_runToFinish_17 h
def f_L_runToFinish (m : xM) : Option (Int × xM) :=
     f_L_runToFinish_2 fu 0 m
set_option maxRecDepth 1000000 in
set_option maxHeartbeats 4000000 in
theorem t_L_runToFinish {Γ : xG} {d : Nat} (hd9 : 7 ≤ d) (C : xC Γ lay_L0 RX3 cX3_runToFinish 2 d) {r : Int} {m9 : xM} (hR : xRi Γ lay_L0 cX3_runToFinish r m9) (m : xM) (h : f_L_runToFinish m = some (r, m9)) : xW Γ lay_L0 2 0 [(0, .inr (.inr (some 0)))] [] m := by
  unfold f_L_runToFinish at h
  refine x_iconst C dX3_runToFinish_0 ?_
  refine x_istore_n C dX3_runToFinish_1 (by decide) ?_
  refine x_loc [(0, .inr (.inr (some 0))), (1, .inl 0)] ⟨rfl, rfl, trivial⟩ ?_
  exact t_L_runToFinish_2 hd9 C hR fu _ _ h
theorem c_L_runToFinish (l : Launch) (m : xM) (r : Int) (m9 : xM) (h : f_L_runToFinish m = some (r, m9)) : xMet l yX3_runToFinish cX3_runToFinish 2 (some .int) 7 lay_L0 [.inr (.inr (some 0))] m (some (.inl r)) m9 :=
  xMet_i (by decide +kernel) (Nat.le_of_ble_eq_true rfl) (fun Γ C hR hl9 => t_L_runToFinish (Nat.le_refl _) C hR m h)
/-! ===== yX3_call ===== -/
theorem dX3_call_0 : decode cX3_call 0 = .ok (.aload_n 0, 1) := by decide +kernel
theorem dX3_call_1 : decode cX3_call 1 = .ok (.getfield 12, 3) := by decide +kernel
theorem dX3_call_4 : decode cX3_call 4 = .ok (.getfield 120, 3) := by decide +kernel
theorem dX3_call_7 : decode cX3_call 7 = .ok (.invokevirtual 149, 3) := by decide +kernel
theorem dX3_call_10 : decode cX3_call 10 = .ok (.aload_n 0, 1) := by decide +kernel
theorem dX3_call_11 : decode cX3_call 11 = .ok (.getfield 18, 3) := by decide +kernel
theorem dX3_call_14 : decode cX3_call 14 = .ok (.getfield 120, 3) := by decide +kernel
theorem dX3_call_17 : decode cX3_call 17 = .ok (.invokevirtual 149, 3) := by decide +kernel
theorem dX3_call_20 : decode cX3_call 20 = .ok (.aload_n 0, 1) := by decide +kernel
theorem dX3_call_21 : decode cX3_call 21 = .ok (.getfield 12, 3) := by decide +kernel
theorem dX3_call_24 : decode cX3_call 24 = .ok (.iconst 0, 1) := by decide +kernel
theorem dX3_call_25 : decode cX3_call 25 = .ok (.putfield 152, 3) := by decide +kernel
theorem dX3_call_28 : decode cX3_call 28 = .ok (.aload_n 0, 1) := by decide +kernel
theorem dX3_call_29 : decode cX3_call 29 = .ok (.getfield 18, 3) := by decide +kernel
theorem dX3_call_32 : decode cX3_call 32 = .ok (.iconst 0, 1) := by decide +kernel
theorem dX3_call_33 : decode cX3_call 33 = .ok (.putfield 152, 3) := by decide +kernel
theorem dX3_call_36 : decode cX3_call 36 = .ok (.aload_n 0, 1) := by decide +kernel
theorem dX3_call_37 : decode cX3_call 37 = .ok (.iconst 0, 1) := by decide +kernel
theorem dX3_call_38 : decode cX3_call 38 = .ok (.invokevirtual 155, 3) := by decide +kernel
theorem dX3_call_41 : decode cX3_call 41 = .ok (.return_, 1) := by decide +kernel
def f_L_call_28 (m : xM) : Option (xM) :=
     (Option.bind (f_L_beginTraining 0 (xu m 12 7 0)) fun q2 =>
      some q2)
set_option maxRecDepth 1000000 in
set_option maxHeartbeats 4000000 in
theorem t_L_call_28 {Γ : xG} {d : Nat} (hd9 : 4 ≤ d) (C : xC Γ lay_L0 RX3 cX3_call 1 d) {m9 : xM} (hR : xRv Γ lay_L0 cX3_call m9) (m : xM) (h : f_L_call_28 m = some m9) : xW Γ lay_L0 1 28 [(0, .inr (.inr (some 0)))] [] m := by
  unfold f_L_call_28 at h
  refine x_aload_n C dX3_call_28 rfl ?_
  refine x_getR C dX3_call_29 fF_X3_18 rfl rfl ?_
  refine x_iconst C dX3_call_32 ?_
  refine x_putI C dX3_call_33 fF_X3_152 rfl rfl ?_
  refine x_aload_n C dX3_call_36 rfl ?_
  refine x_iconst C dX3_call_37 ?_
  obtain ⟨q2, hq2, h⟩ := x_bind h
  refine x_callVI C dX3_call_38 (xin_20 _ (List.mem_of_getElem? (i := 3) rfl)) xy_X3_beginTraining (xi_X3_beginTraining) (xs_X3_beginTraining) (by omega) (by decide) (b := 0) rfl ⟨_, _, rfl⟩ (av := [.inl 0]) rfl (Nat.le_of_ble_eq_true rfl) (c_L_beginTraining _ _ _ _ hq2) rfl ?_
  exact x_returnV hR dX3_call_41 h
def f_L_call (m : xM) : Option (xM) :=
     (Option.bind (f_F_begin (xvw [4, 5, 6, 7] m)) fun q0 =>
      (Option.bind (f_F_begin (xvw [15, 16, 17, 18] (xmg [4, 5, 6, 7] 4 m q0))) fun q1 =>
      f_L_call_28 (xu (xmg [15, 16, 17, 18] 4 (xmg [4, 5, 6, 7] 4 m q0) q1) 1 7 0)))
set_option maxRecDepth 1000000 in
set_option maxHeartbeats 4000000 in
theorem t_L_call {Γ : xG} {d : Nat} (hd9 : 4 ≤ d) (C : xC Γ lay_L0 RX3 cX3_call 1 d) {m9 : xM} (hR : xRv Γ lay_L0 cX3_call m9) (m : xM) (h : f_L_call m = some m9) : xW Γ lay_L0 1 0 [(0, .inr (.inr (some 0)))] [] m := by
  unfold f_L_call at h
  refine x_aload_n C dX3_call_0 rfl ?_
  refine x_getR C dX3_call_1 fF_X3_12 rfl rfl ?_
  refine x_getR C dX3_call_4 fF_X3_120 rfl rfl ?_
  obtain ⟨q0, hq0, h⟩ := x_bind h
  refine x_callV C dX3_call_7 (xin_20 _ (List.mem_of_getElem? (i := 2) rfl)) xy_X2_beginNumbers (xi_X2_beginNumbers) (xs_X2_beginNumbers) [4, 5, 6, 7] xv_19 (by omega) (by decide) (b := 0) rfl ⟨_, _, rfl⟩ (av := []) rfl (Nat.le_of_ble_eq_true rfl) (c_F_begin _ _ _ hq0) rfl ?_
  refine x_aload_n C dX3_call_10 rfl ?_
  refine x_getR C dX3_call_11 fF_X3_18 rfl rfl ?_
  refine x_getR C dX3_call_14 fF_X3_120 rfl rfl ?_
  obtain ⟨q1, hq1, h⟩ := x_bind h
  refine x_callV C dX3_call_17 (xin_20 _ (List.mem_of_getElem? (i := 2) rfl)) xy_X2_beginNumbers (xi_X2_beginNumbers) (xs_X2_beginNumbers) [15, 16, 17, 18] xv_20 (by omega) (by decide) (b := 0) rfl ⟨_, _, rfl⟩ (av := []) rfl (Nat.le_of_ble_eq_true rfl) (c_F_begin _ _ _ hq1) rfl ?_
  refine x_aload_n C dX3_call_20 rfl ?_
  refine x_getR C dX3_call_21 fF_X3_12 rfl rfl ?_
  refine x_iconst C dX3_call_24 ?_
  refine x_putI C dX3_call_25 fF_X3_152 rfl rfl ?_
  refine x_loc [(0, .inr (.inr (some 0)))] ⟨rfl, trivial⟩ ?_
  exact t_L_call_28 hd9 C hR _ h
theorem c_L_call (l : Launch) (m m9 : xM) (h : f_L_call m = some m9) : xMet l yX3_call cX3_call 1 none 4 lay_L0 [.inr (.inr (some 0))] m none m9 :=
  xMet_v (by decide +kernel) (Nat.le_of_ble_eq_true rfl) (fun Γ C hR hl9 => t_L_call (Nat.le_refl _) C hR m h)

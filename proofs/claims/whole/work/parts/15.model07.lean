/-! ===== yX11_record ===== -/
theorem fF_X11_273 : xF RX11 273 13 5 .int false := ⟨RX11, TX11, 26, tyX11, rfl, by decide, (xin_18 _ (List.mem_of_getElem? (i := 17) rfl)), rfl, inlX11, tyX11_ok, nmX11, rfl, rfl⟩
theorem fF_X11_23 : xF RX11 23 13 4 (.array .int) true := ⟨RX11, TX11, 26, tyX11, rfl, by decide, (xin_9 _ (List.mem_of_getElem? (i := 7) rfl)), rfl, inlX11, tyX11_ok, nmX11, rfl, rfl⟩
theorem xv_52 : xview lay_M lay_cB [1, 5] := xview_of (by decide +kernel)
theorem xv_53 : xview lay_M lay_cD [5] := xview_of (by decide +kernel)
theorem dX11_record_0 : decode cX11_record 0 = .ok (.aload_n 0, 1) := by decide +kernel
theorem dX11_record_1 : decode cX11_record 1 = .ok (.getfield 273, 3) := by decide +kernel
theorem dX11_record_4 : decode cX11_record 4 = .ok (.bipush 10, 2) := by decide +kernel
theorem dX11_record_6 : decode cX11_record 6 = .ok (.if_icmp .ne 42, 3) := by decide +kernel
theorem dX11_record_9 : decode cX11_record 9 = .ok (.iconst 1, 1) := by decide +kernel
theorem dX11_record_10 : decode cX11_record 10 = .ok (.istore_n 1, 1) := by decide +kernel
theorem dX11_record_11 : decode cX11_record 11 = .ok (.iload_n 1, 1) := by decide +kernel
theorem dX11_record_12 : decode cX11_record 12 = .ok (.bipush 10, 2) := by decide +kernel
theorem dX11_record_14 : decode cX11_record 14 = .ok (.if_icmp .ge 24, 3) := by decide +kernel
theorem dX11_record_17 : decode cX11_record 17 = .ok (.aload_n 0, 1) := by decide +kernel
theorem dX11_record_18 : decode cX11_record 18 = .ok (.getfield 23, 3) := by decide +kernel
theorem dX11_record_21 : decode cX11_record 21 = .ok (.iload_n 1, 1) := by decide +kernel
theorem dX11_record_22 : decode cX11_record 22 = .ok (.aload_n 0, 1) := by decide +kernel
theorem dX11_record_23 : decode cX11_record 23 = .ok (.getfield 23, 3) := by decide +kernel
theorem dX11_record_26 : decode cX11_record 26 = .ok (.iload_n 1, 1) := by decide +kernel
theorem dX11_record_27 : decode cX11_record 27 = .ok (.iconst 1, 1) := by decide +kernel
theorem dX11_record_28 : decode cX11_record 28 = .ok (.isub, 1) := by decide +kernel
theorem dX11_record_29 : decode cX11_record 29 = .ok (.invokestatic 228, 3) := by decide +kernel
theorem dX11_record_32 : decode cX11_record 32 = .ok (.iinc 1 1, 3) := by decide +kernel
theorem dX11_record_35 : decode cX11_record 35 = .ok (.goto (-24), 3) := by decide +kernel
theorem dX11_record_38 : decode cX11_record 38 = .ok (.aload_n 0, 1) := by decide +kernel
theorem dX11_record_39 : decode cX11_record 39 = .ok (.dup, 1) := by decide +kernel
theorem dX11_record_40 : decode cX11_record 40 = .ok (.getfield 273, 3) := by decide +kernel
theorem dX11_record_43 : decode cX11_record 43 = .ok (.iconst 1, 1) := by decide +kernel
theorem dX11_record_44 : decode cX11_record 44 = .ok (.isub, 1) := by decide +kernel
theorem dX11_record_45 : decode cX11_record 45 = .ok (.putfield 273, 3) := by decide +kernel
theorem dX11_record_48 : decode cX11_record 48 = .ok (.aload_n 0, 1) := by decide +kernel
theorem dX11_record_49 : decode cX11_record 49 = .ok (.getfield 9, 3) := by decide +kernel
theorem dX11_record_52 : decode cX11_record 52 = .ok (.iconst 0, 1) := by decide +kernel
theorem dX11_record_53 : decode cX11_record 53 = .ok (.aload_n 0, 1) := by decide +kernel
theorem dX11_record_54 : decode cX11_record 54 = .ok (.getfield 23, 3) := by decide +kernel
theorem dX11_record_57 : decode cX11_record 57 = .ok (.aload_n 0, 1) := by decide +kernel
theorem dX11_record_58 : decode cX11_record 58 = .ok (.getfield 273, 3) := by decide +kernel
theorem dX11_record_61 : decode cX11_record 61 = .ok (.invokestatic 228, 3) := by decide +kernel
theorem dX11_record_64 : decode cX11_record 64 = .ok (.aload_n 0, 1) := by decide +kernel
theorem dX11_record_65 : decode cX11_record 65 = .ok (.dup, 1) := by decide +kernel
theorem dX11_record_66 : decode cX11_record 66 = .ok (.getfield 273, 3) := by decide +kernel
theorem dX11_record_69 : decode cX11_record 69 = .ok (.iconst 1, 1) := by decide +kernel
theorem dX11_record_70 : decode cX11_record 70 = .ok (.iadd, 1) := by decide +kernel
theorem dX11_record_71 : decode cX11_record 71 = .ok (.putfield 273, 3) := by decide +kernel
theorem dX11_record_74 : decode cX11_record 74 = .ok (.return_, 1) := by decide +kernel
def f_m_record_48 (m : xM) : Option (xM) :=
     (Option.bind (f_m_copyB 0 (m 0 5) (xvw [1, 5] m)) fun q0 =>
      some (xu (xmg [1, 5] 2 m q0) 0 5 (((xmg [1, 5] 2 m q0) 0 5) + 1)))
set_option maxRecDepth 1000000 in
set_option maxHeartbeats 4000000 in
theorem t_m_record_48 {Γ : xG} {d : Nat} (hd9 : 2 ≤ d) (C : xC Γ lay_M RX11 cX11_record 2 d) {m9 : xM} (hR : xRv Γ lay_M cX11_record m9) (m : xM) (h : f_m_record_48 m = some m9) : xW Γ lay_M 2 48 [(0, .inr (.inr (some 0)))] [] m := by
  unfold f_m_record_48 at h
  refine x_aload_n C dX11_record_48 rfl ?_
  refine x_getR C dX11_record_49 fF_X11_9 rfl rfl ?_
  refine x_iconst C dX11_record_52 ?_
  refine x_aload_n C dX11_record_53 rfl ?_
  refine x_getR C dX11_record_54 fF_X11_23 rfl rfl ?_
  refine x_aload_n C dX11_record_57 rfl ?_
  refine x_getI C dX11_record_58 fF_X11_273 rfl rfl ?_
  obtain ⟨q0, hq0, h⟩ := x_bind h
  refine x_callS C dX11_record_61 (xin_23 _ (List.mem_of_getElem? (i := 16) rfl)) xy_X11_copy (xt_X11_copy) [1, 5] xv_52 (by omega) (by decide) (av := [.inr (.inr (some 0)), .inl 0, .inr (.inr (some 1)), .inl (m 0 5)]) rfl (Nat.le_of_ble_eq_true rfl) (c_m_copyB _ _ _ _ _ hq0) rfl ?_
  refine x_aload_n C dX11_record_64 rfl ?_
  refine x_dup C dX11_record_65 rfl ?_
  refine x_getI C dX11_record_66 fF_X11_273 rfl rfl ?_
  refine x_iconst C dX11_record_69 ?_
  refine x_iadd C dX11_record_70 ?_
  refine x_putI C dX11_record_71 fF_X11_273 rfl rfl ?_
  exact x_returnV hR dX11_record_74 h
def f_m_record_38 (m : xM) : Option (xM) :=
     f_m_record_48 (xu m 0 5 ((m 0 5) - 1))
set_option maxRecDepth 1000000 in
set_option maxHeartbeats 4000000 in
theorem t_m_record_38 {Γ : xG} {d : Nat} (hd9 : 2 ≤ d) (C : xC Γ lay_M RX11 cX11_record 2 d) {m9 : xM} (hR : xRv Γ lay_M cX11_record m9) (m : xM) (h : f_m_record_38 m = some m9) : xW Γ lay_M 2 38 [(0, .inr (.inr (some 0)))] [] m := by
  unfold f_m_record_38 at h
  refine x_aload_n C dX11_record_38 rfl ?_
  refine x_dup C dX11_record_39 rfl ?_
  refine x_getI C dX11_record_40 fF_X11_273 rfl rfl ?_
  refine x_iconst C dX11_record_43 ?_
  refine x_isub C dX11_record_44 ?_
  refine x_putI C dX11_record_45 fF_X11_273 rfl rfl ?_
  refine x_loc [(0, .inr (.inr (some 0)))] ⟨rfl, trivial⟩ ?_
  exact t_m_record_48 hd9 C hR _ h
def f_m_record_11 : Nat → Int → xM → Option (xM)
  | 0, _, _ => none
  | n + 1, x1, m =>
     (if xw x1 < xw 10 then (Option.bind (f_m_copyD x1 (x1 - 1) (xvw [5] m)) fun q1 =>
      f_m_record_11 n (x1 + 1) (xmg [5] 1 m q1))
      else f_m_record_38 m)
set_option maxRecDepth 1000000 in
set_option maxHeartbeats 4000000 in
theorem t_m_record_11 {Γ : xG} {d : Nat} (hd9 : 2 ≤ d) (C : xC Γ lay_M RX11 cX11_record 2 d) {m9 : xM} (hR : xRv Γ lay_M cX11_record m9) : ∀ (n : Nat) (x1 : Int) (m : xM), f_m_record_11 n x1 m = some m9 → xW Γ lay_M 2 11 [(0, .inr (.inr (some 0))), (1, .inl x1)] [] m := by
  intro n
  induction n with
  | zero => intro _ _ h; cases h
  | succ n ih =>
    intro x1 m h
    rw [f_m_record_11] at h
    refine x_iload_n C dX11_record_11 rfl ?_
    refine x_bipush C dX11_record_12 (by decide) ?_
    refine x_icmp_ge C 38 dX11_record_14 (by decide) h (fun h => ?_) (fun h => ?_)
    · refine x_loc [(0, .inr (.inr (some 0)))] ⟨rfl, trivial⟩ ?_
      exact t_m_record_38 hd9 C hR _ h
    · refine x_aload_n C dX11_record_17 rfl ?_
      refine x_getR C dX11_record_18 fF_X11_23 rfl rfl ?_
      refine x_iload_n C dX11_record_21 rfl ?_
      refine x_aload_n C dX11_record_22 rfl ?_
      refine x_getR C dX11_record_23 fF_X11_23 rfl rfl ?_
      refine x_iload_n C dX11_record_26 rfl ?_
      refine x_iconst C dX11_record_27 ?_
      refine x_isub C dX11_record_28 ?_
      obtain ⟨q1, hq1, h⟩ := x_bind h
      refine x_callS C dX11_record_29 (xin_23 _ (List.mem_of_getElem? (i := 16) rfl)) xy_X11_copy (xt_X11_copy) [5] xv_53 (by omega) (by decide) (av := [.inr (.inr (some 0)), .inl x1, .inr (.inr (some 0)), .inl (x1 - 1)]) rfl (Nat.le_of_ble_eq_true rfl) (c_m_copyD _ _ _ _ _ hq1) rfl ?_
      refine x_iinc C dX11_record_32 (by decide) rfl ?_
      refine x_goto C 11 dX11_record_35 (by decide) ?_
      refine x_loc [(0, .inr (.inr (some 0))), (1, .inl (x1 + 1))] ⟨rfl, rfl, trivial⟩ ?_
      exact ih _ _ h
def f_m_record (m : xM) : Option (xM) :=
     (if xw (m 0 5) = xw 10 then f_m_record_11 fu 1 m
      else f_m_record_48 m)
set_option maxRecDepth 1000000 in
set_option maxHeartbeats 4000000 in
theorem t_m_record {Γ : xG} {d : Nat} (hd9 : 2 ≤ d) (C : xC Γ lay_M RX11 cX11_record 2 d) {m9 : xM} (hR : xRv Γ lay_M cX11_record m9) (m : xM) (h : f_m_record m = some m9) : xW Γ lay_M 2 0 [(0, .inr (.inr (some 0)))] [] m := by
  unfold f_m_record at h
  refine x_aload_n C dX11_record_0 rfl ?_
  refine x_getI C dX11_record_1 fF_X11_273 rfl rfl ?_
  refine x_bipush C dX11_record_4 (by decide) ?_
  refine x_icmp_ne C 48 dX11_record_6 (by decide) h (fun h => ?_) (fun h => ?_)
  · refine x_loc [(0, .inr (.inr (some 0)))] ⟨rfl, trivial⟩ ?_
    exact t_m_record_48 hd9 C hR _ h
  · refine x_iconst C dX11_record_9 ?_
    refine x_istore_n C dX11_record_10 (by decide) ?_
    refine x_loc [(0, .inr (.inr (some 0))), (1, .inl 1)] ⟨rfl, rfl, trivial⟩ ?_
    exact t_m_record_11 hd9 C hR fu _ _ h
theorem c_m_record (l : Launch) (m m9 : xM) (h : f_m_record m = some m9) : xMet l yX11_record cX11_record 2 none 2 lay_M [.inr (.inr (some 0))] m none m9 :=
  xMet_v (by decide +kernel) (Nat.le_of_ble_eq_true rfl) (fun Γ C hR hl9 => t_m_record (Nat.le_refl _) C hR m h)
/-! ===== yX11_pass ===== -/
theorem xy_X11_record : xY yX11_record cX11_record 2 none 0 := ⟨(xin_51 _ (List.mem_of_getElem? (i := 16) rfl)), (xin_1 _ (List.mem_of_getElem? (i := 5) rfl)), by decide, by decide, by decide +kernel⟩
theorem xi_X11_record : Cond.instanceMethod yX11_record ∈ wsL_law := (xin_51 _ (List.mem_of_getElem? (i := 14) rfl))
theorem xs_X11_record : Cond.selects yX11_record.cls yX11_record yX11_record ∈ wsL_law := (xin_51 _ (List.mem_of_getElem? (i := 15) rfl))
theorem dX11_pass_0 : decode cX11_pass 0 = .ok (.aload_n 0, 1) := by decide +kernel
theorem dX11_pass_1 : decode cX11_pass 1 = .ok (.iconst 0, 1) := by decide +kernel
theorem dX11_pass_2 : decode cX11_pass 2 = .ok (.putfield 66, 3) := by decide +kernel
theorem dX11_pass_5 : decode cX11_pass 5 = .ok (.iload_n 1, 1) := by decide +kernel
theorem dX11_pass_6 : decode cX11_pass 6 = .ok (.iconst 1, 1) := by decide +kernel
theorem dX11_pass_7 : decode cX11_pass 7 = .ok (.sipush 200, 3) := by decide +kernel
theorem dX11_pass_10 : decode cX11_pass 10 = .ok (.invokestatic 81, 3) := by decide +kernel
theorem dX11_pass_13 : decode cX11_pass 13 = .ok (.ifCond .ne 9, 3) := by decide +kernel
theorem dX11_pass_16 : decode cX11_pass 16 = .ok (.aload_n 0, 1) := by decide +kernel
theorem dX11_pass_17 : decode cX11_pass 17 = .ok (.iconst 1, 1) := by decide +kernel
theorem dX11_pass_18 : decode cX11_pass 18 = .ok (.invokevirtual 212, 3) := by decide +kernel
theorem dX11_pass_21 : decode cX11_pass 21 = .ok (.ireturn, 1) := by decide +kernel
theorem dX11_pass_22 : decode cX11_pass 22 = .ok (.aload_n 0, 1) := by decide +kernel
theorem dX11_pass_23 : decode cX11_pass 23 = .ok (.getfield 9, 3) := by decide +kernel
theorem dX11_pass_26 : decode cX11_pass 26 = .ok (.iconst 0, 1) := by decide +kernel
theorem dX11_pass_27 : decode cX11_pass 27 = .ok (.iaload, 1) := by decide +kernel
theorem dX11_pass_28 : decode cX11_pass 28 = .ok (.iload_n 1, 1) := by decide +kernel
theorem dX11_pass_29 : decode cX11_pass 29 = .ok (.iadd, 1) := by decide +kernel
theorem dX11_pass_30 : decode cX11_pass 30 = .ok (.ldc 235, 2) := by decide +kernel
theorem dX11_pass_32 : decode cX11_pass 32 = .ok (.if_icmp .le 6, 3) := by decide +kernel
theorem dX11_pass_35 : decode cX11_pass 35 = .ok (.bipush (-2), 2) := by decide +kernel
theorem dX11_pass_37 : decode cX11_pass 37 = .ok (.ireturn, 1) := by decide +kernel
theorem dX11_pass_38 : decode cX11_pass 38 = .ok (.aload_n 0, 1) := by decide +kernel
theorem dX11_pass_39 : decode cX11_pass 39 = .ok (.invokevirtual 236, 3) := by decide +kernel
theorem dX11_pass_42 : decode cX11_pass 42 = .ok (.aload_n 0, 1) := by decide +kernel
theorem dX11_pass_43 : decode cX11_pass 43 = .ok (.getfield 9, 3) := by decide +kernel
theorem dX11_pass_46 : decode cX11_pass 46 = .ok (.bipush 55, 2) := by decide +kernel
theorem dX11_pass_48 : decode cX11_pass 48 = .ok (.iaload, 1) := by decide +kernel
theorem dX11_pass_49 : decode cX11_pass 49 = .ok (.istore_n 2, 1) := by decide +kernel
theorem dX11_pass_50 : decode cX11_pass 50 = .ok (.iconst 0, 1) := by decide +kernel
theorem dX11_pass_51 : decode cX11_pass 51 = .ok (.istore_n 3, 1) := by decide +kernel
theorem dX11_pass_52 : decode cX11_pass 52 = .ok (.iload_n 3, 1) := by decide +kernel
theorem dX11_pass_53 : decode cX11_pass 53 = .ok (.iload_n 1, 1) := by decide +kernel
theorem dX11_pass_54 : decode cX11_pass 54 = .ok (.if_icmp .ge 13, 3) := by decide +kernel
theorem dX11_pass_57 : decode cX11_pass 57 = .ok (.aload_n 0, 1) := by decide +kernel
theorem dX11_pass_58 : decode cX11_pass 58 = .ok (.invokevirtual 225, 3) := by decide +kernel
theorem dX11_pass_61 : decode cX11_pass 61 = .ok (.iinc 3 1, 3) := by decide +kernel
theorem dX11_pass_64 : decode cX11_pass 64 = .ok (.goto (-12), 3) := by decide +kernel
theorem dX11_pass_67 : decode cX11_pass 67 = .ok (.aload_n 0, 1) := by decide +kernel
theorem dX11_pass_68 : decode cX11_pass 68 = .ok (.getfield 9, 3) := by decide +kernel
theorem dX11_pass_71 : decode cX11_pass 71 = .ok (.bipush 55, 2) := by decide +kernel
theorem dX11_pass_73 : decode cX11_pass 73 = .ok (.iaload, 1) := by decide +kernel
theorem dX11_pass_74 : decode cX11_pass 74 = .ok (.iload_n 2, 1) := by decide +kernel
theorem dX11_pass_75 : decode cX11_pass 75 = .ok (.isub, 1) := by decide +kernel
theorem dX11_pass_76 : decode cX11_pass 76 = .ok (.ireturn, 1) := by decide +kernel
def f_m_pass_67 (z : Int) (x2 : Int) (m : xM) : Option (Int × xM) :=
     (if xib 55 3530 then some ((m 1 55) - x2, m)
      else none)
set_option maxRecDepth 1000000 in
set_option maxHeartbeats 4000000 in
theorem t_m_pass_67 {Γ : xG} {d : Nat} (hd9 : 10 ≤ d) (C : xC Γ lay_M RX11 cX11_pass 4 d) (z : Int) {r : Int} {m9 : xM} (hR : xRi Γ lay_M cX11_pass r m9) (x2 : Int) (m : xM) (h : f_m_pass_67 z x2 m = some (r, m9)) : xW Γ lay_M 4 67 [(0, .inr (.inr (some 0))), (2, .inl x2)] [] m := by
  unfold f_m_pass_67 at h
  refine x_aload_n C dX11_pass_67 rfl ?_
  refine x_getR C dX11_pass_68 fF_X11_9 rfl rfl ?_
  refine x_bipush C dX11_pass_71 (by decide) ?_
  refine x_iaload C dX11_pass_73 rfl h (fun h => ?_)
  refine x_iload_n C dX11_pass_74 rfl ?_
  refine x_isub C dX11_pass_75 ?_
  exact x_ireturn hR dX11_pass_76 h
def f_m_pass_52 (z : Int) : Nat → Int → Int → xM → Option (Int × xM)
  | 0, _, _, _ => none
  | n + 1, x2, x3, m =>
     (if xw x3 < xw z then (Option.bind (f_m_passTick m) fun q2 =>
      f_m_pass_52 z n x2 (x3 + 1) q2)
      else f_m_pass_67 z x2 m)
set_option maxRecDepth 1000000 in
set_option maxHeartbeats 4000000 in
theorem t_m_pass_52 {Γ : xG} {d : Nat} (hd9 : 10 ≤ d) (C : xC Γ lay_M RX11 cX11_pass 4 d) (z : Int) {r : Int} {m9 : xM} (hR : xRi Γ lay_M cX11_pass r m9) : ∀ (n : Nat) (x2 : Int) (x3 : Int) (m : xM), f_m_pass_52 z n x2 x3 m = some (r, m9) → xW Γ lay_M 4 52 [(0, .inr (.inr (some 0))), (1, .inl z), (2, .inl x2), (3, .inl x3)] [] m := by
  intro n
  induction n with
  | zero => intro _ _ _ h; cases h
  | succ n ih =>
    intro x2 x3 m h
    rw [f_m_pass_52] at h
    refine x_iload_n C dX11_pass_52 rfl ?_
    refine x_iload_n C dX11_pass_53 rfl ?_
    refine x_icmp_ge C 67 dX11_pass_54 (by decide) h (fun h => ?_) (fun h => ?_)
    · refine x_loc [(0, .inr (.inr (some 0))), (2, .inl x2)] ⟨rfl, rfl, trivial⟩ ?_
      exact t_m_pass_67 hd9 C _ hR _ _ h
    · refine x_aload_n C dX11_pass_57 rfl ?_
      obtain ⟨q2, hq2, h⟩ := x_bind h
      refine x_callVI C dX11_pass_58 (xin_44 _ (List.mem_of_getElem? (i := 20) rfl)) xy_X11_passTick (xi_X11_passTick) (xs_X11_passTick) (by omega) (by decide) (b := 0) rfl ⟨_, _, rfl⟩ (av := []) rfl (Nat.le_of_ble_eq_true rfl) (c_m_passTick _ _ _ hq2) rfl ?_
      refine x_iinc C dX11_pass_61 (by decide) rfl ?_
      refine x_goto C 52 dX11_pass_64 (by decide) ?_
      refine x_loc [(0, .inr (.inr (some 0))), (1, .inl z), (2, .inl x2), (3, .inl (x3 + 1))] ⟨rfl, rfl, rfl, rfl, trivial⟩ ?_
      exact ih _ _ _ h
def f_m_pass (z : Int) (m : xM) : Option (Int × xM) :=
     (Option.bind (f_m_inRange z 1 200 (xvw [] (xu m 0 6 0))) fun q0 =>
      (if xw q0 = 0 then (Option.bind (f_m_raise 1 (xu m 0 6 0)) fun q3 =>
      some (q3.1, q3.2))
      else (if xib 0 3530 then (if xw 99999 < xw ((m 1 0) + z) then some ((-2), (xu m 0 6 0))
      else (Option.bind (f_m_record (xu m 0 6 0)) fun q1 =>
      (if xib 55 3530 then f_m_pass_52 z fu (q1 1 55) 0 q1
      else none)))
      else none)))
set_option maxRecDepth 1000000 in
set_option maxHeartbeats 4000000 in
theorem t_m_pass {Γ : xG} {d : Nat} (hd9 : 10 ≤ d) (C : xC Γ lay_M RX11 cX11_pass 4 d) (z : Int) {r : Int} {m9 : xM} (hR : xRi Γ lay_M cX11_pass r m9) (m : xM) (h : f_m_pass z m = some (r, m9)) : xW Γ lay_M 4 0 [(0, .inr (.inr (some 0))), (1, .inl z)] [] m := by
  unfold f_m_pass at h
  refine x_aload_n C dX11_pass_0 rfl ?_
  refine x_iconst C dX11_pass_1 ?_
  refine x_putI C dX11_pass_2 fF_X11_66 rfl rfl ?_
  refine x_iload_n C dX11_pass_5 rfl ?_
  refine x_iconst C dX11_pass_6 ?_
  refine x_sipush C dX11_pass_7 (by decide) ?_
  obtain ⟨q0, hq0, h⟩ := x_bind h
  refine x_callSp C dX11_pass_10 (xin_18 _ (List.mem_of_getElem? (i := 19) rfl)) xy_X11_inRange (xt_X11_inRange) [] xv_49 (by omega) (by decide) (av := [.inl z, .inl 1, .inl 200]) rfl (Nat.le_of_ble_eq_true rfl) (c_m_inRange _ _ _ _ _ _ hq0) rfl ?_
  refine x_if_ne C 22 dX11_pass_13 (by decide) h (fun h => ?_) (fun h => ?_)
  · refine x_aload_n C dX11_pass_22 rfl ?_
    refine x_getR C dX11_pass_23 fF_X11_9 rfl rfl ?_
    refine x_iconst C dX11_pass_26 ?_
    refine x_iaload C dX11_pass_27 rfl h (fun h => ?_)
    refine x_iload_n C dX11_pass_28 rfl ?_
    refine x_iadd C dX11_pass_29 ?_
    refine x_ldc C 99999 dX11_pass_30 (xin_51 _ (List.mem_of_getElem? (i := 12) rfl)) (by decide) ?_
    refine x_icmp_le C 38 dX11_pass_32 (by decide) h (fun h => ?_) (fun h => ?_)
    · refine x_aload_n C dX11_pass_38 rfl ?_
      obtain ⟨q1, hq1, h⟩ := x_bind h
      refine x_callVI C dX11_pass_39 (xin_51 _ (List.mem_of_getElem? (i := 13) rfl)) xy_X11_record (xi_X11_record) (xs_X11_record) (by omega) (by decide) (b := 0) rfl ⟨_, _, rfl⟩ (av := []) rfl (Nat.le_of_ble_eq_true rfl) (c_m_record _ _ _ hq1) rfl ?_
      refine x_aload_n C dX11_pass_42 rfl ?_
      refine x_getR C dX11_pass_43 fF_X11_9 rfl rfl ?_
      refine x_bipush C dX11_pass_46 (by decide) ?_
      refine x_iaload C dX11_pass_48 rfl h (fun h => ?_)
      refine x_istore_n C dX11_pass_49 (by decide) ?_
      refine x_iconst C dX11_pass_50 ?_
      refine x_istore_n C dX11_pass_51 (by decide) ?_
      refine x_loc [(0, .inr (.inr (some 0))), (1, .inl z), (2, .inl (q1 1 55)), (3, .inl 0)] ⟨rfl, rfl, rfl, rfl, trivial⟩ ?_
      exact t_m_pass_52 hd9 C _ hR fu _ _ _ h
    · refine x_bipush C dX11_pass_35 (by decide) ?_
      exact x_ireturn hR dX11_pass_37 h
  · refine x_aload_n C dX11_pass_16 rfl ?_
    refine x_iconst C dX11_pass_17 ?_
    obtain ⟨q3, hq3, h⟩ := x_bind h
    refine x_callVI C dX11_pass_18 (xin_18 _ (List.mem_of_getElem? (i := 22) rfl)) xy_X11_raise (xi_X11_raise) (xs_X11_raise) (by omega) (by decide) (b := 0) rfl ⟨_, _, rfl⟩ (av := [.inl 1]) rfl (Nat.le_of_ble_eq_true rfl) (c_m_raise _ _ _ q3.1 q3.2 hq3) rfl ?_
    exact x_ireturn hR dX11_pass_21 h
theorem c_m_pass (l : Launch) (z : Int) (m : xM) (r : Int) (m9 : xM) (h : f_m_pass z m = some (r, m9)) : xMet l yX11_pass cX11_pass 4 (some .int) 10 lay_M [.inr (.inr (some 0)), .inl z] m (some (.inl r)) m9 :=
  xMet_i (by decide +kernel) (Nat.le_of_ble_eq_true rfl) (fun Γ C hR hl9 => t_m_pass (Nat.le_refl _) C z hR m h)
/-! ===== yX11_dial ===== -/
theorem dX11_dial_0 : decode cX11_dial 0 = .ok (.aload_n 0, 1) := by decide +kernel
theorem dX11_dial_1 : decode cX11_dial 1 = .ok (.iconst 0, 1) := by decide +kernel
theorem dX11_dial_2 : decode cX11_dial 2 = .ok (.putfield 66, 3) := by decide +kernel
theorem dX11_dial_5 : decode cX11_dial 5 = .ok (.aload_n 0, 1) := by decide +kernel
theorem dX11_dial_6 : decode cX11_dial 6 = .ok (.iconst 0, 1) := by decide +kernel
theorem dX11_dial_7 : decode cX11_dial 7 = .ok (.invokevirtual 77, 3) := by decide +kernel
theorem dX11_dial_10 : decode cX11_dial 10 = .ok (.ifCond .ne 6, 3) := by decide +kernel
theorem dX11_dial_13 : decode cX11_dial 13 = .ok (.bipush (-2), 2) := by decide +kernel
theorem dX11_dial_15 : decode cX11_dial 15 = .ok (.ireturn, 1) := by decide +kernel
theorem dX11_dial_16 : decode cX11_dial 16 = .ok (.aload_n 0, 1) := by decide +kernel
theorem dX11_dial_17 : decode cX11_dial 17 = .ok (.invokevirtual 236, 3) := by decide +kernel
theorem dX11_dial_20 : decode cX11_dial 20 = .ok (.aload_n 0, 1) := by decide +kernel
theorem dX11_dial_21 : decode cX11_dial 21 = .ok (.iconst 0, 1) := by decide +kernel
theorem dX11_dial_22 : decode cX11_dial 22 = .ok (.invokevirtual 153, 3) := by decide +kernel
theorem dX11_dial_25 : decode cX11_dial 25 = .ok (.iconst 0, 1) := by decide +kernel
theorem dX11_dial_26 : decode cX11_dial 26 = .ok (.istore_n 1, 1) := by decide +kernel
theorem dX11_dial_27 : decode cX11_dial 27 = .ok (.iconst 0, 1) := by decide +kernel
theorem dX11_dial_28 : decode cX11_dial 28 = .ok (.istore_n 2, 1) := by decide +kernel
theorem dX11_dial_29 : decode cX11_dial 29 = .ok (.iload_n 2, 1) := by decide +kernel
theorem dX11_dial_30 : decode cX11_dial 30 = .ok (.iconst 4, 1) := by decide +kernel
theorem dX11_dial_31 : decode cX11_dial 31 = .ok (.if_icmp .ge 21, 3) := by decide +kernel
theorem dX11_dial_34 : decode cX11_dial 34 = .ok (.iload_n 1, 1) := by decide +kernel
theorem dX11_dial_35 : decode cX11_dial 35 = .ok (.aload_n 0, 1) := by decide +kernel
theorem dX11_dial_36 : decode cX11_dial 36 = .ok (.getfield 9, 3) := by decide +kernel
theorem dX11_dial_39 : decode cX11_dial 39 = .ok (.bipush 21, 2) := by decide +kernel
theorem dX11_dial_41 : decode cX11_dial 41 = .ok (.iload_n 2, 1) := by decide +kernel
theorem dX11_dial_42 : decode cX11_dial 42 = .ok (.iadd, 1) := by decide +kernel
theorem dX11_dial_43 : decode cX11_dial 43 = .ok (.iaload, 1) := by decide +kernel
theorem dX11_dial_44 : decode cX11_dial 44 = .ok (.iadd, 1) := by decide +kernel
theorem dX11_dial_45 : decode cX11_dial 45 = .ok (.istore_n 1, 1) := by decide +kernel
theorem dX11_dial_46 : decode cX11_dial 46 = .ok (.iinc 2 1, 3) := by decide +kernel
theorem dX11_dial_49 : decode cX11_dial 49 = .ok (.goto (-20), 3) := by decide +kernel
theorem dX11_dial_52 : decode cX11_dial 52 = .ok (.iconst 0, 1) := by decide +kernel
theorem dX11_dial_53 : decode cX11_dial 53 = .ok (.istore_n 2, 1) := by decide +kernel
theorem dX11_dial_54 : decode cX11_dial 54 = .ok (.iload_n 2, 1) := by decide +kernel
theorem dX11_dial_55 : decode cX11_dial 55 = .ok (.iconst 2, 1) := by decide +kernel
theorem dX11_dial_56 : decode cX11_dial 56 = .ok (.if_icmp .ge 31, 3) := by decide +kernel
theorem dX11_dial_59 : decode cX11_dial 59 = .ok (.aload_n 0, 1) := by decide +kernel
theorem dX11_dial_60 : decode cX11_dial 60 = .ok (.getfield 9, 3) := by decide +kernel
theorem dX11_dial_63 : decode cX11_dial 63 = .ok (.iload_n 2, 1) := by decide +kernel
theorem dX11_dial_64 : decode cX11_dial 64 = .ok (.iconst 2, 1) := by decide +kernel
theorem dX11_dial_65 : decode cX11_dial 65 = .ok (.invokestatic 69, 3) := by decide +kernel
theorem dX11_dial_68 : decode cX11_dial 68 = .ok (.iconst 0, 1) := by decide +kernel
theorem dX11_dial_69 : decode cX11_dial 69 = .ok (.iastore, 1) := by decide +kernel
theorem dX11_dial_70 : decode cX11_dial 70 = .ok (.aload_n 0, 1) := by decide +kernel
theorem dX11_dial_71 : decode cX11_dial 71 = .ok (.getfield 9, 3) := by decide +kernel
theorem dX11_dial_74 : decode cX11_dial 74 = .ok (.iload_n 2, 1) := by decide +kernel
theorem dX11_dial_75 : decode cX11_dial 75 = .ok (.iconst 3, 1) := by decide +kernel
theorem dX11_dial_76 : decode cX11_dial 76 = .ok (.invokestatic 69, 3) := by decide +kernel
theorem dX11_dial_79 : decode cX11_dial 79 = .ok (.iconst 0, 1) := by decide +kernel
theorem dX11_dial_80 : decode cX11_dial 80 = .ok (.iastore, 1) := by decide +kernel
theorem dX11_dial_81 : decode cX11_dial 81 = .ok (.iinc 2 1, 3) := by decide +kernel
theorem dX11_dial_84 : decode cX11_dial 84 = .ok (.goto (-30), 3) := by decide +kernel
theorem dX11_dial_87 : decode cX11_dial 87 = .ok (.iload_n 1, 1) := by decide +kernel
theorem dX11_dial_88 : decode cX11_dial 88 = .ok (.ireturn, 1) := by decide +kernel
def f_m_dial_54 : Nat → Int → Int → xM → Option (Int × xM)
  | 0, _, _, _ => none
  | n + 1, x1, x2, m =>
     (if xw x2 < xw 2 then (Option.bind (f_m_endAt x2 2 (xvw [] m)) fun q3 =>
      (if xib q3 3530 then (Option.bind (f_m_endAt x2 3 (xvw [] (xu m 1 (xix q3) 0))) fun q4 =>
      (if xib q4 3530 then f_m_dial_54 n x1 (x2 + 1) (xu (xu m 1 (xix q3) 0) 1 (xix q4) 0)
      else none))
      else none))
      else some (x1, m))
set_option maxRecDepth 1000000 in
set_option maxHeartbeats 4000000 in
theorem t_m_dial_54 {Γ : xG} {d : Nat} (hd9 : 3 ≤ d) (C : xC Γ lay_M RX11 cX11_dial 3 d) {r : Int} {m9 : xM} (hR : xRi Γ lay_M cX11_dial r m9) : ∀ (n : Nat) (x1 : Int) (x2 : Int) (m : xM), f_m_dial_54 n x1 x2 m = some (r, m9) → xW Γ lay_M 3 54 [(0, .inr (.inr (some 0))), (1, .inl x1), (2, .inl x2)] [] m := by
  intro n
  induction n with
  | zero => intro _ _ _ h; cases h
  | succ n ih =>
    intro x1 x2 m h
    rw [f_m_dial_54] at h
    refine x_iload_n C dX11_dial_54 rfl ?_
    refine x_iconst C dX11_dial_55 ?_
    refine x_icmp_ge C 87 dX11_dial_56 (by decide) h (fun h => ?_) (fun h => ?_)
    · refine x_iload_n C dX11_dial_87 rfl ?_
      exact x_ireturn hR dX11_dial_88 h
    · refine x_aload_n C dX11_dial_59 rfl ?_
      refine x_getR C dX11_dial_60 fF_X11_9 rfl rfl ?_
      refine x_iload_n C dX11_dial_63 rfl ?_
      refine x_iconst C dX11_dial_64 ?_
      obtain ⟨q3, hq3, h⟩ := x_bind h
      refine x_callSp C dX11_dial_65 (xin_27 _ (List.mem_of_getElem? (i := 18) rfl)) xy_X11_endAt (xt_X11_endAt) [] xv_49 (by omega) (by decide) (av := [.inl x2, .inl 2]) rfl (Nat.le_of_ble_eq_true rfl) (c_m_endAt _ _ _ _ _ hq3) rfl ?_
      refine x_iconst C dX11_dial_68 ?_
      refine x_iastore C dX11_dial_69 rfl h (fun h => ?_)
      refine x_aload_n C dX11_dial_70 rfl ?_
      refine x_getR C dX11_dial_71 fF_X11_9 rfl rfl ?_
      refine x_iload_n C dX11_dial_74 rfl ?_
      refine x_iconst C dX11_dial_75 ?_
      obtain ⟨q4, hq4, h⟩ := x_bind h
      refine x_callSp C dX11_dial_76 (xin_27 _ (List.mem_of_getElem? (i := 18) rfl)) xy_X11_endAt (xt_X11_endAt) [] xv_49 (by omega) (by decide) (av := [.inl x2, .inl 3]) rfl (Nat.le_of_ble_eq_true rfl) (c_m_endAt _ _ _ _ _ hq4) rfl ?_
      refine x_iconst C dX11_dial_79 ?_
      refine x_iastore C dX11_dial_80 rfl h (fun h => ?_)
      refine x_iinc C dX11_dial_81 (by decide) rfl ?_
      refine x_goto C 54 dX11_dial_84 (by decide) ?_
      refine x_loc [(0, .inr (.inr (some 0))), (1, .inl x1), (2, .inl (x2 + 1))] ⟨rfl, rfl, rfl, trivial⟩ ?_
      exact ih _ _ _ h
def f_m_dial_52 (x1 : Int) (m : xM) : Option (Int × xM) :=
     f_m_dial_54 fu x1 0 m
set_option maxRecDepth 1000000 in
set_option maxHeartbeats 4000000 in
theorem t_m_dial_52 {Γ : xG} {d : Nat} (hd9 : 3 ≤ d) (C : xC Γ lay_M RX11 cX11_dial 3 d) {r : Int} {m9 : xM} (hR : xRi Γ lay_M cX11_dial r m9) (x1 : Int) (m : xM) (h : f_m_dial_52 x1 m = some (r, m9)) : xW Γ lay_M 3 52 [(0, .inr (.inr (some 0))), (1, .inl x1)] [] m := by
  unfold f_m_dial_52 at h
  refine x_iconst C dX11_dial_52 ?_
  refine x_istore_n C dX11_dial_53 (by decide) ?_
  refine x_loc [(0, .inr (.inr (some 0))), (1, .inl x1), (2, .inl 0)] ⟨rfl, rfl, rfl, trivial⟩ ?_
  exact t_m_dial_54 hd9 C hR fu _ _ _ h
def f_m_dial_29 : Nat → Int → Int → xM → Option (Int × xM)
  | 0, _, _, _ => none
  | n + 1, x1, x2, m =>
     (if xw x2 < xw 4 then (if xib (21 + x2) 3530 then f_m_dial_29 n (x1 + (m 1 (xix (21 + x2)))) (x2 + 1) m
      else none)
      else f_m_dial_52 x1 m)
set_option maxRecDepth 1000000 in
set_option maxHeartbeats 4000000 in
theorem t_m_dial_29 {Γ : xG} {d : Nat} (hd9 : 3 ≤ d) (C : xC Γ lay_M RX11 cX11_dial 3 d) {r : Int} {m9 : xM} (hR : xRi Γ lay_M cX11_dial r m9) : ∀ (n : Nat) (x1 : Int) (x2 : Int) (m : xM), f_m_dial_29 n x1 x2 m = some (r, m9) → xW Γ lay_M 3 29 [(0, .inr (.inr (some 0))), (1, .inl x1), (2, .inl x2)] [] m := by
  intro n
  induction n with
  | zero => intro _ _ _ h; cases h
  | succ n ih =>
    intro x1 x2 m h
    rw [f_m_dial_29] at h
    refine x_iload_n C dX11_dial_29 rfl ?_
    refine x_iconst C dX11_dial_30 ?_
    refine x_icmp_ge C 52 dX11_dial_31 (by decide) h (fun h => ?_) (fun h => ?_)
    · refine x_loc [(0, .inr (.inr (some 0))), (1, .inl x1)] ⟨rfl, rfl, trivial⟩ ?_
      exact t_m_dial_52 hd9 C hR _ _ h
    · refine x_iload_n C dX11_dial_34 rfl ?_
      refine x_aload_n C dX11_dial_35 rfl ?_
      refine x_getR C dX11_dial_36 fF_X11_9 rfl rfl ?_
      refine x_bipush C dX11_dial_39 (by decide) ?_
      refine x_iload_n C dX11_dial_41 rfl ?_
      refine x_iadd C dX11_dial_42 ?_
      refine x_iaload C dX11_dial_43 rfl h (fun h => ?_)
      refine x_iadd C dX11_dial_44 ?_
      refine x_istore_n C dX11_dial_45 (by decide) ?_
      refine x_iinc C dX11_dial_46 (by decide) rfl ?_
      refine x_goto C 29 dX11_dial_49 (by decide) ?_
      refine x_loc [(0, .inr (.inr (some 0))), (1, .inl (x1 + (m 1 (xix (21 + x2))))), (2, .inl (x2 + 1))] ⟨rfl, rfl, rfl, trivial⟩ ?_
      exact ih _ _ _ h
def f_m_dial (m : xM) : Option (Int × xM) :=
     (Option.bind (f_m_isPhase 0 (xu m 0 6 0)) fun q0 =>
      (if xw q0 = 0 then some ((-2), (xu m 0 6 0))
      else (Option.bind (f_m_record (xu m 0 6 0)) fun q1 =>
      (Option.bind (f_m_train 0 q1) fun q2 =>
      f_m_dial_29 fu 0 0 q2))))
set_option maxRecDepth 1000000 in
set_option maxHeartbeats 4000000 in
theorem t_m_dial {Γ : xG} {d : Nat} (hd9 : 3 ≤ d) (C : xC Γ lay_M RX11 cX11_dial 3 d) {r : Int} {m9 : xM} (hR : xRi Γ lay_M cX11_dial r m9) (m : xM) (h : f_m_dial m = some (r, m9)) : xW Γ lay_M 3 0 [(0, .inr (.inr (some 0)))] [] m := by
  unfold f_m_dial at h
  refine x_aload_n C dX11_dial_0 rfl ?_
  refine x_iconst C dX11_dial_1 ?_
  refine x_putI C dX11_dial_2 fF_X11_66 rfl rfl ?_
  refine x_aload_n C dX11_dial_5 rfl ?_
  refine x_iconst C dX11_dial_6 ?_
  obtain ⟨q0, hq0, h⟩ := x_bind h
  refine x_callVI C dX11_dial_7 (xin_25 _ (List.mem_of_getElem? (i := 12) rfl)) xy_X11_isPhase (xi_X11_isPhase) (xs_X11_isPhase) (by omega) (by decide) (b := 0) rfl ⟨_, _, rfl⟩ (av := [.inl 0]) rfl (Nat.le_of_ble_eq_true rfl) (c_m_isPhase _ _ _ _ hq0) rfl ?_
  refine x_if_ne C 16 dX11_dial_10 (by decide) h (fun h => ?_) (fun h => ?_)
  · refine x_aload_n C dX11_dial_16 rfl ?_
    obtain ⟨q1, hq1, h⟩ := x_bind h
    refine x_callVI C dX11_dial_17 (xin_51 _ (List.mem_of_getElem? (i := 13) rfl)) xy_X11_record (xi_X11_record) (xs_X11_record) (by omega) (by decide) (b := 0) rfl ⟨_, _, rfl⟩ (av := []) rfl (Nat.le_of_ble_eq_true rfl) (c_m_record _ _ _ hq1) rfl ?_
    refine x_aload_n C dX11_dial_20 rfl ?_
    refine x_iconst C dX11_dial_21 ?_
    obtain ⟨q2, hq2, h⟩ := x_bind h
    refine x_callVI C dX11_dial_22 (xin_48 _ (List.mem_of_getElem? (i := 23) rfl)) xy_X11_train (xi_X11_train) (xs_X11_train) (by omega) (by decide) (b := 0) rfl ⟨_, _, rfl⟩ (av := [.inl 0]) rfl (Nat.le_of_ble_eq_true rfl) (c_m_train _ _ _ _ hq2) rfl ?_
    refine x_iconst C dX11_dial_25 ?_
    refine x_istore_n C dX11_dial_26 (by decide) ?_
    refine x_iconst C dX11_dial_27 ?_
    refine x_istore_n C dX11_dial_28 (by decide) ?_
    refine x_loc [(0, .inr (.inr (some 0))), (1, .inl 0), (2, .inl 0)] ⟨rfl, rfl, rfl, trivial⟩ ?_
    exact t_m_dial_29 hd9 C hR fu _ _ _ h
  · refine x_bipush C dX11_dial_13 (by decide) ?_
    exact x_ireturn hR dX11_dial_15 h
theorem c_m_dial (l : Launch) (m : xM) (r : Int) (m9 : xM) (h : f_m_dial m = some (r, m9)) : xMet l yX11_dial cX11_dial 3 (some .int) 3 lay_M [.inr (.inr (some 0))] m (some (.inl r)) m9 :=
  xMet_i (by decide +kernel) (Nat.le_of_ble_eq_true rfl) (fun Γ C hR hl9 => t_m_dial (Nat.le_refl _) C hR m h)
/-! ===== yX11_hangUp ===== -/
theorem xy_X11_losing : xY yX11_losing cX11_losing 4 (some .int) 0 := ⟨(xin_53 _ (List.mem_of_getElem? (i := 7) rfl)), (xin_1 _ (List.mem_of_getElem? (i := 5) rfl)), by decide, by decide, by decide +kernel⟩
theorem xi_X11_losing : Cond.instanceMethod yX11_losing ∈ wsL_law := (xin_53 _ (List.mem_of_getElem? (i := 5) rfl))
theorem xs_X11_losing : Cond.selects yX11_losing.cls yX11_losing yX11_losing ∈ wsL_law := (xin_53 _ (List.mem_of_getElem? (i := 6) rfl))
theorem dX11_hangUp_0 : decode cX11_hangUp 0 = .ok (.aload_n 0, 1) := by decide +kernel
theorem dX11_hangUp_1 : decode cX11_hangUp 1 = .ok (.iconst 0, 1) := by decide +kernel
theorem dX11_hangUp_2 : decode cX11_hangUp 2 = .ok (.putfield 66, 3) := by decide +kernel
theorem dX11_hangUp_5 : decode cX11_hangUp 5 = .ok (.aload_n 0, 1) := by decide +kernel
theorem dX11_hangUp_6 : decode cX11_hangUp 6 = .ok (.iconst 0, 1) := by decide +kernel
theorem dX11_hangUp_7 : decode cX11_hangUp 7 = .ok (.invokevirtual 77, 3) := by decide +kernel
theorem dX11_hangUp_10 : decode cX11_hangUp 10 = .ok (.ifCond .eq 6, 3) := by decide +kernel
theorem dX11_hangUp_13 : decode cX11_hangUp 13 = .ok (.bipush (-2), 2) := by decide +kernel
theorem dX11_hangUp_15 : decode cX11_hangUp 15 = .ok (.ireturn, 1) := by decide +kernel
theorem dX11_hangUp_16 : decode cX11_hangUp 16 = .ok (.aload_n 0, 1) := by decide +kernel
theorem dX11_hangUp_17 : decode cX11_hangUp 17 = .ok (.invokevirtual 236, 3) := by decide +kernel
theorem dX11_hangUp_20 : decode cX11_hangUp 20 = .ok (.aload_n 0, 1) := by decide +kernel
theorem dX11_hangUp_21 : decode cX11_hangUp 21 = .ok (.invokevirtual 239, 3) := by decide +kernel
theorem dX11_hangUp_24 : decode cX11_hangUp 24 = .ok (.istore_n 1, 1) := by decide +kernel
theorem dX11_hangUp_25 : decode cX11_hangUp 25 = .ok (.aload_n 0, 1) := by decide +kernel
theorem dX11_hangUp_26 : decode cX11_hangUp 26 = .ok (.invokevirtual 144, 3) := by decide +kernel
theorem dX11_hangUp_29 : decode cX11_hangUp 29 = .ok (.iload_n 1, 1) := by decide +kernel
theorem dX11_hangUp_30 : decode cX11_hangUp 30 = .ok (.ireturn, 1) := by decide +kernel
def f_m_hangUp (m : xM) : Option (Int × xM) :=
     (Option.bind (f_m_isPhase 0 (xu m 0 6 0)) fun q0 =>
      (if xw q0 = 0 then (Option.bind (f_m_record (xu m 0 6 0)) fun q1 =>
      (Option.bind (f_m_losing q1) fun q2 =>
      (Option.bind (f_m_hang q1) fun q3 =>
      some (q2, q3))))
      else some ((-2), (xu m 0 6 0))))
set_option maxRecDepth 1000000 in
set_option maxHeartbeats 4000000 in
theorem t_m_hangUp {Γ : xG} {d : Nat} (hd9 : 5 ≤ d) (C : xC Γ lay_M RX11 cX11_hangUp 2 d) {r : Int} {m9 : xM} (hR : xRi Γ lay_M cX11_hangUp r m9) (m : xM) (h : f_m_hangUp m = some (r, m9)) : xW Γ lay_M 2 0 [(0, .inr (.inr (some 0)))] [] m := by
  unfold f_m_hangUp at h
  refine x_aload_n C dX11_hangUp_0 rfl ?_
  refine x_iconst C dX11_hangUp_1 ?_
  refine x_putI C dX11_hangUp_2 fF_X11_66 rfl rfl ?_
  refine x_aload_n C dX11_hangUp_5 rfl ?_
  refine x_iconst C dX11_hangUp_6 ?_
  obtain ⟨q0, hq0, h⟩ := x_bind h
  refine x_callVI C dX11_hangUp_7 (xin_25 _ (List.mem_of_getElem? (i := 12) rfl)) xy_X11_isPhase (xi_X11_isPhase) (xs_X11_isPhase) (by omega) (by decide) (b := 0) rfl ⟨_, _, rfl⟩ (av := [.inl 0]) rfl (Nat.le_of_ble_eq_true rfl) (c_m_isPhase _ _ _ _ hq0) rfl ?_
  refine x_if_eq C 16 dX11_hangUp_10 (by decide) h (fun h => ?_) (fun h => ?_)
  · refine x_aload_n C dX11_hangUp_16 rfl ?_
    obtain ⟨q1, hq1, h⟩ := x_bind h
    refine x_callVI C dX11_hangUp_17 (xin_51 _ (List.mem_of_getElem? (i := 13) rfl)) xy_X11_record (xi_X11_record) (xs_X11_record) (by omega) (by decide) (b := 0) rfl ⟨_, _, rfl⟩ (av := []) rfl (Nat.le_of_ble_eq_true rfl) (c_m_record _ _ _ hq1) rfl ?_
    refine x_aload_n C dX11_hangUp_20 rfl ?_
    obtain ⟨q2, hq2, h⟩ := x_bind h
    refine x_callVI C dX11_hangUp_21 (xin_53 _ (List.mem_of_getElem? (i := 4) rfl)) xy_X11_losing (xi_X11_losing) (xs_X11_losing) (by omega) (by decide) (b := 0) rfl ⟨_, _, rfl⟩ (av := []) rfl (Nat.le_of_ble_eq_true rfl) (c_m_losing _ _ _ hq2) rfl ?_
    refine x_istore_n C dX11_hangUp_24 (by decide) ?_
    refine x_aload_n C dX11_hangUp_25 rfl ?_
    obtain ⟨q3, hq3, h⟩ := x_bind h
    refine x_callVI C dX11_hangUp_26 (xin_45 _ (List.mem_of_getElem? (i := 4) rfl)) xy_X11_hang (xi_X11_hang) (xs_X11_hang) (by omega) (by decide) (b := 0) rfl ⟨_, _, rfl⟩ (av := []) rfl (Nat.le_of_ble_eq_true rfl) (c_m_hang _ _ _ hq3) rfl ?_
    refine x_iload_n C dX11_hangUp_29 rfl ?_
    exact x_ireturn hR dX11_hangUp_30 h
  · refine x_bipush C dX11_hangUp_13 (by decide) ?_
    exact x_ireturn hR dX11_hangUp_15 h
theorem c_m_hangUp (l : Launch) (m : xM) (r : Int) (m9 : xM) (h : f_m_hangUp m = some (r, m9)) : xMet l yX11_hangUp cX11_hangUp 2 (some .int) 5 lay_M [.inr (.inr (some 0))] m (some (.inl r)) m9 :=
  xMet_i (by decide +kernel) (Nat.le_of_ble_eq_true rfl) (fun Γ C hR hl9 => t_m_hangUp (Nat.le_refl _) C hR m h)
/-! ===== yX11_setEscaped ===== -/
theorem dX11_setEscaped_0 : decode cX11_setEscaped 0 = .ok (.aload_n 0, 1) := by decide +kernel
theorem dX11_setEscaped_1 : decode cX11_setEscaped 1 = .ok (.iconst 0, 1) := by decide +kernel
theorem dX11_setEscaped_2 : decode cX11_setEscaped 2 = .ok (.putfield 66, 3) := by decide +kernel
theorem dX11_setEscaped_5 : decode cX11_setEscaped 5 = .ok (.iload_n 1, 1) := by decide +kernel
theorem dX11_setEscaped_6 : decode cX11_setEscaped 6 = .ok (.invokestatic 215, 3) := by decide +kernel
theorem dX11_setEscaped_9 : decode cX11_setEscaped 9 = .ok (.ifCond .ne 9, 3) := by decide +kernel
theorem dX11_setEscaped_12 : decode cX11_setEscaped 12 = .ok (.aload_n 0, 1) := by decide +kernel
theorem dX11_setEscaped_13 : decode cX11_setEscaped 13 = .ok (.iconst 1, 1) := by decide +kernel
theorem dX11_setEscaped_14 : decode cX11_setEscaped 14 = .ok (.invokevirtual 212, 3) := by decide +kernel
theorem dX11_setEscaped_17 : decode cX11_setEscaped 17 = .ok (.ireturn, 1) := by decide +kernel
theorem dX11_setEscaped_18 : decode cX11_setEscaped 18 = .ok (.aload_n 0, 1) := by decide +kernel
theorem dX11_setEscaped_19 : decode cX11_setEscaped 19 = .ok (.iconst 2, 1) := by decide +kernel
theorem dX11_setEscaped_20 : decode cX11_setEscaped 20 = .ok (.invokevirtual 77, 3) := by decide +kernel
theorem dX11_setEscaped_23 : decode cX11_setEscaped 23 = .ok (.ifCond .ne 6, 3) := by decide +kernel
theorem dX11_setEscaped_26 : decode cX11_setEscaped 26 = .ok (.bipush (-2), 2) := by decide +kernel
theorem dX11_setEscaped_28 : decode cX11_setEscaped 28 = .ok (.ireturn, 1) := by decide +kernel
theorem dX11_setEscaped_29 : decode cX11_setEscaped 29 = .ok (.aload_n 0, 1) := by decide +kernel
theorem dX11_setEscaped_30 : decode cX11_setEscaped 30 = .ok (.iload_n 1, 1) := by decide +kernel
theorem dX11_setEscaped_31 : decode cX11_setEscaped 31 = .ok (.bipush 6, 2) := by decide +kernel
theorem dX11_setEscaped_33 : decode cX11_setEscaped 33 = .ok (.invokevirtual 101, 3) := by decide +kernel
theorem dX11_setEscaped_36 : decode cX11_setEscaped 36 = .ok (.iload_n 2, 1) := by decide +kernel
theorem dX11_setEscaped_37 : decode cX11_setEscaped 37 = .ok (.if_icmp .ne 6, 3) := by decide +kernel
theorem dX11_setEscaped_40 : decode cX11_setEscaped 40 = .ok (.bipush (-3), 2) := by decide +kernel
theorem dX11_setEscaped_42 : decode cX11_setEscaped 42 = .ok (.ireturn, 1) := by decide +kernel
theorem dX11_setEscaped_43 : decode cX11_setEscaped 43 = .ok (.aload_n 0, 1) := by decide +kernel
theorem dX11_setEscaped_44 : decode cX11_setEscaped 44 = .ok (.invokevirtual 236, 3) := by decide +kernel
theorem dX11_setEscaped_47 : decode cX11_setEscaped 47 = .ok (.aload_n 0, 1) := by decide +kernel
theorem dX11_setEscaped_48 : decode cX11_setEscaped 48 = .ok (.getfield 9, 3) := by decide +kernel
theorem dX11_setEscaped_51 : decode cX11_setEscaped 51 = .ok (.iload_n 1, 1) := by decide +kernel
theorem dX11_setEscaped_52 : decode cX11_setEscaped 52 = .ok (.bipush 6, 2) := by decide +kernel
theorem dX11_setEscaped_54 : decode cX11_setEscaped 54 = .ok (.invokestatic 69, 3) := by decide +kernel
theorem dX11_setEscaped_57 : decode cX11_setEscaped 57 = .ok (.iload_n 2, 1) := by decide +kernel
theorem dX11_setEscaped_58 : decode cX11_setEscaped 58 = .ok (.iastore, 1) := by decide +kernel
theorem dX11_setEscaped_59 : decode cX11_setEscaped 59 = .ok (.aload_n 0, 1) := by decide +kernel
theorem dX11_setEscaped_60 : decode cX11_setEscaped 60 = .ok (.iload_n 1, 1) := by decide +kernel
theorem dX11_setEscaped_61 : decode cX11_setEscaped 61 = .ok (.iconst 0, 1) := by decide +kernel
theorem dX11_setEscaped_62 : decode cX11_setEscaped 62 = .ok (.invokevirtual 101, 3) := by decide +kernel
theorem dX11_setEscaped_65 : decode cX11_setEscaped 65 = .ok (.ireturn, 1) := by decide +kernel
def f_m_setEscaped (e : Int) (z : Int) (m : xM) : Option (Int × xM) :=
     (Option.bind (f_m_isEnd e (xvw [] (xu m 0 6 0))) fun q0 =>
      (if xw q0 = 0 then (Option.bind (f_m_raise 1 (xu m 0 6 0)) fun q6 =>
      some (q6.1, q6.2))
      else (Option.bind (f_m_isPhase 2 (xu m 0 6 0)) fun q1 =>
      (if xw q1 = 0 then some ((-2), (xu m 0 6 0))
      else (Option.bind (f_m_of e 6 (xu m 0 6 0)) fun q2 =>
      (if xw q2 = xw z then some ((-3), (xu m 0 6 0))
      else (Option.bind (f_m_record (xu m 0 6 0)) fun q3 =>
      (Option.bind (f_m_endAt e 6 (xvw [] q3)) fun q4 =>
      (if xib q4 3530 then (Option.bind (f_m_of e 0 (xu q3 1 (xix q4) z)) fun q5 =>
      some (q5, (xu q3 1 (xix q4) z)))
      else none)))))))))
set_option maxRecDepth 1000000 in
set_option maxHeartbeats 4000000 in
theorem t_m_setEscaped {Γ : xG} {d : Nat} (hd9 : 3 ≤ d) (C : xC Γ lay_M RX11 cX11_setEscaped 3 d) (e : Int) (z : Int) {r : Int} {m9 : xM} (hR : xRi Γ lay_M cX11_setEscaped r m9) (m : xM) (h : f_m_setEscaped e z m = some (r, m9)) : xW Γ lay_M 3 0 [(0, .inr (.inr (some 0))), (1, .inl e), (2, .inl z)] [] m := by
  unfold f_m_setEscaped at h
  refine x_aload_n C dX11_setEscaped_0 rfl ?_
  refine x_iconst C dX11_setEscaped_1 ?_
  refine x_putI C dX11_setEscaped_2 fF_X11_66 rfl rfl ?_
  refine x_iload_n C dX11_setEscaped_5 rfl ?_
  obtain ⟨q0, hq0, h⟩ := x_bind h
  refine x_callSp C dX11_setEscaped_6 (xin_27 _ (List.mem_of_getElem? (i := 11) rfl)) xy_X11_isEnd (xt_X11_isEnd) [] xv_49 (by omega) (by decide) (av := [.inl e]) rfl (Nat.le_of_ble_eq_true rfl) (c_m_isEnd _ _ _ _ hq0) rfl ?_
  refine x_if_ne C 18 dX11_setEscaped_9 (by decide) h (fun h => ?_) (fun h => ?_)
  · refine x_aload_n C dX11_setEscaped_18 rfl ?_
    refine x_iconst C dX11_setEscaped_19 ?_
    obtain ⟨q1, hq1, h⟩ := x_bind h
    refine x_callVI C dX11_setEscaped_20 (xin_25 _ (List.mem_of_getElem? (i := 12) rfl)) xy_X11_isPhase (xi_X11_isPhase) (xs_X11_isPhase) (by omega) (by decide) (b := 0) rfl ⟨_, _, rfl⟩ (av := [.inl 2]) rfl (Nat.le_of_ble_eq_true rfl) (c_m_isPhase _ _ _ _ hq1) rfl ?_
    refine x_if_ne C 29 dX11_setEscaped_23 (by decide) h (fun h => ?_) (fun h => ?_)
    · refine x_aload_n C dX11_setEscaped_29 rfl ?_
      refine x_iload_n C dX11_setEscaped_30 rfl ?_
      refine x_bipush C dX11_setEscaped_31 (by decide) ?_
      obtain ⟨q2, hq2, h⟩ := x_bind h
      refine x_callVI C dX11_setEscaped_33 (xin_27 _ (List.mem_of_getElem? (i := 14) rfl)) xy_X11_of (xi_X11_of) (xs_X11_of) (by omega) (by decide) (b := 0) rfl ⟨_, _, rfl⟩ (av := [.inl e, .inl 6]) rfl (Nat.le_of_ble_eq_true rfl) (c_m_of _ _ _ _ _ hq2) rfl ?_
      refine x_iload_n C dX11_setEscaped_36 rfl ?_
      refine x_icmp_ne C 43 dX11_setEscaped_37 (by decide) h (fun h => ?_) (fun h => ?_)
      · refine x_aload_n C dX11_setEscaped_43 rfl ?_
        obtain ⟨q3, hq3, h⟩ := x_bind h
        refine x_callVI C dX11_setEscaped_44 (xin_51 _ (List.mem_of_getElem? (i := 13) rfl)) xy_X11_record (xi_X11_record) (xs_X11_record) (by omega) (by decide) (b := 0) rfl ⟨_, _, rfl⟩ (av := []) rfl (Nat.le_of_ble_eq_true rfl) (c_m_record _ _ _ hq3) rfl ?_
        refine x_aload_n C dX11_setEscaped_47 rfl ?_
        refine x_getR C dX11_setEscaped_48 fF_X11_9 rfl rfl ?_
        refine x_iload_n C dX11_setEscaped_51 rfl ?_
        refine x_bipush C dX11_setEscaped_52 (by decide) ?_
        obtain ⟨q4, hq4, h⟩ := x_bind h
        refine x_callSp C dX11_setEscaped_54 (xin_27 _ (List.mem_of_getElem? (i := 18) rfl)) xy_X11_endAt (xt_X11_endAt) [] xv_49 (by omega) (by decide) (av := [.inl e, .inl 6]) rfl (Nat.le_of_ble_eq_true rfl) (c_m_endAt _ _ _ _ _ hq4) rfl ?_
        refine x_iload_n C dX11_setEscaped_57 rfl ?_
        refine x_iastore C dX11_setEscaped_58 rfl h (fun h => ?_)
        refine x_aload_n C dX11_setEscaped_59 rfl ?_
        refine x_iload_n C dX11_setEscaped_60 rfl ?_
        refine x_iconst C dX11_setEscaped_61 ?_
        obtain ⟨q5, hq5, h⟩ := x_bind h
        refine x_callVI C dX11_setEscaped_62 (xin_27 _ (List.mem_of_getElem? (i := 14) rfl)) xy_X11_of (xi_X11_of) (xs_X11_of) (by omega) (by decide) (b := 0) rfl ⟨_, _, rfl⟩ (av := [.inl e, .inl 0]) rfl (Nat.le_of_ble_eq_true rfl) (c_m_of _ _ _ _ _ hq5) rfl ?_
        exact x_ireturn hR dX11_setEscaped_65 h
      · refine x_bipush C dX11_setEscaped_40 (by decide) ?_
        exact x_ireturn hR dX11_setEscaped_42 h
    · refine x_bipush C dX11_setEscaped_26 (by decide) ?_
      exact x_ireturn hR dX11_setEscaped_28 h
  · refine x_aload_n C dX11_setEscaped_12 rfl ?_
    refine x_iconst C dX11_setEscaped_13 ?_
    obtain ⟨q6, hq6, h⟩ := x_bind h
    refine x_callVI C dX11_setEscaped_14 (xin_18 _ (List.mem_of_getElem? (i := 22) rfl)) xy_X11_raise (xi_X11_raise) (xs_X11_raise) (by omega) (by decide) (b := 0) rfl ⟨_, _, rfl⟩ (av := [.inl 1]) rfl (Nat.le_of_ble_eq_true rfl) (c_m_raise _ _ _ q6.1 q6.2 hq6) rfl ?_
    exact x_ireturn hR dX11_setEscaped_17 h
theorem c_m_setEscaped (l : Launch) (e : Int) (z : Int) (m : xM) (r : Int) (m9 : xM) (h : f_m_setEscaped e z m = some (r, m9)) : xMet l yX11_setEscaped cX11_setEscaped 3 (some .int) 3 lay_M [.inr (.inr (some 0)), .inl e, .inl z] m (some (.inl r)) m9 :=
  xMet_i (by decide +kernel) (Nat.le_of_ble_eq_true rfl) (fun Γ C hR hl9 => t_m_setEscaped (Nat.le_refl _) C e z hR m h)
/-! ===== yX11_escape ===== -/
theorem xy_X11_setEscaped : xY yX11_setEscaped cX11_setEscaped 3 (some .int) 2 := ⟨(xin_54 _ (List.mem_of_getElem? (i := 2) rfl)), (xin_1 _ (List.mem_of_getElem? (i := 5) rfl)), by decide, by decide, by decide +kernel⟩
theorem xi_X11_setEscaped : Cond.instanceMethod yX11_setEscaped ∈ wsL_law := (xin_54 _ (List.mem_of_getElem? (i := 0) rfl))
theorem xs_X11_setEscaped : Cond.selects yX11_setEscaped.cls yX11_setEscaped yX11_setEscaped ∈ wsL_law := (xin_54 _ (List.mem_of_getElem? (i := 1) rfl))
theorem dX11_escape_0 : decode cX11_escape 0 = .ok (.aload_n 0, 1) := by decide +kernel
theorem dX11_escape_1 : decode cX11_escape 1 = .ok (.iload_n 1, 1) := by decide +kernel
theorem dX11_escape_2 : decode cX11_escape 2 = .ok (.iconst 1, 1) := by decide +kernel
theorem dX11_escape_3 : decode cX11_escape 3 = .ok (.invokevirtual 242, 3) := by decide +kernel
theorem dX11_escape_6 : decode cX11_escape 6 = .ok (.ireturn, 1) := by decide +kernel
def f_m_escape (e : Int) (m : xM) : Option (Int × xM) :=
     (Option.bind (f_m_setEscaped e 1 m) fun q0 =>
      some (q0.1, q0.2))
set_option maxRecDepth 1000000 in
set_option maxHeartbeats 4000000 in
theorem t_m_escape {Γ : xG} {d : Nat} (hd9 : 4 ≤ d) (C : xC Γ lay_M RX11 cX11_escape 2 d) (e : Int) {r : Int} {m9 : xM} (hR : xRi Γ lay_M cX11_escape r m9) (m : xM) (h : f_m_escape e m = some (r, m9)) : xW Γ lay_M 2 0 [(0, .inr (.inr (some 0))), (1, .inl e)] [] m := by
  unfold f_m_escape at h
  refine x_aload_n C dX11_escape_0 rfl ?_
  refine x_iload_n C dX11_escape_1 rfl ?_
  refine x_iconst C dX11_escape_2 ?_
  obtain ⟨q0, hq0, h⟩ := x_bind h
  refine x_callVI C dX11_escape_3 (xin_53 _ (List.mem_of_getElem? (i := 23) rfl)) xy_X11_setEscaped (xi_X11_setEscaped) (xs_X11_setEscaped) (by omega) (by decide) (b := 0) rfl ⟨_, _, rfl⟩ (av := [.inl e, .inl 1]) rfl (Nat.le_of_ble_eq_true rfl) (c_m_setEscaped _ _ _ _ q0.1 q0.2 hq0) rfl ?_
  exact x_ireturn hR dX11_escape_6 h
theorem c_m_escape (l : Launch) (e : Int) (m : xM) (r : Int) (m9 : xM) (h : f_m_escape e m = some (r, m9)) : xMet l yX11_escape cX11_escape 2 (some .int) 4 lay_M [.inr (.inr (some 0)), .inl e] m (some (.inl r)) m9 :=
  xMet_i (by decide +kernel) (Nat.le_of_ble_eq_true rfl) (fun Γ C hR hl9 => t_m_escape (Nat.le_refl _) C e hR m h)
/-! ===== yX11_resume ===== -/
theorem dX11_resume_0 : decode cX11_resume 0 = .ok (.aload_n 0, 1) := by decide +kernel
theorem dX11_resume_1 : decode cX11_resume 1 = .ok (.iload_n 1, 1) := by decide +kernel
theorem dX11_resume_2 : decode cX11_resume 2 = .ok (.iconst 0, 1) := by decide +kernel
theorem dX11_resume_3 : decode cX11_resume 3 = .ok (.invokevirtual 242, 3) := by decide +kernel
theorem dX11_resume_6 : decode cX11_resume 6 = .ok (.ireturn, 1) := by decide +kernel
def f_m_resume (e : Int) (m : xM) : Option (Int × xM) :=
     (Option.bind (f_m_setEscaped e 0 m) fun q0 =>
      some (q0.1, q0.2))
set_option maxRecDepth 1000000 in
set_option maxHeartbeats 4000000 in
theorem t_m_resume {Γ : xG} {d : Nat} (hd9 : 4 ≤ d) (C : xC Γ lay_M RX11 cX11_resume 2 d) (e : Int) {r : Int} {m9 : xM} (hR : xRi Γ lay_M cX11_resume r m9) (m : xM) (h : f_m_resume e m = some (r, m9)) : xW Γ lay_M 2 0 [(0, .inr (.inr (some 0))), (1, .inl e)] [] m := by
  unfold f_m_resume at h
  refine x_aload_n C dX11_resume_0 rfl ?_
  refine x_iload_n C dX11_resume_1 rfl ?_
  refine x_iconst C dX11_resume_2 ?_
  obtain ⟨q0, hq0, h⟩ := x_bind h
  refine x_callVI C dX11_resume_3 (xin_53 _ (List.mem_of_getElem? (i := 23) rfl)) xy_X11_setEscaped (xi_X11_setEscaped) (xs_X11_setEscaped) (by omega) (by decide) (b := 0) rfl ⟨_, _, rfl⟩ (av := [.inl e, .inl 0]) rfl (Nat.le_of_ble_eq_true rfl) (c_m_setEscaped _ _ _ _ q0.1 q0.2 hq0) rfl ?_
  exact x_ireturn hR dX11_resume_6 h
theorem c_m_resume (l : Launch) (e : Int) (m : xM) (r : Int) (m9 : xM) (h : f_m_resume e m = some (r, m9)) : xMet l yX11_resume cX11_resume 2 (some .int) 4 lay_M [.inr (.inr (some 0)), .inl e] m (some (.inl r)) m9 :=
  xMet_i (by decide +kernel) (Nat.le_of_ble_eq_true rfl) (fun Γ C hR hl9 => t_m_resume (Nat.le_refl _) C e hR m h)
/-! ===== yX11_send ===== -/
theorem fF_X11_32 : xF RX11 32 13 12 (.array .int) true := ⟨RX11, TX11, 26, tyX11, rfl, by decide, (xin_9 _ (List.mem_of_getElem? (i := 10) rfl)), rfl, inlX11, tyX11_ok, nmX11, rfl, rfl⟩
theorem dX11_send_0 : decode cX11_send 0 = .ok (.aload_n 0, 1) := by decide +kernel
theorem dX11_send_1 : decode cX11_send 1 = .ok (.iload_n 1, 1) := by decide +kernel
theorem dX11_send_2 : decode cX11_send 2 = .ok (.invokestatic 215, 3) := by decide +kernel
theorem dX11_send_5 : decode cX11_send 5 = .ok (.ifCond .ne 7, 3) := by decide +kernel
theorem dX11_send_8 : decode cX11_send 8 = .ok (.iconst 1, 1) := by decide +kernel
theorem dX11_send_9 : decode cX11_send 9 = .ok (.goto 20, 3) := by decide +kernel
theorem dX11_send_12 : decode cX11_send 12 = .ok (.iload_n 2, 1) := by decide +kernel
theorem dX11_send_13 : decode cX11_send 13 = .ok (.iconst 0, 1) := by decide +kernel
theorem dX11_send_14 : decode cX11_send 14 = .ok (.aload_n 0, 1) := by decide +kernel
theorem dX11_send_15 : decode cX11_send 15 = .ok (.getfield 209, 3) := by decide +kernel
theorem dX11_send_18 : decode cX11_send 18 = .ok (.invokestatic 81, 3) := by decide +kernel
theorem dX11_send_21 : decode cX11_send 21 = .ok (.ifCond .eq 7, 3) := by decide +kernel
theorem dX11_send_24 : decode cX11_send 24 = .ok (.iconst 0, 1) := by decide +kernel
theorem dX11_send_25 : decode cX11_send 25 = .ok (.goto 4, 3) := by decide +kernel
theorem dX11_send_28 : decode cX11_send 28 = .ok (.iconst 2, 1) := by decide +kernel
theorem dX11_send_29 : decode cX11_send 29 = .ok (.putfield 66, 3) := by decide +kernel
theorem dX11_send_32 : decode cX11_send 32 = .ok (.aload_n 0, 1) := by decide +kernel
theorem dX11_send_33 : decode cX11_send 33 = .ok (.getfield 66, 3) := by decide +kernel
theorem dX11_send_36 : decode cX11_send 36 = .ok (.ifCond .eq 5, 3) := by decide +kernel
theorem dX11_send_39 : decode cX11_send 39 = .ok (.iconst 0, 1) := by decide +kernel
theorem dX11_send_40 : decode cX11_send 40 = .ok (.ireturn, 1) := by decide +kernel
theorem dX11_send_41 : decode cX11_send 41 = .ok (.aload_n 0, 1) := by decide +kernel
theorem dX11_send_42 : decode cX11_send 42 = .ok (.iconst 0, 1) := by decide +kernel
theorem dX11_send_43 : decode cX11_send 43 = .ok (.putfield 209, 3) := by decide +kernel
theorem dX11_send_46 : decode cX11_send 46 = .ok (.aload_n 0, 1) := by decide +kernel
theorem dX11_send_47 : decode cX11_send 47 = .ok (.iconst 0, 1) := by decide +kernel
theorem dX11_send_48 : decode cX11_send 48 = .ok (.invokevirtual 77, 3) := by decide +kernel
theorem dX11_send_51 : decode cX11_send 51 = .ok (.ifCond .eq 6, 3) := by decide +kernel
theorem dX11_send_54 : decode cX11_send 54 = .ok (.bipush (-2), 2) := by decide +kernel
theorem dX11_send_56 : decode cX11_send 56 = .ok (.ireturn, 1) := by decide +kernel
theorem dX11_send_57 : decode cX11_send 57 = .ok (.aload_n 0, 1) := by decide +kernel
theorem dX11_send_58 : decode cX11_send 58 = .ok (.iload_n 1, 1) := by decide +kernel
theorem dX11_send_59 : decode cX11_send 59 = .ok (.iconst 0, 1) := by decide +kernel
theorem dX11_send_60 : decode cX11_send 60 = .ok (.invokevirtual 101, 3) := by decide +kernel
theorem dX11_send_63 : decode cX11_send 63 = .ok (.iload_n 2, 1) := by decide +kernel
theorem dX11_send_64 : decode cX11_send 64 = .ok (.iadd, 1) := by decide +kernel
theorem dX11_send_65 : decode cX11_send 65 = .ok (.sipush 200, 3) := by decide +kernel
theorem dX11_send_68 : decode cX11_send 68 = .ok (.if_icmp .le 6, 3) := by decide +kernel
theorem dX11_send_71 : decode cX11_send 71 = .ok (.bipush (-3), 2) := by decide +kernel
theorem dX11_send_73 : decode cX11_send 73 = .ok (.ireturn, 1) := by decide +kernel
theorem dX11_send_74 : decode cX11_send 74 = .ok (.aload_n 0, 1) := by decide +kernel
theorem dX11_send_75 : decode cX11_send 75 = .ok (.invokevirtual 236, 3) := by decide +kernel
theorem dX11_send_78 : decode cX11_send 78 = .ok (.iconst 0, 1) := by decide +kernel
theorem dX11_send_79 : decode cX11_send 79 = .ok (.istore_n 3, 1) := by decide +kernel
theorem dX11_send_80 : decode cX11_send 80 = .ok (.iload_n 3, 1) := by decide +kernel
theorem dX11_send_81 : decode cX11_send 81 = .ok (.iload_n 2, 1) := by decide +kernel
theorem dX11_send_82 : decode cX11_send 82 = .ok (.if_icmp .ge 51, 3) := by decide +kernel
theorem dX11_send_85 : decode cX11_send 85 = .ok (.aload_n 0, 1) := by decide +kernel
theorem dX11_send_86 : decode cX11_send 86 = .ok (.getfield 9, 3) := by decide +kernel
theorem dX11_send_89 : decode cX11_send 89 = .ok (.iload_n 1, 1) := by decide +kernel
theorem dX11_send_90 : decode cX11_send 90 = .ok (.bipush 117, 2) := by decide +kernel
theorem dX11_send_92 : decode cX11_send 92 = .ok (.aload_n 0, 1) := by decide +kernel
theorem dX11_send_93 : decode cX11_send 93 = .ok (.iload_n 1, 1) := by decide +kernel
theorem dX11_send_94 : decode cX11_send 94 = .ok (.iconst 0, 1) := by decide +kernel
theorem dX11_send_95 : decode cX11_send 95 = .ok (.invokevirtual 101, 3) := by decide +kernel
theorem dX11_send_98 : decode cX11_send 98 = .ok (.iadd, 1) := by decide +kernel
theorem dX11_send_99 : decode cX11_send 99 = .ok (.invokestatic 69, 3) := by decide +kernel
theorem dX11_send_102 : decode cX11_send 102 = .ok (.aload_n 0, 1) := by decide +kernel
theorem dX11_send_103 : decode cX11_send 103 = .ok (.getfield 32, 3) := by decide +kernel
theorem dX11_send_106 : decode cX11_send 106 = .ok (.iload_n 3, 1) := by decide +kernel
theorem dX11_send_107 : decode cX11_send 107 = .ok (.iaload, 1) := by decide +kernel
theorem dX11_send_108 : decode cX11_send 108 = .ok (.sipush 255, 3) := by decide +kernel
theorem dX11_send_111 : decode cX11_send 111 = .ok (.iand, 1) := by decide +kernel
theorem dX11_send_112 : decode cX11_send 112 = .ok (.iastore, 1) := by decide +kernel
theorem dX11_send_113 : decode cX11_send 113 = .ok (.aload_n 0, 1) := by decide +kernel
theorem dX11_send_114 : decode cX11_send 114 = .ok (.getfield 9, 3) := by decide +kernel
theorem dX11_send_117 : decode cX11_send 117 = .ok (.iload_n 1, 1) := by decide +kernel
theorem dX11_send_118 : decode cX11_send 118 = .ok (.iconst 0, 1) := by decide +kernel
theorem dX11_send_119 : decode cX11_send 119 = .ok (.invokestatic 69, 3) := by decide +kernel
theorem dX11_send_122 : decode cX11_send 122 = .ok (.dup2, 1) := by decide +kernel
theorem dX11_send_123 : decode cX11_send 123 = .ok (.iaload, 1) := by decide +kernel
theorem dX11_send_124 : decode cX11_send 124 = .ok (.iconst 1, 1) := by decide +kernel
theorem dX11_send_125 : decode cX11_send 125 = .ok (.iadd, 1) := by decide +kernel
theorem dX11_send_126 : decode cX11_send 126 = .ok (.iastore, 1) := by decide +kernel
theorem dX11_send_127 : decode cX11_send 127 = .ok (.iinc 3 1, 3) := by decide +kernel
theorem dX11_send_130 : decode cX11_send 130 = .ok (.goto (-50), 3) := by decide +kernel
theorem dX11_send_133 : decode cX11_send 133 = .ok (.aload_n 0, 1) := by decide +kernel
theorem dX11_send_134 : decode cX11_send 134 = .ok (.iload_n 1, 1) := by decide +kernel
theorem dX11_send_135 : decode cX11_send 135 = .ok (.iconst 0, 1) := by decide +kernel
theorem dX11_send_136 : decode cX11_send 136 = .ok (.invokevirtual 101, 3) := by decide +kernel
theorem dX11_send_139 : decode cX11_send 139 = .ok (.ireturn, 1) := by decide +kernel
def f_m_send_133 (e : Int) (z : Int) (m : xM) : Option (Int × xM) :=
     (Option.bind (f_m_of e 0 m) fun q5 =>
      some (q5, m))
set_option maxRecDepth 1000000 in
set_option maxHeartbeats 4000000 in
theorem t_m_send_133 {Γ : xG} {d : Nat} (hd9 : 3 ≤ d) (C : xC Γ lay_M RX11 cX11_send 4 d) (e : Int) (z : Int) {r : Int} {m9 : xM} (hR : xRi Γ lay_M cX11_send r m9) (m : xM) (h : f_m_send_133 e z m = some (r, m9)) : xW Γ lay_M 4 133 [(0, .inr (.inr (some 0))), (1, .inl e)] [] m := by
  unfold f_m_send_133 at h
  refine x_aload_n C dX11_send_133 rfl ?_
  refine x_iload_n C dX11_send_134 rfl ?_
  refine x_iconst C dX11_send_135 ?_
  obtain ⟨q5, hq5, h⟩ := x_bind h
  refine x_callVI C dX11_send_136 (xin_27 _ (List.mem_of_getElem? (i := 14) rfl)) xy_X11_of (xi_X11_of) (xs_X11_of) (by omega) (by decide) (b := 0) rfl ⟨_, _, rfl⟩ (av := [.inl e, .inl 0]) rfl (Nat.le_of_ble_eq_true rfl) (c_m_of _ _ _ _ _ hq5) rfl ?_
  exact x_ireturn hR dX11_send_139 h
def f_m_send_127 (e : Int) (z : Int) (k80 : Int → xM → Option (Int × xM)) (x3 : Int) (m : xM) : Option (Int × xM) :=
     k80 (x3 + 1) m
set_option maxRecDepth 1000000 in
set_option maxHeartbeats 4000000 in
theorem t_m_send_127 {Γ : xG} {d : Nat} (hd9 : 3 ≤ d) (C : xC Γ lay_M RX11 cX11_send 4 d) (e : Int) (z : Int) {r : Int} {m9 : xM} (hR : xRi Γ lay_M cX11_send r m9) {k80 : Int → xM → Option (Int × xM)} (hk80 : ∀ (x3 : Int) (m : xM), k80 x3 m = some (r, m9) → xW Γ lay_M 4 80 [(0, .inr (.inr (some 0))), (1, .inl e), (2, .inl z), (3, .inl x3)] [] m) (x3 : Int) (m : xM) (h : f_m_send_127 e z k80 x3 m = some (r, m9)) : xW Γ lay_M 4 127 [(0, .inr (.inr (some 0))), (1, .inl e), (2, .inl z), (3, .inl x3)] [] m := by
  unfold f_m_send_127 at h
  refine x_iinc C dX11_send_127 (by decide) rfl ?_
  refine x_goto C 80 dX11_send_130 (by decide) ?_
  refine x_loc [(0, .inr (.inr (some 0))), (1, .inl e), (2, .inl z), (3, .inl (x3 + 1))] ⟨rfl, rfl, rfl, rfl, trivial⟩ ?_
  exact hk80 _ _ h
def f_m_send_80 (e : Int) (z : Int) : Nat → Int → xM → Option (Int × xM)
  | 0, _, _ => none
  | n + 1, x3, m =>
     (if xw x3 < xw z then (Option.bind (f_m_of e 0 m) fun q6 =>
      (Option.bind (f_m_endAt e (117 + q6) (xvw [] m)) fun q7 =>
      (if xib x3 600 then (if xib q7 3530 then (Option.bind (f_m_endAt e 0 (xvw [] (xu m 1 (xix q7) (xiand (m 8 (xix x3)) 255)))) fun q8 =>
      (if xib q8 3530 then (if xib q8 3530 then f_m_send_127 e z (f_m_send_80 e z n) x3 (xu (xu m 1 (xix q7) (xiand (m 8 (xix x3)) 255)) 1 (xix q8) (((xu m 1 (xix q7) (xiand (m 8 (xix x3)) 255)) 1 (xix q8)) + 1))
      else none)
      else none))
      else none)
      else none)))
      else f_m_send_133 e z m)
set_option maxRecDepth 1000000 in
set_option maxHeartbeats 4000000 in
theorem t_m_send_80 {Γ : xG} {d : Nat} (hd9 : 3 ≤ d) (C : xC Γ lay_M RX11 cX11_send 4 d) (e : Int) (z : Int) {r : Int} {m9 : xM} (hR : xRi Γ lay_M cX11_send r m9) : ∀ (n : Nat) (x3 : Int) (m : xM), f_m_send_80 e z n x3 m = some (r, m9) → xW Γ lay_M 4 80 [(0, .inr (.inr (some 0))), (1, .inl e), (2, .inl z), (3, .inl x3)] [] m := by
  intro n
  induction n with
  | zero => intro _ _ h; cases h
  | succ n ih =>
    intro x3 m h
    rw [f_m_send_80] at h
    refine x_iload_n C dX11_send_80 rfl ?_
    refine x_iload_n C dX11_send_81 rfl ?_
    refine x_icmp_ge C 133 dX11_send_82 (by decide) h (fun h => ?_) (fun h => ?_)
    · refine x_loc [(0, .inr (.inr (some 0))), (1, .inl e)] ⟨rfl, rfl, trivial⟩ ?_
      exact t_m_send_133 hd9 C _ _ hR _ h
    · refine x_aload_n C dX11_send_85 rfl ?_
      refine x_getR C dX11_send_86 fF_X11_9 rfl rfl ?_
      refine x_iload_n C dX11_send_89 rfl ?_
      refine x_bipush C dX11_send_90 (by decide) ?_
      refine x_aload_n C dX11_send_92 rfl ?_
      refine x_iload_n C dX11_send_93 rfl ?_
      refine x_iconst C dX11_send_94 ?_
      obtain ⟨q6, hq6, h⟩ := x_bind h
      refine x_callVI C dX11_send_95 (xin_27 _ (List.mem_of_getElem? (i := 14) rfl)) xy_X11_of (xi_X11_of) (xs_X11_of) (by omega) (by decide) (b := 0) rfl ⟨_, _, rfl⟩ (av := [.inl e, .inl 0]) rfl (Nat.le_of_ble_eq_true rfl) (c_m_of _ _ _ _ _ hq6) rfl ?_
      refine x_iadd C dX11_send_98 ?_
      obtain ⟨q7, hq7, h⟩ := x_bind h
      refine x_callSp C dX11_send_99 (xin_27 _ (List.mem_of_getElem? (i := 18) rfl)) xy_X11_endAt (xt_X11_endAt) [] xv_49 (by omega) (by decide) (av := [.inl e, .inl (117 + q6)]) rfl (Nat.le_of_ble_eq_true rfl) (c_m_endAt _ _ _ _ _ hq7) rfl ?_
      refine x_aload_n C dX11_send_102 rfl ?_
      refine x_getR C dX11_send_103 fF_X11_32 rfl rfl ?_
      refine x_iload_n C dX11_send_106 rfl ?_
      refine x_iaload C dX11_send_107 rfl h (fun h => ?_)
      refine x_sipush C dX11_send_108 (by decide) ?_
      refine x_iand C dX11_send_111 ?_
      refine x_iastore C dX11_send_112 rfl h (fun h => ?_)
      refine x_aload_n C dX11_send_113 rfl ?_
      refine x_getR C dX11_send_114 fF_X11_9 rfl rfl ?_
      refine x_iload_n C dX11_send_117 rfl ?_
      refine x_iconst C dX11_send_118 ?_
      obtain ⟨q8, hq8, h⟩ := x_bind h
      refine x_callSp C dX11_send_119 (xin_27 _ (List.mem_of_getElem? (i := 18) rfl)) xy_X11_endAt (xt_X11_endAt) [] xv_49 (by omega) (by decide) (av := [.inl e, .inl 0]) rfl (Nat.le_of_ble_eq_true rfl) (c_m_endAt _ _ _ _ _ hq8) rfl ?_
      refine x_dup2 C dX11_send_122 rfl rfl ?_
      refine x_iaload C dX11_send_123 rfl h (fun h => ?_)
      refine x_iconst C dX11_send_124 ?_
      refine x_iadd C dX11_send_125 ?_
      refine x_iastore C dX11_send_126 rfl h (fun h => ?_)
      refine x_loc [(0, .inr (.inr (some 0))), (1, .inl e), (2, .inl z), (3, .inl x3)] ⟨rfl, rfl, rfl, rfl, trivial⟩ ?_
      exact t_m_send_127 hd9 C _ _ hR ih _ _ h
def f_m_send_29 (e : Int) (z : Int) (s0 : Int) (m : xM) : Option (Int × xM) :=
     (if xw s0 = 0 then (Option.bind (f_m_isPhase 0 (xu (xu m 0 6 s0) 0 13 0)) fun q2 =>
      (if xw q2 = 0 then (Option.bind (f_m_of e 0 (xu (xu m 0 6 s0) 0 13 0)) fun q3 =>
      (if xw 200 < xw (q3 + z) then some ((-3), (xu (xu m 0 6 s0) 0 13 0))
      else (Option.bind (f_m_record (xu (xu m 0 6 s0) 0 13 0)) fun q4 =>
      f_m_send_80 e z fu 0 q4)))
      else some ((-2), (xu (xu m 0 6 s0) 0 13 0))))
      else some (0, (xu m 0 6 s0)))
set_option maxRecDepth 1000000 in
set_option maxHeartbeats 4000000 in
theorem t_m_send_29 {Γ : xG} {d : Nat} (hd9 : 3 ≤ d) (C : xC Γ lay_M RX11 cX11_send 4 d) (e : Int) (z : Int) {r : Int} {m9 : xM} (hR : xRi Γ lay_M cX11_send r m9) (s0 : Int) (m : xM) (h : f_m_send_29 e z s0 m = some (r, m9)) : xW Γ lay_M 4 29 [(0, .inr (.inr (some 0))), (1, .inl e), (2, .inl z)] [.inl s0, .inr (.inr (some 0))] m := by
  unfold f_m_send_29 at h
  refine x_putI C dX11_send_29 fF_X11_66 rfl rfl ?_
  refine x_aload_n C dX11_send_32 rfl ?_
  refine x_getI C dX11_send_33 fF_X11_66 rfl rfl ?_
  refine x_if_eq C 41 dX11_send_36 (by decide) h (fun h => ?_) (fun h => ?_)
  · refine x_aload_n C dX11_send_41 rfl ?_
    refine x_iconst C dX11_send_42 ?_
    refine x_putI C dX11_send_43 fF_X11_209 rfl rfl ?_
    refine x_aload_n C dX11_send_46 rfl ?_
    refine x_iconst C dX11_send_47 ?_
    obtain ⟨q2, hq2, h⟩ := x_bind h
    refine x_callVI C dX11_send_48 (xin_25 _ (List.mem_of_getElem? (i := 12) rfl)) xy_X11_isPhase (xi_X11_isPhase) (xs_X11_isPhase) (by omega) (by decide) (b := 0) rfl ⟨_, _, rfl⟩ (av := [.inl 0]) rfl (Nat.le_of_ble_eq_true rfl) (c_m_isPhase _ _ _ _ hq2) rfl ?_
    refine x_if_eq C 57 dX11_send_51 (by decide) h (fun h => ?_) (fun h => ?_)
    · refine x_aload_n C dX11_send_57 rfl ?_
      refine x_iload_n C dX11_send_58 rfl ?_
      refine x_iconst C dX11_send_59 ?_
      obtain ⟨q3, hq3, h⟩ := x_bind h
      refine x_callVI C dX11_send_60 (xin_27 _ (List.mem_of_getElem? (i := 14) rfl)) xy_X11_of (xi_X11_of) (xs_X11_of) (by omega) (by decide) (b := 0) rfl ⟨_, _, rfl⟩ (av := [.inl e, .inl 0]) rfl (Nat.le_of_ble_eq_true rfl) (c_m_of _ _ _ _ _ hq3) rfl ?_
      refine x_iload_n C dX11_send_63 rfl ?_
      refine x_iadd C dX11_send_64 ?_
      refine x_sipush C dX11_send_65 (by decide) ?_
      refine x_icmp_le C 74 dX11_send_68 (by decide) h (fun h => ?_) (fun h => ?_)
      · refine x_aload_n C dX11_send_74 rfl ?_
        obtain ⟨q4, hq4, h⟩ := x_bind h
        refine x_callVI C dX11_send_75 (xin_51 _ (List.mem_of_getElem? (i := 13) rfl)) xy_X11_record (xi_X11_record) (xs_X11_record) (by omega) (by decide) (b := 0) rfl ⟨_, _, rfl⟩ (av := []) rfl (Nat.le_of_ble_eq_true rfl) (c_m_record _ _ _ hq4) rfl ?_
        refine x_iconst C dX11_send_78 ?_
        refine x_istore_n C dX11_send_79 (by decide) ?_
        refine x_loc [(0, .inr (.inr (some 0))), (1, .inl e), (2, .inl z), (3, .inl 0)] ⟨rfl, rfl, rfl, rfl, trivial⟩ ?_
        exact t_m_send_80 hd9 C _ _ hR fu _ _ h
      · refine x_bipush C dX11_send_71 (by decide) ?_
        exact x_ireturn hR dX11_send_73 h
    · refine x_bipush C dX11_send_54 (by decide) ?_
      exact x_ireturn hR dX11_send_56 h
  · refine x_iconst C dX11_send_39 ?_
    exact x_ireturn hR dX11_send_40 h
def f_m_send (e : Int) (z : Int) (m : xM) : Option (Int × xM) :=
     (Option.bind (f_m_isEnd e (xvw [] m)) fun q0 =>
      (if xw q0 = 0 then f_m_send_29 e z 1 m
      else (Option.bind (f_m_inRange z 0 (m 0 13) (xvw [] m)) fun q1 =>
      (if xw q1 = 0 then f_m_send_29 e z 2 m
      else f_m_send_29 e z 0 m))))
set_option maxRecDepth 1000000 in
set_option maxHeartbeats 4000000 in
theorem t_m_send {Γ : xG} {d : Nat} (hd9 : 3 ≤ d) (C : xC Γ lay_M RX11 cX11_send 4 d) (e : Int) (z : Int) {r : Int} {m9 : xM} (hR : xRi Γ lay_M cX11_send r m9) (m : xM) (h : f_m_send e z m = some (r, m9)) : xW Γ lay_M 4 0 [(0, .inr (.inr (some 0))), (1, .inl e), (2, .inl z)] [] m := by
  unfold f_m_send at h
  refine x_aload_n C dX11_send_0 rfl ?_
  refine x_iload_n C dX11_send_1 rfl ?_
  obtain ⟨q0, hq0, h⟩ := x_bind h
  refine x_callSp C dX11_send_2 (xin_27 _ (List.mem_of_getElem? (i := 11) rfl)) xy_X11_isEnd (xt_X11_isEnd) [] xv_49 (by omega) (by decide) (av := [.inl e]) rfl (Nat.le_of_ble_eq_true rfl) (c_m_isEnd _ _ _ _ hq0) rfl ?_
  refine x_if_ne C 12 dX11_send_5 (by decide) h (fun h => ?_) (fun h => ?_)
  · refine x_iload_n C dX11_send_12 rfl ?_
    refine x_iconst C dX11_send_13 ?_
    refine x_aload_n C dX11_send_14 rfl ?_
    refine x_getI C dX11_send_15 fF_X11_209 rfl rfl ?_
    obtain ⟨q1, hq1, h⟩ := x_bind h
    refine x_callSp C dX11_send_18 (xin_18 _ (List.mem_of_getElem? (i := 19) rfl)) xy_X11_inRange (xt_X11_inRange) [] xv_49 (by omega) (by decide) (av := [.inl z, .inl 0, .inl (m 0 13)]) rfl (Nat.le_of_ble_eq_true rfl) (c_m_inRange _ _ _ _ _ _ hq1) rfl ?_
    refine x_if_eq C 28 dX11_send_21 (by decide) h (fun h => ?_) (fun h => ?_)
    · refine x_iconst C dX11_send_28 ?_
      refine x_loc [(0, .inr (.inr (some 0))), (1, .inl e), (2, .inl z)] ⟨rfl, rfl, rfl, trivial⟩ ?_
      exact t_m_send_29 hd9 C _ _ hR _ _ h
    · refine x_iconst C dX11_send_24 ?_
      refine x_goto C 29 dX11_send_25 (by decide) ?_
      refine x_loc [(0, .inr (.inr (some 0))), (1, .inl e), (2, .inl z)] ⟨rfl, rfl, rfl, trivial⟩ ?_
      exact t_m_send_29 hd9 C _ _ hR _ _ h
  · refine x_iconst C dX11_send_8 ?_
    refine x_goto C 29 dX11_send_9 (by decide) ?_
    refine x_loc [(0, .inr (.inr (some 0))), (1, .inl e), (2, .inl z)] ⟨rfl, rfl, rfl, trivial⟩ ?_
    exact t_m_send_29 hd9 C _ _ hR _ _ h
theorem c_m_send (l : Launch) (e : Int) (z : Int) (m : xM) (r : Int) (m9 : xM) (h : f_m_send e z m = some (r, m9)) : xMet l yX11_send cX11_send 4 (some .int) 3 lay_M [.inr (.inr (some 0)), .inl e, .inl z] m (some (.inl r)) m9 :=
  xMet_i (by decide +kernel) (Nat.le_of_ble_eq_true rfl) (fun Γ C hR hl9 => t_m_send (Nat.le_refl _) C e z hR m h)
/-! ===== yX11_setQuality ===== -/
theorem dX11_setQuality_0 : decode cX11_setQuality 0 = .ok (.aload_n 0, 1) := by decide +kernel
theorem dX11_setQuality_1 : decode cX11_setQuality 1 = .ok (.iconst 0, 1) := by decide +kernel
theorem dX11_setQuality_2 : decode cX11_setQuality 2 = .ok (.putfield 66, 3) := by decide +kernel
theorem dX11_setQuality_5 : decode cX11_setQuality 5 = .ok (.iload_n 1, 1) := by decide +kernel
theorem dX11_setQuality_6 : decode cX11_setQuality 6 = .ok (.iconst 0, 1) := by decide +kernel
theorem dX11_setQuality_7 : decode cX11_setQuality 7 = .ok (.bipush 9, 2) := by decide +kernel
theorem dX11_setQuality_9 : decode cX11_setQuality 9 = .ok (.invokestatic 81, 3) := by decide +kernel
theorem dX11_setQuality_12 : decode cX11_setQuality 12 = .ok (.ifCond .ne 9, 3) := by decide +kernel
theorem dX11_setQuality_15 : decode cX11_setQuality 15 = .ok (.aload_n 0, 1) := by decide +kernel
theorem dX11_setQuality_16 : decode cX11_setQuality 16 = .ok (.iconst 1, 1) := by decide +kernel
theorem dX11_setQuality_17 : decode cX11_setQuality 17 = .ok (.invokevirtual 212, 3) := by decide +kernel
theorem dX11_setQuality_20 : decode cX11_setQuality 20 = .ok (.ireturn, 1) := by decide +kernel
theorem dX11_setQuality_21 : decode cX11_setQuality 21 = .ok (.aload_n 0, 1) := by decide +kernel
theorem dX11_setQuality_22 : decode cX11_setQuality 22 = .ok (.invokevirtual 236, 3) := by decide +kernel
theorem dX11_setQuality_25 : decode cX11_setQuality 25 = .ok (.aload_n 0, 1) := by decide +kernel
theorem dX11_setQuality_26 : decode cX11_setQuality 26 = .ok (.getfield 9, 3) := by decide +kernel
theorem dX11_setQuality_29 : decode cX11_setQuality 29 = .ok (.iconst 2, 1) := by decide +kernel
theorem dX11_setQuality_30 : decode cX11_setQuality 30 = .ok (.iaload, 1) := by decide +kernel
theorem dX11_setQuality_31 : decode cX11_setQuality 31 = .ok (.istore_n 2, 1) := by decide +kernel
theorem dX11_setQuality_32 : decode cX11_setQuality 32 = .ok (.aload_n 0, 1) := by decide +kernel
theorem dX11_setQuality_33 : decode cX11_setQuality 33 = .ok (.getfield 9, 3) := by decide +kernel
theorem dX11_setQuality_36 : decode cX11_setQuality 36 = .ok (.iconst 2, 1) := by decide +kernel
theorem dX11_setQuality_37 : decode cX11_setQuality 37 = .ok (.iload_n 1, 1) := by decide +kernel
theorem dX11_setQuality_38 : decode cX11_setQuality 38 = .ok (.iastore, 1) := by decide +kernel
theorem dX11_setQuality_39 : decode cX11_setQuality 39 = .ok (.iload_n 2, 1) := by decide +kernel
theorem dX11_setQuality_40 : decode cX11_setQuality 40 = .ok (.ireturn, 1) := by decide +kernel
def f_m_setQuality (q : Int) (m : xM) : Option (Int × xM) :=
     (Option.bind (f_m_inRange q 0 9 (xvw [] (xu m 0 6 0))) fun q0 =>
      (if xw q0 = 0 then (Option.bind (f_m_raise 1 (xu m 0 6 0)) fun q2 =>
      some (q2.1, q2.2))
      else (Option.bind (f_m_record (xu m 0 6 0)) fun q1 =>
      (if xib 2 3530 then (if xib 2 3530 then some ((q1 1 2), (xu q1 1 2 q))
      else none)
      else none))))
set_option maxRecDepth 1000000 in
set_option maxHeartbeats 4000000 in
theorem t_m_setQuality {Γ : xG} {d : Nat} (hd9 : 3 ≤ d) (C : xC Γ lay_M RX11 cX11_setQuality 3 d) (q : Int) {r : Int} {m9 : xM} (hR : xRi Γ lay_M cX11_setQuality r m9) (m : xM) (h : f_m_setQuality q m = some (r, m9)) : xW Γ lay_M 3 0 [(0, .inr (.inr (some 0))), (1, .inl q)] [] m := by
  unfold f_m_setQuality at h
  refine x_aload_n C dX11_setQuality_0 rfl ?_
  refine x_iconst C dX11_setQuality_1 ?_
  refine x_putI C dX11_setQuality_2 fF_X11_66 rfl rfl ?_
  refine x_iload_n C dX11_setQuality_5 rfl ?_
  refine x_iconst C dX11_setQuality_6 ?_
  refine x_bipush C dX11_setQuality_7 (by decide) ?_
  obtain ⟨q0, hq0, h⟩ := x_bind h
  refine x_callSp C dX11_setQuality_9 (xin_18 _ (List.mem_of_getElem? (i := 19) rfl)) xy_X11_inRange (xt_X11_inRange) [] xv_49 (by omega) (by decide) (av := [.inl q, .inl 0, .inl 9]) rfl (Nat.le_of_ble_eq_true rfl) (c_m_inRange _ _ _ _ _ _ hq0) rfl ?_
  refine x_if_ne C 21 dX11_setQuality_12 (by decide) h (fun h => ?_) (fun h => ?_)
  · refine x_aload_n C dX11_setQuality_21 rfl ?_
    obtain ⟨q1, hq1, h⟩ := x_bind h
    refine x_callVI C dX11_setQuality_22 (xin_51 _ (List.mem_of_getElem? (i := 13) rfl)) xy_X11_record (xi_X11_record) (xs_X11_record) (by omega) (by decide) (b := 0) rfl ⟨_, _, rfl⟩ (av := []) rfl (Nat.le_of_ble_eq_true rfl) (c_m_record _ _ _ hq1) rfl ?_
    refine x_aload_n C dX11_setQuality_25 rfl ?_
    refine x_getR C dX11_setQuality_26 fF_X11_9 rfl rfl ?_
    refine x_iconst C dX11_setQuality_29 ?_
    refine x_iaload C dX11_setQuality_30 rfl h (fun h => ?_)
    refine x_istore_n C dX11_setQuality_31 (by decide) ?_
    refine x_aload_n C dX11_setQuality_32 rfl ?_
    refine x_getR C dX11_setQuality_33 fF_X11_9 rfl rfl ?_
    refine x_iconst C dX11_setQuality_36 ?_
    refine x_iload_n C dX11_setQuality_37 rfl ?_
    refine x_iastore C dX11_setQuality_38 rfl h (fun h => ?_)
    refine x_iload_n C dX11_setQuality_39 rfl ?_
    exact x_ireturn hR dX11_setQuality_40 h
  · refine x_aload_n C dX11_setQuality_15 rfl ?_
    refine x_iconst C dX11_setQuality_16 ?_
    obtain ⟨q2, hq2, h⟩ := x_bind h
    refine x_callVI C dX11_setQuality_17 (xin_18 _ (List.mem_of_getElem? (i := 22) rfl)) xy_X11_raise (xi_X11_raise) (xs_X11_raise) (by omega) (by decide) (b := 0) rfl ⟨_, _, rfl⟩ (av := [.inl 1]) rfl (Nat.le_of_ble_eq_true rfl) (c_m_raise _ _ _ q2.1 q2.2 hq2) rfl ?_
    exact x_ireturn hR dX11_setQuality_20 h
theorem c_m_setQuality (l : Launch) (q : Int) (m : xM) (r : Int) (m9 : xM) (h : f_m_setQuality q m = some (r, m9)) : xMet l yX11_setQuality cX11_setQuality 3 (some .int) 3 lay_M [.inr (.inr (some 0)), .inl q] m (some (.inl r)) m9 :=
  xMet_i (by decide +kernel) (Nat.le_of_ble_eq_true rfl) (fun Γ C hR hl9 => t_m_setQuality (Nat.le_refl _) C q hR m h)
/-! ===== yX11_put ===== -/
theorem fF_X11_29 : xF RX11 29 13 10 (.array .int) true := ⟨RX11, TX11, 26, tyX11, rfl, by decide, (xin_9 _ (List.mem_of_getElem? (i := 9) rfl)), rfl, inlX11, tyX11_ok, nmX11, rfl, rfl⟩
theorem fF_X11_245 : xF RX11 245 13 11 .int false := ⟨RX11, TX11, 26, tyX11, rfl, by decide, (xin_63 _ (List.mem_of_getElem? (i := 13) rfl)), rfl, inlX11, tyX11_ok, nmX11, rfl, rfl⟩
theorem dX11_put_0 : decode cX11_put 0 = .ok (.aload_n 0, 1) := by decide +kernel
theorem dX11_put_1 : decode cX11_put 1 = .ok (.getfield 29, 3) := by decide +kernel
theorem dX11_put_4 : decode cX11_put 4 = .ok (.aload_n 0, 1) := by decide +kernel
theorem dX11_put_5 : decode cX11_put 5 = .ok (.getfield 245, 3) := by decide +kernel
theorem dX11_put_8 : decode cX11_put 8 = .ok (.iload_n 1, 1) := by decide +kernel
theorem dX11_put_9 : decode cX11_put 9 = .ok (.iastore, 1) := by decide +kernel
theorem dX11_put_10 : decode cX11_put 10 = .ok (.aload_n 0, 1) := by decide +kernel
theorem dX11_put_11 : decode cX11_put 11 = .ok (.dup, 1) := by decide +kernel
theorem dX11_put_12 : decode cX11_put 12 = .ok (.getfield 245, 3) := by decide +kernel
theorem dX11_put_15 : decode cX11_put 15 = .ok (.iconst 1, 1) := by decide +kernel
theorem dX11_put_16 : decode cX11_put 16 = .ok (.iadd, 1) := by decide +kernel
theorem dX11_put_17 : decode cX11_put 17 = .ok (.putfield 245, 3) := by decide +kernel
theorem dX11_put_20 : decode cX11_put 20 = .ok (.return_, 1) := by decide +kernel
def f_m_put (z : Int) (m : xM) : Option (xM) :=
     (if xib (m 0 11) 60 then some (xu (xu m 7 (xix (m 0 11)) z) 0 11 ((m 0 11) + 1))
      else none)
set_option maxRecDepth 1000000 in
set_option maxHeartbeats 4000000 in
theorem t_m_put {Γ : xG} {d : Nat} (hd9 : 1 ≤ d) (C : xC Γ lay_M RX11 cX11_put 2 d) (z : Int) {m9 : xM} (hR : xRv Γ lay_M cX11_put m9) (m : xM) (h : f_m_put z m = some m9) : xW Γ lay_M 2 0 [(0, .inr (.inr (some 0))), (1, .inl z)] [] m := by
  unfold f_m_put at h
  refine x_aload_n C dX11_put_0 rfl ?_
  refine x_getR C dX11_put_1 fF_X11_29 rfl rfl ?_
  refine x_aload_n C dX11_put_4 rfl ?_
  refine x_getI C dX11_put_5 fF_X11_245 rfl rfl ?_
  refine x_iload_n C dX11_put_8 rfl ?_
  refine x_iastore C dX11_put_9 rfl h (fun h => ?_)
  refine x_aload_n C dX11_put_10 rfl ?_
  refine x_dup C dX11_put_11 rfl ?_
  refine x_getI C dX11_put_12 fF_X11_245 rfl rfl ?_
  refine x_iconst C dX11_put_15 ?_
  refine x_iadd C dX11_put_16 ?_
  refine x_putI C dX11_put_17 fF_X11_245 rfl rfl ?_
  exact x_returnV hR dX11_put_20 h
theorem c_m_put (l : Launch) (z : Int) (m m9 : xM) (h : f_m_put z m = some m9) : xMet l yX11_put cX11_put 2 none 1 lay_M [.inr (.inr (some 0)), .inl z] m none m9 :=
  xMet_v (by decide +kernel) (Nat.le_of_ble_eq_true rfl) (fun Γ C hR hl9 => t_m_put (Nat.le_refl _) C z hR m h)
/-! ===== yX11_putWord ===== -/
theorem xy_X11_put : xY yX11_put cX11_put 2 none 1 := ⟨(xin_63 _ (List.mem_of_getElem? (i := 21) rfl)), (xin_1 _ (List.mem_of_getElem? (i := 5) rfl)), by decide, by decide, by decide +kernel⟩
theorem xi_X11_put : Cond.instanceMethod yX11_put ∈ wsL_law := (xin_63 _ (List.mem_of_getElem? (i := 19) rfl))
theorem xs_X11_put : Cond.selects yX11_put.cls yX11_put yX11_put ∈ wsL_law := (xin_63 _ (List.mem_of_getElem? (i := 20) rfl))
theorem dX11_putWord_0 : decode cX11_putWord 0 = .ok (.iconst 0, 1) := by decide +kernel
theorem dX11_putWord_1 : decode cX11_putWord 1 = .ok (.istore_n 2, 1) := by decide +kernel
theorem dX11_putWord_2 : decode cX11_putWord 2 = .ok (.iload_n 2, 1) := by decide +kernel
theorem dX11_putWord_3 : decode cX11_putWord 3 = .ok (.aload_n 1, 1) := by decide +kernel
theorem dX11_putWord_4 : decode cX11_putWord 4 = .ok (.invokevirtual 248, 3) := by decide +kernel
theorem dX11_putWord_7 : decode cX11_putWord 7 = .ok (.if_icmp .ge 18, 3) := by decide +kernel
theorem dX11_putWord_10 : decode cX11_putWord 10 = .ok (.aload_n 0, 1) := by decide +kernel
theorem dX11_putWord_11 : decode cX11_putWord 11 = .ok (.aload_n 1, 1) := by decide +kernel
theorem dX11_putWord_12 : decode cX11_putWord 12 = .ok (.iload_n 2, 1) := by decide +kernel
theorem dX11_putWord_13 : decode cX11_putWord 13 = .ok (.invokevirtual 251, 3) := by decide +kernel
theorem dX11_putWord_16 : decode cX11_putWord 16 = .ok (.invokevirtual 255, 3) := by decide +kernel
theorem dX11_putWord_19 : decode cX11_putWord 19 = .ok (.iinc 2 1, 3) := by decide +kernel
theorem dX11_putWord_22 : decode cX11_putWord 22 = .ok (.goto (-20), 3) := by decide +kernel
theorem dX11_putWord_25 : decode cX11_putWord 25 = .ok (.return_, 1) := by decide +kernel
def f_m_putWord_2 (w : Nat) : Nat → Int → xM → Option (xM)
  | 0, _, _ => none
  | n + 1, x2, m =>
     (if xw x2 < xw (xsl w) then (if xib x2 (xSby.getD w []).length then (Option.bind (f_m_put (xsc w (xix x2)) m) fun q0 =>
      f_m_putWord_2 w n (x2 + 1) q0)
      else none)
      else some m)
set_option maxRecDepth 1000000 in
set_option maxHeartbeats 4000000 in
theorem t_m_putWord_2 {Γ : xG} {d : Nat} (hd9 : 4 ≤ d) (C : xC Γ lay_M RX11 cX11_putWord 3 d) (w : Nat) (hi_w : w < 26) {m9 : xM} (hR : xRv Γ lay_M cX11_putWord m9) : ∀ (n : Nat) (x2 : Int) (m : xM), f_m_putWord_2 w n x2 m = some m9 → xW Γ lay_M 3 2 [(0, .inr (.inr (some 0))), (1, .inr (.inr (some (1000 + w)))), (2, .inl x2)] [] m := by
  intro n
  induction n with
  | zero => intro _ _ h; cases h
  | succ n ih =>
    intro x2 m h
    rw [f_m_putWord_2] at h
    refine x_iload_n C dX11_putWord_2 rfl ?_
    refine x_aload_n C dX11_putWord_3 rfl ?_
    refine x_slen C w hi_w dX11_putWord_4 (xin_20 _ (List.mem_of_getElem? (i := 15) rfl)) (by omega) (Nat.le_of_ble_eq_true rfl) ?_
    refine x_icmp_ge C 25 dX11_putWord_7 (by decide) h (fun h => ?_) (fun h => ?_)
    · exact x_returnV hR dX11_putWord_25 h
    · refine x_aload_n C dX11_putWord_10 rfl ?_
      refine x_aload_n C dX11_putWord_11 rfl ?_
      refine x_iload_n C dX11_putWord_12 rfl ?_
      refine x_schar C w hi_w dX11_putWord_13 (xin_20 _ (List.mem_of_getElem? (i := 16) rfl)) (by omega) (Nat.le_of_ble_eq_true rfl) h (fun h => ?_)
      obtain ⟨q0, hq0, h⟩ := x_bind h
      refine x_callVI C dX11_putWord_16 (xin_63 _ (List.mem_of_getElem? (i := 18) rfl)) xy_X11_put (xi_X11_put) (xs_X11_put) (by omega) (by decide) (b := 0) rfl ⟨_, _, rfl⟩ (av := [.inl (xsc w (xix x2))]) rfl (Nat.le_of_ble_eq_true rfl) (c_m_put _ _ _ _ hq0) rfl ?_
      refine x_iinc C dX11_putWord_19 (by decide) rfl ?_
      refine x_goto C 2 dX11_putWord_22 (by decide) ?_
      refine x_loc [(0, .inr (.inr (some 0))), (1, .inr (.inr (some (1000 + w)))), (2, .inl (x2 + 1))] ⟨rfl, rfl, rfl, trivial⟩ ?_
      exact ih _ _ h
def f_m_putWord (w : Nat) (m : xM) : Option (xM) :=
     f_m_putWord_2 w fu 0 m
set_option maxRecDepth 1000000 in
set_option maxHeartbeats 4000000 in
theorem t_m_putWord {Γ : xG} {d : Nat} (hd9 : 4 ≤ d) (C : xC Γ lay_M RX11 cX11_putWord 3 d) (w : Nat) (hi_w : w < 26) {m9 : xM} (hR : xRv Γ lay_M cX11_putWord m9) (m : xM) (h : f_m_putWord w m = some m9) : xW Γ lay_M 3 0 [(0, .inr (.inr (some 0))), (1, .inr (.inr (some (1000 + w))))] [] m := by
  unfold f_m_putWord at h
  refine x_iconst C dX11_putWord_0 ?_
  refine x_istore_n C dX11_putWord_1 (by decide) ?_
  refine x_loc [(0, .inr (.inr (some 0))), (1, .inr (.inr (some (1000 + w)))), (2, .inl 0)] ⟨rfl, rfl, rfl, trivial⟩ ?_
  exact t_m_putWord_2 hd9 C _ hi_w hR fu _ _ h
theorem c_m_putWord (l : Launch) (w : Nat) (hi_w : w < 26) (m m9 : xM) (h : f_m_putWord w m = some m9) : xMet l yX11_putWord cX11_putWord 3 none 4 lay_M [.inr (.inr (some 0)), .inr (.inr (some (1000 + w)))] m none m9 :=
  xMet_v (by decide +kernel) (Nat.le_of_ble_eq_true rfl) (fun Γ C hR hl9 => t_m_putWord (Nat.le_refl _) C w hi_w hR m h)
/-! ===== yX11_putNumber ===== -/
theorem dX11_putNumber_0 : decode cX11_putNumber 0 = .ok (.iconst 1, 1) := by decide +kernel
theorem dX11_putNumber_1 : decode cX11_putNumber 1 = .ok (.istore_n 2, 1) := by decide +kernel
theorem dX11_putNumber_2 : decode cX11_putNumber 2 = .ok (.iload_n 1, 1) := by decide +kernel
theorem dX11_putNumber_3 : decode cX11_putNumber 3 = .ok (.iload_n 2, 1) := by decide +kernel
theorem dX11_putNumber_4 : decode cX11_putNumber 4 = .ok (.idiv, 1) := by decide +kernel
theorem dX11_putNumber_5 : decode cX11_putNumber 5 = .ok (.bipush 9, 2) := by decide +kernel
theorem dX11_putNumber_7 : decode cX11_putNumber 7 = .ok (.if_icmp .le 11, 3) := by decide +kernel
theorem dX11_putNumber_10 : decode cX11_putNumber 10 = .ok (.iload_n 2, 1) := by decide +kernel
theorem dX11_putNumber_11 : decode cX11_putNumber 11 = .ok (.bipush 10, 2) := by decide +kernel
theorem dX11_putNumber_13 : decode cX11_putNumber 13 = .ok (.imul, 1) := by decide +kernel
theorem dX11_putNumber_14 : decode cX11_putNumber 14 = .ok (.istore_n 2, 1) := by decide +kernel
theorem dX11_putNumber_15 : decode cX11_putNumber 15 = .ok (.goto (-13), 3) := by decide +kernel
theorem dX11_putNumber_18 : decode cX11_putNumber 18 = .ok (.iload_n 2, 1) := by decide +kernel
theorem dX11_putNumber_19 : decode cX11_putNumber 19 = .ok (.ifCond .le 24, 3) := by decide +kernel
theorem dX11_putNumber_22 : decode cX11_putNumber 22 = .ok (.aload_n 0, 1) := by decide +kernel
theorem dX11_putNumber_23 : decode cX11_putNumber 23 = .ok (.bipush 48, 2) := by decide +kernel
theorem dX11_putNumber_25 : decode cX11_putNumber 25 = .ok (.iload_n 1, 1) := by decide +kernel
theorem dX11_putNumber_26 : decode cX11_putNumber 26 = .ok (.iload_n 2, 1) := by decide +kernel
theorem dX11_putNumber_27 : decode cX11_putNumber 27 = .ok (.idiv, 1) := by decide +kernel
theorem dX11_putNumber_28 : decode cX11_putNumber 28 = .ok (.bipush 10, 2) := by decide +kernel
theorem dX11_putNumber_30 : decode cX11_putNumber 30 = .ok (.irem, 1) := by decide +kernel
theorem dX11_putNumber_31 : decode cX11_putNumber 31 = .ok (.iadd, 1) := by decide +kernel
theorem dX11_putNumber_32 : decode cX11_putNumber 32 = .ok (.invokevirtual 255, 3) := by decide +kernel
theorem dX11_putNumber_35 : decode cX11_putNumber 35 = .ok (.iload_n 2, 1) := by decide +kernel
theorem dX11_putNumber_36 : decode cX11_putNumber 36 = .ok (.bipush 10, 2) := by decide +kernel
theorem dX11_putNumber_38 : decode cX11_putNumber 38 = .ok (.idiv, 1) := by decide +kernel
theorem dX11_putNumber_39 : decode cX11_putNumber 39 = .ok (.istore_n 2, 1) := by decide +kernel
theorem dX11_putNumber_40 : decode cX11_putNumber 40 = .ok (.goto (-22), 3) := by decide +kernel
theorem dX11_putNumber_43 : decode cX11_putNumber 43 = .ok (.return_, 1) := by decide +kernel
def f_m_putNumber_18 (z : Int) : Nat → Int → xM → Option (xM)
  | 0, _, _ => none
  | n + 1, x2, m =>
     (if 0 < xw x2 then (if xw x2 = 0 then none
      else (if xw 10 = 0 then none
      else (Option.bind (f_m_put (48 + (xirem (xidiv z x2) 10)) m) fun q0 =>
      (if xw 10 = 0 then none
      else f_m_putNumber_18 z n (xidiv x2 10) q0))))
      else some m)
set_option maxRecDepth 1000000 in
set_option maxHeartbeats 4000000 in
theorem t_m_putNumber_18 {Γ : xG} {d : Nat} (hd9 : 2 ≤ d) (C : xC Γ lay_M RX11 cX11_putNumber 3 d) (z : Int) {m9 : xM} (hR : xRv Γ lay_M cX11_putNumber m9) : ∀ (n : Nat) (x2 : Int) (m : xM), f_m_putNumber_18 z n x2 m = some m9 → xW Γ lay_M 3 18 [(0, .inr (.inr (some 0))), (1, .inl z), (2, .inl x2)] [] m := by
  intro n
  induction n with
  | zero => intro _ _ h; cases h
  | succ n ih =>
    intro x2 m h
    rw [f_m_putNumber_18] at h
    refine x_iload_n C dX11_putNumber_18 rfl ?_
    refine x_if_le C 43 dX11_putNumber_19 (by decide) h (fun h => ?_) (fun h => ?_)
    · exact x_returnV hR dX11_putNumber_43 h
    · refine x_aload_n C dX11_putNumber_22 rfl ?_
      refine x_bipush C dX11_putNumber_23 (by decide) ?_
      refine x_iload_n C dX11_putNumber_25 rfl ?_
      refine x_iload_n C dX11_putNumber_26 rfl ?_
      refine x_idiv C dX11_putNumber_27 h (fun h9 h => ?_)
      refine x_bipush C dX11_putNumber_28 (by decide) ?_
      refine x_irem C dX11_putNumber_30 h (fun h9 h => ?_)
      refine x_iadd C dX11_putNumber_31 ?_
      obtain ⟨q0, hq0, h⟩ := x_bind h
      refine x_callVI C dX11_putNumber_32 (xin_63 _ (List.mem_of_getElem? (i := 18) rfl)) xy_X11_put (xi_X11_put) (xs_X11_put) (by omega) (by decide) (b := 0) rfl ⟨_, _, rfl⟩ (av := [.inl (48 + (xirem (xidiv z x2) 10))]) rfl (Nat.le_of_ble_eq_true rfl) (c_m_put _ _ _ _ hq0) rfl ?_
      refine x_iload_n C dX11_putNumber_35 rfl ?_
      refine x_bipush C dX11_putNumber_36 (by decide) ?_
      refine x_idiv C dX11_putNumber_38 h (fun h9 h => ?_)
      refine x_istore_n C dX11_putNumber_39 (by decide) ?_
      refine x_goto C 18 dX11_putNumber_40 (by decide) ?_
      refine x_loc [(0, .inr (.inr (some 0))), (1, .inl z), (2, .inl (xidiv x2 10))] ⟨rfl, rfl, rfl, trivial⟩ ?_
      exact ih _ _ h
def f_m_putNumber_2 (z : Int) : Nat → Int → xM → Option (xM)
  | 0, _, _ => none
  | n + 1, x2, m =>
     (if xw x2 = 0 then none
      else (if xw 9 < xw (xidiv z x2) then f_m_putNumber_2 z n (x2 * 10) m
      else f_m_putNumber_18 z fu x2 m))
set_option maxRecDepth 1000000 in
set_option maxHeartbeats 4000000 in
theorem t_m_putNumber_2 {Γ : xG} {d : Nat} (hd9 : 2 ≤ d) (C : xC Γ lay_M RX11 cX11_putNumber 3 d) (z : Int) {m9 : xM} (hR : xRv Γ lay_M cX11_putNumber m9) : ∀ (n : Nat) (x2 : Int) (m : xM), f_m_putNumber_2 z n x2 m = some m9 → xW Γ lay_M 3 2 [(0, .inr (.inr (some 0))), (1, .inl z), (2, .inl x2)] [] m := by
  intro n
  induction n with
  | zero => intro _ _ h; cases h
  | succ n ih =>
    intro x2 m h
    rw [f_m_putNumber_2] at h
    refine x_iload_n C dX11_putNumber_2 rfl ?_
    refine x_iload_n C dX11_putNumber_3 rfl ?_
    refine x_idiv C dX11_putNumber_4 h (fun h9 h => ?_)
    refine x_bipush C dX11_putNumber_5 (by decide) ?_
    refine x_icmp_le C 18 dX11_putNumber_7 (by decide) h (fun h => ?_) (fun h => ?_)
    · refine x_loc [(0, .inr (.inr (some 0))), (1, .inl z), (2, .inl x2)] ⟨rfl, rfl, rfl, trivial⟩ ?_
      exact t_m_putNumber_18 hd9 C _ hR fu _ _ h
    · refine x_iload_n C dX11_putNumber_10 rfl ?_
      refine x_bipush C dX11_putNumber_11 (by decide) ?_
      refine x_imul C dX11_putNumber_13 ?_
      refine x_istore_n C dX11_putNumber_14 (by decide) ?_
      refine x_goto C 2 dX11_putNumber_15 (by decide) ?_
      refine x_loc [(0, .inr (.inr (some 0))), (1, .inl z), (2, .inl (x2 * 10))] ⟨rfl, rfl, rfl, trivial⟩ ?_
      exact ih _ _ h
def f_m_putNumber (z : Int) (m : xM) : Option (xM) :=
     f_m_putNumber_2 z fu 1 m
set_option maxRecDepth 1000000 in
set_option maxHeartbeats 4000000 in
theorem t_m_putNumber {Γ : xG} {d : Nat} (hd9 : 2 ≤ d) (C : xC Γ lay_M RX11 cX11_putNumber 3 d) (z : Int) {m9 : xM} (hR : xRv Γ lay_M cX11_putNumber m9) (m : xM) (h : f_m_putNumber z m = some m9) : xW Γ lay_M 3 0 [(0, .inr (.inr (some 0))), (1, .inl z)] [] m := by
  unfold f_m_putNumber at h
  refine x_iconst C dX11_putNumber_0 ?_
  refine x_istore_n C dX11_putNumber_1 (by decide) ?_
  refine x_loc [(0, .inr (.inr (some 0))), (1, .inl z), (2, .inl 1)] ⟨rfl, rfl, rfl, trivial⟩ ?_
  exact t_m_putNumber_2 hd9 C _ hR fu _ _ h
theorem c_m_putNumber (l : Launch) (z : Int) (m m9 : xM) (h : f_m_putNumber z m = some m9) : xMet l yX11_putNumber cX11_putNumber 3 none 2 lay_M [.inr (.inr (some 0)), .inl z] m none m9 :=
  xMet_v (by decide +kernel) (Nat.le_of_ble_eq_true rfl) (fun Γ C hR hl9 => t_m_putNumber (Nat.le_refl _) C z hR m h)

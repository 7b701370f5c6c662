/-! ===== yX11_hang ===== -/
theorem dX11_hang_0 : decode cX11_hang 0 = .ok (.aload_n 0, 1) := by decide +kernel
theorem dX11_hang_1 : decode cX11_hang 1 = .ok (.getfield 9, 3) := by decide +kernel
theorem dX11_hang_4 : decode cX11_hang 4 = .ok (.iconst 1, 1) := by decide +kernel
theorem dX11_hang_5 : decode cX11_hang 5 = .ok (.iconst 0, 1) := by decide +kernel
theorem dX11_hang_6 : decode cX11_hang 6 = .ok (.iastore, 1) := by decide +kernel
theorem dX11_hang_7 : decode cX11_hang 7 = .ok (.aload_n 0, 1) := by decide +kernel
theorem dX11_hang_8 : decode cX11_hang 8 = .ok (.getfield 9, 3) := by decide +kernel
theorem dX11_hang_11 : decode cX11_hang 11 = .ok (.bipush 20, 2) := by decide +kernel
theorem dX11_hang_13 : decode cX11_hang 13 = .ok (.iconst 0, 1) := by decide +kernel
theorem dX11_hang_14 : decode cX11_hang 14 = .ok (.iastore, 1) := by decide +kernel
theorem dX11_hang_15 : decode cX11_hang 15 = .ok (.iconst 0, 1) := by decide +kernel
theorem dX11_hang_16 : decode cX11_hang 16 = .ok (.istore_n 1, 1) := by decide +kernel
theorem dX11_hang_17 : decode cX11_hang 17 = .ok (.iload_n 1, 1) := by decide +kernel
theorem dX11_hang_18 : decode cX11_hang 18 = .ok (.iconst 2, 1) := by decide +kernel
theorem dX11_hang_19 : decode cX11_hang 19 = .ok (.if_icmp .ge 31, 3) := by decide +kernel
theorem dX11_hang_22 : decode cX11_hang 22 = .ok (.aload_n 0, 1) := by decide +kernel
theorem dX11_hang_23 : decode cX11_hang 23 = .ok (.getfield 9, 3) := by decide +kernel
theorem dX11_hang_26 : decode cX11_hang 26 = .ok (.iload_n 1, 1) := by decide +kernel
theorem dX11_hang_27 : decode cX11_hang 27 = .ok (.iconst 0, 1) := by decide +kernel
theorem dX11_hang_28 : decode cX11_hang 28 = .ok (.invokestatic 69, 3) := by decide +kernel
theorem dX11_hang_31 : decode cX11_hang 31 = .ok (.iconst 0, 1) := by decide +kernel
theorem dX11_hang_32 : decode cX11_hang 32 = .ok (.iastore, 1) := by decide +kernel
theorem dX11_hang_33 : decode cX11_hang 33 = .ok (.aload_n 0, 1) := by decide +kernel
theorem dX11_hang_34 : decode cX11_hang 34 = .ok (.getfield 9, 3) := by decide +kernel
theorem dX11_hang_37 : decode cX11_hang 37 = .ok (.iload_n 1, 1) := by decide +kernel
theorem dX11_hang_38 : decode cX11_hang 38 = .ok (.iconst 1, 1) := by decide +kernel
theorem dX11_hang_39 : decode cX11_hang 39 = .ok (.invokestatic 69, 3) := by decide +kernel
theorem dX11_hang_42 : decode cX11_hang 42 = .ok (.iconst 0, 1) := by decide +kernel
theorem dX11_hang_43 : decode cX11_hang 43 = .ok (.iastore, 1) := by decide +kernel
theorem dX11_hang_44 : decode cX11_hang 44 = .ok (.iinc 1 1, 3) := by decide +kernel
theorem dX11_hang_47 : decode cX11_hang 47 = .ok (.goto (-30), 3) := by decide +kernel
theorem dX11_hang_50 : decode cX11_hang 50 = .ok (.aload_n 0, 1) := by decide +kernel
theorem dX11_hang_51 : decode cX11_hang 51 = .ok (.getfield 9, 3) := by decide +kernel
theorem dX11_hang_54 : decode cX11_hang 54 = .ok (.bipush 52, 2) := by decide +kernel
theorem dX11_hang_56 : decode cX11_hang 56 = .ok (.dup2, 1) := by decide +kernel
theorem dX11_hang_57 : decode cX11_hang 57 = .ok (.iaload, 1) := by decide +kernel
theorem dX11_hang_58 : decode cX11_hang 58 = .ok (.iconst 1, 1) := by decide +kernel
theorem dX11_hang_59 : decode cX11_hang 59 = .ok (.iadd, 1) := by decide +kernel
theorem dX11_hang_60 : decode cX11_hang 60 = .ok (.iastore, 1) := by decide +kernel
theorem dX11_hang_61 : decode cX11_hang 61 = .ok (.aload_n 0, 1) := by decide +kernel
theorem dX11_hang_62 : decode cX11_hang 62 = .ok (.iconst 5, 1) := by decide +kernel
theorem dX11_hang_63 : decode cX11_hang 63 = .ok (.iconst (-1), 1) := by decide +kernel
theorem dX11_hang_64 : decode cX11_hang 64 = .ok (.invokevirtual 114, 3) := by decide +kernel
theorem dX11_hang_67 : decode cX11_hang 67 = .ok (.return_, 1) := by decide +kernel
def f_m_hang_50 (m : xM) : Option (xM) :=
     (if xib 52 3530 then (if xib 52 3530 then (Option.bind (f_m_tellEvent 5 (-1) (xu m 1 52 ((m 1 52) + 1))) fun q0 =>
      some q0)
      else none)
      else none)
set_option maxRecDepth 1000000 in
set_option maxHeartbeats 4000000 in
theorem t_m_hang_50 {Γ : xG} {d : Nat} (hd9 : 4 ≤ d) (C : xC Γ lay_M RX11 cX11_hang 2 d) {m9 : xM} (hR : xRv Γ lay_M cX11_hang m9) (m : xM) (h : f_m_hang_50 m = some m9) : xW Γ lay_M 2 50 [(0, .inr (.inr (some 0)))] [] m := by
  unfold f_m_hang_50 at h
  refine x_aload_n C dX11_hang_50 rfl ?_
  refine x_getR C dX11_hang_51 fF_X11_9 rfl rfl ?_
  refine x_bipush C dX11_hang_54 (by decide) ?_
  refine x_dup2 C dX11_hang_56 rfl rfl ?_
  refine x_iaload C dX11_hang_57 rfl h (fun h => ?_)
  refine x_iconst C dX11_hang_58 ?_
  refine x_iadd C dX11_hang_59 ?_
  refine x_iastore C dX11_hang_60 rfl h (fun h => ?_)
  refine x_aload_n C dX11_hang_61 rfl ?_
  refine x_iconst C dX11_hang_62 ?_
  refine x_iconst C dX11_hang_63 ?_
  obtain ⟨q0, hq0, h⟩ := x_bind h
  refine x_callVI C dX11_hang_64 (xin_45 _ (List.mem_of_getElem? (i := 8) rfl)) xy_X11_tellEvent (xi_X11_tellEvent) (xs_X11_tellEvent) (by omega) (by decide) (b := 0) rfl ⟨_, _, rfl⟩ (av := [.inl 5, .inl (-1)]) rfl (Nat.le_of_ble_eq_true rfl) (c_m_tellEvent _ _ _ _ _ hq0) rfl ?_
  exact x_returnV hR dX11_hang_67 h
def f_m_hang_17 : Nat → Int → xM → Option (xM)
  | 0, _, _ => none
  | n + 1, x1, m =>
     (if xw x1 < xw 2 then (Option.bind (f_m_endAt x1 0 (xvw [] m)) fun q1 =>
      (if xib q1 3530 then (Option.bind (f_m_endAt x1 1 (xvw [] (xu m 1 (xix q1) 0))) fun q2 =>
      (if xib q2 3530 then f_m_hang_17 n (x1 + 1) (xu (xu m 1 (xix q1) 0) 1 (xix q2) 0)
      else none))
      else none))
      else f_m_hang_50 m)
set_option maxRecDepth 1000000 in
set_option maxHeartbeats 4000000 in
theorem t_m_hang_17 {Γ : xG} {d : Nat} (hd9 : 4 ≤ d) (C : xC Γ lay_M RX11 cX11_hang 2 d) {m9 : xM} (hR : xRv Γ lay_M cX11_hang m9) : ∀ (n : Nat) (x1 : Int) (m : xM), f_m_hang_17 n x1 m = some m9 → xW Γ lay_M 2 17 [(0, .inr (.inr (some 0))), (1, .inl x1)] [] m := by
  intro n
  induction n with
  | zero => intro _ _ h; cases h
  | succ n ih =>
    intro x1 m h
    rw [f_m_hang_17] at h
    refine x_iload_n C dX11_hang_17 rfl ?_
    refine x_iconst C dX11_hang_18 ?_
    refine x_icmp_ge C 50 dX11_hang_19 (by decide) h (fun h => ?_) (fun h => ?_)
    · refine x_loc [(0, .inr (.inr (some 0)))] ⟨rfl, trivial⟩ ?_
      exact t_m_hang_50 hd9 C hR _ h
    · refine x_aload_n C dX11_hang_22 rfl ?_
      refine x_getR C dX11_hang_23 fF_X11_9 rfl rfl ?_
      refine x_iload_n C dX11_hang_26 rfl ?_
      refine x_iconst C dX11_hang_27 ?_
      obtain ⟨q1, hq1, h⟩ := x_bind h
      refine x_callSp C dX11_hang_28 (xin_27 _ (List.mem_of_getElem? (i := 18) rfl)) xy_X11_endAt (xt_X11_endAt) [] xv_49 (by omega) (by decide) (av := [.inl x1, .inl 0]) rfl (Nat.le_of_ble_eq_true rfl) (c_m_endAt _ _ _ _ _ hq1) rfl ?_
      refine x_iconst C dX11_hang_31 ?_
      refine x_iastore C dX11_hang_32 rfl h (fun h => ?_)
      refine x_aload_n C dX11_hang_33 rfl ?_
      refine x_getR C dX11_hang_34 fF_X11_9 rfl rfl ?_
      refine x_iload_n C dX11_hang_37 rfl ?_
      refine x_iconst C dX11_hang_38 ?_
      obtain ⟨q2, hq2, h⟩ := x_bind h
      refine x_callSp C dX11_hang_39 (xin_27 _ (List.mem_of_getElem? (i := 18) rfl)) xy_X11_endAt (xt_X11_endAt) [] xv_49 (by omega) (by decide) (av := [.inl x1, .inl 1]) rfl (Nat.le_of_ble_eq_true rfl) (c_m_endAt _ _ _ _ _ hq2) rfl ?_
      refine x_iconst C dX11_hang_42 ?_
      refine x_iastore C dX11_hang_43 rfl h (fun h => ?_)
      refine x_iinc C dX11_hang_44 (by decide) rfl ?_
      refine x_goto C 17 dX11_hang_47 (by decide) ?_
      refine x_loc [(0, .inr (.inr (some 0))), (1, .inl (x1 + 1))] ⟨rfl, rfl, trivial⟩ ?_
      exact ih _ _ h
def f_m_hang (m : xM) : Option (xM) :=
     (if xib 1 3530 then (if xib 20 3530 then f_m_hang_17 fu 0 (xu (xu m 1 1 0) 1 20 0)
      else none)
      else none)
set_option maxRecDepth 1000000 in
set_option maxHeartbeats 4000000 in
theorem t_m_hang {Γ : xG} {d : Nat} (hd9 : 4 ≤ d) (C : xC Γ lay_M RX11 cX11_hang 2 d) {m9 : xM} (hR : xRv Γ lay_M cX11_hang m9) (m : xM) (h : f_m_hang m = some m9) : xW Γ lay_M 2 0 [(0, .inr (.inr (some 0)))] [] m := by
  unfold f_m_hang at h
  refine x_aload_n C dX11_hang_0 rfl ?_
  refine x_getR C dX11_hang_1 fF_X11_9 rfl rfl ?_
  refine x_iconst C dX11_hang_4 ?_
  refine x_iconst C dX11_hang_5 ?_
  refine x_iastore C dX11_hang_6 rfl h (fun h => ?_)
  refine x_aload_n C dX11_hang_7 rfl ?_
  refine x_getR C dX11_hang_8 fF_X11_9 rfl rfl ?_
  refine x_bipush C dX11_hang_11 (by decide) ?_
  refine x_iconst C dX11_hang_13 ?_
  refine x_iastore C dX11_hang_14 rfl h (fun h => ?_)
  refine x_iconst C dX11_hang_15 ?_
  refine x_istore_n C dX11_hang_16 (by decide) ?_
  refine x_loc [(0, .inr (.inr (some 0))), (1, .inl 0)] ⟨rfl, rfl, trivial⟩ ?_
  exact t_m_hang_17 hd9 C hR fu _ _ h
theorem c_m_hang (l : Launch) (m m9 : xM) (h : f_m_hang m = some m9) : xMet l yX11_hang cX11_hang 2 none 4 lay_M [.inr (.inr (some 0))] m none m9 :=
  xMet_v (by decide +kernel) (Nat.le_of_ble_eq_true rfl) (fun Γ C hR hl9 => t_m_hang (Nat.le_refl _) C hR m h)
/-! ===== yX11_train ===== -/
theorem dX11_train_0 : decode cX11_train 0 = .ok (.aload_n 0, 1) := by decide +kernel
theorem dX11_train_1 : decode cX11_train 1 = .ok (.getfield 9, 3) := by decide +kernel
theorem dX11_train_4 : decode cX11_train 4 = .ok (.iconst 1, 1) := by decide +kernel
theorem dX11_train_5 : decode cX11_train 5 = .ok (.iconst 1, 1) := by decide +kernel
theorem dX11_train_6 : decode cX11_train 6 = .ok (.iastore, 1) := by decide +kernel
theorem dX11_train_7 : decode cX11_train 7 = .ok (.aload_n 0, 1) := by decide +kernel
theorem dX11_train_8 : decode cX11_train 8 = .ok (.getfield 9, 3) := by decide +kernel
theorem dX11_train_11 : decode cX11_train 11 = .ok (.iconst 4, 1) := by decide +kernel
theorem dX11_train_12 : decode cX11_train 12 = .ok (.iload_n 1, 1) := by decide +kernel
theorem dX11_train_13 : decode cX11_train 13 = .ok (.iastore, 1) := by decide +kernel
theorem dX11_train_14 : decode cX11_train 14 = .ok (.aload_n 0, 1) := by decide +kernel
theorem dX11_train_15 : decode cX11_train 15 = .ok (.getfield 9, 3) := by decide +kernel
theorem dX11_train_18 : decode cX11_train 18 = .ok (.iconst 5, 1) := by decide +kernel
theorem dX11_train_19 : decode cX11_train 19 = .ok (.aload_n 0, 1) := by decide +kernel
theorem dX11_train_20 : decode cX11_train 20 = .ok (.getfield 9, 3) := by decide +kernel
theorem dX11_train_23 : decode cX11_train 23 = .ok (.bipush 21, 2) := by decide +kernel
theorem dX11_train_25 : decode cX11_train 25 = .ok (.iload_n 1, 1) := by decide +kernel
theorem dX11_train_26 : decode cX11_train 26 = .ok (.iadd, 1) := by decide +kernel
theorem dX11_train_27 : decode cX11_train 27 = .ok (.iaload, 1) := by decide +kernel
theorem dX11_train_28 : decode cX11_train 28 = .ok (.iastore, 1) := by decide +kernel
theorem dX11_train_29 : decode cX11_train 29 = .ok (.aload_n 0, 1) := by decide +kernel
theorem dX11_train_30 : decode cX11_train 30 = .ok (.getfield 9, 3) := by decide +kernel
theorem dX11_train_33 : decode cX11_train 33 = .ok (.bipush 6, 2) := by decide +kernel
theorem dX11_train_35 : decode cX11_train 35 = .ok (.iconst 0, 1) := by decide +kernel
theorem dX11_train_36 : decode cX11_train 36 = .ok (.iastore, 1) := by decide +kernel
theorem dX11_train_37 : decode cX11_train 37 = .ok (.return_, 1) := by decide +kernel
def f_m_train_29 (z : Int) (m : xM) : Option (xM) :=
     (if xib 6 3530 then some (xu m 1 6 0)
      else none)
set_option maxRecDepth 1000000 in
set_option maxHeartbeats 4000000 in
theorem t_m_train_29 {Γ : xG} {d : Nat} (hd9 : 1 ≤ d) (C : xC Γ lay_M RX11 cX11_train 2 d) (z : Int) {m9 : xM} (hR : xRv Γ lay_M cX11_train m9) (m : xM) (h : f_m_train_29 z m = some m9) : xW Γ lay_M 2 29 [(0, .inr (.inr (some 0)))] [] m := by
  unfold f_m_train_29 at h
  refine x_aload_n C dX11_train_29 rfl ?_
  refine x_getR C dX11_train_30 fF_X11_9 rfl rfl ?_
  refine x_bipush C dX11_train_33 (by decide) ?_
  refine x_iconst C dX11_train_35 ?_
  refine x_iastore C dX11_train_36 rfl h (fun h => ?_)
  exact x_returnV hR dX11_train_37 h
def f_m_train (z : Int) (m : xM) : Option (xM) :=
     (if xib 1 3530 then (if xib 4 3530 then (if xib (21 + z) 3530 then (if xib 5 3530 then f_m_train_29 z (xu (xu (xu m 1 1 1) 1 4 z) 1 5 ((xu (xu m 1 1 1) 1 4 z) 1 (xix (21 + z))))
      else none)
      else none)
      else none)
      else none)
set_option maxRecDepth 1000000 in
set_option maxHeartbeats 4000000 in
theorem t_m_train {Γ : xG} {d : Nat} (hd9 : 1 ≤ d) (C : xC Γ lay_M RX11 cX11_train 2 d) (z : Int) {m9 : xM} (hR : xRv Γ lay_M cX11_train m9) (m : xM) (h : f_m_train z m = some m9) : xW Γ lay_M 2 0 [(0, .inr (.inr (some 0))), (1, .inl z)] [] m := by
  unfold f_m_train at h
  refine x_aload_n C dX11_train_0 rfl ?_
  refine x_getR C dX11_train_1 fF_X11_9 rfl rfl ?_
  refine x_iconst C dX11_train_4 ?_
  refine x_iconst C dX11_train_5 ?_
  refine x_iastore C dX11_train_6 rfl h (fun h => ?_)
  refine x_aload_n C dX11_train_7 rfl ?_
  refine x_getR C dX11_train_8 fF_X11_9 rfl rfl ?_
  refine x_iconst C dX11_train_11 ?_
  refine x_iload_n C dX11_train_12 rfl ?_
  refine x_iastore C dX11_train_13 rfl h (fun h => ?_)
  refine x_aload_n C dX11_train_14 rfl ?_
  refine x_getR C dX11_train_15 fF_X11_9 rfl rfl ?_
  refine x_iconst C dX11_train_18 ?_
  refine x_aload_n C dX11_train_19 rfl ?_
  refine x_getR C dX11_train_20 fF_X11_9 rfl rfl ?_
  refine x_bipush C dX11_train_23 (by decide) ?_
  refine x_iload_n C dX11_train_25 rfl ?_
  refine x_iadd C dX11_train_26 ?_
  refine x_iaload C dX11_train_27 rfl h (fun h => ?_)
  refine x_iastore C dX11_train_28 rfl h (fun h => ?_)
  refine x_loc [(0, .inr (.inr (some 0)))] ⟨rfl, trivial⟩ ?_
  exact t_m_train_29 hd9 C _ hR _ h
theorem c_m_train (l : Launch) (z : Int) (m m9 : xM) (h : f_m_train z m = some m9) : xMet l yX11_train cX11_train 2 none 1 lay_M [.inr (.inr (some 0)), .inl z] m none m9 :=
  xMet_v (by decide +kernel) (Nat.le_of_ble_eq_true rfl) (fun Γ C hR hl9 => t_m_train (Nat.le_refl _) C z hR m h)
/-! ===== yX11_greatestRate ===== -/
theorem dX11_greatestRate_0 : decode cX11_greatestRate 0 = .ok (.iconst (-1), 1) := by decide +kernel
theorem dX11_greatestRate_1 : decode cX11_greatestRate 1 = .ok (.istore_n 2, 1) := by decide +kernel
theorem dX11_greatestRate_2 : decode cX11_greatestRate 2 = .ok (.iconst 0, 1) := by decide +kernel
theorem dX11_greatestRate_3 : decode cX11_greatestRate 3 = .ok (.istore_n 3, 1) := by decide +kernel
theorem dX11_greatestRate_4 : decode cX11_greatestRate 4 = .ok (.iload_n 3, 1) := by decide +kernel
theorem dX11_greatestRate_5 : decode cX11_greatestRate 5 = .ok (.aload_n 0, 1) := by decide +kernel
theorem dX11_greatestRate_6 : decode cX11_greatestRate 6 = .ok (.getfield 9, 3) := by decide +kernel
theorem dX11_greatestRate_9 : decode cX11_greatestRate 9 = .ok (.bipush 11, 2) := by decide +kernel
theorem dX11_greatestRate_11 : decode cX11_greatestRate 11 = .ok (.iaload, 1) := by decide +kernel
theorem dX11_greatestRate_12 : decode cX11_greatestRate 12 = .ok (.if_icmp .ge 28, 3) := by decide +kernel
theorem dX11_greatestRate_15 : decode cX11_greatestRate 15 = .ok (.aload_n 0, 1) := by decide +kernel
theorem dX11_greatestRate_16 : decode cX11_greatestRate 16 = .ok (.getfield 9, 3) := by decide +kernel
theorem dX11_greatestRate_19 : decode cX11_greatestRate 19 = .ok (.bipush 40, 2) := by decide +kernel
theorem dX11_greatestRate_21 : decode cX11_greatestRate 21 = .ok (.iload_n 3, 1) := by decide +kernel
theorem dX11_greatestRate_22 : decode cX11_greatestRate 22 = .ok (.iadd, 1) := by decide +kernel
theorem dX11_greatestRate_23 : decode cX11_greatestRate 23 = .ok (.iaload, 1) := by decide +kernel
theorem dX11_greatestRate_24 : decode cX11_greatestRate 24 = .ok (.iload_n 1, 1) := by decide +kernel
theorem dX11_greatestRate_25 : decode cX11_greatestRate 25 = .ok (.if_icmp .gt 7, 3) := by decide +kernel
theorem dX11_greatestRate_28 : decode cX11_greatestRate 28 = .ok (.iload_n 3, 1) := by decide +kernel
theorem dX11_greatestRate_29 : decode cX11_greatestRate 29 = .ok (.goto 4, 3) := by decide +kernel
theorem dX11_greatestRate_32 : decode cX11_greatestRate 32 = .ok (.iload_n 2, 1) := by decide +kernel
theorem dX11_greatestRate_33 : decode cX11_greatestRate 33 = .ok (.istore_n 2, 1) := by decide +kernel
theorem dX11_greatestRate_34 : decode cX11_greatestRate 34 = .ok (.iinc 3 1, 3) := by decide +kernel
theorem dX11_greatestRate_37 : decode cX11_greatestRate 37 = .ok (.goto (-33), 3) := by decide +kernel
theorem dX11_greatestRate_40 : decode cX11_greatestRate 40 = .ok (.iload_n 2, 1) := by decide +kernel
theorem dX11_greatestRate_41 : decode cX11_greatestRate 41 = .ok (.ireturn, 1) := by decide +kernel
def f_m_greatestRate_33 (q : Int) (m : xM) (k4 : Int → Int → Option (Int)) (x3 : Int) (s0 : Int) : Option (Int) :=
     k4 s0 (x3 + 1)
set_option maxRecDepth 1000000 in
set_option maxHeartbeats 4000000 in
theorem t_m_greatestRate_33 {Γ : xG} {d : Nat} (hd9 : 1 ≤ d) (C : xC Γ lay_M RX11 cX11_greatestRate 4 d) (q : Int) {r : Int} {m : xM} (hR : xRi Γ lay_M cX11_greatestRate r m) {k4 : Int → Int → Option (Int)} (hk4 : ∀ (x2 : Int) (x3 : Int), k4 x2 x3 = some r → xW Γ lay_M 4 4 [(0, .inr (.inr (some 0))), (1, .inl q), (2, .inl x2), (3, .inl x3)] [] m) (x3 : Int) (s0 : Int) (h : f_m_greatestRate_33 q m k4 x3 s0 = some r) : xW Γ lay_M 4 33 [(0, .inr (.inr (some 0))), (1, .inl q), (3, .inl x3)] [.inl s0] m := by
  unfold f_m_greatestRate_33 at h
  refine x_istore_n C dX11_greatestRate_33 (by decide) ?_
  refine x_iinc C dX11_greatestRate_34 (by decide) rfl ?_
  refine x_goto C 4 dX11_greatestRate_37 (by decide) ?_
  refine x_loc [(0, .inr (.inr (some 0))), (1, .inl q), (2, .inl s0), (3, .inl (x3 + 1))] ⟨rfl, rfl, rfl, rfl, trivial⟩ ?_
  exact hk4 _ _ h
def f_m_greatestRate_4 (q : Int) (m : xM) : Nat → Int → Int → Option (Int)
  | 0, _, _ => none
  | n + 1, x2, x3 =>
     (if xib 11 3530 then (if xw x3 < xw (m 1 11) then (if xib (40 + x3) 3530 then (if xw q < xw (m 1 (xix (40 + x3))) then f_m_greatestRate_33 q m (f_m_greatestRate_4 q m n) x3 x2
      else f_m_greatestRate_33 q m (f_m_greatestRate_4 q m n) x3 x3)
      else none)
      else some x2)
      else none)
set_option maxRecDepth 1000000 in
set_option maxHeartbeats 4000000 in
theorem t_m_greatestRate_4 {Γ : xG} {d : Nat} (hd9 : 1 ≤ d) (C : xC Γ lay_M RX11 cX11_greatestRate 4 d) (q : Int) {r : Int} {m : xM} (hR : xRi Γ lay_M cX11_greatestRate r m) : ∀ (n : Nat) (x2 : Int) (x3 : Int), f_m_greatestRate_4 q m n x2 x3 = some r → xW Γ lay_M 4 4 [(0, .inr (.inr (some 0))), (1, .inl q), (2, .inl x2), (3, .inl x3)] [] m := by
  intro n
  induction n with
  | zero => intro _ _ h; cases h
  | succ n ih =>
    intro x2 x3 h
    rw [f_m_greatestRate_4] at h
    refine x_iload_n C dX11_greatestRate_4 rfl ?_
    refine x_aload_n C dX11_greatestRate_5 rfl ?_
    refine x_getR C dX11_greatestRate_6 fF_X11_9 rfl rfl ?_
    refine x_bipush C dX11_greatestRate_9 (by decide) ?_
    refine x_iaload C dX11_greatestRate_11 rfl h (fun h => ?_)
    refine x_icmp_ge C 40 dX11_greatestRate_12 (by decide) h (fun h => ?_) (fun h => ?_)
    · refine x_iload_n C dX11_greatestRate_40 rfl ?_
      exact x_ireturnP hR dX11_greatestRate_41 h
    · refine x_aload_n C dX11_greatestRate_15 rfl ?_
      refine x_getR C dX11_greatestRate_16 fF_X11_9 rfl rfl ?_
      refine x_bipush C dX11_greatestRate_19 (by decide) ?_
      refine x_iload_n C dX11_greatestRate_21 rfl ?_
      refine x_iadd C dX11_greatestRate_22 ?_
      refine x_iaload C dX11_greatestRate_23 rfl h (fun h => ?_)
      refine x_iload_n C dX11_greatestRate_24 rfl ?_
      refine x_icmp_gt C 32 dX11_greatestRate_25 (by decide) h (fun h => ?_) (fun h => ?_)
      · refine x_iload_n C dX11_greatestRate_32 rfl ?_
        refine x_loc [(0, .inr (.inr (some 0))), (1, .inl q), (3, .inl x3)] ⟨rfl, rfl, rfl, trivial⟩ ?_
        exact t_m_greatestRate_33 hd9 C _ hR ih _ _ h
      · refine x_iload_n C dX11_greatestRate_28 rfl ?_
        refine x_goto C 33 dX11_greatestRate_29 (by decide) ?_
        refine x_loc [(0, .inr (.inr (some 0))), (1, .inl q), (3, .inl x3)] ⟨rfl, rfl, rfl, trivial⟩ ?_
        exact t_m_greatestRate_33 hd9 C _ hR ih _ _ h
def f_m_greatestRate (q : Int) (m : xM) : Option (Int) :=
     f_m_greatestRate_4 q m fu (-1) 0
set_option maxRecDepth 1000000 in
set_option maxHeartbeats 4000000 in
theorem t_m_greatestRate {Γ : xG} {d : Nat} (hd9 : 1 ≤ d) (C : xC Γ lay_M RX11 cX11_greatestRate 4 d) (q : Int) {r : Int} {m : xM} (hR : xRi Γ lay_M cX11_greatestRate r m) (h : f_m_greatestRate q m = some r) : xW Γ lay_M 4 0 [(0, .inr (.inr (some 0))), (1, .inl q)] [] m := by
  unfold f_m_greatestRate at h
  refine x_iconst C dX11_greatestRate_0 ?_
  refine x_istore_n C dX11_greatestRate_1 (by decide) ?_
  refine x_iconst C dX11_greatestRate_2 ?_
  refine x_istore_n C dX11_greatestRate_3 (by decide) ?_
  refine x_loc [(0, .inr (.inr (some 0))), (1, .inl q), (2, .inl (-1)), (3, .inl 0)] ⟨rfl, rfl, rfl, rfl, trivial⟩ ?_
  exact t_m_greatestRate_4 hd9 C _ hR fu _ _ h
theorem c_m_greatestRate (l : Launch) (q : Int) (m : xM) (r : Int) (h : f_m_greatestRate q m = some r) : xMet l yX11_greatestRate cX11_greatestRate 4 (some .int) 1 lay_M [.inr (.inr (some 0)), .inl q] m (some (.inl r)) m :=
  xMet_i (by decide +kernel) (Nat.le_of_ble_eq_true rfl) (fun Γ C hR hl9 => t_m_greatestRate (Nat.le_refl _) C q hR h)
/-! ===== yX11_beginAgain ===== -/
theorem dX11_beginAgain_0 : decode cX11_beginAgain 0 = .ok (.aload_n 0, 1) := by decide +kernel
theorem dX11_beginAgain_1 : decode cX11_beginAgain 1 = .ok (.iload_n 1, 1) := by decide +kernel
theorem dX11_beginAgain_2 : decode cX11_beginAgain 2 = .ok (.iconst 1, 1) := by decide +kernel
theorem dX11_beginAgain_3 : decode cX11_beginAgain 3 = .ok (.invokevirtual 101, 3) := by decide +kernel
theorem dX11_beginAgain_6 : decode cX11_beginAgain 6 = .ok (.ifCond .le 30, 3) := by decide +kernel
theorem dX11_beginAgain_9 : decode cX11_beginAgain 9 = .ok (.aload_n 0, 1) := by decide +kernel
theorem dX11_beginAgain_10 : decode cX11_beginAgain 10 = .ok (.iload_n 1, 1) := by decide +kernel
theorem dX11_beginAgain_11 : decode cX11_beginAgain 11 = .ok (.iconst 0, 1) := by decide +kernel
theorem dX11_beginAgain_12 : decode cX11_beginAgain 12 = .ok (.iconst 0, 1) := by decide +kernel
theorem dX11_beginAgain_13 : decode cX11_beginAgain 13 = .ok (.invokevirtual 124, 3) := by decide +kernel
theorem dX11_beginAgain_16 : decode cX11_beginAgain 16 = .ok (.aload_n 0, 1) := by decide +kernel
theorem dX11_beginAgain_17 : decode cX11_beginAgain 17 = .ok (.iconst 1, 1) := by decide +kernel
theorem dX11_beginAgain_18 : decode cX11_beginAgain 18 = .ok (.iload_n 1, 1) := by decide +kernel
theorem dX11_beginAgain_19 : decode cX11_beginAgain 19 = .ok (.isub, 1) := by decide +kernel
theorem dX11_beginAgain_20 : decode cX11_beginAgain 20 = .ok (.iconst 3, 1) := by decide +kernel
theorem dX11_beginAgain_21 : decode cX11_beginAgain 21 = .ok (.invokevirtual 101, 3) := by decide +kernel
theorem dX11_beginAgain_24 : decode cX11_beginAgain 24 = .ok (.if_icmp .ge 12, 3) := by decide +kernel
theorem dX11_beginAgain_27 : decode cX11_beginAgain 27 = .ok (.aload_n 0, 1) := by decide +kernel
theorem dX11_beginAgain_28 : decode cX11_beginAgain 28 = .ok (.iload_n 1, 1) := by decide +kernel
theorem dX11_beginAgain_29 : decode cX11_beginAgain 29 = .ok (.iconst 0, 1) := by decide +kernel
theorem dX11_beginAgain_30 : decode cX11_beginAgain 30 = .ok (.invokevirtual 127, 3) := by decide +kernel
theorem dX11_beginAgain_33 : decode cX11_beginAgain 33 = .ok (.goto (-33), 3) := by decide +kernel
theorem dX11_beginAgain_36 : decode cX11_beginAgain 36 = .ok (.iconst 0, 1) := by decide +kernel
theorem dX11_beginAgain_37 : decode cX11_beginAgain 37 = .ok (.istore_n 2, 1) := by decide +kernel
theorem dX11_beginAgain_38 : decode cX11_beginAgain 38 = .ok (.iload_n 2, 1) := by decide +kernel
theorem dX11_beginAgain_39 : decode cX11_beginAgain 39 = .ok (.aload_n 0, 1) := by decide +kernel
theorem dX11_beginAgain_40 : decode cX11_beginAgain 40 = .ok (.iload_n 1, 1) := by decide +kernel
theorem dX11_beginAgain_41 : decode cX11_beginAgain 41 = .ok (.iconst 1, 1) := by decide +kernel
theorem dX11_beginAgain_42 : decode cX11_beginAgain 42 = .ok (.invokevirtual 101, 3) := by decide +kernel
theorem dX11_beginAgain_45 : decode cX11_beginAgain 45 = .ok (.if_icmp .ge 21, 3) := by decide +kernel
theorem dX11_beginAgain_48 : decode cX11_beginAgain 48 = .ok (.aload_n 0, 1) := by decide +kernel
theorem dX11_beginAgain_49 : decode cX11_beginAgain 49 = .ok (.getfield 9, 3) := by decide +kernel
theorem dX11_beginAgain_52 : decode cX11_beginAgain 52 = .ok (.iload_n 1, 1) := by decide +kernel
theorem dX11_beginAgain_53 : decode cX11_beginAgain 53 = .ok (.iload_n 2, 1) := by decide +kernel
theorem dX11_beginAgain_54 : decode cX11_beginAgain 54 = .ok (.iconst 3, 1) := by decide +kernel
theorem dX11_beginAgain_55 : decode cX11_beginAgain 55 = .ok (.invokestatic 73, 3) := by decide +kernel
theorem dX11_beginAgain_58 : decode cX11_beginAgain 58 = .ok (.iconst 1, 1) := by decide +kernel
theorem dX11_beginAgain_59 : decode cX11_beginAgain 59 = .ok (.iastore, 1) := by decide +kernel
theorem dX11_beginAgain_60 : decode cX11_beginAgain 60 = .ok (.iinc 2 1, 3) := by decide +kernel
theorem dX11_beginAgain_63 : decode cX11_beginAgain 63 = .ok (.goto (-25), 3) := by decide +kernel
theorem dX11_beginAgain_66 : decode cX11_beginAgain 66 = .ok (.aload_n 0, 1) := by decide +kernel
theorem dX11_beginAgain_67 : decode cX11_beginAgain 67 = .ok (.getfield 9, 3) := by decide +kernel
theorem dX11_beginAgain_70 : decode cX11_beginAgain 70 = .ok (.iload_n 1, 1) := by decide +kernel
theorem dX11_beginAgain_71 : decode cX11_beginAgain 71 = .ok (.iconst 5, 1) := by decide +kernel
theorem dX11_beginAgain_72 : decode cX11_beginAgain 72 = .ok (.invokestatic 69, 3) := by decide +kernel
theorem dX11_beginAgain_75 : decode cX11_beginAgain 75 = .ok (.iconst 0, 1) := by decide +kernel
theorem dX11_beginAgain_76 : decode cX11_beginAgain 76 = .ok (.iastore, 1) := by decide +kernel
theorem dX11_beginAgain_77 : decode cX11_beginAgain 77 = .ok (.aload_n 0, 1) := by decide +kernel
theorem dX11_beginAgain_78 : decode cX11_beginAgain 78 = .ok (.getfield 9, 3) := by decide +kernel
theorem dX11_beginAgain_81 : decode cX11_beginAgain 81 = .ok (.iload_n 1, 1) := by decide +kernel
theorem dX11_beginAgain_82 : decode cX11_beginAgain 82 = .ok (.bipush 6, 2) := by decide +kernel
theorem dX11_beginAgain_84 : decode cX11_beginAgain 84 = .ok (.invokestatic 69, 3) := by decide +kernel
theorem dX11_beginAgain_87 : decode cX11_beginAgain 87 = .ok (.iconst 0, 1) := by decide +kernel
theorem dX11_beginAgain_88 : decode cX11_beginAgain 88 = .ok (.iastore, 1) := by decide +kernel
theorem dX11_beginAgain_89 : decode cX11_beginAgain 89 = .ok (.aload_n 0, 1) := by decide +kernel
theorem dX11_beginAgain_90 : decode cX11_beginAgain 90 = .ok (.getfield 9, 3) := by decide +kernel
theorem dX11_beginAgain_93 : decode cX11_beginAgain 93 = .ok (.iload_n 1, 1) := by decide +kernel
theorem dX11_beginAgain_94 : decode cX11_beginAgain 94 = .ok (.bipush 9, 2) := by decide +kernel
theorem dX11_beginAgain_96 : decode cX11_beginAgain 96 = .ok (.invokestatic 69, 3) := by decide +kernel
theorem dX11_beginAgain_99 : decode cX11_beginAgain 99 = .ok (.iconst 1, 1) := by decide +kernel
theorem dX11_beginAgain_100 : decode cX11_beginAgain 100 = .ok (.iastore, 1) := by decide +kernel
theorem dX11_beginAgain_101 : decode cX11_beginAgain 101 = .ok (.return_, 1) := by decide +kernel
def f_m_beginAgain_66 (e : Int) (m : xM) : Option (xM) :=
     (Option.bind (f_m_endAt e 5 (xvw [] m)) fun q2 =>
      (if xib q2 3530 then (Option.bind (f_m_endAt e 6 (xvw [] (xu m 1 (xix q2) 0))) fun q3 =>
      (if xib q3 3530 then (Option.bind (f_m_endAt e 9 (xvw [] (xu (xu m 1 (xix q2) 0) 1 (xix q3) 0))) fun q4 =>
      (if xib q4 3530 then some (xu (xu (xu m 1 (xix q2) 0) 1 (xix q3) 0) 1 (xix q4) 1)
      else none))
      else none))
      else none))
set_option maxRecDepth 1000000 in
set_option maxHeartbeats 4000000 in
theorem t_m_beginAgain_66 {Γ : xG} {d : Nat} (hd9 : 4 ≤ d) (C : xC Γ lay_M RX11 cX11_beginAgain 3 d) (e : Int) {m9 : xM} (hR : xRv Γ lay_M cX11_beginAgain m9) (m : xM) (h : f_m_beginAgain_66 e m = some m9) : xW Γ lay_M 3 66 [(0, .inr (.inr (some 0))), (1, .inl e)] [] m := by
  unfold f_m_beginAgain_66 at h
  refine x_aload_n C dX11_beginAgain_66 rfl ?_
  refine x_getR C dX11_beginAgain_67 fF_X11_9 rfl rfl ?_
  refine x_iload_n C dX11_beginAgain_70 rfl ?_
  refine x_iconst C dX11_beginAgain_71 ?_
  obtain ⟨q2, hq2, h⟩ := x_bind h
  refine x_callSp C dX11_beginAgain_72 (xin_27 _ (List.mem_of_getElem? (i := 18) rfl)) xy_X11_endAt (xt_X11_endAt) [] xv_49 (by omega) (by decide) (av := [.inl e, .inl 5]) rfl (Nat.le_of_ble_eq_true rfl) (c_m_endAt _ _ _ _ _ hq2) rfl ?_
  refine x_iconst C dX11_beginAgain_75 ?_
  refine x_iastore C dX11_beginAgain_76 rfl h (fun h => ?_)
  refine x_aload_n C dX11_beginAgain_77 rfl ?_
  refine x_getR C dX11_beginAgain_78 fF_X11_9 rfl rfl ?_
  refine x_iload_n C dX11_beginAgain_81 rfl ?_
  refine x_bipush C dX11_beginAgain_82 (by decide) ?_
  obtain ⟨q3, hq3, h⟩ := x_bind h
  refine x_callSp C dX11_beginAgain_84 (xin_27 _ (List.mem_of_getElem? (i := 18) rfl)) xy_X11_endAt (xt_X11_endAt) [] xv_49 (by omega) (by decide) (av := [.inl e, .inl 6]) rfl (Nat.le_of_ble_eq_true rfl) (c_m_endAt _ _ _ _ _ hq3) rfl ?_
  refine x_iconst C dX11_beginAgain_87 ?_
  refine x_iastore C dX11_beginAgain_88 rfl h (fun h => ?_)
  refine x_aload_n C dX11_beginAgain_89 rfl ?_
  refine x_getR C dX11_beginAgain_90 fF_X11_9 rfl rfl ?_
  refine x_iload_n C dX11_beginAgain_93 rfl ?_
  refine x_bipush C dX11_beginAgain_94 (by decide) ?_
  obtain ⟨q4, hq4, h⟩ := x_bind h
  refine x_callSp C dX11_beginAgain_96 (xin_27 _ (List.mem_of_getElem? (i := 18) rfl)) xy_X11_endAt (xt_X11_endAt) [] xv_49 (by omega) (by decide) (av := [.inl e, .inl 9]) rfl (Nat.le_of_ble_eq_true rfl) (c_m_endAt _ _ _ _ _ hq4) rfl ?_
  refine x_iconst C dX11_beginAgain_99 ?_
  refine x_iastore C dX11_beginAgain_100 rfl h (fun h => ?_)
  exact x_returnV hR dX11_beginAgain_101 h
def f_m_beginAgain_38 (e : Int) : Nat → Int → xM → Option (xM)
  | 0, _, _ => none
  | n + 1, x2, m =>
     (Option.bind (f_m_of e 1 m) fun q1 =>
      (if xw x2 < xw q1 then (Option.bind (f_m_frameAt e x2 3 (xvw [] m)) fun q5 =>
      (if xib q5 3530 then f_m_beginAgain_38 e n (x2 + 1) (xu m 1 (xix q5) 1)
      else none))
      else f_m_beginAgain_66 e m))
set_option maxRecDepth 1000000 in
set_option maxHeartbeats 4000000 in
theorem t_m_beginAgain_38 {Γ : xG} {d : Nat} (hd9 : 4 ≤ d) (C : xC Γ lay_M RX11 cX11_beginAgain 3 d) (e : Int) {m9 : xM} (hR : xRv Γ lay_M cX11_beginAgain m9) : ∀ (n : Nat) (x2 : Int) (m : xM), f_m_beginAgain_38 e n x2 m = some m9 → xW Γ lay_M 3 38 [(0, .inr (.inr (some 0))), (1, .inl e), (2, .inl x2)] [] m := by
  intro n
  induction n with
  | zero => intro _ _ h; cases h
  | succ n ih =>
    intro x2 m h
    rw [f_m_beginAgain_38] at h
    refine x_iload_n C dX11_beginAgain_38 rfl ?_
    refine x_aload_n C dX11_beginAgain_39 rfl ?_
    refine x_iload_n C dX11_beginAgain_40 rfl ?_
    refine x_iconst C dX11_beginAgain_41 ?_
    obtain ⟨q1, hq1, h⟩ := x_bind h
    refine x_callVI C dX11_beginAgain_42 (xin_27 _ (List.mem_of_getElem? (i := 14) rfl)) xy_X11_of (xi_X11_of) (xs_X11_of) (by omega) (by decide) (b := 0) rfl ⟨_, _, rfl⟩ (av := [.inl e, .inl 1]) rfl (Nat.le_of_ble_eq_true rfl) (c_m_of _ _ _ _ _ hq1) rfl ?_
    refine x_icmp_ge C 66 dX11_beginAgain_45 (by decide) h (fun h => ?_) (fun h => ?_)
    · refine x_loc [(0, .inr (.inr (some 0))), (1, .inl e)] ⟨rfl, rfl, trivial⟩ ?_
      exact t_m_beginAgain_66 hd9 C _ hR _ h
    · refine x_aload_n C dX11_beginAgain_48 rfl ?_
      refine x_getR C dX11_beginAgain_49 fF_X11_9 rfl rfl ?_
      refine x_iload_n C dX11_beginAgain_52 rfl ?_
      refine x_iload_n C dX11_beginAgain_53 rfl ?_
      refine x_iconst C dX11_beginAgain_54 ?_
      obtain ⟨q5, hq5, h⟩ := x_bind h
      refine x_callSp C dX11_beginAgain_55 (xin_28 _ (List.mem_of_getElem? (i := 5) rfl)) xy_X11_frameAt (xt_X11_frameAt) [] xv_49 (by omega) (by decide) (av := [.inl e, .inl x2, .inl 3]) rfl (Nat.le_of_ble_eq_true rfl) (c_m_frameAt _ _ _ _ _ _ hq5) rfl ?_
      refine x_iconst C dX11_beginAgain_58 ?_
      refine x_iastore C dX11_beginAgain_59 rfl h (fun h => ?_)
      refine x_iinc C dX11_beginAgain_60 (by decide) rfl ?_
      refine x_goto C 38 dX11_beginAgain_63 (by decide) ?_
      refine x_loc [(0, .inr (.inr (some 0))), (1, .inl e), (2, .inl (x2 + 1))] ⟨rfl, rfl, rfl, trivial⟩ ?_
      exact ih _ _ h
def f_m_beginAgain_36 (e : Int) (m : xM) : Option (xM) :=
     f_m_beginAgain_38 e fu 0 m
set_option maxRecDepth 1000000 in
set_option maxHeartbeats 4000000 in
theorem t_m_beginAgain_36 {Γ : xG} {d : Nat} (hd9 : 4 ≤ d) (C : xC Γ lay_M RX11 cX11_beginAgain 3 d) (e : Int) {m9 : xM} (hR : xRv Γ lay_M cX11_beginAgain m9) (m : xM) (h : f_m_beginAgain_36 e m = some m9) : xW Γ lay_M 3 36 [(0, .inr (.inr (some 0))), (1, .inl e)] [] m := by
  unfold f_m_beginAgain_36 at h
  refine x_iconst C dX11_beginAgain_36 ?_
  refine x_istore_n C dX11_beginAgain_37 (by decide) ?_
  refine x_loc [(0, .inr (.inr (some 0))), (1, .inl e), (2, .inl 0)] ⟨rfl, rfl, rfl, trivial⟩ ?_
  exact t_m_beginAgain_38 hd9 C _ hR fu _ _ h
def f_m_beginAgain_0 (e : Int) : Nat → xM → Option (xM)
  | 0, _ => none
  | n + 1, m =>
     (Option.bind (f_m_of e 1 m) fun q0 =>
      (if 0 < xw q0 then (Option.bind (f_m_ofFrame e 0 0 m) fun q6 =>
      (Option.bind (f_m_of (1 - e) 3 m) fun q7 =>
      (if xw q6 < xw q7 then (Option.bind (f_m_forget e 0 m) fun q8 =>
      f_m_beginAgain_0 e n q8)
      else f_m_beginAgain_36 e m)))
      else f_m_beginAgain_36 e m))
set_option maxRecDepth 1000000 in
set_option maxHeartbeats 4000000 in
theorem t_m_beginAgain_0 {Γ : xG} {d : Nat} (hd9 : 4 ≤ d) (C : xC Γ lay_M RX11 cX11_beginAgain 3 d) (e : Int) {m9 : xM} (hR : xRv Γ lay_M cX11_beginAgain m9) : ∀ (n : Nat) (m : xM), f_m_beginAgain_0 e n m = some m9 → xW Γ lay_M 3 0 [(0, .inr (.inr (some 0))), (1, .inl e)] [] m := by
  intro n
  induction n with
  | zero => intro _ h; cases h
  | succ n ih =>
    intro m h
    rw [f_m_beginAgain_0] at h
    refine x_aload_n C dX11_beginAgain_0 rfl ?_
    refine x_iload_n C dX11_beginAgain_1 rfl ?_
    refine x_iconst C dX11_beginAgain_2 ?_
    obtain ⟨q0, hq0, h⟩ := x_bind h
    refine x_callVI C dX11_beginAgain_3 (xin_27 _ (List.mem_of_getElem? (i := 14) rfl)) xy_X11_of (xi_X11_of) (xs_X11_of) (by omega) (by decide) (b := 0) rfl ⟨_, _, rfl⟩ (av := [.inl e, .inl 1]) rfl (Nat.le_of_ble_eq_true rfl) (c_m_of _ _ _ _ _ hq0) rfl ?_
    refine x_if_le C 36 dX11_beginAgain_6 (by decide) h (fun h => ?_) (fun h => ?_)
    · refine x_loc [(0, .inr (.inr (some 0))), (1, .inl e)] ⟨rfl, rfl, trivial⟩ ?_
      exact t_m_beginAgain_36 hd9 C _ hR _ h
    · refine x_aload_n C dX11_beginAgain_9 rfl ?_
      refine x_iload_n C dX11_beginAgain_10 rfl ?_
      refine x_iconst C dX11_beginAgain_11 ?_
      refine x_iconst C dX11_beginAgain_12 ?_
      obtain ⟨q6, hq6, h⟩ := x_bind h
      refine x_callVI C dX11_beginAgain_13 (xin_28 _ (List.mem_of_getElem? (i := 1) rfl)) xy_X11_ofFrame (xi_X11_ofFrame) (xs_X11_ofFrame) (by omega) (by decide) (b := 0) rfl ⟨_, _, rfl⟩ (av := [.inl e, .inl 0, .inl 0]) rfl (Nat.le_of_ble_eq_true rfl) (c_m_ofFrame _ _ _ _ _ _ hq6) rfl ?_
      refine x_aload_n C dX11_beginAgain_16 rfl ?_
      refine x_iconst C dX11_beginAgain_17 ?_
      refine x_iload_n C dX11_beginAgain_18 rfl ?_
      refine x_isub C dX11_beginAgain_19 ?_
      refine x_iconst C dX11_beginAgain_20 ?_
      obtain ⟨q7, hq7, h⟩ := x_bind h
      refine x_callVI C dX11_beginAgain_21 (xin_27 _ (List.mem_of_getElem? (i := 14) rfl)) xy_X11_of (xi_X11_of) (xs_X11_of) (by omega) (by decide) (b := 0) rfl ⟨_, _, rfl⟩ (av := [.inl (1 - e), .inl 3]) rfl (Nat.le_of_ble_eq_true rfl) (c_m_of _ _ _ _ _ hq7) rfl ?_
      refine x_icmp_ge C 36 dX11_beginAgain_24 (by decide) h (fun h => ?_) (fun h => ?_)
      · refine x_loc [(0, .inr (.inr (some 0))), (1, .inl e)] ⟨rfl, rfl, trivial⟩ ?_
        exact t_m_beginAgain_36 hd9 C _ hR _ h
      · refine x_aload_n C dX11_beginAgain_27 rfl ?_
        refine x_iload_n C dX11_beginAgain_28 rfl ?_
        refine x_iconst C dX11_beginAgain_29 ?_
        obtain ⟨q8, hq8, h⟩ := x_bind h
        refine x_callVI C dX11_beginAgain_30 (xin_45 _ (List.mem_of_getElem? (i := 20) rfl)) xy_X11_forget (xi_X11_forget) (xs_X11_forget) (by omega) (by decide) (b := 0) rfl ⟨_, _, rfl⟩ (av := [.inl e, .inl 0]) rfl (Nat.le_of_ble_eq_true rfl) (c_m_forget _ _ _ _ _ hq8) rfl ?_
        refine x_goto C 0 dX11_beginAgain_33 (by decide) ?_
        refine x_loc [(0, .inr (.inr (some 0))), (1, .inl e)] ⟨rfl, rfl, trivial⟩ ?_
        exact ih _ h
def f_m_beginAgain (e : Int) (m : xM) : Option (xM) :=
     f_m_beginAgain_0 e fu m
set_option maxRecDepth 1000000 in
set_option maxHeartbeats 4000000 in
theorem t_m_beginAgain {Γ : xG} {d : Nat} (hd9 : 4 ≤ d) (C : xC Γ lay_M RX11 cX11_beginAgain 3 d) (e : Int) {m9 : xM} (hR : xRv Γ lay_M cX11_beginAgain m9) (m : xM) (h : f_m_beginAgain e m = some m9) : xW Γ lay_M 3 0 [(0, .inr (.inr (some 0))), (1, .inl e)] [] m := by
  unfold f_m_beginAgain at h
  refine x_loc [(0, .inr (.inr (some 0))), (1, .inl e)] ⟨rfl, rfl, trivial⟩ ?_
  exact t_m_beginAgain_0 hd9 C _ hR fu _ h
theorem c_m_beginAgain (l : Launch) (e : Int) (m m9 : xM) (h : f_m_beginAgain e m = some m9) : xMet l yX11_beginAgain cX11_beginAgain 3 none 4 lay_M [.inr (.inr (some 0)), .inl e] m none m9 :=
  xMet_v (by decide +kernel) (Nat.le_of_ble_eq_true rfl) (fun Γ C hR hl9 => t_m_beginAgain (Nat.le_refl _) C e hR m h)
/-! ===== yX11_comeOnline ===== -/
theorem xy_X11_greatestRate : xY yX11_greatestRate cX11_greatestRate 4 (some .int) 1 := ⟨(xin_33 _ (List.mem_of_getElem? (i := 1) rfl)), (xin_1 _ (List.mem_of_getElem? (i := 5) rfl)), by decide, by decide, by decide +kernel⟩
theorem xi_X11_greatestRate : Cond.instanceMethod yX11_greatestRate ∈ wsL_law := (xin_32 _ (List.mem_of_getElem? (i := 23) rfl))
theorem xs_X11_greatestRate : Cond.selects yX11_greatestRate.cls yX11_greatestRate yX11_greatestRate ∈ wsL_law := (xin_33 _ (List.mem_of_getElem? (i := 0) rfl))
theorem xy_X11_beginAgain : xY yX11_beginAgain cX11_beginAgain 3 none 1 := ⟨(xin_45 _ (List.mem_of_getElem? (i := 19) rfl)), (xin_1 _ (List.mem_of_getElem? (i := 5) rfl)), by decide, by decide, by decide +kernel⟩
theorem xi_X11_beginAgain : Cond.instanceMethod yX11_beginAgain ∈ wsL_law := (xin_45 _ (List.mem_of_getElem? (i := 17) rfl))
theorem xs_X11_beginAgain : Cond.selects yX11_beginAgain.cls yX11_beginAgain yX11_beginAgain ∈ wsL_law := (xin_45 _ (List.mem_of_getElem? (i := 18) rfl))
theorem xy_X11_hang : xY yX11_hang cX11_hang 2 none 0 := ⟨(xin_45 _ (List.mem_of_getElem? (i := 7) rfl)), (xin_1 _ (List.mem_of_getElem? (i := 5) rfl)), by decide, by decide, by decide +kernel⟩
theorem xi_X11_hang : Cond.instanceMethod yX11_hang ∈ wsL_law := (xin_45 _ (List.mem_of_getElem? (i := 5) rfl))
theorem xs_X11_hang : Cond.selects yX11_hang.cls yX11_hang yX11_hang ∈ wsL_law := (xin_45 _ (List.mem_of_getElem? (i := 6) rfl))
theorem dX11_comeOnline_0 : decode cX11_comeOnline 0 = .ok (.aload_n 0, 1) := by decide +kernel
theorem dX11_comeOnline_1 : decode cX11_comeOnline 1 = .ok (.aload_n 0, 1) := by decide +kernel
theorem dX11_comeOnline_2 : decode cX11_comeOnline 2 = .ok (.getfield 9, 3) := by decide +kernel
theorem dX11_comeOnline_5 : decode cX11_comeOnline 5 = .ok (.iconst 2, 1) := by decide +kernel
theorem dX11_comeOnline_6 : decode cX11_comeOnline 6 = .ok (.iaload, 1) := by decide +kernel
theorem dX11_comeOnline_7 : decode cX11_comeOnline 7 = .ok (.invokevirtual 140, 3) := by decide +kernel
theorem dX11_comeOnline_10 : decode cX11_comeOnline 10 = .ok (.istore_n 1, 1) := by decide +kernel
theorem dX11_comeOnline_11 : decode cX11_comeOnline 11 = .ok (.iload_n 1, 1) := by decide +kernel
theorem dX11_comeOnline_12 : decode cX11_comeOnline 12 = .ok (.iconst (-1), 1) := by decide +kernel
theorem dX11_comeOnline_13 : decode cX11_comeOnline 13 = .ok (.if_icmp .ne 8, 3) := by decide +kernel
theorem dX11_comeOnline_16 : decode cX11_comeOnline 16 = .ok (.aload_n 0, 1) := by decide +kernel
theorem dX11_comeOnline_17 : decode cX11_comeOnline 17 = .ok (.invokevirtual 144, 3) := by decide +kernel
theorem dX11_comeOnline_20 : decode cX11_comeOnline 20 = .ok (.return_, 1) := by decide +kernel
theorem dX11_comeOnline_21 : decode cX11_comeOnline 21 = .ok (.aload_n 0, 1) := by decide +kernel
theorem dX11_comeOnline_22 : decode cX11_comeOnline 22 = .ok (.getfield 9, 3) := by decide +kernel
theorem dX11_comeOnline_25 : decode cX11_comeOnline 25 = .ok (.iconst 1, 1) := by decide +kernel
theorem dX11_comeOnline_26 : decode cX11_comeOnline 26 = .ok (.iconst 2, 1) := by decide +kernel
theorem dX11_comeOnline_27 : decode cX11_comeOnline 27 = .ok (.iastore, 1) := by decide +kernel
theorem dX11_comeOnline_28 : decode cX11_comeOnline 28 = .ok (.aload_n 0, 1) := by decide +kernel
theorem dX11_comeOnline_29 : decode cX11_comeOnline 29 = .ok (.getfield 9, 3) := by decide +kernel
theorem dX11_comeOnline_32 : decode cX11_comeOnline 32 = .ok (.iconst 3, 1) := by decide +kernel
theorem dX11_comeOnline_33 : decode cX11_comeOnline 33 = .ok (.iload_n 1, 1) := by decide +kernel
theorem dX11_comeOnline_34 : decode cX11_comeOnline 34 = .ok (.iastore, 1) := by decide +kernel
theorem dX11_comeOnline_35 : decode cX11_comeOnline 35 = .ok (.aload_n 0, 1) := by decide +kernel
theorem dX11_comeOnline_36 : decode cX11_comeOnline 36 = .ok (.getfield 9, 3) := by decide +kernel
theorem dX11_comeOnline_39 : decode cX11_comeOnline 39 = .ok (.bipush 8, 2) := by decide +kernel
theorem dX11_comeOnline_41 : decode cX11_comeOnline 41 = .ok (.iconst 0, 1) := by decide +kernel
theorem dX11_comeOnline_42 : decode cX11_comeOnline 42 = .ok (.iastore, 1) := by decide +kernel
theorem dX11_comeOnline_43 : decode cX11_comeOnline 43 = .ok (.aload_n 0, 1) := by decide +kernel
theorem dX11_comeOnline_44 : decode cX11_comeOnline 44 = .ok (.getfield 9, 3) := by decide +kernel
theorem dX11_comeOnline_47 : decode cX11_comeOnline 47 = .ok (.bipush 9, 2) := by decide +kernel
theorem dX11_comeOnline_49 : decode cX11_comeOnline 49 = .ok (.iconst 0, 1) := by decide +kernel
theorem dX11_comeOnline_50 : decode cX11_comeOnline 50 = .ok (.iastore, 1) := by decide +kernel
theorem dX11_comeOnline_51 : decode cX11_comeOnline 51 = .ok (.aload_n 0, 1) := by decide +kernel
theorem dX11_comeOnline_52 : decode cX11_comeOnline 52 = .ok (.getfield 9, 3) := by decide +kernel
theorem dX11_comeOnline_55 : decode cX11_comeOnline 55 = .ok (.bipush 20, 2) := by decide +kernel
theorem dX11_comeOnline_57 : decode cX11_comeOnline 57 = .ok (.iconst 0, 1) := by decide +kernel
theorem dX11_comeOnline_58 : decode cX11_comeOnline 58 = .ok (.iastore, 1) := by decide +kernel
theorem dX11_comeOnline_59 : decode cX11_comeOnline 59 = .ok (.iconst 0, 1) := by decide +kernel
theorem dX11_comeOnline_60 : decode cX11_comeOnline 60 = .ok (.istore_n 2, 1) := by decide +kernel
theorem dX11_comeOnline_61 : decode cX11_comeOnline 61 = .ok (.iload_n 2, 1) := by decide +kernel
theorem dX11_comeOnline_62 : decode cX11_comeOnline 62 = .ok (.iconst 2, 1) := by decide +kernel
theorem dX11_comeOnline_63 : decode cX11_comeOnline 63 = .ok (.if_icmp .ge 14, 3) := by decide +kernel
theorem dX11_comeOnline_66 : decode cX11_comeOnline 66 = .ok (.aload_n 0, 1) := by decide +kernel
theorem dX11_comeOnline_67 : decode cX11_comeOnline 67 = .ok (.iload_n 2, 1) := by decide +kernel
theorem dX11_comeOnline_68 : decode cX11_comeOnline 68 = .ok (.invokevirtual 147, 3) := by decide +kernel
theorem dX11_comeOnline_71 : decode cX11_comeOnline 71 = .ok (.iinc 2 1, 3) := by decide +kernel
theorem dX11_comeOnline_74 : decode cX11_comeOnline 74 = .ok (.goto (-13), 3) := by decide +kernel
theorem dX11_comeOnline_77 : decode cX11_comeOnline 77 = .ok (.aload_n 0, 1) := by decide +kernel
theorem dX11_comeOnline_78 : decode cX11_comeOnline 78 = .ok (.getfield 9, 3) := by decide +kernel
theorem dX11_comeOnline_81 : decode cX11_comeOnline 81 = .ok (.bipush 53, 2) := by decide +kernel
theorem dX11_comeOnline_83 : decode cX11_comeOnline 83 = .ok (.dup2, 1) := by decide +kernel
theorem dX11_comeOnline_84 : decode cX11_comeOnline 84 = .ok (.iaload, 1) := by decide +kernel
theorem dX11_comeOnline_85 : decode cX11_comeOnline 85 = .ok (.iconst 1, 1) := by decide +kernel
theorem dX11_comeOnline_86 : decode cX11_comeOnline 86 = .ok (.iadd, 1) := by decide +kernel
theorem dX11_comeOnline_87 : decode cX11_comeOnline 87 = .ok (.iastore, 1) := by decide +kernel
theorem dX11_comeOnline_88 : decode cX11_comeOnline 88 = .ok (.aload_n 0, 1) := by decide +kernel
theorem dX11_comeOnline_89 : decode cX11_comeOnline 89 = .ok (.iconst 1, 1) := by decide +kernel
theorem dX11_comeOnline_90 : decode cX11_comeOnline 90 = .ok (.iconst (-1), 1) := by decide +kernel
theorem dX11_comeOnline_91 : decode cX11_comeOnline 91 = .ok (.invokevirtual 114, 3) := by decide +kernel
theorem dX11_comeOnline_94 : decode cX11_comeOnline 94 = .ok (.return_, 1) := by decide +kernel
def f_m_comeOnline_77 (m : xM) : Option (xM) :=
     (if xib 53 3530 then (if xib 53 3530 then (Option.bind (f_m_tellEvent 1 (-1) (xu m 1 53 ((m 1 53) + 1))) fun q1 =>
      some q1)
      else none)
      else none)
set_option maxRecDepth 1000000 in
set_option maxHeartbeats 4000000 in
theorem t_m_comeOnline_77 {Γ : xG} {d : Nat} (hd9 : 5 ≤ d) (C : xC Γ lay_M RX11 cX11_comeOnline 3 d) {m9 : xM} (hR : xRv Γ lay_M cX11_comeOnline m9) (m : xM) (h : f_m_comeOnline_77 m = some m9) : xW Γ lay_M 3 77 [(0, .inr (.inr (some 0)))] [] m := by
  unfold f_m_comeOnline_77 at h
  refine x_aload_n C dX11_comeOnline_77 rfl ?_
  refine x_getR C dX11_comeOnline_78 fF_X11_9 rfl rfl ?_
  refine x_bipush C dX11_comeOnline_81 (by decide) ?_
  refine x_dup2 C dX11_comeOnline_83 rfl rfl ?_
  refine x_iaload C dX11_comeOnline_84 rfl h (fun h => ?_)
  refine x_iconst C dX11_comeOnline_85 ?_
  refine x_iadd C dX11_comeOnline_86 ?_
  refine x_iastore C dX11_comeOnline_87 rfl h (fun h => ?_)
  refine x_aload_n C dX11_comeOnline_88 rfl ?_
  refine x_iconst C dX11_comeOnline_89 ?_
  refine x_iconst C dX11_comeOnline_90 ?_
  obtain ⟨q1, hq1, h⟩ := x_bind h
  refine x_callVI C dX11_comeOnline_91 (xin_45 _ (List.mem_of_getElem? (i := 8) rfl)) xy_X11_tellEvent (xi_X11_tellEvent) (xs_X11_tellEvent) (by omega) (by decide) (b := 0) rfl ⟨_, _, rfl⟩ (av := [.inl 1, .inl (-1)]) rfl (Nat.le_of_ble_eq_true rfl) (c_m_tellEvent _ _ _ _ _ hq1) rfl ?_
  exact x_returnV hR dX11_comeOnline_94 h
def f_m_comeOnline_61 : Nat → Int → xM → Option (xM)
  | 0, _, _ => none
  | n + 1, x2, m =>
     (if xw x2 < xw 2 then (Option.bind (f_m_beginAgain x2 m) fun q2 =>
      f_m_comeOnline_61 n (x2 + 1) q2)
      else f_m_comeOnline_77 m)
set_option maxRecDepth 1000000 in
set_option maxHeartbeats 4000000 in
theorem t_m_comeOnline_61 {Γ : xG} {d : Nat} (hd9 : 5 ≤ d) (C : xC Γ lay_M RX11 cX11_comeOnline 3 d) {m9 : xM} (hR : xRv Γ lay_M cX11_comeOnline m9) : ∀ (n : Nat) (x2 : Int) (m : xM), f_m_comeOnline_61 n x2 m = some m9 → xW Γ lay_M 3 61 [(0, .inr (.inr (some 0))), (2, .inl x2)] [] m := by
  intro n
  induction n with
  | zero => intro _ _ h; cases h
  | succ n ih =>
    intro x2 m h
    rw [f_m_comeOnline_61] at h
    refine x_iload_n C dX11_comeOnline_61 rfl ?_
    refine x_iconst C dX11_comeOnline_62 ?_
    refine x_icmp_ge C 77 dX11_comeOnline_63 (by decide) h (fun h => ?_) (fun h => ?_)
    · refine x_loc [(0, .inr (.inr (some 0)))] ⟨rfl, trivial⟩ ?_
      exact t_m_comeOnline_77 hd9 C hR _ h
    · refine x_aload_n C dX11_comeOnline_66 rfl ?_
      refine x_iload_n C dX11_comeOnline_67 rfl ?_
      obtain ⟨q2, hq2, h⟩ := x_bind h
      refine x_callVI C dX11_comeOnline_68 (xin_45 _ (List.mem_of_getElem? (i := 16) rfl)) xy_X11_beginAgain (xi_X11_beginAgain) (xs_X11_beginAgain) (by omega) (by decide) (b := 0) rfl ⟨_, _, rfl⟩ (av := [.inl x2]) rfl (Nat.le_of_ble_eq_true rfl) (c_m_beginAgain _ _ _ _ hq2) rfl ?_
      refine x_iinc C dX11_comeOnline_71 (by decide) rfl ?_
      refine x_goto C 61 dX11_comeOnline_74 (by decide) ?_
      refine x_loc [(0, .inr (.inr (some 0))), (2, .inl (x2 + 1))] ⟨rfl, rfl, trivial⟩ ?_
      exact ih _ _ h
def f_m_comeOnline (m : xM) : Option (xM) :=
     (if xib 2 3530 then (Option.bind (f_m_greatestRate (m 1 2) m) fun q0 =>
      (if xw q0 = xw (-1) then (Option.bind (f_m_hang m) fun q3 =>
      some q3)
      else (if xib 1 3530 then (if xib 3 3530 then (if xib 8 3530 then (if xib 9 3530 then (if xib 20 3530 then f_m_comeOnline_61 fu 0 (xu (xu (xu (xu (xu m 1 1 2) 1 3 q0) 1 8 0) 1 9 0) 1 20 0)
      else none)
      else none)
      else none)
      else none)
      else none)))
      else none)
set_option maxRecDepth 1000000 in
set_option maxHeartbeats 4000000 in
theorem t_m_comeOnline {Γ : xG} {d : Nat} (hd9 : 5 ≤ d) (C : xC Γ lay_M RX11 cX11_comeOnline 3 d) {m9 : xM} (hR : xRv Γ lay_M cX11_comeOnline m9) (m : xM) (h : f_m_comeOnline m = some m9) : xW Γ lay_M 3 0 [(0, .inr (.inr (some 0)))] [] m := by
  unfold f_m_comeOnline at h
  refine x_aload_n C dX11_comeOnline_0 rfl ?_
  refine x_aload_n C dX11_comeOnline_1 rfl ?_
  refine x_getR C dX11_comeOnline_2 fF_X11_9 rfl rfl ?_
  refine x_iconst C dX11_comeOnline_5 ?_
  refine x_iaload C dX11_comeOnline_6 rfl h (fun h => ?_)
  obtain ⟨q0, hq0, h⟩ := x_bind h
  refine x_callVI C dX11_comeOnline_7 (xin_32 _ (List.mem_of_getElem? (i := 22) rfl)) xy_X11_greatestRate (xi_X11_greatestRate) (xs_X11_greatestRate) (by omega) (by decide) (b := 0) rfl ⟨_, _, rfl⟩ (av := [.inl (m 1 2)]) rfl (Nat.le_of_ble_eq_true rfl) (c_m_greatestRate _ _ _ _ hq0) rfl ?_
  refine x_istore_n C dX11_comeOnline_10 (by decide) ?_
  refine x_iload_n C dX11_comeOnline_11 rfl ?_
  refine x_iconst C dX11_comeOnline_12 ?_
  refine x_icmp_ne C 21 dX11_comeOnline_13 (by decide) h (fun h => ?_) (fun h => ?_)
  · refine x_aload_n C dX11_comeOnline_21 rfl ?_
    refine x_getR C dX11_comeOnline_22 fF_X11_9 rfl rfl ?_
    refine x_iconst C dX11_comeOnline_25 ?_
    refine x_iconst C dX11_comeOnline_26 ?_
    refine x_iastore C dX11_comeOnline_27 rfl h (fun h => ?_)
    refine x_aload_n C dX11_comeOnline_28 rfl ?_
    refine x_getR C dX11_comeOnline_29 fF_X11_9 rfl rfl ?_
    refine x_iconst C dX11_comeOnline_32 ?_
    refine x_iload_n C dX11_comeOnline_33 rfl ?_
    refine x_iastore C dX11_comeOnline_34 rfl h (fun h => ?_)
    refine x_aload_n C dX11_comeOnline_35 rfl ?_
    refine x_getR C dX11_comeOnline_36 fF_X11_9 rfl rfl ?_
    refine x_bipush C dX11_comeOnline_39 (by decide) ?_
    refine x_iconst C dX11_comeOnline_41 ?_
    refine x_iastore C dX11_comeOnline_42 rfl h (fun h => ?_)
    refine x_aload_n C dX11_comeOnline_43 rfl ?_
    refine x_getR C dX11_comeOnline_44 fF_X11_9 rfl rfl ?_
    refine x_bipush C dX11_comeOnline_47 (by decide) ?_
    refine x_iconst C dX11_comeOnline_49 ?_
    refine x_iastore C dX11_comeOnline_50 rfl h (fun h => ?_)
    refine x_aload_n C dX11_comeOnline_51 rfl ?_
    refine x_getR C dX11_comeOnline_52 fF_X11_9 rfl rfl ?_
    refine x_bipush C dX11_comeOnline_55 (by decide) ?_
    refine x_iconst C dX11_comeOnline_57 ?_
    refine x_iastore C dX11_comeOnline_58 rfl h (fun h => ?_)
    refine x_iconst C dX11_comeOnline_59 ?_
    refine x_istore_n C dX11_comeOnline_60 (by decide) ?_
    refine x_loc [(0, .inr (.inr (some 0))), (2, .inl 0)] ⟨rfl, rfl, trivial⟩ ?_
    exact t_m_comeOnline_61 hd9 C hR fu _ _ h
  · refine x_aload_n C dX11_comeOnline_16 rfl ?_
    obtain ⟨q3, hq3, h⟩ := x_bind h
    refine x_callVI C dX11_comeOnline_17 (xin_45 _ (List.mem_of_getElem? (i := 4) rfl)) xy_X11_hang (xi_X11_hang) (xs_X11_hang) (by omega) (by decide) (b := 0) rfl ⟨_, _, rfl⟩ (av := []) rfl (Nat.le_of_ble_eq_true rfl) (c_m_hang _ _ _ hq3) rfl ?_
    exact x_returnV hR dX11_comeOnline_20 h
theorem c_m_comeOnline (l : Launch) (m m9 : xM) (h : f_m_comeOnline m = some m9) : xMet l yX11_comeOnline cX11_comeOnline 3 none 5 lay_M [.inr (.inr (some 0))] m none m9 :=
  xMet_v (by decide +kernel) (Nat.le_of_ble_eq_true rfl) (fun Γ C hR hl9 => t_m_comeOnline (Nat.le_refl _) C hR m h)
/-! ===== yX11_passTraining ===== -/
theorem xy_X11_comeOnline : xY yX11_comeOnline cX11_comeOnline 3 none 0 := ⟨(xin_45 _ (List.mem_of_getElem? (i := 15) rfl)), (xin_1 _ (List.mem_of_getElem? (i := 5) rfl)), by decide, by decide, by decide +kernel⟩
theorem xi_X11_comeOnline : Cond.instanceMethod yX11_comeOnline ∈ wsL_law := (xin_45 _ (List.mem_of_getElem? (i := 13) rfl))
theorem xs_X11_comeOnline : Cond.selects yX11_comeOnline.cls yX11_comeOnline yX11_comeOnline ∈ wsL_law := (xin_45 _ (List.mem_of_getElem? (i := 14) rfl))
theorem dX11_passTraining_0 : decode cX11_passTraining 0 = .ok (.aload_n 0, 1) := by decide +kernel
theorem dX11_passTraining_1 : decode cX11_passTraining 1 = .ok (.getfield 9, 3) := by decide +kernel
theorem dX11_passTraining_4 : decode cX11_passTraining 4 = .ok (.iconst 2, 1) := by decide +kernel
theorem dX11_passTraining_5 : decode cX11_passTraining 5 = .ok (.iaload, 1) := by decide +kernel
theorem dX11_passTraining_6 : decode cX11_passTraining 6 = .ok (.ifCond .ne 56, 3) := by decide +kernel
theorem dX11_passTraining_9 : decode cX11_passTraining 9 = .ok (.aload_n 0, 1) := by decide +kernel
theorem dX11_passTraining_10 : decode cX11_passTraining 10 = .ok (.getfield 9, 3) := by decide +kernel
theorem dX11_passTraining_13 : decode cX11_passTraining 13 = .ok (.iconst 5, 1) := by decide +kernel
theorem dX11_passTraining_14 : decode cX11_passTraining 14 = .ok (.aload_n 0, 1) := by decide +kernel
theorem dX11_passTraining_15 : decode cX11_passTraining 15 = .ok (.getfield 9, 3) := by decide +kernel
theorem dX11_passTraining_18 : decode cX11_passTraining 18 = .ok (.bipush 21, 2) := by decide +kernel
theorem dX11_passTraining_20 : decode cX11_passTraining 20 = .ok (.aload_n 0, 1) := by decide +kernel
theorem dX11_passTraining_21 : decode cX11_passTraining 21 = .ok (.getfield 9, 3) := by decide +kernel
theorem dX11_passTraining_24 : decode cX11_passTraining 24 = .ok (.iconst 4, 1) := by decide +kernel
theorem dX11_passTraining_25 : decode cX11_passTraining 25 = .ok (.iaload, 1) := by decide +kernel
theorem dX11_passTraining_26 : decode cX11_passTraining 26 = .ok (.iadd, 1) := by decide +kernel
theorem dX11_passTraining_27 : decode cX11_passTraining 27 = .ok (.iaload, 1) := by decide +kernel
theorem dX11_passTraining_28 : decode cX11_passTraining 28 = .ok (.iastore, 1) := by decide +kernel
theorem dX11_passTraining_29 : decode cX11_passTraining 29 = .ok (.aload_n 0, 1) := by decide +kernel
theorem dX11_passTraining_30 : decode cX11_passTraining 30 = .ok (.getfield 9, 3) := by decide +kernel
theorem dX11_passTraining_33 : decode cX11_passTraining 33 = .ok (.bipush 6, 2) := by decide +kernel
theorem dX11_passTraining_35 : decode cX11_passTraining 35 = .ok (.dup2, 1) := by decide +kernel
theorem dX11_passTraining_36 : decode cX11_passTraining 36 = .ok (.iaload, 1) := by decide +kernel
theorem dX11_passTraining_37 : decode cX11_passTraining 37 = .ok (.iconst 1, 1) := by decide +kernel
theorem dX11_passTraining_38 : decode cX11_passTraining 38 = .ok (.iadd, 1) := by decide +kernel
theorem dX11_passTraining_39 : decode cX11_passTraining 39 = .ok (.iastore, 1) := by decide +kernel
theorem dX11_passTraining_40 : decode cX11_passTraining 40 = .ok (.aload_n 0, 1) := by decide +kernel
theorem dX11_passTraining_41 : decode cX11_passTraining 41 = .ok (.getfield 9, 3) := by decide +kernel
theorem dX11_passTraining_44 : decode cX11_passTraining 44 = .ok (.bipush 6, 2) := by decide +kernel
theorem dX11_passTraining_46 : decode cX11_passTraining 46 = .ok (.iaload, 1) := by decide +kernel
theorem dX11_passTraining_47 : decode cX11_passTraining 47 = .ok (.aload_n 0, 1) := by decide +kernel
theorem dX11_passTraining_48 : decode cX11_passTraining 48 = .ok (.getfield 9, 3) := by decide +kernel
theorem dX11_passTraining_51 : decode cX11_passTraining 51 = .ok (.bipush 12, 2) := by decide +kernel
theorem dX11_passTraining_53 : decode cX11_passTraining 53 = .ok (.iaload, 1) := by decide +kernel
theorem dX11_passTraining_54 : decode cX11_passTraining 54 = .ok (.if_icmp .le 7, 3) := by decide +kernel
theorem dX11_passTraining_57 : decode cX11_passTraining 57 = .ok (.aload_n 0, 1) := by decide +kernel
theorem dX11_passTraining_58 : decode cX11_passTraining 58 = .ok (.invokevirtual 144, 3) := by decide +kernel
theorem dX11_passTraining_61 : decode cX11_passTraining 61 = .ok (.return_, 1) := by decide +kernel
theorem dX11_passTraining_62 : decode cX11_passTraining 62 = .ok (.aload_n 0, 1) := by decide +kernel
theorem dX11_passTraining_63 : decode cX11_passTraining 63 = .ok (.getfield 9, 3) := by decide +kernel
theorem dX11_passTraining_66 : decode cX11_passTraining 66 = .ok (.iconst 5, 1) := by decide +kernel
theorem dX11_passTraining_67 : decode cX11_passTraining 67 = .ok (.dup2, 1) := by decide +kernel
theorem dX11_passTraining_68 : decode cX11_passTraining 68 = .ok (.iaload, 1) := by decide +kernel
theorem dX11_passTraining_69 : decode cX11_passTraining 69 = .ok (.iconst 1, 1) := by decide +kernel
theorem dX11_passTraining_70 : decode cX11_passTraining 70 = .ok (.isub, 1) := by decide +kernel
theorem dX11_passTraining_71 : decode cX11_passTraining 71 = .ok (.iastore, 1) := by decide +kernel
theorem dX11_passTraining_72 : decode cX11_passTraining 72 = .ok (.aload_n 0, 1) := by decide +kernel
theorem dX11_passTraining_73 : decode cX11_passTraining 73 = .ok (.getfield 9, 3) := by decide +kernel
theorem dX11_passTraining_76 : decode cX11_passTraining 76 = .ok (.iconst 5, 1) := by decide +kernel
theorem dX11_passTraining_77 : decode cX11_passTraining 77 = .ok (.iaload, 1) := by decide +kernel
theorem dX11_passTraining_78 : decode cX11_passTraining 78 = .ok (.ifCond .le 4, 3) := by decide +kernel
theorem dX11_passTraining_81 : decode cX11_passTraining 81 = .ok (.return_, 1) := by decide +kernel
theorem dX11_passTraining_82 : decode cX11_passTraining 82 = .ok (.aload_n 0, 1) := by decide +kernel
theorem dX11_passTraining_83 : decode cX11_passTraining 83 = .ok (.getfield 9, 3) := by decide +kernel
theorem dX11_passTraining_86 : decode cX11_passTraining 86 = .ok (.iconst 4, 1) := by decide +kernel
theorem dX11_passTraining_87 : decode cX11_passTraining 87 = .ok (.iaload, 1) := by decide +kernel
theorem dX11_passTraining_88 : decode cX11_passTraining 88 = .ok (.iconst 3, 1) := by decide +kernel
theorem dX11_passTraining_89 : decode cX11_passTraining 89 = .ok (.if_icmp .ne 8, 3) := by decide +kernel
theorem dX11_passTraining_92 : decode cX11_passTraining 92 = .ok (.aload_n 0, 1) := by decide +kernel
theorem dX11_passTraining_93 : decode cX11_passTraining 93 = .ok (.invokevirtual 150, 3) := by decide +kernel
theorem dX11_passTraining_96 : decode cX11_passTraining 96 = .ok (.return_, 1) := by decide +kernel
theorem dX11_passTraining_97 : decode cX11_passTraining 97 = .ok (.aload_n 0, 1) := by decide +kernel
theorem dX11_passTraining_98 : decode cX11_passTraining 98 = .ok (.getfield 9, 3) := by decide +kernel
theorem dX11_passTraining_101 : decode cX11_passTraining 101 = .ok (.iconst 4, 1) := by decide +kernel
theorem dX11_passTraining_102 : decode cX11_passTraining 102 = .ok (.dup2, 1) := by decide +kernel
theorem dX11_passTraining_103 : decode cX11_passTraining 103 = .ok (.iaload, 1) := by decide +kernel
theorem dX11_passTraining_104 : decode cX11_passTraining 104 = .ok (.iconst 1, 1) := by decide +kernel
theorem dX11_passTraining_105 : decode cX11_passTraining 105 = .ok (.iadd, 1) := by decide +kernel
theorem dX11_passTraining_106 : decode cX11_passTraining 106 = .ok (.iastore, 1) := by decide +kernel
theorem dX11_passTraining_107 : decode cX11_passTraining 107 = .ok (.aload_n 0, 1) := by decide +kernel
theorem dX11_passTraining_108 : decode cX11_passTraining 108 = .ok (.getfield 9, 3) := by decide +kernel
theorem dX11_passTraining_111 : decode cX11_passTraining 111 = .ok (.iconst 5, 1) := by decide +kernel
theorem dX11_passTraining_112 : decode cX11_passTraining 112 = .ok (.aload_n 0, 1) := by decide +kernel
theorem dX11_passTraining_113 : decode cX11_passTraining 113 = .ok (.getfield 9, 3) := by decide +kernel
theorem dX11_passTraining_116 : decode cX11_passTraining 116 = .ok (.bipush 21, 2) := by decide +kernel
theorem dX11_passTraining_118 : decode cX11_passTraining 118 = .ok (.aload_n 0, 1) := by decide +kernel
theorem dX11_passTraining_119 : decode cX11_passTraining 119 = .ok (.getfield 9, 3) := by decide +kernel
theorem dX11_passTraining_122 : decode cX11_passTraining 122 = .ok (.iconst 4, 1) := by decide +kernel
theorem dX11_passTraining_123 : decode cX11_passTraining 123 = .ok (.iaload, 1) := by decide +kernel
theorem dX11_passTraining_124 : decode cX11_passTraining 124 = .ok (.iadd, 1) := by decide +kernel
theorem dX11_passTraining_125 : decode cX11_passTraining 125 = .ok (.iaload, 1) := by decide +kernel
theorem dX11_passTraining_126 : decode cX11_passTraining 126 = .ok (.iastore, 1) := by decide +kernel
theorem dX11_passTraining_127 : decode cX11_passTraining 127 = .ok (.return_, 1) := by decide +kernel
def f_m_passTraining (m : xM) : Option (xM) :=
     (if xib 2 3530 then (if xw (m 1 2) = 0 then (if xib 4 3530 then (if xib (21 + (m 1 4)) 3530 then (if xib 5 3530 then (if xib 6 3530 then (if xib 6 3530 then (if xib 6 3530 then (if xib 12 3530 then (if xw (m 1 12) < xw ((m 1 6) + 1) then (Option.bind (f_m_hang (xu (xu m 1 5 (m 1 (xix (21 + (m 1 4))))) 1 6 ((m 1 6) + 1))) fun q1 =>
      some q1)
      else some (xu (xu m 1 5 (m 1 (xix (21 + (m 1 4))))) 1 6 ((m 1 6) + 1)))
      else none)
      else none)
      else none)
      else none)
      else none)
      else none)
      else none)
      else (if xib 5 3530 then (if xib 5 3530 then (if xib 5 3530 then (if 0 < xw ((m 1 5) - 1) then some (xu m 1 5 ((m 1 5) - 1))
      else (if xib 4 3530 then (if xw (m 1 4) = xw 3 then (Option.bind (f_m_comeOnline (xu m 1 5 ((m 1 5) - 1))) fun q0 =>
      some q0)
      else (if xib 4 3530 then (if xib 4 3530 then (if xib 4 3530 then (if xib (21 + ((m 1 4) + 1)) 3530 then (if xib 5 3530 then some (xu (xu (xu m 1 5 ((m 1 5) - 1)) 1 4 ((m 1 4) + 1)) 1 5 ((xu (xu m 1 5 ((m 1 5) - 1)) 1 4 ((m 1 4) + 1)) 1 (xix (21 + ((m 1 4) + 1)))))
      else none)
      else none)
      else none)
      else none)
      else none))
      else none))
      else none)
      else none)
      else none))
      else none)
set_option maxRecDepth 1000000 in
set_option maxHeartbeats 4000000 in
theorem t_m_passTraining {Γ : xG} {d : Nat} (hd9 : 6 ≤ d) (C : xC Γ lay_M RX11 cX11_passTraining 1 d) {m9 : xM} (hR : xRv Γ lay_M cX11_passTraining m9) (m : xM) (h : f_m_passTraining m = some m9) : xW Γ lay_M 1 0 [(0, .inr (.inr (some 0)))] [] m := by
  unfold f_m_passTraining at h
  refine x_aload_n C dX11_passTraining_0 rfl ?_
  refine x_getR C dX11_passTraining_1 fF_X11_9 rfl rfl ?_
  refine x_iconst C dX11_passTraining_4 ?_
  refine x_iaload C dX11_passTraining_5 rfl h (fun h => ?_)
  refine x_if_ne C 62 dX11_passTraining_6 (by decide) h (fun h => ?_) (fun h => ?_)
  · refine x_aload_n C dX11_passTraining_62 rfl ?_
    refine x_getR C dX11_passTraining_63 fF_X11_9 rfl rfl ?_
    refine x_iconst C dX11_passTraining_66 ?_
    refine x_dup2 C dX11_passTraining_67 rfl rfl ?_
    refine x_iaload C dX11_passTraining_68 rfl h (fun h => ?_)
    refine x_iconst C dX11_passTraining_69 ?_
    refine x_isub C dX11_passTraining_70 ?_
    refine x_iastore C dX11_passTraining_71 rfl h (fun h => ?_)
    refine x_aload_n C dX11_passTraining_72 rfl ?_
    refine x_getR C dX11_passTraining_73 fF_X11_9 rfl rfl ?_
    refine x_iconst C dX11_passTraining_76 ?_
    refine x_iaload C dX11_passTraining_77 rfl h (fun h => ?_)
    refine x_if_le C 82 dX11_passTraining_78 (by decide) h (fun h => ?_) (fun h => ?_)
    · refine x_aload_n C dX11_passTraining_82 rfl ?_
      refine x_getR C dX11_passTraining_83 fF_X11_9 rfl rfl ?_
      refine x_iconst C dX11_passTraining_86 ?_
      refine x_iaload C dX11_passTraining_87 rfl h (fun h => ?_)
      refine x_iconst C dX11_passTraining_88 ?_
      refine x_icmp_ne C 97 dX11_passTraining_89 (by decide) h (fun h => ?_) (fun h => ?_)
      · refine x_aload_n C dX11_passTraining_97 rfl ?_
        refine x_getR C dX11_passTraining_98 fF_X11_9 rfl rfl ?_
        refine x_iconst C dX11_passTraining_101 ?_
        refine x_dup2 C dX11_passTraining_102 rfl rfl ?_
        refine x_iaload C dX11_passTraining_103 rfl h (fun h => ?_)
        refine x_iconst C dX11_passTraining_104 ?_
        refine x_iadd C dX11_passTraining_105 ?_
        refine x_iastore C dX11_passTraining_106 rfl h (fun h => ?_)
        refine x_aload_n C dX11_passTraining_107 rfl ?_
        refine x_getR C dX11_passTraining_108 fF_X11_9 rfl rfl ?_
        refine x_iconst C dX11_passTraining_111 ?_
        refine x_aload_n C dX11_passTraining_112 rfl ?_
        refine x_getR C dX11_passTraining_113 fF_X11_9 rfl rfl ?_
        refine x_bipush C dX11_passTraining_116 (by decide) ?_
        refine x_aload_n C dX11_passTraining_118 rfl ?_
        refine x_getR C dX11_passTraining_119 fF_X11_9 rfl rfl ?_
        refine x_iconst C dX11_passTraining_122 ?_
        refine x_iaload C dX11_passTraining_123 rfl h (fun h => ?_)
        refine x_iadd C dX11_passTraining_124 ?_
        refine x_iaload C dX11_passTraining_125 rfl h (fun h => ?_)
        refine x_iastore C dX11_passTraining_126 rfl h (fun h => ?_)
        exact x_returnV hR dX11_passTraining_127 h
      · refine x_aload_n C dX11_passTraining_92 rfl ?_
        obtain ⟨q0, hq0, h⟩ := x_bind h
        refine x_callVI C dX11_passTraining_93 (xin_45 _ (List.mem_of_getElem? (i := 12) rfl)) xy_X11_comeOnline (xi_X11_comeOnline) (xs_X11_comeOnline) (by omega) (by decide) (b := 0) rfl ⟨_, _, rfl⟩ (av := []) rfl (Nat.le_of_ble_eq_true rfl) (c_m_comeOnline _ _ _ hq0) rfl ?_
        exact x_returnV hR dX11_passTraining_96 h
    · exact x_returnV hR dX11_passTraining_81 h
  · refine x_aload_n C dX11_passTraining_9 rfl ?_
    refine x_getR C dX11_passTraining_10 fF_X11_9 rfl rfl ?_
    refine x_iconst C dX11_passTraining_13 ?_
    refine x_aload_n C dX11_passTraining_14 rfl ?_
    refine x_getR C dX11_passTraining_15 fF_X11_9 rfl rfl ?_
    refine x_bipush C dX11_passTraining_18 (by decide) ?_
    refine x_aload_n C dX11_passTraining_20 rfl ?_
    refine x_getR C dX11_passTraining_21 fF_X11_9 rfl rfl ?_
    refine x_iconst C dX11_passTraining_24 ?_
    refine x_iaload C dX11_passTraining_25 rfl h (fun h => ?_)
    refine x_iadd C dX11_passTraining_26 ?_
    refine x_iaload C dX11_passTraining_27 rfl h (fun h => ?_)
    refine x_iastore C dX11_passTraining_28 rfl h (fun h => ?_)
    refine x_aload_n C dX11_passTraining_29 rfl ?_
    refine x_getR C dX11_passTraining_30 fF_X11_9 rfl rfl ?_
    refine x_bipush C dX11_passTraining_33 (by decide) ?_
    refine x_dup2 C dX11_passTraining_35 rfl rfl ?_
    refine x_iaload C dX11_passTraining_36 rfl h (fun h => ?_)
    refine x_iconst C dX11_passTraining_37 ?_
    refine x_iadd C dX11_passTraining_38 ?_
    refine x_iastore C dX11_passTraining_39 rfl h (fun h => ?_)
    refine x_aload_n C dX11_passTraining_40 rfl ?_
    refine x_getR C dX11_passTraining_41 fF_X11_9 rfl rfl ?_
    refine x_bipush C dX11_passTraining_44 (by decide) ?_
    refine x_iaload C dX11_passTraining_46 rfl h (fun h => ?_)
    refine x_aload_n C dX11_passTraining_47 rfl ?_
    refine x_getR C dX11_passTraining_48 fF_X11_9 rfl rfl ?_
    refine x_bipush C dX11_passTraining_51 (by decide) ?_
    refine x_iaload C dX11_passTraining_53 rfl h (fun h => ?_)
    refine x_icmp_le C 61 dX11_passTraining_54 (by decide) h (fun h => ?_) (fun h => ?_)
    · exact x_returnV hR dX11_passTraining_61 h
    · refine x_aload_n C dX11_passTraining_57 rfl ?_
      obtain ⟨q1, hq1, h⟩ := x_bind h
      refine x_callVI C dX11_passTraining_58 (xin_45 _ (List.mem_of_getElem? (i := 4) rfl)) xy_X11_hang (xi_X11_hang) (xs_X11_hang) (by omega) (by decide) (b := 0) rfl ⟨_, _, rfl⟩ (av := []) rfl (Nat.le_of_ble_eq_true rfl) (c_m_hang _ _ _ hq1) rfl ?_
      exact x_returnV hR dX11_passTraining_61 h
theorem c_m_passTraining (l : Launch) (m m9 : xM) (h : f_m_passTraining m = some m9) : xMet l yX11_passTraining cX11_passTraining 1 none 6 lay_M [.inr (.inr (some 0))] m none m9 :=
  xMet_v (by decide +kernel) (Nat.le_of_ble_eq_true rfl) (fun Γ C hR hl9 => t_m_passTraining (Nat.le_refl _) C hR m h)
/-! ===== yX11_passLoss ===== -/
theorem xy_X11_train : xY yX11_train cX11_train 2 none 1 := ⟨(xin_49 _ (List.mem_of_getElem? (i := 2) rfl)), (xin_1 _ (List.mem_of_getElem? (i := 5) rfl)), by decide, by decide, by decide +kernel⟩
theorem xi_X11_train : Cond.instanceMethod yX11_train ∈ wsL_law := (xin_49 _ (List.mem_of_getElem? (i := 0) rfl))
theorem xs_X11_train : Cond.selects yX11_train.cls yX11_train yX11_train ∈ wsL_law := (xin_49 _ (List.mem_of_getElem? (i := 1) rfl))
theorem dX11_passLoss_0 : decode cX11_passLoss 0 = .ok (.aload_n 0, 1) := by decide +kernel
theorem dX11_passLoss_1 : decode cX11_passLoss 1 = .ok (.getfield 9, 3) := by decide +kernel
theorem dX11_passLoss_4 : decode cX11_passLoss 4 = .ok (.iconst 2, 1) := by decide +kernel
theorem dX11_passLoss_5 : decode cX11_passLoss 5 = .ok (.iaload, 1) := by decide +kernel
theorem dX11_passLoss_6 : decode cX11_passLoss 6 = .ok (.ifCond .le 9, 3) := by decide +kernel
theorem dX11_passLoss_9 : decode cX11_passLoss 9 = .ok (.aload_n 0, 1) := by decide +kernel
theorem dX11_passLoss_10 : decode cX11_passLoss 10 = .ok (.iconst 2, 1) := by decide +kernel
theorem dX11_passLoss_11 : decode cX11_passLoss 11 = .ok (.invokevirtual 153, 3) := by decide +kernel
theorem dX11_passLoss_14 : decode cX11_passLoss 14 = .ok (.return_, 1) := by decide +kernel
theorem dX11_passLoss_15 : decode cX11_passLoss 15 = .ok (.aload_n 0, 1) := by decide +kernel
theorem dX11_passLoss_16 : decode cX11_passLoss 16 = .ok (.getfield 9, 3) := by decide +kernel
theorem dX11_passLoss_19 : decode cX11_passLoss 19 = .ok (.bipush 7, 2) := by decide +kernel
theorem dX11_passLoss_21 : decode cX11_passLoss 21 = .ok (.dup2, 1) := by decide +kernel
theorem dX11_passLoss_22 : decode cX11_passLoss 22 = .ok (.iaload, 1) := by decide +kernel
theorem dX11_passLoss_23 : decode cX11_passLoss 23 = .ok (.iconst 1, 1) := by decide +kernel
theorem dX11_passLoss_24 : decode cX11_passLoss 24 = .ok (.iadd, 1) := by decide +kernel
theorem dX11_passLoss_25 : decode cX11_passLoss 25 = .ok (.iastore, 1) := by decide +kernel
theorem dX11_passLoss_26 : decode cX11_passLoss 26 = .ok (.aload_n 0, 1) := by decide +kernel
theorem dX11_passLoss_27 : decode cX11_passLoss 27 = .ok (.getfield 9, 3) := by decide +kernel
theorem dX11_passLoss_30 : decode cX11_passLoss 30 = .ok (.bipush 7, 2) := by decide +kernel
theorem dX11_passLoss_32 : decode cX11_passLoss 32 = .ok (.iaload, 1) := by decide +kernel
theorem dX11_passLoss_33 : decode cX11_passLoss 33 = .ok (.aload_n 0, 1) := by decide +kernel
theorem dX11_passLoss_34 : decode cX11_passLoss 34 = .ok (.getfield 9, 3) := by decide +kernel
theorem dX11_passLoss_37 : decode cX11_passLoss 37 = .ok (.bipush 13, 2) := by decide +kernel
theorem dX11_passLoss_39 : decode cX11_passLoss 39 = .ok (.iaload, 1) := by decide +kernel
theorem dX11_passLoss_40 : decode cX11_passLoss 40 = .ok (.if_icmp .le 7, 3) := by decide +kernel
theorem dX11_passLoss_43 : decode cX11_passLoss 43 = .ok (.aload_n 0, 1) := by decide +kernel
theorem dX11_passLoss_44 : decode cX11_passLoss 44 = .ok (.invokevirtual 144, 3) := by decide +kernel
theorem dX11_passLoss_47 : decode cX11_passLoss 47 = .ok (.return_, 1) := by decide +kernel
def f_m_passLoss (m : xM) : Option (xM) :=
     (if xib 2 3530 then (if 0 < xw (m 1 2) then (Option.bind (f_m_train 2 m) fun q1 =>
      some q1)
      else (if xib 7 3530 then (if xib 7 3530 then (if xib 7 3530 then (if xib 13 3530 then (if xw (m 1 13) < xw ((m 1 7) + 1) then (Option.bind (f_m_hang (xu m 1 7 ((m 1 7) + 1))) fun q0 =>
      some q0)
      else some (xu m 1 7 ((m 1 7) + 1)))
      else none)
      else none)
      else none)
      else none))
      else none)
set_option maxRecDepth 1000000 in
set_option maxHeartbeats 4000000 in
theorem t_m_passLoss {Γ : xG} {d : Nat} (hd9 : 5 ≤ d) (C : xC Γ lay_M RX11 cX11_passLoss 1 d) {m9 : xM} (hR : xRv Γ lay_M cX11_passLoss m9) (m : xM) (h : f_m_passLoss m = some m9) : xW Γ lay_M 1 0 [(0, .inr (.inr (some 0)))] [] m := by
  unfold f_m_passLoss at h
  refine x_aload_n C dX11_passLoss_0 rfl ?_
  refine x_getR C dX11_passLoss_1 fF_X11_9 rfl rfl ?_
  refine x_iconst C dX11_passLoss_4 ?_
  refine x_iaload C dX11_passLoss_5 rfl h (fun h => ?_)
  refine x_if_le C 15 dX11_passLoss_6 (by decide) h (fun h => ?_) (fun h => ?_)
  · refine x_aload_n C dX11_passLoss_15 rfl ?_
    refine x_getR C dX11_passLoss_16 fF_X11_9 rfl rfl ?_
    refine x_bipush C dX11_passLoss_19 (by decide) ?_
    refine x_dup2 C dX11_passLoss_21 rfl rfl ?_
    refine x_iaload C dX11_passLoss_22 rfl h (fun h => ?_)
    refine x_iconst C dX11_passLoss_23 ?_
    refine x_iadd C dX11_passLoss_24 ?_
    refine x_iastore C dX11_passLoss_25 rfl h (fun h => ?_)
    refine x_aload_n C dX11_passLoss_26 rfl ?_
    refine x_getR C dX11_passLoss_27 fF_X11_9 rfl rfl ?_
    refine x_bipush C dX11_passLoss_30 (by decide) ?_
    refine x_iaload C dX11_passLoss_32 rfl h (fun h => ?_)
    refine x_aload_n C dX11_passLoss_33 rfl ?_
    refine x_getR C dX11_passLoss_34 fF_X11_9 rfl rfl ?_
    refine x_bipush C dX11_passLoss_37 (by decide) ?_
    refine x_iaload C dX11_passLoss_39 rfl h (fun h => ?_)
    refine x_icmp_le C 47 dX11_passLoss_40 (by decide) h (fun h => ?_) (fun h => ?_)
    · exact x_returnV hR dX11_passLoss_47 h
    · refine x_aload_n C dX11_passLoss_43 rfl ?_
      obtain ⟨q0, hq0, h⟩ := x_bind h
      refine x_callVI C dX11_passLoss_44 (xin_45 _ (List.mem_of_getElem? (i := 4) rfl)) xy_X11_hang (xi_X11_hang) (xs_X11_hang) (by omega) (by decide) (b := 0) rfl ⟨_, _, rfl⟩ (av := []) rfl (Nat.le_of_ble_eq_true rfl) (c_m_hang _ _ _ hq0) rfl ?_
      exact x_returnV hR dX11_passLoss_47 h
  · refine x_aload_n C dX11_passLoss_9 rfl ?_
    refine x_iconst C dX11_passLoss_10 ?_
    obtain ⟨q1, hq1, h⟩ := x_bind h
    refine x_callVI C dX11_passLoss_11 (xin_48 _ (List.mem_of_getElem? (i := 23) rfl)) xy_X11_train (xi_X11_train) (xs_X11_train) (by omega) (by decide) (b := 0) rfl ⟨_, _, rfl⟩ (av := [.inl 2]) rfl (Nat.le_of_ble_eq_true rfl) (c_m_train _ _ _ _ hq1) rfl ?_
    exact x_returnV hR dX11_passLoss_14 h
theorem c_m_passLoss (l : Launch) (m m9 : xM) (h : f_m_passLoss m = some m9) : xMet l yX11_passLoss cX11_passLoss 1 none 5 lay_M [.inr (.inr (some 0))] m none m9 :=
  xMet_v (by decide +kernel) (Nat.le_of_ble_eq_true rfl) (fun Γ C hR hl9 => t_m_passLoss (Nat.le_refl _) C hR m h)
/-! ===== yX11_loseCarrier ===== -/
theorem dX11_loseCarrier_0 : decode cX11_loseCarrier 0 = .ok (.aload_n 0, 1) := by decide +kernel
theorem dX11_loseCarrier_1 : decode cX11_loseCarrier 1 = .ok (.getfield 9, 3) := by decide +kernel
theorem dX11_loseCarrier_4 : decode cX11_loseCarrier 4 = .ok (.iconst 1, 1) := by decide +kernel
theorem dX11_loseCarrier_5 : decode cX11_loseCarrier 5 = .ok (.iconst 3, 1) := by decide +kernel
theorem dX11_loseCarrier_6 : decode cX11_loseCarrier 6 = .ok (.iastore, 1) := by decide +kernel
theorem dX11_loseCarrier_7 : decode cX11_loseCarrier 7 = .ok (.aload_n 0, 1) := by decide +kernel
theorem dX11_loseCarrier_8 : decode cX11_loseCarrier 8 = .ok (.getfield 9, 3) := by decide +kernel
theorem dX11_loseCarrier_11 : decode cX11_loseCarrier 11 = .ok (.bipush 7, 2) := by decide +kernel
theorem dX11_loseCarrier_13 : decode cX11_loseCarrier 13 = .ok (.iconst 1, 1) := by decide +kernel
theorem dX11_loseCarrier_14 : decode cX11_loseCarrier 14 = .ok (.iastore, 1) := by decide +kernel
theorem dX11_loseCarrier_15 : decode cX11_loseCarrier 15 = .ok (.aload_n 0, 1) := by decide +kernel
theorem dX11_loseCarrier_16 : decode cX11_loseCarrier 16 = .ok (.getfield 9, 3) := by decide +kernel
theorem dX11_loseCarrier_19 : decode cX11_loseCarrier 19 = .ok (.bipush 20, 2) := by decide +kernel
theorem dX11_loseCarrier_21 : decode cX11_loseCarrier 21 = .ok (.iconst 0, 1) := by decide +kernel
theorem dX11_loseCarrier_22 : decode cX11_loseCarrier 22 = .ok (.iastore, 1) := by decide +kernel
theorem dX11_loseCarrier_23 : decode cX11_loseCarrier 23 = .ok (.aload_n 0, 1) := by decide +kernel
theorem dX11_loseCarrier_24 : decode cX11_loseCarrier 24 = .ok (.getfield 9, 3) := by decide +kernel
theorem dX11_loseCarrier_27 : decode cX11_loseCarrier 27 = .ok (.bipush 51, 2) := by decide +kernel
theorem dX11_loseCarrier_29 : decode cX11_loseCarrier 29 = .ok (.dup2, 1) := by decide +kernel
theorem dX11_loseCarrier_30 : decode cX11_loseCarrier 30 = .ok (.iaload, 1) := by decide +kernel
theorem dX11_loseCarrier_31 : decode cX11_loseCarrier 31 = .ok (.iconst 1, 1) := by decide +kernel
theorem dX11_loseCarrier_32 : decode cX11_loseCarrier 32 = .ok (.iadd, 1) := by decide +kernel
theorem dX11_loseCarrier_33 : decode cX11_loseCarrier 33 = .ok (.iastore, 1) := by decide +kernel
theorem dX11_loseCarrier_34 : decode cX11_loseCarrier 34 = .ok (.aload_n 0, 1) := by decide +kernel
theorem dX11_loseCarrier_35 : decode cX11_loseCarrier 35 = .ok (.iconst 4, 1) := by decide +kernel
theorem dX11_loseCarrier_36 : decode cX11_loseCarrier 36 = .ok (.iconst (-1), 1) := by decide +kernel
theorem dX11_loseCarrier_37 : decode cX11_loseCarrier 37 = .ok (.invokevirtual 114, 3) := by decide +kernel
theorem dX11_loseCarrier_40 : decode cX11_loseCarrier 40 = .ok (.aload_n 0, 1) := by decide +kernel
theorem dX11_loseCarrier_41 : decode cX11_loseCarrier 41 = .ok (.getfield 9, 3) := by decide +kernel
theorem dX11_loseCarrier_44 : decode cX11_loseCarrier 44 = .ok (.bipush 13, 2) := by decide +kernel
theorem dX11_loseCarrier_46 : decode cX11_loseCarrier 46 = .ok (.iaload, 1) := by decide +kernel
theorem dX11_loseCarrier_47 : decode cX11_loseCarrier 47 = .ok (.iconst 1, 1) := by decide +kernel
theorem dX11_loseCarrier_48 : decode cX11_loseCarrier 48 = .ok (.if_icmp .ge 7, 3) := by decide +kernel
theorem dX11_loseCarrier_51 : decode cX11_loseCarrier 51 = .ok (.aload_n 0, 1) := by decide +kernel
theorem dX11_loseCarrier_52 : decode cX11_loseCarrier 52 = .ok (.invokevirtual 144, 3) := by decide +kernel
theorem dX11_loseCarrier_55 : decode cX11_loseCarrier 55 = .ok (.return_, 1) := by decide +kernel
def f_m_loseCarrier (m : xM) : Option (xM) :=
     (if xib 1 3530 then (if xib 7 3530 then (if xib 20 3530 then (if xib 51 3530 then (if xib 51 3530 then (Option.bind (f_m_tellEvent 4 (-1) (xu (xu (xu (xu m 1 1 3) 1 7 1) 1 20 0) 1 51 ((m 1 51) + 1))) fun q0 =>
      (if xib 13 3530 then (if xw (q0 1 13) < xw 1 then (Option.bind (f_m_hang q0) fun q1 =>
      some q1)
      else some q0)
      else none))
      else none)
      else none)
      else none)
      else none)
      else none)
set_option maxRecDepth 1000000 in
set_option maxHeartbeats 4000000 in
theorem t_m_loseCarrier {Γ : xG} {d : Nat} (hd9 : 5 ≤ d) (C : xC Γ lay_M RX11 cX11_loseCarrier 1 d) {m9 : xM} (hR : xRv Γ lay_M cX11_loseCarrier m9) (m : xM) (h : f_m_loseCarrier m = some m9) : xW Γ lay_M 1 0 [(0, .inr (.inr (some 0)))] [] m := by
  unfold f_m_loseCarrier at h
  refine x_aload_n C dX11_loseCarrier_0 rfl ?_
  refine x_getR C dX11_loseCarrier_1 fF_X11_9 rfl rfl ?_
  refine x_iconst C dX11_loseCarrier_4 ?_
  refine x_iconst C dX11_loseCarrier_5 ?_
  refine x_iastore C dX11_loseCarrier_6 rfl h (fun h => ?_)
  refine x_aload_n C dX11_loseCarrier_7 rfl ?_
  refine x_getR C dX11_loseCarrier_8 fF_X11_9 rfl rfl ?_
  refine x_bipush C dX11_loseCarrier_11 (by decide) ?_
  refine x_iconst C dX11_loseCarrier_13 ?_
  refine x_iastore C dX11_loseCarrier_14 rfl h (fun h => ?_)
  refine x_aload_n C dX11_loseCarrier_15 rfl ?_
  refine x_getR C dX11_loseCarrier_16 fF_X11_9 rfl rfl ?_
  refine x_bipush C dX11_loseCarrier_19 (by decide) ?_
  refine x_iconst C dX11_loseCarrier_21 ?_
  refine x_iastore C dX11_loseCarrier_22 rfl h (fun h => ?_)
  refine x_aload_n C dX11_loseCarrier_23 rfl ?_
  refine x_getR C dX11_loseCarrier_24 fF_X11_9 rfl rfl ?_
  refine x_bipush C dX11_loseCarrier_27 (by decide) ?_
  refine x_dup2 C dX11_loseCarrier_29 rfl rfl ?_
  refine x_iaload C dX11_loseCarrier_30 rfl h (fun h => ?_)
  refine x_iconst C dX11_loseCarrier_31 ?_
  refine x_iadd C dX11_loseCarrier_32 ?_
  refine x_iastore C dX11_loseCarrier_33 rfl h (fun h => ?_)
  refine x_aload_n C dX11_loseCarrier_34 rfl ?_
  refine x_iconst C dX11_loseCarrier_35 ?_
  refine x_iconst C dX11_loseCarrier_36 ?_
  obtain ⟨q0, hq0, h⟩ := x_bind h
  refine x_callVI C dX11_loseCarrier_37 (xin_45 _ (List.mem_of_getElem? (i := 8) rfl)) xy_X11_tellEvent (xi_X11_tellEvent) (xs_X11_tellEvent) (by omega) (by decide) (b := 0) rfl ⟨_, _, rfl⟩ (av := [.inl 4, .inl (-1)]) rfl (Nat.le_of_ble_eq_true rfl) (c_m_tellEvent _ _ _ _ _ hq0) rfl ?_
  refine x_aload_n C dX11_loseCarrier_40 rfl ?_
  refine x_getR C dX11_loseCarrier_41 fF_X11_9 rfl rfl ?_
  refine x_bipush C dX11_loseCarrier_44 (by decide) ?_
  refine x_iaload C dX11_loseCarrier_46 rfl h (fun h => ?_)
  refine x_iconst C dX11_loseCarrier_47 ?_
  refine x_icmp_ge C 55 dX11_loseCarrier_48 (by decide) h (fun h => ?_) (fun h => ?_)
  · exact x_returnV hR dX11_loseCarrier_55 h
  · refine x_aload_n C dX11_loseCarrier_51 rfl ?_
    obtain ⟨q1, hq1, h⟩ := x_bind h
    refine x_callVI C dX11_loseCarrier_52 (xin_45 _ (List.mem_of_getElem? (i := 4) rfl)) xy_X11_hang (xi_X11_hang) (xs_X11_hang) (by omega) (by decide) (b := 0) rfl ⟨_, _, rfl⟩ (av := []) rfl (Nat.le_of_ble_eq_true rfl) (c_m_hang _ _ _ hq1) rfl ?_
    exact x_returnV hR dX11_loseCarrier_55 h
theorem c_m_loseCarrier (l : Launch) (m m9 : xM) (h : f_m_loseCarrier m = some m9) : xMet l yX11_loseCarrier cX11_loseCarrier 1 none 5 lay_M [.inr (.inr (some 0))] m none m9 :=
  xMet_v (by decide +kernel) (Nat.le_of_ble_eq_true rfl) (fun Γ C hR hl9 => t_m_loseCarrier (Nat.le_refl _) C hR m h)
/-! ===== yX11_firstThat ===== -/
theorem dX11_firstThat_0 : decode cX11_firstThat 0 = .ok (.iconst 0, 1) := by decide +kernel
theorem dX11_firstThat_1 : decode cX11_firstThat 1 = .ok (.istore_n 3, 1) := by decide +kernel
theorem dX11_firstThat_2 : decode cX11_firstThat 2 = .ok (.iload_n 3, 1) := by decide +kernel
theorem dX11_firstThat_3 : decode cX11_firstThat 3 = .ok (.aload_n 0, 1) := by decide +kernel
theorem dX11_firstThat_4 : decode cX11_firstThat 4 = .ok (.iload_n 1, 1) := by decide +kernel
theorem dX11_firstThat_5 : decode cX11_firstThat 5 = .ok (.iconst 1, 1) := by decide +kernel
theorem dX11_firstThat_6 : decode cX11_firstThat 6 = .ok (.invokevirtual 101, 3) := by decide +kernel
theorem dX11_firstThat_9 : decode cX11_firstThat 9 = .ok (.if_icmp .ge 22, 3) := by decide +kernel
theorem dX11_firstThat_12 : decode cX11_firstThat 12 = .ok (.aload_n 0, 1) := by decide +kernel
theorem dX11_firstThat_13 : decode cX11_firstThat 13 = .ok (.iload_n 1, 1) := by decide +kernel
theorem dX11_firstThat_14 : decode cX11_firstThat 14 = .ok (.iload_n 3, 1) := by decide +kernel
theorem dX11_firstThat_15 : decode cX11_firstThat 15 = .ok (.iconst 3, 1) := by decide +kernel
theorem dX11_firstThat_16 : decode cX11_firstThat 16 = .ok (.invokevirtual 124, 3) := by decide +kernel
theorem dX11_firstThat_19 : decode cX11_firstThat 19 = .ok (.iload_n 2, 1) := by decide +kernel
theorem dX11_firstThat_20 : decode cX11_firstThat 20 = .ok (.if_icmp .ne 5, 3) := by decide +kernel
theorem dX11_firstThat_23 : decode cX11_firstThat 23 = .ok (.iload_n 3, 1) := by decide +kernel
theorem dX11_firstThat_24 : decode cX11_firstThat 24 = .ok (.ireturn, 1) := by decide +kernel
theorem dX11_firstThat_25 : decode cX11_firstThat 25 = .ok (.iinc 3 1, 3) := by decide +kernel
theorem dX11_firstThat_28 : decode cX11_firstThat 28 = .ok (.goto (-26), 3) := by decide +kernel
theorem dX11_firstThat_31 : decode cX11_firstThat 31 = .ok (.iconst (-1), 1) := by decide +kernel
theorem dX11_firstThat_32 : decode cX11_firstThat 32 = .ok (.ireturn, 1) := by decide +kernel
def f_m_firstThat_2 (e : Int) (a : Int) (m : xM) : Nat → Int → Option (Int)
  | 0, _ => none
  | n + 1, x3 =>
     (Option.bind (f_m_of e 1 m) fun q0 =>
      (if xw x3 < xw q0 then (Option.bind (f_m_ofFrame e x3 3 m) fun q1 =>
      (if xw q1 = xw a then some x3
      else f_m_firstThat_2 e a m n (x3 + 1)))
      else some (-1)))
set_option maxRecDepth 1000000 in
set_option maxHeartbeats 4000000 in
theorem t_m_firstThat_2 {Γ : xG} {d : Nat} (hd9 : 4 ≤ d) (C : xC Γ lay_M RX11 cX11_firstThat 4 d) (e : Int) (a : Int) {r : Int} {m : xM} (hR : xRi Γ lay_M cX11_firstThat r m) : ∀ (n : Nat) (x3 : Int), f_m_firstThat_2 e a m n x3 = some r → xW Γ lay_M 4 2 [(0, .inr (.inr (some 0))), (1, .inl e), (2, .inl a), (3, .inl x3)] [] m := by
  intro n
  induction n with
  | zero => intro _ h; cases h
  | succ n ih =>
    intro x3 h
    rw [f_m_firstThat_2] at h
    refine x_iload_n C dX11_firstThat_2 rfl ?_
    refine x_aload_n C dX11_firstThat_3 rfl ?_
    refine x_iload_n C dX11_firstThat_4 rfl ?_
    refine x_iconst C dX11_firstThat_5 ?_
    obtain ⟨q0, hq0, h⟩ := x_bind h
    refine x_callVI C dX11_firstThat_6 (xin_27 _ (List.mem_of_getElem? (i := 14) rfl)) xy_X11_of (xi_X11_of) (xs_X11_of) (by omega) (by decide) (b := 0) rfl ⟨_, _, rfl⟩ (av := [.inl e, .inl 1]) rfl (Nat.le_of_ble_eq_true rfl) (c_m_of _ _ _ _ _ hq0) rfl ?_
    refine x_icmp_ge C 31 dX11_firstThat_9 (by decide) h (fun h => ?_) (fun h => ?_)
    · refine x_iconst C dX11_firstThat_31 ?_
      exact x_ireturnP hR dX11_firstThat_32 h
    · refine x_aload_n C dX11_firstThat_12 rfl ?_
      refine x_iload_n C dX11_firstThat_13 rfl ?_
      refine x_iload_n C dX11_firstThat_14 rfl ?_
      refine x_iconst C dX11_firstThat_15 ?_
      obtain ⟨q1, hq1, h⟩ := x_bind h
      refine x_callVI C dX11_firstThat_16 (xin_28 _ (List.mem_of_getElem? (i := 1) rfl)) xy_X11_ofFrame (xi_X11_ofFrame) (xs_X11_ofFrame) (by omega) (by decide) (b := 0) rfl ⟨_, _, rfl⟩ (av := [.inl e, .inl x3, .inl 3]) rfl (Nat.le_of_ble_eq_true rfl) (c_m_ofFrame _ _ _ _ _ _ hq1) rfl ?_
      refine x_iload_n C dX11_firstThat_19 rfl ?_
      refine x_icmp_ne C 25 dX11_firstThat_20 (by decide) h (fun h => ?_) (fun h => ?_)
      · refine x_iinc C dX11_firstThat_25 (by decide) rfl ?_
        refine x_goto C 2 dX11_firstThat_28 (by decide) ?_
        refine x_loc [(0, .inr (.inr (some 0))), (1, .inl e), (2, .inl a), (3, .inl (x3 + 1))] ⟨rfl, rfl, rfl, rfl, trivial⟩ ?_
        exact ih _ h
      · refine x_iload_n C dX11_firstThat_23 rfl ?_
        exact x_ireturnP hR dX11_firstThat_24 h
def f_m_firstThat (e : Int) (a : Int) (m : xM) : Option (Int) :=
     f_m_firstThat_2 e a m fu 0
set_option maxRecDepth 1000000 in
set_option maxHeartbeats 4000000 in
theorem t_m_firstThat {Γ : xG} {d : Nat} (hd9 : 4 ≤ d) (C : xC Γ lay_M RX11 cX11_firstThat 4 d) (e : Int) (a : Int) {r : Int} {m : xM} (hR : xRi Γ lay_M cX11_firstThat r m) (h : f_m_firstThat e a m = some r) : xW Γ lay_M 4 0 [(0, .inr (.inr (some 0))), (1, .inl e), (2, .inl a)] [] m := by
  unfold f_m_firstThat at h
  refine x_iconst C dX11_firstThat_0 ?_
  refine x_istore_n C dX11_firstThat_1 (by decide) ?_
  refine x_loc [(0, .inr (.inr (some 0))), (1, .inl e), (2, .inl a), (3, .inl 0)] ⟨rfl, rfl, rfl, rfl, trivial⟩ ?_
  exact t_m_firstThat_2 hd9 C _ _ hR fu _ h
theorem c_m_firstThat (l : Launch) (e : Int) (a : Int) (m : xM) (r : Int) (h : f_m_firstThat e a m = some r) : xMet l yX11_firstThat cX11_firstThat 4 (some .int) 4 lay_M [.inr (.inr (some 0)), .inl e, .inl a] m (some (.inl r)) m :=
  xMet_i (by decide +kernel) (Nat.le_of_ble_eq_true rfl) (fun Γ C hR hl9 => t_m_firstThat (Nat.le_refl _) C e a hR h)
/-! ===== yX11_countThat ===== -/
theorem dX11_countThat_0 : decode cX11_countThat 0 = .ok (.iconst 0, 1) := by decide +kernel
theorem dX11_countThat_1 : decode cX11_countThat 1 = .ok (.istore_n 3, 1) := by decide +kernel
theorem dX11_countThat_2 : decode cX11_countThat 2 = .ok (.iconst 0, 1) := by decide +kernel
theorem dX11_countThat_3 : decode cX11_countThat 3 = .ok (.istore 4, 2) := by decide +kernel
theorem dX11_countThat_5 : decode cX11_countThat 5 = .ok (.iload 4, 2) := by decide +kernel
theorem dX11_countThat_7 : decode cX11_countThat 7 = .ok (.aload_n 0, 1) := by decide +kernel
theorem dX11_countThat_8 : decode cX11_countThat 8 = .ok (.iload_n 1, 1) := by decide +kernel
theorem dX11_countThat_9 : decode cX11_countThat 9 = .ok (.iconst 1, 1) := by decide +kernel
theorem dX11_countThat_10 : decode cX11_countThat 10 = .ok (.invokevirtual 101, 3) := by decide +kernel
theorem dX11_countThat_13 : decode cX11_countThat 13 = .ok (.if_icmp .ge 29, 3) := by decide +kernel
theorem dX11_countThat_16 : decode cX11_countThat 16 = .ok (.iload_n 3, 1) := by decide +kernel
theorem dX11_countThat_17 : decode cX11_countThat 17 = .ok (.aload_n 0, 1) := by decide +kernel
theorem dX11_countThat_18 : decode cX11_countThat 18 = .ok (.iload_n 1, 1) := by decide +kernel
theorem dX11_countThat_19 : decode cX11_countThat 19 = .ok (.iload 4, 2) := by decide +kernel
theorem dX11_countThat_21 : decode cX11_countThat 21 = .ok (.iconst 3, 1) := by decide +kernel
theorem dX11_countThat_22 : decode cX11_countThat 22 = .ok (.invokevirtual 124, 3) := by decide +kernel
theorem dX11_countThat_25 : decode cX11_countThat 25 = .ok (.iload_n 2, 1) := by decide +kernel
theorem dX11_countThat_26 : decode cX11_countThat 26 = .ok (.if_icmp .ne 7, 3) := by decide +kernel
theorem dX11_countThat_29 : decode cX11_countThat 29 = .ok (.iconst 1, 1) := by decide +kernel
theorem dX11_countThat_30 : decode cX11_countThat 30 = .ok (.goto 4, 3) := by decide +kernel
theorem dX11_countThat_33 : decode cX11_countThat 33 = .ok (.iconst 0, 1) := by decide +kernel
theorem dX11_countThat_34 : decode cX11_countThat 34 = .ok (.iadd, 1) := by decide +kernel
theorem dX11_countThat_35 : decode cX11_countThat 35 = .ok (.istore_n 3, 1) := by decide +kernel
theorem dX11_countThat_36 : decode cX11_countThat 36 = .ok (.iinc 4 1, 3) := by decide +kernel
theorem dX11_countThat_39 : decode cX11_countThat 39 = .ok (.goto (-34), 3) := by decide +kernel
theorem dX11_countThat_42 : decode cX11_countThat 42 = .ok (.iload_n 3, 1) := by decide +kernel
theorem dX11_countThat_43 : decode cX11_countThat 43 = .ok (.ireturn, 1) := by decide +kernel
def f_m_countThat_34 (e : Int) (a : Int) (m : xM) (k5 : Int → Int → Option (Int)) (x4 : Int) (s0 : Int) (s1 : Int) : Option (Int) :=
     k5 (s1 + s0) (x4 + 1)
set_option maxRecDepth 1000000 in
set_option maxHeartbeats 4000000 in
theorem t_m_countThat_34 {Γ : xG} {d : Nat} (hd9 : 4 ≤ d) (C : xC Γ lay_M RX11 cX11_countThat 5 d) (e : Int) (a : Int) {r : Int} {m : xM} (hR : xRi Γ lay_M cX11_countThat r m) {k5 : Int → Int → Option (Int)} (hk5 : ∀ (x3 : Int) (x4 : Int), k5 x3 x4 = some r → xW Γ lay_M 5 5 [(0, .inr (.inr (some 0))), (1, .inl e), (2, .inl a), (3, .inl x3), (4, .inl x4)] [] m) (x4 : Int) (s0 : Int) (s1 : Int) (h : f_m_countThat_34 e a m k5 x4 s0 s1 = some r) : xW Γ lay_M 5 34 [(0, .inr (.inr (some 0))), (1, .inl e), (2, .inl a), (4, .inl x4)] [.inl s0, .inl s1] m := by
  unfold f_m_countThat_34 at h
  refine x_iadd C dX11_countThat_34 ?_
  refine x_istore_n C dX11_countThat_35 (by decide) ?_
  refine x_iinc C dX11_countThat_36 (by decide) rfl ?_
  refine x_goto C 5 dX11_countThat_39 (by decide) ?_
  refine x_loc [(0, .inr (.inr (some 0))), (1, .inl e), (2, .inl a), (3, .inl (s1 + s0)), (4, .inl (x4 + 1))] ⟨rfl, rfl, rfl, rfl, rfl, trivial⟩ ?_
  exact hk5 _ _ h
def f_m_countThat_5 (e : Int) (a : Int) (m : xM) : Nat → Int → Int → Option (Int)
  | 0, _, _ => none
  | n + 1, x3, x4 =>
     (Option.bind (f_m_of e 1 m) fun q0 =>
      (if xw x4 < xw q0 then (Option.bind (f_m_ofFrame e x4 3 m) fun q1 =>
      (if xw q1 = xw a then f_m_countThat_34 e a m (f_m_countThat_5 e a m n) x4 1 x3
      else f_m_countThat_34 e a m (f_m_countThat_5 e a m n) x4 0 x3))
      else some x3))
set_option maxRecDepth 1000000 in
set_option maxHeartbeats 4000000 in
theorem t_m_countThat_5 {Γ : xG} {d : Nat} (hd9 : 4 ≤ d) (C : xC Γ lay_M RX11 cX11_countThat 5 d) (e : Int) (a : Int) {r : Int} {m : xM} (hR : xRi Γ lay_M cX11_countThat r m) : ∀ (n : Nat) (x3 : Int) (x4 : Int), f_m_countThat_5 e a m n x3 x4 = some r → xW Γ lay_M 5 5 [(0, .inr (.inr (some 0))), (1, .inl e), (2, .inl a), (3, .inl x3), (4, .inl x4)] [] m := by
  intro n
  induction n with
  | zero => intro _ _ h; cases h
  | succ n ih =>
    intro x3 x4 h
    rw [f_m_countThat_5] at h
    refine x_iload C dX11_countThat_5 rfl ?_
    refine x_aload_n C dX11_countThat_7 rfl ?_
    refine x_iload_n C dX11_countThat_8 rfl ?_
    refine x_iconst C dX11_countThat_9 ?_
    obtain ⟨q0, hq0, h⟩ := x_bind h
    refine x_callVI C dX11_countThat_10 (xin_27 _ (List.mem_of_getElem? (i := 14) rfl)) xy_X11_of (xi_X11_of) (xs_X11_of) (by omega) (by decide) (b := 0) rfl ⟨_, _, rfl⟩ (av := [.inl e, .inl 1]) rfl (Nat.le_of_ble_eq_true rfl) (c_m_of _ _ _ _ _ hq0) rfl ?_
    refine x_icmp_ge C 42 dX11_countThat_13 (by decide) h (fun h => ?_) (fun h => ?_)
    · refine x_iload_n C dX11_countThat_42 rfl ?_
      exact x_ireturnP hR dX11_countThat_43 h
    · refine x_iload_n C dX11_countThat_16 rfl ?_
      refine x_aload_n C dX11_countThat_17 rfl ?_
      refine x_iload_n C dX11_countThat_18 rfl ?_
      refine x_iload C dX11_countThat_19 rfl ?_
      refine x_iconst C dX11_countThat_21 ?_
      obtain ⟨q1, hq1, h⟩ := x_bind h
      refine x_callVI C dX11_countThat_22 (xin_28 _ (List.mem_of_getElem? (i := 1) rfl)) xy_X11_ofFrame (xi_X11_ofFrame) (xs_X11_ofFrame) (by omega) (by decide) (b := 0) rfl ⟨_, _, rfl⟩ (av := [.inl e, .inl x4, .inl 3]) rfl (Nat.le_of_ble_eq_true rfl) (c_m_ofFrame _ _ _ _ _ _ hq1) rfl ?_
      refine x_iload_n C dX11_countThat_25 rfl ?_
      refine x_icmp_ne C 33 dX11_countThat_26 (by decide) h (fun h => ?_) (fun h => ?_)
      · refine x_iconst C dX11_countThat_33 ?_
        refine x_loc [(0, .inr (.inr (some 0))), (1, .inl e), (2, .inl a), (4, .inl x4)] ⟨rfl, rfl, rfl, rfl, trivial⟩ ?_
        exact t_m_countThat_34 hd9 C _ _ hR ih _ _ _ h
      · refine x_iconst C dX11_countThat_29 ?_
        refine x_goto C 34 dX11_countThat_30 (by decide) ?_
        refine x_loc [(0, .inr (.inr (some 0))), (1, .inl e), (2, .inl a), (4, .inl x4)] ⟨rfl, rfl, rfl, rfl, trivial⟩ ?_
        exact t_m_countThat_34 hd9 C _ _ hR ih _ _ _ h
def f_m_countThat (e : Int) (a : Int) (m : xM) : Option (Int) :=
     f_m_countThat_5 e a m fu 0 0
set_option maxRecDepth 1000000 in
set_option maxHeartbeats 4000000 in
theorem t_m_countThat {Γ : xG} {d : Nat} (hd9 : 4 ≤ d) (C : xC Γ lay_M RX11 cX11_countThat 5 d) (e : Int) (a : Int) {r : Int} {m : xM} (hR : xRi Γ lay_M cX11_countThat r m) (h : f_m_countThat e a m = some r) : xW Γ lay_M 5 0 [(0, .inr (.inr (some 0))), (1, .inl e), (2, .inl a)] [] m := by
  unfold f_m_countThat at h
  refine x_iconst C dX11_countThat_0 ?_
  refine x_istore_n C dX11_countThat_1 (by decide) ?_
  refine x_iconst C dX11_countThat_2 ?_
  refine x_istore C dX11_countThat_3 (by decide) ?_
  refine x_loc [(0, .inr (.inr (some 0))), (1, .inl e), (2, .inl a), (3, .inl 0), (4, .inl 0)] ⟨rfl, rfl, rfl, rfl, rfl, trivial⟩ ?_
  exact t_m_countThat_5 hd9 C _ _ hR fu _ _ h
theorem c_m_countThat (l : Launch) (e : Int) (a : Int) (m : xM) (r : Int) (h : f_m_countThat e a m = some r) : xMet l yX11_countThat cX11_countThat 5 (some .int) 4 lay_M [.inr (.inr (some 0)), .inl e, .inl a] m (some (.inl r)) m :=
  xMet_i (by decide +kernel) (Nat.le_of_ble_eq_true rfl) (fun Γ C hR hl9 => t_m_countThat (Nat.le_refl _) C e a hR h)

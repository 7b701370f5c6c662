/-! ===== yX11_fly ===== -/
theorem xy_X11_flyAt : xY yX11_flyAt cX11_flyAt 2 (some .int) 2 := ⟨(xin_46 _ (List.mem_of_getElem? (i := 14) rfl)), (xin_1 _ (List.mem_of_getElem? (i := 5) rfl)), by decide, by decide, by decide +kernel⟩
theorem xt_X11_flyAt : Cond.static yX11_flyAt ∈ wsL_law := (xin_46 _ (List.mem_of_getElem? (i := 13) rfl))
theorem dX11_fly_0 : decode cX11_fly 0 = .ok (.aload_n 0, 1) := by decide +kernel
theorem dX11_fly_1 : decode cX11_fly 1 = .ok (.getfield 9, 3) := by decide +kernel
theorem dX11_fly_4 : decode cX11_fly 4 = .ok (.bipush 20, 2) := by decide +kernel
theorem dX11_fly_6 : decode cX11_fly 6 = .ok (.iaload, 1) := by decide +kernel
theorem dX11_fly_7 : decode cX11_fly 7 = .ok (.istore 4, 2) := by decide +kernel
theorem dX11_fly_9 : decode cX11_fly 9 = .ok (.aload_n 0, 1) := by decide +kernel
theorem dX11_fly_10 : decode cX11_fly 10 = .ok (.getfield 9, 3) := by decide +kernel
theorem dX11_fly_13 : decode cX11_fly 13 = .ok (.iload 4, 2) := by decide +kernel
theorem dX11_fly_15 : decode cX11_fly 15 = .ok (.iconst 0, 1) := by decide +kernel
theorem dX11_fly_16 : decode cX11_fly 16 = .ok (.invokestatic 111, 3) := by decide +kernel
theorem dX11_fly_19 : decode cX11_fly 19 = .ok (.aload_n 0, 1) := by decide +kernel
theorem dX11_fly_20 : decode cX11_fly 20 = .ok (.getfield 9, 3) := by decide +kernel
theorem dX11_fly_23 : decode cX11_fly 23 = .ok (.iconst 0, 1) := by decide +kernel
theorem dX11_fly_24 : decode cX11_fly 24 = .ok (.iaload, 1) := by decide +kernel
theorem dX11_fly_25 : decode cX11_fly 25 = .ok (.aload_n 0, 1) := by decide +kernel
theorem dX11_fly_26 : decode cX11_fly 26 = .ok (.getfield 9, 3) := by decide +kernel
theorem dX11_fly_29 : decode cX11_fly 29 = .ok (.bipush 15, 2) := by decide +kernel
theorem dX11_fly_31 : decode cX11_fly 31 = .ok (.iaload, 1) := by decide +kernel
theorem dX11_fly_32 : decode cX11_fly 32 = .ok (.iadd, 1) := by decide +kernel
theorem dX11_fly_33 : decode cX11_fly 33 = .ok (.iastore, 1) := by decide +kernel
theorem dX11_fly_34 : decode cX11_fly 34 = .ok (.aload_n 0, 1) := by decide +kernel
theorem dX11_fly_35 : decode cX11_fly 35 = .ok (.getfield 9, 3) := by decide +kernel
theorem dX11_fly_38 : decode cX11_fly 38 = .ok (.iload 4, 2) := by decide +kernel
theorem dX11_fly_40 : decode cX11_fly 40 = .ok (.iconst 1, 1) := by decide +kernel
theorem dX11_fly_41 : decode cX11_fly 41 = .ok (.invokestatic 111, 3) := by decide +kernel
theorem dX11_fly_44 : decode cX11_fly 44 = .ok (.iload_n 1, 1) := by decide +kernel
theorem dX11_fly_45 : decode cX11_fly 45 = .ok (.iastore, 1) := by decide +kernel
theorem dX11_fly_46 : decode cX11_fly 46 = .ok (.aload_n 0, 1) := by decide +kernel
theorem dX11_fly_47 : decode cX11_fly 47 = .ok (.getfield 9, 3) := by decide +kernel
theorem dX11_fly_50 : decode cX11_fly 50 = .ok (.iload 4, 2) := by decide +kernel
theorem dX11_fly_52 : decode cX11_fly 52 = .ok (.iconst 2, 1) := by decide +kernel
theorem dX11_fly_53 : decode cX11_fly 53 = .ok (.invokestatic 111, 3) := by decide +kernel
theorem dX11_fly_56 : decode cX11_fly 56 = .ok (.iload_n 2, 1) := by decide +kernel
theorem dX11_fly_57 : decode cX11_fly 57 = .ok (.iastore, 1) := by decide +kernel
theorem dX11_fly_58 : decode cX11_fly 58 = .ok (.aload_n 0, 1) := by decide +kernel
theorem dX11_fly_59 : decode cX11_fly 59 = .ok (.getfield 9, 3) := by decide +kernel
theorem dX11_fly_62 : decode cX11_fly 62 = .ok (.iload 4, 2) := by decide +kernel
theorem dX11_fly_64 : decode cX11_fly 64 = .ok (.iconst 3, 1) := by decide +kernel
theorem dX11_fly_65 : decode cX11_fly 65 = .ok (.invokestatic 111, 3) := by decide +kernel
theorem dX11_fly_68 : decode cX11_fly 68 = .ok (.iload_n 3, 1) := by decide +kernel
theorem dX11_fly_69 : decode cX11_fly 69 = .ok (.iastore, 1) := by decide +kernel
theorem dX11_fly_70 : decode cX11_fly 70 = .ok (.aload_n 0, 1) := by decide +kernel
theorem dX11_fly_71 : decode cX11_fly 71 = .ok (.getfield 9, 3) := by decide +kernel
theorem dX11_fly_74 : decode cX11_fly 74 = .ok (.bipush 20, 2) := by decide +kernel
theorem dX11_fly_76 : decode cX11_fly 76 = .ok (.dup2, 1) := by decide +kernel
theorem dX11_fly_77 : decode cX11_fly 77 = .ok (.iaload, 1) := by decide +kernel
theorem dX11_fly_78 : decode cX11_fly 78 = .ok (.iconst 1, 1) := by decide +kernel
theorem dX11_fly_79 : decode cX11_fly 79 = .ok (.iadd, 1) := by decide +kernel
theorem dX11_fly_80 : decode cX11_fly 80 = .ok (.iastore, 1) := by decide +kernel
theorem dX11_fly_81 : decode cX11_fly 81 = .ok (.iload 4, 2) := by decide +kernel
theorem dX11_fly_83 : decode cX11_fly 83 = .ok (.ireturn, 1) := by decide +kernel
def f_m_fly_58 (a : Int) (t : Int) (b : Int) (x4 : Int) (m : xM) : Option (Int × xM) :=
     (Option.bind (f_m_flyAt x4 3 (xvw [] m)) fun q3 =>
      (if xib q3 3530 then (if xib 20 3530 then (if xib 20 3530 then some (x4, (xu (xu m 1 (xix q3) b) 1 20 (((xu m 1 (xix q3) b) 1 20) + 1)))
      else none)
      else none)
      else none))
set_option maxRecDepth 1000000 in
set_option maxHeartbeats 4000000 in
theorem t_m_fly_58 {Γ : xG} {d : Nat} (hd9 : 2 ≤ d) (C : xC Γ lay_M RX11 cX11_fly 5 d) (a : Int) (t : Int) (b : Int) {r : Int} {m9 : xM} (hR : xRi Γ lay_M cX11_fly r m9) (x4 : Int) (m : xM) (h : f_m_fly_58 a t b x4 m = some (r, m9)) : xW Γ lay_M 5 58 [(0, .inr (.inr (some 0))), (3, .inl b), (4, .inl x4)] [] m := by
  unfold f_m_fly_58 at h
  refine x_aload_n C dX11_fly_58 rfl ?_
  refine x_getR C dX11_fly_59 fF_X11_9 rfl rfl ?_
  refine x_iload C dX11_fly_62 rfl ?_
  refine x_iconst C dX11_fly_64 ?_
  obtain ⟨q3, hq3, h⟩ := x_bind h
  refine x_callSp C dX11_fly_65 (xin_46 _ (List.mem_of_getElem? (i := 12) rfl)) xy_X11_flyAt (xt_X11_flyAt) [] xv_49 (by omega) (by decide) (av := [.inl x4, .inl 3]) rfl (Nat.le_of_ble_eq_true rfl) (c_m_flyAt _ _ _ _ _ hq3) rfl ?_
  refine x_iload_n C dX11_fly_68 rfl ?_
  refine x_iastore C dX11_fly_69 rfl h (fun h => ?_)
  refine x_aload_n C dX11_fly_70 rfl ?_
  refine x_getR C dX11_fly_71 fF_X11_9 rfl rfl ?_
  refine x_bipush C dX11_fly_74 (by decide) ?_
  refine x_dup2 C dX11_fly_76 rfl rfl ?_
  refine x_iaload C dX11_fly_77 rfl h (fun h => ?_)
  refine x_iconst C dX11_fly_78 ?_
  refine x_iadd C dX11_fly_79 ?_
  refine x_iastore C dX11_fly_80 rfl h (fun h => ?_)
  refine x_iload C dX11_fly_81 rfl ?_
  exact x_ireturn hR dX11_fly_83 h
def f_m_fly (a : Int) (t : Int) (b : Int) (m : xM) : Option (Int × xM) :=
     (if xib 20 3530 then (Option.bind (f_m_flyAt (m 1 20) 0 (xvw [] m)) fun q0 =>
      (if xib 0 3530 then (if xib 15 3530 then (if xib q0 3530 then (Option.bind (f_m_flyAt (m 1 20) 1 (xvw [] (xu m 1 (xix q0) ((m 1 0) + (m 1 15))))) fun q1 =>
      (if xib q1 3530 then (Option.bind (f_m_flyAt (m 1 20) 2 (xvw [] (xu (xu m 1 (xix q0) ((m 1 0) + (m 1 15))) 1 (xix q1) a))) fun q2 =>
      (if xib q2 3530 then f_m_fly_58 a t b (m 1 20) (xu (xu (xu m 1 (xix q0) ((m 1 0) + (m 1 15))) 1 (xix q1) a) 1 (xix q2) t)
      else none))
      else none))
      else none)
      else none)
      else none))
      else none)
set_option maxRecDepth 1000000 in
set_option maxHeartbeats 4000000 in
theorem t_m_fly {Γ : xG} {d : Nat} (hd9 : 2 ≤ d) (C : xC Γ lay_M RX11 cX11_fly 5 d) (a : Int) (t : Int) (b : Int) {r : Int} {m9 : xM} (hR : xRi Γ lay_M cX11_fly r m9) (m : xM) (h : f_m_fly a t b m = some (r, m9)) : xW Γ lay_M 5 0 [(0, .inr (.inr (some 0))), (1, .inl a), (2, .inl t), (3, .inl b)] [] m := by
  unfold f_m_fly at h
  refine x_aload_n C dX11_fly_0 rfl ?_
  refine x_getR C dX11_fly_1 fF_X11_9 rfl rfl ?_
  refine x_bipush C dX11_fly_4 (by decide) ?_
  refine x_iaload C dX11_fly_6 rfl h (fun h => ?_)
  refine x_istore C dX11_fly_7 (by decide) ?_
  refine x_aload_n C dX11_fly_9 rfl ?_
  refine x_getR C dX11_fly_10 fF_X11_9 rfl rfl ?_
  refine x_iload C dX11_fly_13 rfl ?_
  refine x_iconst C dX11_fly_15 ?_
  obtain ⟨q0, hq0, h⟩ := x_bind h
  refine x_callSp C dX11_fly_16 (xin_46 _ (List.mem_of_getElem? (i := 12) rfl)) xy_X11_flyAt (xt_X11_flyAt) [] xv_49 (by omega) (by decide) (av := [.inl (m 1 20), .inl 0]) rfl (Nat.le_of_ble_eq_true rfl) (c_m_flyAt _ _ _ _ _ hq0) rfl ?_
  refine x_aload_n C dX11_fly_19 rfl ?_
  refine x_getR C dX11_fly_20 fF_X11_9 rfl rfl ?_
  refine x_iconst C dX11_fly_23 ?_
  refine x_iaload C dX11_fly_24 rfl h (fun h => ?_)
  refine x_aload_n C dX11_fly_25 rfl ?_
  refine x_getR C dX11_fly_26 fF_X11_9 rfl rfl ?_
  refine x_bipush C dX11_fly_29 (by decide) ?_
  refine x_iaload C dX11_fly_31 rfl h (fun h => ?_)
  refine x_iadd C dX11_fly_32 ?_
  refine x_iastore C dX11_fly_33 rfl h (fun h => ?_)
  refine x_aload_n C dX11_fly_34 rfl ?_
  refine x_getR C dX11_fly_35 fF_X11_9 rfl rfl ?_
  refine x_iload C dX11_fly_38 rfl ?_
  refine x_iconst C dX11_fly_40 ?_
  obtain ⟨q1, hq1, h⟩ := x_bind h
  refine x_callSp C dX11_fly_41 (xin_46 _ (List.mem_of_getElem? (i := 12) rfl)) xy_X11_flyAt (xt_X11_flyAt) [] xv_49 (by omega) (by decide) (av := [.inl (m 1 20), .inl 1]) rfl (Nat.le_of_ble_eq_true rfl) (c_m_flyAt _ _ _ _ _ hq1) rfl ?_
  refine x_iload_n C dX11_fly_44 rfl ?_
  refine x_iastore C dX11_fly_45 rfl h (fun h => ?_)
  refine x_aload_n C dX11_fly_46 rfl ?_
  refine x_getR C dX11_fly_47 fF_X11_9 rfl rfl ?_
  refine x_iload C dX11_fly_50 rfl ?_
  refine x_iconst C dX11_fly_52 ?_
  obtain ⟨q2, hq2, h⟩ := x_bind h
  refine x_callSp C dX11_fly_53 (xin_46 _ (List.mem_of_getElem? (i := 12) rfl)) xy_X11_flyAt (xt_X11_flyAt) [] xv_49 (by omega) (by decide) (av := [.inl (m 1 20), .inl 2]) rfl (Nat.le_of_ble_eq_true rfl) (c_m_flyAt _ _ _ _ _ hq2) rfl ?_
  refine x_iload_n C dX11_fly_56 rfl ?_
  refine x_iastore C dX11_fly_57 rfl h (fun h => ?_)
  refine x_loc [(0, .inr (.inr (some 0))), (3, .inl b), (4, .inl (m 1 20))] ⟨rfl, rfl, rfl, trivial⟩ ?_
  exact t_m_fly_58 hd9 C _ _ _ hR _ _ h
theorem c_m_fly (l : Launch) (a : Int) (t : Int) (b : Int) (m : xM) (r : Int) (m9 : xM) (h : f_m_fly a t b m = some (r, m9)) : xMet l yX11_fly cX11_fly 5 (some .int) 2 lay_M [.inr (.inr (some 0)), .inl a, .inl t, .inl b] m (some (.inl r)) m9 :=
  xMet_i (by decide +kernel) (Nat.le_of_ble_eq_true rfl) (fun Γ C hR hl9 => t_m_fly (Nat.le_refl _) C a t b hR m h)
/-! ===== yX11_land ===== -/
theorem dX11_land_0 : decode cX11_land 0 = .ok (.aload_n 0, 1) := by decide +kernel
theorem dX11_land_1 : decode cX11_land 1 = .ok (.getfield 9, 3) := by decide +kernel
theorem dX11_land_4 : decode cX11_land 4 = .ok (.bipush 20, 2) := by decide +kernel
theorem dX11_land_6 : decode cX11_land 6 = .ok (.dup2, 1) := by decide +kernel
theorem dX11_land_7 : decode cX11_land 7 = .ok (.iaload, 1) := by decide +kernel
theorem dX11_land_8 : decode cX11_land 8 = .ok (.iconst 1, 1) := by decide +kernel
theorem dX11_land_9 : decode cX11_land 9 = .ok (.isub, 1) := by decide +kernel
theorem dX11_land_10 : decode cX11_land 10 = .ok (.iastore, 1) := by decide +kernel
theorem dX11_land_11 : decode cX11_land 11 = .ok (.iload_n 1, 1) := by decide +kernel
theorem dX11_land_12 : decode cX11_land 12 = .ok (.iconst 0, 1) := by decide +kernel
theorem dX11_land_13 : decode cX11_land 13 = .ok (.invokestatic 111, 3) := by decide +kernel
theorem dX11_land_16 : decode cX11_land 16 = .ok (.istore_n 2, 1) := by decide +kernel
theorem dX11_land_17 : decode cX11_land 17 = .ok (.iload_n 2, 1) := by decide +kernel
theorem dX11_land_18 : decode cX11_land 18 = .ok (.aload_n 0, 1) := by decide +kernel
theorem dX11_land_19 : decode cX11_land 19 = .ok (.getfield 9, 3) := by decide +kernel
theorem dX11_land_22 : decode cX11_land 22 = .ok (.bipush 20, 2) := by decide +kernel
theorem dX11_land_24 : decode cX11_land 24 = .ok (.iaload, 1) := by decide +kernel
theorem dX11_land_25 : decode cX11_land 25 = .ok (.iconst 0, 1) := by decide +kernel
theorem dX11_land_26 : decode cX11_land 26 = .ok (.invokestatic 111, 3) := by decide +kernel
theorem dX11_land_29 : decode cX11_land 29 = .ok (.if_icmp .ge 24, 3) := by decide +kernel
theorem dX11_land_32 : decode cX11_land 32 = .ok (.aload_n 0, 1) := by decide +kernel
theorem dX11_land_33 : decode cX11_land 33 = .ok (.getfield 9, 3) := by decide +kernel
theorem dX11_land_36 : decode cX11_land 36 = .ok (.iload_n 2, 1) := by decide +kernel
theorem dX11_land_37 : decode cX11_land 37 = .ok (.aload_n 0, 1) := by decide +kernel
theorem dX11_land_38 : decode cX11_land 38 = .ok (.getfield 9, 3) := by decide +kernel
theorem dX11_land_41 : decode cX11_land 41 = .ok (.iload_n 2, 1) := by decide +kernel
theorem dX11_land_42 : decode cX11_land 42 = .ok (.bipush 15, 2) := by decide +kernel
theorem dX11_land_44 : decode cX11_land 44 = .ok (.iadd, 1) := by decide +kernel
theorem dX11_land_45 : decode cX11_land 45 = .ok (.iaload, 1) := by decide +kernel
theorem dX11_land_46 : decode cX11_land 46 = .ok (.iastore, 1) := by decide +kernel
theorem dX11_land_47 : decode cX11_land 47 = .ok (.iinc 2 1, 3) := by decide +kernel
theorem dX11_land_50 : decode cX11_land 50 = .ok (.goto (-33), 3) := by decide +kernel
theorem dX11_land_53 : decode cX11_land 53 = .ok (.return_, 1) := by decide +kernel
def f_m_land_17 (p : Int) : Nat → Int → xM → Option (xM)
  | 0, _, _ => none
  | n + 1, x2, m =>
     (if xib 20 3530 then (Option.bind (f_m_flyAt (m 1 20) 0 (xvw [] m)) fun q1 =>
      (if xw x2 < xw q1 then (if xib (x2 + 15) 3530 then (if xib x2 3530 then f_m_land_17 p n (x2 + 1) (xu m 1 (xix x2) (m 1 (xix (x2 + 15))))
      else none)
      else none)
      else some m))
      else none)
set_option maxRecDepth 1000000 in
set_option maxHeartbeats 4000000 in
theorem t_m_land_17 {Γ : xG} {d : Nat} (hd9 : 2 ≤ d) (C : xC Γ lay_M RX11 cX11_land 3 d) (p : Int) {m9 : xM} (hR : xRv Γ lay_M cX11_land m9) : ∀ (n : Nat) (x2 : Int) (m : xM), f_m_land_17 p n x2 m = some m9 → xW Γ lay_M 3 17 [(0, .inr (.inr (some 0))), (2, .inl x2)] [] m := by
  intro n
  induction n with
  | zero => intro _ _ h; cases h
  | succ n ih =>
    intro x2 m h
    rw [f_m_land_17] at h
    refine x_iload_n C dX11_land_17 rfl ?_
    refine x_aload_n C dX11_land_18 rfl ?_
    refine x_getR C dX11_land_19 fF_X11_9 rfl rfl ?_
    refine x_bipush C dX11_land_22 (by decide) ?_
    refine x_iaload C dX11_land_24 rfl h (fun h => ?_)
    refine x_iconst C dX11_land_25 ?_
    obtain ⟨q1, hq1, h⟩ := x_bind h
    refine x_callSp C dX11_land_26 (xin_46 _ (List.mem_of_getElem? (i := 12) rfl)) xy_X11_flyAt (xt_X11_flyAt) [] xv_49 (by omega) (by decide) (av := [.inl (m 1 20), .inl 0]) rfl (Nat.le_of_ble_eq_true rfl) (c_m_flyAt _ _ _ _ _ hq1) rfl ?_
    refine x_icmp_ge C 53 dX11_land_29 (by decide) h (fun h => ?_) (fun h => ?_)
    · exact x_returnV hR dX11_land_53 h
    · refine x_aload_n C dX11_land_32 rfl ?_
      refine x_getR C dX11_land_33 fF_X11_9 rfl rfl ?_
      refine x_iload_n C dX11_land_36 rfl ?_
      refine x_aload_n C dX11_land_37 rfl ?_
      refine x_getR C dX11_land_38 fF_X11_9 rfl rfl ?_
      refine x_iload_n C dX11_land_41 rfl ?_
      refine x_bipush C dX11_land_42 (by decide) ?_
      refine x_iadd C dX11_land_44 ?_
      refine x_iaload C dX11_land_45 rfl h (fun h => ?_)
      refine x_iastore C dX11_land_46 rfl h (fun h => ?_)
      refine x_iinc C dX11_land_47 (by decide) rfl ?_
      refine x_goto C 17 dX11_land_50 (by decide) ?_
      refine x_loc [(0, .inr (.inr (some 0))), (2, .inl (x2 + 1))] ⟨rfl, rfl, trivial⟩ ?_
      exact ih _ _ h
def f_m_land (p : Int) (m : xM) : Option (xM) :=
     (if xib 20 3530 then (if xib 20 3530 then (Option.bind (f_m_flyAt p 0 (xvw [] (xu m 1 20 ((m 1 20) - 1)))) fun q0 =>
      f_m_land_17 p fu q0 (xu m 1 20 ((m 1 20) - 1)))
      else none)
      else none)
set_option maxRecDepth 1000000 in
set_option maxHeartbeats 4000000 in
theorem t_m_land {Γ : xG} {d : Nat} (hd9 : 2 ≤ d) (C : xC Γ lay_M RX11 cX11_land 3 d) (p : Int) {m9 : xM} (hR : xRv Γ lay_M cX11_land m9) (m : xM) (h : f_m_land p m = some m9) : xW Γ lay_M 3 0 [(0, .inr (.inr (some 0))), (1, .inl p)] [] m := by
  unfold f_m_land at h
  refine x_aload_n C dX11_land_0 rfl ?_
  refine x_getR C dX11_land_1 fF_X11_9 rfl rfl ?_
  refine x_bipush C dX11_land_4 (by decide) ?_
  refine x_dup2 C dX11_land_6 rfl rfl ?_
  refine x_iaload C dX11_land_7 rfl h (fun h => ?_)
  refine x_iconst C dX11_land_8 ?_
  refine x_isub C dX11_land_9 ?_
  refine x_iastore C dX11_land_10 rfl h (fun h => ?_)
  refine x_iload_n C dX11_land_11 rfl ?_
  refine x_iconst C dX11_land_12 ?_
  obtain ⟨q0, hq0, h⟩ := x_bind h
  refine x_callSp C dX11_land_13 (xin_46 _ (List.mem_of_getElem? (i := 12) rfl)) xy_X11_flyAt (xt_X11_flyAt) [] xv_49 (by omega) (by decide) (av := [.inl p, .inl 0]) rfl (Nat.le_of_ble_eq_true rfl) (c_m_flyAt _ _ _ _ _ hq0) rfl ?_
  refine x_istore_n C dX11_land_16 (by decide) ?_
  refine x_loc [(0, .inr (.inr (some 0))), (2, .inl q0)] ⟨rfl, rfl, trivial⟩ ?_
  exact t_m_land_17 hd9 C _ hR fu _ _ h
theorem c_m_land (l : Launch) (p : Int) (m m9 : xM) (h : f_m_land p m = some m9) : xMet l yX11_land cX11_land 3 none 2 lay_M [.inr (.inr (some 0)), .inl p] m none m9 :=
  xMet_v (by decide +kernel) (Nat.le_of_ble_eq_true rfl) (fun Γ C hR hl9 => t_m_land (Nat.le_refl _) C p hR m h)
/-! ===== yX11_receive ===== -/
theorem dX11_receive_0 : decode cX11_receive 0 = .ok (.aload_n 0, 1) := by decide +kernel
theorem dX11_receive_1 : decode cX11_receive 1 = .ok (.iload_n 1, 1) := by decide +kernel
theorem dX11_receive_2 : decode cX11_receive 2 = .ok (.iconst 0, 1) := by decide +kernel
theorem dX11_receive_3 : decode cX11_receive 3 = .ok (.iload_n 2, 1) := by decide +kernel
theorem dX11_receive_4 : decode cX11_receive 4 = .ok (.invokevirtual 107, 3) := by decide +kernel
theorem dX11_receive_7 : decode cX11_receive 7 = .ok (.istore_n 3, 1) := by decide +kernel
theorem dX11_receive_8 : decode cX11_receive 8 = .ok (.aload_n 0, 1) := by decide +kernel
theorem dX11_receive_9 : decode cX11_receive 9 = .ok (.iload_n 1, 1) := by decide +kernel
theorem dX11_receive_10 : decode cX11_receive 10 = .ok (.iconst 4, 1) := by decide +kernel
theorem dX11_receive_11 : decode cX11_receive 11 = .ok (.invokevirtual 101, 3) := by decide +kernel
theorem dX11_receive_14 : decode cX11_receive 14 = .ok (.istore 4, 2) := by decide +kernel
theorem dX11_receive_16 : decode cX11_receive 16 = .ok (.iload 4, 2) := by decide +kernel
theorem dX11_receive_18 : decode cX11_receive 18 = .ok (.sipush 400, 3) := by decide +kernel
theorem dX11_receive_21 : decode cX11_receive 21 = .ok (.if_icmp .ge 19, 3) := by decide +kernel
theorem dX11_receive_24 : decode cX11_receive 24 = .ok (.aload_n 0, 1) := by decide +kernel
theorem dX11_receive_25 : decode cX11_receive 25 = .ok (.getfield 9, 3) := by decide +kernel
theorem dX11_receive_28 : decode cX11_receive 28 = .ok (.iload_n 1, 1) := by decide +kernel
theorem dX11_receive_29 : decode cX11_receive 29 = .ok (.sipush 317, 3) := by decide +kernel
theorem dX11_receive_32 : decode cX11_receive 32 = .ok (.iload 4, 2) := by decide +kernel
theorem dX11_receive_34 : decode cX11_receive 34 = .ok (.iadd, 1) := by decide +kernel
theorem dX11_receive_35 : decode cX11_receive 35 = .ok (.invokestatic 69, 3) := by decide +kernel
theorem dX11_receive_38 : decode cX11_receive 38 = .ok (.iload_n 2, 1) := by decide +kernel
theorem dX11_receive_39 : decode cX11_receive 39 = .ok (.iastore, 1) := by decide +kernel
theorem dX11_receive_40 : decode cX11_receive 40 = .ok (.aload_n 0, 1) := by decide +kernel
theorem dX11_receive_41 : decode cX11_receive 41 = .ok (.getfield 9, 3) := by decide +kernel
theorem dX11_receive_44 : decode cX11_receive 44 = .ok (.iload_n 1, 1) := by decide +kernel
theorem dX11_receive_45 : decode cX11_receive 45 = .ok (.iconst 4, 1) := by decide +kernel
theorem dX11_receive_46 : decode cX11_receive 46 = .ok (.invokestatic 69, 3) := by decide +kernel
theorem dX11_receive_49 : decode cX11_receive 49 = .ok (.dup2, 1) := by decide +kernel
theorem dX11_receive_50 : decode cX11_receive 50 = .ok (.iaload, 1) := by decide +kernel
theorem dX11_receive_51 : decode cX11_receive 51 = .ok (.iload_n 3, 1) := by decide +kernel
theorem dX11_receive_52 : decode cX11_receive 52 = .ok (.ifCond .le 7, 3) := by decide +kernel
theorem dX11_receive_55 : decode cX11_receive 55 = .ok (.iconst 1, 1) := by decide +kernel
theorem dX11_receive_56 : decode cX11_receive 56 = .ok (.goto 4, 3) := by decide +kernel
theorem dX11_receive_59 : decode cX11_receive 59 = .ok (.iconst 0, 1) := by decide +kernel
theorem dX11_receive_60 : decode cX11_receive 60 = .ok (.iadd, 1) := by decide +kernel
theorem dX11_receive_61 : decode cX11_receive 61 = .ok (.iastore, 1) := by decide +kernel
theorem dX11_receive_62 : decode cX11_receive 62 = .ok (.aload_n 0, 1) := by decide +kernel
theorem dX11_receive_63 : decode cX11_receive 63 = .ok (.getfield 9, 3) := by decide +kernel
theorem dX11_receive_66 : decode cX11_receive 66 = .ok (.bipush 55, 2) := by decide +kernel
theorem dX11_receive_68 : decode cX11_receive 68 = .ok (.dup2, 1) := by decide +kernel
theorem dX11_receive_69 : decode cX11_receive 69 = .ok (.iaload, 1) := by decide +kernel
theorem dX11_receive_70 : decode cX11_receive 70 = .ok (.iconst 1, 1) := by decide +kernel
theorem dX11_receive_71 : decode cX11_receive 71 = .ok (.iadd, 1) := by decide +kernel
theorem dX11_receive_72 : decode cX11_receive 72 = .ok (.iastore, 1) := by decide +kernel
theorem dX11_receive_73 : decode cX11_receive 73 = .ok (.return_, 1) := by decide +kernel
def f_m_receive_60 (e : Int) (z : Int) (s0 : Int) (s1 : Int) (s2 : Int) (m : xM) : Option (xM) :=
     (if xib s2 3530 then (if xib 55 3530 then (if xib 55 3530 then some (xu (xu m 1 (xix s2) (s1 + s0)) 1 55 (((xu m 1 (xix s2) (s1 + s0)) 1 55) + 1))
      else none)
      else none)
      else none)
set_option maxRecDepth 1000000 in
set_option maxHeartbeats 4000000 in
theorem t_m_receive_60 {Γ : xG} {d : Nat} (hd9 : 4 ≤ d) (C : xC Γ lay_M RX11 cX11_receive 5 d) (e : Int) (z : Int) {m9 : xM} (hR : xRv Γ lay_M cX11_receive m9) (s0 : Int) (s1 : Int) (s2 : Int) (m : xM) (h : f_m_receive_60 e z s0 s1 s2 m = some m9) : xW Γ lay_M 5 60 [(0, .inr (.inr (some 0)))] [.inl s0, .inl s1, .inl s2, .inr (.inr (some 1))] m := by
  unfold f_m_receive_60 at h
  refine x_iadd C dX11_receive_60 ?_
  refine x_iastore C dX11_receive_61 rfl h (fun h => ?_)
  refine x_aload_n C dX11_receive_62 rfl ?_
  refine x_getR C dX11_receive_63 fF_X11_9 rfl rfl ?_
  refine x_bipush C dX11_receive_66 (by decide) ?_
  refine x_dup2 C dX11_receive_68 rfl rfl ?_
  refine x_iaload C dX11_receive_69 rfl h (fun h => ?_)
  refine x_iconst C dX11_receive_70 ?_
  refine x_iadd C dX11_receive_71 ?_
  refine x_iastore C dX11_receive_72 rfl h (fun h => ?_)
  exact x_returnV hR dX11_receive_73 h
def f_m_receive_40 (e : Int) (z : Int) (x3 : Int) (m : xM) : Option (xM) :=
     (Option.bind (f_m_endAt e 4 (xvw [] m)) fun q2 =>
      (if xib q2 3530 then (if 0 < xw x3 then f_m_receive_60 e z 1 (m 1 (xix q2)) q2 m
      else f_m_receive_60 e z 0 (m 1 (xix q2)) q2 m)
      else none))
set_option maxRecDepth 1000000 in
set_option maxHeartbeats 4000000 in
theorem t_m_receive_40 {Γ : xG} {d : Nat} (hd9 : 4 ≤ d) (C : xC Γ lay_M RX11 cX11_receive 5 d) (e : Int) (z : Int) {m9 : xM} (hR : xRv Γ lay_M cX11_receive m9) (x3 : Int) (m : xM) (h : f_m_receive_40 e z x3 m = some m9) : xW Γ lay_M 5 40 [(0, .inr (.inr (some 0))), (1, .inl e), (3, .inl x3)] [] m := by
  unfold f_m_receive_40 at h
  refine x_aload_n C dX11_receive_40 rfl ?_
  refine x_getR C dX11_receive_41 fF_X11_9 rfl rfl ?_
  refine x_iload_n C dX11_receive_44 rfl ?_
  refine x_iconst C dX11_receive_45 ?_
  obtain ⟨q2, hq2, h⟩ := x_bind h
  refine x_callSp C dX11_receive_46 (xin_27 _ (List.mem_of_getElem? (i := 18) rfl)) xy_X11_endAt (xt_X11_endAt) [] xv_49 (by omega) (by decide) (av := [.inl e, .inl 4]) rfl (Nat.le_of_ble_eq_true rfl) (c_m_endAt _ _ _ _ _ hq2) rfl ?_
  refine x_dup2 C dX11_receive_49 rfl rfl ?_
  refine x_iaload C dX11_receive_50 rfl h (fun h => ?_)
  refine x_iload_n C dX11_receive_51 rfl ?_
  refine x_if_le C 59 dX11_receive_52 (by decide) h (fun h => ?_) (fun h => ?_)
  · refine x_iconst C dX11_receive_59 ?_
    refine x_loc [(0, .inr (.inr (some 0)))] ⟨rfl, trivial⟩ ?_
    exact t_m_receive_60 hd9 C _ _ hR _ _ _ _ h
  · refine x_iconst C dX11_receive_55 ?_
    refine x_goto C 60 dX11_receive_56 (by decide) ?_
    refine x_loc [(0, .inr (.inr (some 0)))] ⟨rfl, trivial⟩ ?_
    exact t_m_receive_60 hd9 C _ _ hR _ _ _ _ h
def f_m_receive (e : Int) (z : Int) (m : xM) : Option (xM) :=
     (Option.bind (f_m_use e 0 z m) fun q0 =>
      (Option.bind (f_m_of e 4 q0.2) fun q1 =>
      (if xw q1 < xw 400 then (Option.bind (f_m_endAt e (317 + q1) (xvw [] q0.2)) fun q3 =>
      (if xib q3 3530 then f_m_receive_40 e z q0.1 (xu q0.2 1 (xix q3) z)
      else none))
      else f_m_receive_40 e z q0.1 q0.2)))
set_option maxRecDepth 1000000 in
set_option maxHeartbeats 4000000 in
theorem t_m_receive {Γ : xG} {d : Nat} (hd9 : 4 ≤ d) (C : xC Γ lay_M RX11 cX11_receive 5 d) (e : Int) (z : Int) {m9 : xM} (hR : xRv Γ lay_M cX11_receive m9) (m : xM) (h : f_m_receive e z m = some m9) : xW Γ lay_M 5 0 [(0, .inr (.inr (some 0))), (1, .inl e), (2, .inl z)] [] m := by
  unfold f_m_receive at h
  refine x_aload_n C dX11_receive_0 rfl ?_
  refine x_iload_n C dX11_receive_1 rfl ?_
  refine x_iconst C dX11_receive_2 ?_
  refine x_iload_n C dX11_receive_3 rfl ?_
  obtain ⟨q0, hq0, h⟩ := x_bind h
  refine x_callVI C dX11_receive_4 (xin_34 _ (List.mem_of_getElem? (i := 21) rfl)) xy_X11_use (xi_X11_use) (xs_X11_use) (by omega) (by decide) (b := 0) rfl ⟨_, _, rfl⟩ (av := [.inl e, .inl 0, .inl z]) rfl (Nat.le_of_ble_eq_true rfl) (c_m_use _ _ _ _ _ q0.1 q0.2 hq0) rfl ?_
  refine x_istore_n C dX11_receive_7 (by decide) ?_
  refine x_aload_n C dX11_receive_8 rfl ?_
  refine x_iload_n C dX11_receive_9 rfl ?_
  refine x_iconst C dX11_receive_10 ?_
  obtain ⟨q1, hq1, h⟩ := x_bind h
  refine x_callVI C dX11_receive_11 (xin_27 _ (List.mem_of_getElem? (i := 14) rfl)) xy_X11_of (xi_X11_of) (xs_X11_of) (by omega) (by decide) (b := 0) rfl ⟨_, _, rfl⟩ (av := [.inl e, .inl 4]) rfl (Nat.le_of_ble_eq_true rfl) (c_m_of _ _ _ _ _ hq1) rfl ?_
  refine x_istore C dX11_receive_14 (by decide) ?_
  refine x_iload C dX11_receive_16 rfl ?_
  refine x_sipush C dX11_receive_18 (by decide) ?_
  refine x_icmp_ge C 40 dX11_receive_21 (by decide) h (fun h => ?_) (fun h => ?_)
  · refine x_loc [(0, .inr (.inr (some 0))), (1, .inl e), (3, .inl q0.1)] ⟨rfl, rfl, rfl, trivial⟩ ?_
    exact t_m_receive_40 hd9 C _ _ hR _ _ h
  · refine x_aload_n C dX11_receive_24 rfl ?_
    refine x_getR C dX11_receive_25 fF_X11_9 rfl rfl ?_
    refine x_iload_n C dX11_receive_28 rfl ?_
    refine x_sipush C dX11_receive_29 (by decide) ?_
    refine x_iload C dX11_receive_32 rfl ?_
    refine x_iadd C dX11_receive_34 ?_
    obtain ⟨q3, hq3, h⟩ := x_bind h
    refine x_callSp C dX11_receive_35 (xin_27 _ (List.mem_of_getElem? (i := 18) rfl)) xy_X11_endAt (xt_X11_endAt) [] xv_49 (by omega) (by decide) (av := [.inl e, .inl (317 + q1)]) rfl (Nat.le_of_ble_eq_true rfl) (c_m_endAt _ _ _ _ _ hq3) rfl ?_
    refine x_iload_n C dX11_receive_38 rfl ?_
    refine x_iastore C dX11_receive_39 rfl h (fun h => ?_)
    refine x_loc [(0, .inr (.inr (some 0))), (1, .inl e), (3, .inl q0.1)] ⟨rfl, rfl, rfl, trivial⟩ ?_
    exact t_m_receive_40 hd9 C _ _ hR _ _ h
theorem c_m_receive (l : Launch) (e : Int) (z : Int) (m m9 : xM) (h : f_m_receive e z m = some m9) : xMet l yX11_receive cX11_receive 5 none 4 lay_M [.inr (.inr (some 0)), .inl e, .inl z] m none m9 :=
  xMet_v (by decide +kernel) (Nat.le_of_ble_eq_true rfl) (fun Γ C hR hl9 => t_m_receive (Nat.le_refl _) C e z hR m h)
/-! ===== yX11_arriveFrame ===== -/
theorem xy_X11_fly : xY yX11_fly cX11_fly 5 (some .int) 3 := ⟨(xin_47 _ (List.mem_of_getElem? (i := 6) rfl)), (xin_1 _ (List.mem_of_getElem? (i := 5) rfl)), by decide, by decide, by decide +kernel⟩
theorem xi_X11_fly : Cond.instanceMethod yX11_fly ∈ wsL_law := (xin_47 _ (List.mem_of_getElem? (i := 4) rfl))
theorem xs_X11_fly : Cond.selects yX11_fly.cls yX11_fly yX11_fly ∈ wsL_law := (xin_47 _ (List.mem_of_getElem? (i := 5) rfl))
theorem xy_X11_receive : xY yX11_receive cX11_receive 5 none 2 := ⟨(xin_47 _ (List.mem_of_getElem? (i := 2) rfl)), (xin_1 _ (List.mem_of_getElem? (i := 5) rfl)), by decide, by decide, by decide +kernel⟩
theorem xi_X11_receive : Cond.instanceMethod yX11_receive ∈ wsL_law := (xin_47 _ (List.mem_of_getElem? (i := 0) rfl))
theorem xs_X11_receive : Cond.selects yX11_receive.cls yX11_receive yX11_receive ∈ wsL_law := (xin_47 _ (List.mem_of_getElem? (i := 1) rfl))
theorem xy_X11_tellEvent : xY yX11_tellEvent cX11_tellEvent 4 none 2 := ⟨(xin_45 _ (List.mem_of_getElem? (i := 11) rfl)), (xin_1 _ (List.mem_of_getElem? (i := 5) rfl)), by decide, by decide, by decide +kernel⟩
theorem xi_X11_tellEvent : Cond.instanceMethod yX11_tellEvent ∈ wsL_law := (xin_45 _ (List.mem_of_getElem? (i := 9) rfl))
theorem xs_X11_tellEvent : Cond.selects yX11_tellEvent.cls yX11_tellEvent yX11_tellEvent ∈ wsL_law := (xin_45 _ (List.mem_of_getElem? (i := 10) rfl))
theorem dX11_arriveFrame_0 : decode cX11_arriveFrame 0 = .ok (.aload_n 0, 1) := by decide +kernel
theorem dX11_arriveFrame_1 : decode cX11_arriveFrame 1 = .ok (.getfield 9, 3) := by decide +kernel
theorem dX11_arriveFrame_4 : decode cX11_arriveFrame 4 = .ok (.iload_n 1, 1) := by decide +kernel
theorem dX11_arriveFrame_5 : decode cX11_arriveFrame 5 = .ok (.iconst 2, 1) := by decide +kernel
theorem dX11_arriveFrame_6 : decode cX11_arriveFrame 6 = .ok (.invokestatic 111, 3) := by decide +kernel
theorem dX11_arriveFrame_9 : decode cX11_arriveFrame 9 = .ok (.iaload, 1) := by decide +kernel
theorem dX11_arriveFrame_10 : decode cX11_arriveFrame 10 = .ok (.istore_n 2, 1) := by decide +kernel
theorem dX11_arriveFrame_11 : decode cX11_arriveFrame 11 = .ok (.aload_n 0, 1) := by decide +kernel
theorem dX11_arriveFrame_12 : decode cX11_arriveFrame 12 = .ok (.getfield 9, 3) := by decide +kernel
theorem dX11_arriveFrame_15 : decode cX11_arriveFrame 15 = .ok (.iload_n 1, 1) := by decide +kernel
theorem dX11_arriveFrame_16 : decode cX11_arriveFrame 16 = .ok (.iconst 3, 1) := by decide +kernel
theorem dX11_arriveFrame_17 : decode cX11_arriveFrame 17 = .ok (.invokestatic 111, 3) := by decide +kernel
theorem dX11_arriveFrame_20 : decode cX11_arriveFrame 20 = .ok (.iaload, 1) := by decide +kernel
theorem dX11_arriveFrame_21 : decode cX11_arriveFrame 21 = .ok (.istore_n 3, 1) := by decide +kernel
theorem dX11_arriveFrame_22 : decode cX11_arriveFrame 22 = .ok (.aload_n 0, 1) := by decide +kernel
theorem dX11_arriveFrame_23 : decode cX11_arriveFrame 23 = .ok (.getfield 9, 3) := by decide +kernel
theorem dX11_arriveFrame_26 : decode cX11_arriveFrame 26 = .ok (.iload_n 1, 1) := by decide +kernel
theorem dX11_arriveFrame_27 : decode cX11_arriveFrame 27 = .ok (.iconst 5, 1) := by decide +kernel
theorem dX11_arriveFrame_28 : decode cX11_arriveFrame 28 = .ok (.invokestatic 111, 3) := by decide +kernel
theorem dX11_arriveFrame_31 : decode cX11_arriveFrame 31 = .ok (.iaload, 1) := by decide +kernel
theorem dX11_arriveFrame_32 : decode cX11_arriveFrame 32 = .ok (.iconst 1, 1) := by decide +kernel
theorem dX11_arriveFrame_33 : decode cX11_arriveFrame 33 = .ok (.if_icmp .eq 13, 3) := by decide +kernel
theorem dX11_arriveFrame_36 : decode cX11_arriveFrame 36 = .ok (.iload_n 3, 1) := by decide +kernel
theorem dX11_arriveFrame_37 : decode cX11_arriveFrame 37 = .ok (.aload_n 0, 1) := by decide +kernel
theorem dX11_arriveFrame_38 : decode cX11_arriveFrame 38 = .ok (.iload_n 2, 1) := by decide +kernel
theorem dX11_arriveFrame_39 : decode cX11_arriveFrame 39 = .ok (.iconst 3, 1) := by decide +kernel
theorem dX11_arriveFrame_40 : decode cX11_arriveFrame 40 = .ok (.invokevirtual 101, 3) := by decide +kernel
theorem dX11_arriveFrame_43 : decode cX11_arriveFrame 43 = .ok (.if_icmp .eq 15, 3) := by decide +kernel
theorem dX11_arriveFrame_46 : decode cX11_arriveFrame 46 = .ok (.aload_n 0, 1) := by decide +kernel
theorem dX11_arriveFrame_47 : decode cX11_arriveFrame 47 = .ok (.getfield 9, 3) := by decide +kernel
theorem dX11_arriveFrame_50 : decode cX11_arriveFrame 50 = .ok (.bipush 47, 2) := by decide +kernel
theorem dX11_arriveFrame_52 : decode cX11_arriveFrame 52 = .ok (.dup2, 1) := by decide +kernel
theorem dX11_arriveFrame_53 : decode cX11_arriveFrame 53 = .ok (.iaload, 1) := by decide +kernel
theorem dX11_arriveFrame_54 : decode cX11_arriveFrame 54 = .ok (.iconst 1, 1) := by decide +kernel
theorem dX11_arriveFrame_55 : decode cX11_arriveFrame 55 = .ok (.iadd, 1) := by decide +kernel
theorem dX11_arriveFrame_56 : decode cX11_arriveFrame 56 = .ok (.iastore, 1) := by decide +kernel
theorem dX11_arriveFrame_57 : decode cX11_arriveFrame 57 = .ok (.return_, 1) := by decide +kernel
theorem dX11_arriveFrame_58 : decode cX11_arriveFrame 58 = .ok (.aload_n 0, 1) := by decide +kernel
theorem dX11_arriveFrame_59 : decode cX11_arriveFrame 59 = .ok (.getfield 9, 3) := by decide +kernel
theorem dX11_arriveFrame_62 : decode cX11_arriveFrame 62 = .ok (.iload_n 1, 1) := by decide +kernel
theorem dX11_arriveFrame_63 : decode cX11_arriveFrame 63 = .ok (.bipush 6, 2) := by decide +kernel
theorem dX11_arriveFrame_65 : decode cX11_arriveFrame 65 = .ok (.invokestatic 111, 3) := by decide +kernel
theorem dX11_arriveFrame_68 : decode cX11_arriveFrame 68 = .ok (.iaload, 1) := by decide +kernel
theorem dX11_arriveFrame_69 : decode cX11_arriveFrame 69 = .ok (.iconst 1, 1) := by decide +kernel
theorem dX11_arriveFrame_70 : decode cX11_arriveFrame 70 = .ok (.if_icmp .ne 22, 3) := by decide +kernel
theorem dX11_arriveFrame_73 : decode cX11_arriveFrame 73 = .ok (.aload_n 0, 1) := by decide +kernel
theorem dX11_arriveFrame_74 : decode cX11_arriveFrame 74 = .ok (.getfield 9, 3) := by decide +kernel
theorem dX11_arriveFrame_77 : decode cX11_arriveFrame 77 = .ok (.iload_n 2, 1) := by decide +kernel
theorem dX11_arriveFrame_78 : decode cX11_arriveFrame 78 = .ok (.bipush 8, 2) := by decide +kernel
theorem dX11_arriveFrame_80 : decode cX11_arriveFrame 80 = .ok (.invokestatic 69, 3) := by decide +kernel
theorem dX11_arriveFrame_83 : decode cX11_arriveFrame 83 = .ok (.iconst 0, 1) := by decide +kernel
theorem dX11_arriveFrame_84 : decode cX11_arriveFrame 84 = .ok (.iastore, 1) := by decide +kernel
theorem dX11_arriveFrame_85 : decode cX11_arriveFrame 85 = .ok (.aload_n 0, 1) := by decide +kernel
theorem dX11_arriveFrame_86 : decode cX11_arriveFrame 86 = .ok (.bipush 7, 2) := by decide +kernel
theorem dX11_arriveFrame_88 : decode cX11_arriveFrame 88 = .ok (.iload_n 2, 1) := by decide +kernel
theorem dX11_arriveFrame_89 : decode cX11_arriveFrame 89 = .ok (.invokevirtual 114, 3) := by decide +kernel
theorem dX11_arriveFrame_92 : decode cX11_arriveFrame 92 = .ok (.iconst 0, 1) := by decide +kernel
theorem dX11_arriveFrame_93 : decode cX11_arriveFrame 93 = .ok (.istore 4, 2) := by decide +kernel
theorem dX11_arriveFrame_95 : decode cX11_arriveFrame 95 = .ok (.iload 4, 2) := by decide +kernel
theorem dX11_arriveFrame_97 : decode cX11_arriveFrame 97 = .ok (.aload_n 0, 1) := by decide +kernel
theorem dX11_arriveFrame_98 : decode cX11_arriveFrame 98 = .ok (.getfield 9, 3) := by decide +kernel
theorem dX11_arriveFrame_101 : decode cX11_arriveFrame 101 = .ok (.iload_n 1, 1) := by decide +kernel
theorem dX11_arriveFrame_102 : decode cX11_arriveFrame 102 = .ok (.iconst 4, 1) := by decide +kernel
theorem dX11_arriveFrame_103 : decode cX11_arriveFrame 103 = .ok (.invokestatic 111, 3) := by decide +kernel
theorem dX11_arriveFrame_106 : decode cX11_arriveFrame 106 = .ok (.iaload, 1) := by decide +kernel
theorem dX11_arriveFrame_107 : decode cX11_arriveFrame 107 = .ok (.if_icmp .ge 28, 3) := by decide +kernel
theorem dX11_arriveFrame_110 : decode cX11_arriveFrame 110 = .ok (.aload_n 0, 1) := by decide +kernel
theorem dX11_arriveFrame_111 : decode cX11_arriveFrame 111 = .ok (.iload_n 2, 1) := by decide +kernel
theorem dX11_arriveFrame_112 : decode cX11_arriveFrame 112 = .ok (.aload_n 0, 1) := by decide +kernel
theorem dX11_arriveFrame_113 : decode cX11_arriveFrame 113 = .ok (.getfield 9, 3) := by decide +kernel
theorem dX11_arriveFrame_116 : decode cX11_arriveFrame 116 = .ok (.iload_n 1, 1) := by decide +kernel
theorem dX11_arriveFrame_117 : decode cX11_arriveFrame 117 = .ok (.bipush 7, 2) := by decide +kernel
theorem dX11_arriveFrame_119 : decode cX11_arriveFrame 119 = .ok (.iload 4, 2) := by decide +kernel
theorem dX11_arriveFrame_121 : decode cX11_arriveFrame 121 = .ok (.iadd, 1) := by decide +kernel
theorem dX11_arriveFrame_122 : decode cX11_arriveFrame 122 = .ok (.invokestatic 111, 3) := by decide +kernel
theorem dX11_arriveFrame_125 : decode cX11_arriveFrame 125 = .ok (.iaload, 1) := by decide +kernel
theorem dX11_arriveFrame_126 : decode cX11_arriveFrame 126 = .ok (.invokevirtual 118, 3) := by decide +kernel
theorem dX11_arriveFrame_129 : decode cX11_arriveFrame 129 = .ok (.iinc 4 1, 3) := by decide +kernel
theorem dX11_arriveFrame_132 : decode cX11_arriveFrame 132 = .ok (.goto (-37), 3) := by decide +kernel
theorem dX11_arriveFrame_135 : decode cX11_arriveFrame 135 = .ok (.aload_n 0, 1) := by decide +kernel
theorem dX11_arriveFrame_136 : decode cX11_arriveFrame 136 = .ok (.getfield 9, 3) := by decide +kernel
theorem dX11_arriveFrame_139 : decode cX11_arriveFrame 139 = .ok (.iload_n 2, 1) := by decide +kernel
theorem dX11_arriveFrame_140 : decode cX11_arriveFrame 140 = .ok (.iconst 3, 1) := by decide +kernel
theorem dX11_arriveFrame_141 : decode cX11_arriveFrame 141 = .ok (.invokestatic 69, 3) := by decide +kernel
theorem dX11_arriveFrame_144 : decode cX11_arriveFrame 144 = .ok (.dup2, 1) := by decide +kernel
theorem dX11_arriveFrame_145 : decode cX11_arriveFrame 145 = .ok (.iaload, 1) := by decide +kernel
theorem dX11_arriveFrame_146 : decode cX11_arriveFrame 146 = .ok (.iconst 1, 1) := by decide +kernel
theorem dX11_arriveFrame_147 : decode cX11_arriveFrame 147 = .ok (.iadd, 1) := by decide +kernel
theorem dX11_arriveFrame_148 : decode cX11_arriveFrame 148 = .ok (.iastore, 1) := by decide +kernel
theorem dX11_arriveFrame_149 : decode cX11_arriveFrame 149 = .ok (.aload_n 0, 1) := by decide +kernel
theorem dX11_arriveFrame_150 : decode cX11_arriveFrame 150 = .ok (.iconst 1, 1) := by decide +kernel
theorem dX11_arriveFrame_151 : decode cX11_arriveFrame 151 = .ok (.iconst 1, 1) := by decide +kernel
theorem dX11_arriveFrame_152 : decode cX11_arriveFrame 152 = .ok (.iload_n 2, 1) := by decide +kernel
theorem dX11_arriveFrame_153 : decode cX11_arriveFrame 153 = .ok (.isub, 1) := by decide +kernel
theorem dX11_arriveFrame_154 : decode cX11_arriveFrame 154 = .ok (.iload_n 3, 1) := by decide +kernel
theorem dX11_arriveFrame_155 : decode cX11_arriveFrame 155 = .ok (.invokevirtual 121, 3) := by decide +kernel
theorem dX11_arriveFrame_158 : decode cX11_arriveFrame 158 = .ok (.pop, 1) := by decide +kernel
theorem dX11_arriveFrame_159 : decode cX11_arriveFrame 159 = .ok (.return_, 1) := by decide +kernel
def f_m_arriveFrame_46 (p : Int) (m : xM) : Option (xM) :=
     (if xib 47 3530 then (if xib 47 3530 then some (xu m 1 47 ((m 1 47) + 1))
      else none)
      else none)
set_option maxRecDepth 1000000 in
set_option maxHeartbeats 4000000 in
theorem t_m_arriveFrame_46 {Γ : xG} {d : Nat} (hd9 : 5 ≤ d) (C : xC Γ lay_M RX11 cX11_arriveFrame 5 d) (p : Int) {m9 : xM} (hR : xRv Γ lay_M cX11_arriveFrame m9) (m : xM) (h : f_m_arriveFrame_46 p m = some m9) : xW Γ lay_M 5 46 [(0, .inr (.inr (some 0)))] [] m := by
  unfold f_m_arriveFrame_46 at h
  refine x_aload_n C dX11_arriveFrame_46 rfl ?_
  refine x_getR C dX11_arriveFrame_47 fF_X11_9 rfl rfl ?_
  refine x_bipush C dX11_arriveFrame_50 (by decide) ?_
  refine x_dup2 C dX11_arriveFrame_52 rfl rfl ?_
  refine x_iaload C dX11_arriveFrame_53 rfl h (fun h => ?_)
  refine x_iconst C dX11_arriveFrame_54 ?_
  refine x_iadd C dX11_arriveFrame_55 ?_
  refine x_iastore C dX11_arriveFrame_56 rfl h (fun h => ?_)
  exact x_returnV hR dX11_arriveFrame_57 h
def f_m_arriveFrame_135 (p : Int) (x2 : Int) (x3 : Int) (m : xM) : Option (xM) :=
     (Option.bind (f_m_endAt x2 3 (xvw [] m)) fun q6 =>
      (if xib q6 3530 then (if xib q6 3530 then (Option.bind (f_m_fly 1 (1 - x2) x3 (xu m 1 (xix q6) ((m 1 (xix q6)) + 1))) fun q7 =>
      some q7.2)
      else none)
      else none))
set_option maxRecDepth 1000000 in
set_option maxHeartbeats 4000000 in
theorem t_m_arriveFrame_135 {Γ : xG} {d : Nat} (hd9 : 5 ≤ d) (C : xC Γ lay_M RX11 cX11_arriveFrame 5 d) (p : Int) {m9 : xM} (hR : xRv Γ lay_M cX11_arriveFrame m9) (x2 : Int) (x3 : Int) (m : xM) (h : f_m_arriveFrame_135 p x2 x3 m = some m9) : xW Γ lay_M 5 135 [(0, .inr (.inr (some 0))), (2, .inl x2), (3, .inl x3)] [] m := by
  unfold f_m_arriveFrame_135 at h
  refine x_aload_n C dX11_arriveFrame_135 rfl ?_
  refine x_getR C dX11_arriveFrame_136 fF_X11_9 rfl rfl ?_
  refine x_iload_n C dX11_arriveFrame_139 rfl ?_
  refine x_iconst C dX11_arriveFrame_140 ?_
  obtain ⟨q6, hq6, h⟩ := x_bind h
  refine x_callSp C dX11_arriveFrame_141 (xin_27 _ (List.mem_of_getElem? (i := 18) rfl)) xy_X11_endAt (xt_X11_endAt) [] xv_49 (by omega) (by decide) (av := [.inl x2, .inl 3]) rfl (Nat.le_of_ble_eq_true rfl) (c_m_endAt _ _ _ _ _ hq6) rfl ?_
  refine x_dup2 C dX11_arriveFrame_144 rfl rfl ?_
  refine x_iaload C dX11_arriveFrame_145 rfl h (fun h => ?_)
  refine x_iconst C dX11_arriveFrame_146 ?_
  refine x_iadd C dX11_arriveFrame_147 ?_
  refine x_iastore C dX11_arriveFrame_148 rfl h (fun h => ?_)
  refine x_aload_n C dX11_arriveFrame_149 rfl ?_
  refine x_iconst C dX11_arriveFrame_150 ?_
  refine x_iconst C dX11_arriveFrame_151 ?_
  refine x_iload_n C dX11_arriveFrame_152 rfl ?_
  refine x_isub C dX11_arriveFrame_153 ?_
  refine x_iload_n C dX11_arriveFrame_154 rfl ?_
  obtain ⟨q7, hq7, h⟩ := x_bind h
  refine x_callVI C dX11_arriveFrame_155 (xin_47 _ (List.mem_of_getElem? (i := 3) rfl)) xy_X11_fly (xi_X11_fly) (xs_X11_fly) (by omega) (by decide) (b := 0) rfl ⟨_, _, rfl⟩ (av := [.inl 1, .inl (1 - x2), .inl x3]) rfl (Nat.le_of_ble_eq_true rfl) (c_m_fly _ _ _ _ _ q7.1 q7.2 hq7) rfl ?_
  refine x_pop C dX11_arriveFrame_158 rfl ?_
  exact x_returnV hR dX11_arriveFrame_159 h
def f_m_arriveFrame_95 (p : Int) : Nat → Int → Int → Int → xM → Option (xM)
  | 0, _, _, _, _ => none
  | n + 1, x2, x3, x4, m =>
     (Option.bind (f_m_flyAt p 4 (xvw [] m)) fun q5 =>
      (if xib q5 3530 then (if xw x4 < xw (m 1 (xix q5)) then (Option.bind (f_m_flyAt p (7 + x4) (xvw [] m)) fun q8 =>
      (if xib q8 3530 then (Option.bind (f_m_receive x2 (m 1 (xix q8)) m) fun q9 =>
      f_m_arriveFrame_95 p n x2 x3 (x4 + 1) q9)
      else none))
      else f_m_arriveFrame_135 p x2 x3 m)
      else none))
set_option maxRecDepth 1000000 in
set_option maxHeartbeats 4000000 in
theorem t_m_arriveFrame_95 {Γ : xG} {d : Nat} (hd9 : 5 ≤ d) (C : xC Γ lay_M RX11 cX11_arriveFrame 5 d) (p : Int) {m9 : xM} (hR : xRv Γ lay_M cX11_arriveFrame m9) : ∀ (n : Nat) (x2 : Int) (x3 : Int) (x4 : Int) (m : xM), f_m_arriveFrame_95 p n x2 x3 x4 m = some m9 → xW Γ lay_M 5 95 [(0, .inr (.inr (some 0))), (1, .inl p), (2, .inl x2), (3, .inl x3), (4, .inl x4)] [] m := by
  intro n
  induction n with
  | zero => intro _ _ _ _ h; cases h
  | succ n ih =>
    intro x2 x3 x4 m h
    rw [f_m_arriveFrame_95] at h
    refine x_iload C dX11_arriveFrame_95 rfl ?_
    refine x_aload_n C dX11_arriveFrame_97 rfl ?_
    refine x_getR C dX11_arriveFrame_98 fF_X11_9 rfl rfl ?_
    refine x_iload_n C dX11_arriveFrame_101 rfl ?_
    refine x_iconst C dX11_arriveFrame_102 ?_
    obtain ⟨q5, hq5, h⟩ := x_bind h
    refine x_callSp C dX11_arriveFrame_103 (xin_46 _ (List.mem_of_getElem? (i := 12) rfl)) xy_X11_flyAt (xt_X11_flyAt) [] xv_49 (by omega) (by decide) (av := [.inl p, .inl 4]) rfl (Nat.le_of_ble_eq_true rfl) (c_m_flyAt _ _ _ _ _ hq5) rfl ?_
    refine x_iaload C dX11_arriveFrame_106 rfl h (fun h => ?_)
    refine x_icmp_ge C 135 dX11_arriveFrame_107 (by decide) h (fun h => ?_) (fun h => ?_)
    · refine x_loc [(0, .inr (.inr (some 0))), (2, .inl x2), (3, .inl x3)] ⟨rfl, rfl, rfl, trivial⟩ ?_
      exact t_m_arriveFrame_135 hd9 C _ hR _ _ _ h
    · refine x_aload_n C dX11_arriveFrame_110 rfl ?_
      refine x_iload_n C dX11_arriveFrame_111 rfl ?_
      refine x_aload_n C dX11_arriveFrame_112 rfl ?_
      refine x_getR C dX11_arriveFrame_113 fF_X11_9 rfl rfl ?_
      refine x_iload_n C dX11_arriveFrame_116 rfl ?_
      refine x_bipush C dX11_arriveFrame_117 (by decide) ?_
      refine x_iload C dX11_arriveFrame_119 rfl ?_
      refine x_iadd C dX11_arriveFrame_121 ?_
      obtain ⟨q8, hq8, h⟩ := x_bind h
      refine x_callSp C dX11_arriveFrame_122 (xin_46 _ (List.mem_of_getElem? (i := 12) rfl)) xy_X11_flyAt (xt_X11_flyAt) [] xv_49 (by omega) (by decide) (av := [.inl p, .inl (7 + x4)]) rfl (Nat.le_of_ble_eq_true rfl) (c_m_flyAt _ _ _ _ _ hq8) rfl ?_
      refine x_iaload C dX11_arriveFrame_125 rfl h (fun h => ?_)
      obtain ⟨q9, hq9, h⟩ := x_bind h
      refine x_callVI C dX11_arriveFrame_126 (xin_46 _ (List.mem_of_getElem? (i := 23) rfl)) xy_X11_receive (xi_X11_receive) (xs_X11_receive) (by omega) (by decide) (b := 0) rfl ⟨_, _, rfl⟩ (av := [.inl x2, .inl (m 1 (xix q8))]) rfl (Nat.le_of_ble_eq_true rfl) (c_m_receive _ _ _ _ _ hq9) rfl ?_
      refine x_iinc C dX11_arriveFrame_129 (by decide) rfl ?_
      refine x_goto C 95 dX11_arriveFrame_132 (by decide) ?_
      refine x_loc [(0, .inr (.inr (some 0))), (1, .inl p), (2, .inl x2), (3, .inl x3), (4, .inl (x4 + 1))] ⟨rfl, rfl, rfl, rfl, rfl, trivial⟩ ?_
      exact ih _ _ _ _ h
def f_m_arriveFrame_92 (p : Int) (x2 : Int) (x3 : Int) (m : xM) : Option (xM) :=
     f_m_arriveFrame_95 p fu x2 x3 0 m
set_option maxRecDepth 1000000 in
set_option maxHeartbeats 4000000 in
theorem t_m_arriveFrame_92 {Γ : xG} {d : Nat} (hd9 : 5 ≤ d) (C : xC Γ lay_M RX11 cX11_arriveFrame 5 d) (p : Int) {m9 : xM} (hR : xRv Γ lay_M cX11_arriveFrame m9) (x2 : Int) (x3 : Int) (m : xM) (h : f_m_arriveFrame_92 p x2 x3 m = some m9) : xW Γ lay_M 5 92 [(0, .inr (.inr (some 0))), (1, .inl p), (2, .inl x2), (3, .inl x3)] [] m := by
  unfold f_m_arriveFrame_92 at h
  refine x_iconst C dX11_arriveFrame_92 ?_
  refine x_istore C dX11_arriveFrame_93 (by decide) ?_
  refine x_loc [(0, .inr (.inr (some 0))), (1, .inl p), (2, .inl x2), (3, .inl x3), (4, .inl 0)] ⟨rfl, rfl, rfl, rfl, rfl, trivial⟩ ?_
  exact t_m_arriveFrame_95 hd9 C _ hR fu _ _ _ _ h
def f_m_arriveFrame (p : Int) (m : xM) : Option (xM) :=
     (Option.bind (f_m_flyAt p 2 (xvw [] m)) fun q0 =>
      (if xib q0 3530 then (Option.bind (f_m_flyAt p 3 (xvw [] m)) fun q1 =>
      (if xib q1 3530 then (Option.bind (f_m_flyAt p 5 (xvw [] m)) fun q2 =>
      (if xib q2 3530 then (if xw (m 1 (xix q2)) = xw 1 then f_m_arriveFrame_46 p m
      else (Option.bind (f_m_of (m 1 (xix q0)) 3 m) fun q3 =>
      (if xw (m 1 (xix q1)) = xw q3 then (Option.bind (f_m_flyAt p 6 (xvw [] m)) fun q4 =>
      (if xib q4 3530 then (if xw (m 1 (xix q4)) = xw 1 then (Option.bind (f_m_endAt (m 1 (xix q0)) 8 (xvw [] m)) fun q10 =>
      (if xib q10 3530 then (Option.bind (f_m_tellEvent 7 (m 1 (xix q0)) (xu m 1 (xix q10) 0)) fun q11 =>
      f_m_arriveFrame_92 p (m 1 (xix q0)) (m 1 (xix q1)) q11)
      else none))
      else f_m_arriveFrame_92 p (m 1 (xix q0)) (m 1 (xix q1)) m)
      else none))
      else f_m_arriveFrame_46 p m)))
      else none))
      else none))
      else none))
set_option maxRecDepth 1000000 in
set_option maxHeartbeats 4000000 in
theorem t_m_arriveFrame {Γ : xG} {d : Nat} (hd9 : 5 ≤ d) (C : xC Γ lay_M RX11 cX11_arriveFrame 5 d) (p : Int) {m9 : xM} (hR : xRv Γ lay_M cX11_arriveFrame m9) (m : xM) (h : f_m_arriveFrame p m = some m9) : xW Γ lay_M 5 0 [(0, .inr (.inr (some 0))), (1, .inl p)] [] m := by
  unfold f_m_arriveFrame at h
  refine x_aload_n C dX11_arriveFrame_0 rfl ?_
  refine x_getR C dX11_arriveFrame_1 fF_X11_9 rfl rfl ?_
  refine x_iload_n C dX11_arriveFrame_4 rfl ?_
  refine x_iconst C dX11_arriveFrame_5 ?_
  obtain ⟨q0, hq0, h⟩ := x_bind h
  refine x_callSp C dX11_arriveFrame_6 (xin_46 _ (List.mem_of_getElem? (i := 12) rfl)) xy_X11_flyAt (xt_X11_flyAt) [] xv_49 (by omega) (by decide) (av := [.inl p, .inl 2]) rfl (Nat.le_of_ble_eq_true rfl) (c_m_flyAt _ _ _ _ _ hq0) rfl ?_
  refine x_iaload C dX11_arriveFrame_9 rfl h (fun h => ?_)
  refine x_istore_n C dX11_arriveFrame_10 (by decide) ?_
  refine x_aload_n C dX11_arriveFrame_11 rfl ?_
  refine x_getR C dX11_arriveFrame_12 fF_X11_9 rfl rfl ?_
  refine x_iload_n C dX11_arriveFrame_15 rfl ?_
  refine x_iconst C dX11_arriveFrame_16 ?_
  obtain ⟨q1, hq1, h⟩ := x_bind h
  refine x_callSp C dX11_arriveFrame_17 (xin_46 _ (List.mem_of_getElem? (i := 12) rfl)) xy_X11_flyAt (xt_X11_flyAt) [] xv_49 (by omega) (by decide) (av := [.inl p, .inl 3]) rfl (Nat.le_of_ble_eq_true rfl) (c_m_flyAt _ _ _ _ _ hq1) rfl ?_
  refine x_iaload C dX11_arriveFrame_20 rfl h (fun h => ?_)
  refine x_istore_n C dX11_arriveFrame_21 (by decide) ?_
  refine x_aload_n C dX11_arriveFrame_22 rfl ?_
  refine x_getR C dX11_arriveFrame_23 fF_X11_9 rfl rfl ?_
  refine x_iload_n C dX11_arriveFrame_26 rfl ?_
  refine x_iconst C dX11_arriveFrame_27 ?_
  obtain ⟨q2, hq2, h⟩ := x_bind h
  refine x_callSp C dX11_arriveFrame_28 (xin_46 _ (List.mem_of_getElem? (i := 12) rfl)) xy_X11_flyAt (xt_X11_flyAt) [] xv_49 (by omega) (by decide) (av := [.inl p, .inl 5]) rfl (Nat.le_of_ble_eq_true rfl) (c_m_flyAt _ _ _ _ _ hq2) rfl ?_
  refine x_iaload C dX11_arriveFrame_31 rfl h (fun h => ?_)
  refine x_iconst C dX11_arriveFrame_32 ?_
  refine x_icmp_eq C 46 dX11_arriveFrame_33 (by decide) h (fun h => ?_) (fun h => ?_)
  · refine x_loc [(0, .inr (.inr (some 0)))] ⟨rfl, trivial⟩ ?_
    exact t_m_arriveFrame_46 hd9 C _ hR _ h
  · refine x_iload_n C dX11_arriveFrame_36 rfl ?_
    refine x_aload_n C dX11_arriveFrame_37 rfl ?_
    refine x_iload_n C dX11_arriveFrame_38 rfl ?_
    refine x_iconst C dX11_arriveFrame_39 ?_
    obtain ⟨q3, hq3, h⟩ := x_bind h
    refine x_callVI C dX11_arriveFrame_40 (xin_27 _ (List.mem_of_getElem? (i := 14) rfl)) xy_X11_of (xi_X11_of) (xs_X11_of) (by omega) (by decide) (b := 0) rfl ⟨_, _, rfl⟩ (av := [.inl (m 1 (xix q0)), .inl 3]) rfl (Nat.le_of_ble_eq_true rfl) (c_m_of _ _ _ _ _ hq3) rfl ?_
    refine x_icmp_eq C 58 dX11_arriveFrame_43 (by decide) h (fun h => ?_) (fun h => ?_)
    · refine x_aload_n C dX11_arriveFrame_58 rfl ?_
      refine x_getR C dX11_arriveFrame_59 fF_X11_9 rfl rfl ?_
      refine x_iload_n C dX11_arriveFrame_62 rfl ?_
      refine x_bipush C dX11_arriveFrame_63 (by decide) ?_
      obtain ⟨q4, hq4, h⟩ := x_bind h
      refine x_callSp C dX11_arriveFrame_65 (xin_46 _ (List.mem_of_getElem? (i := 12) rfl)) xy_X11_flyAt (xt_X11_flyAt) [] xv_49 (by omega) (by decide) (av := [.inl p, .inl 6]) rfl (Nat.le_of_ble_eq_true rfl) (c_m_flyAt _ _ _ _ _ hq4) rfl ?_
      refine x_iaload C dX11_arriveFrame_68 rfl h (fun h => ?_)
      refine x_iconst C dX11_arriveFrame_69 ?_
      refine x_icmp_ne C 92 dX11_arriveFrame_70 (by decide) h (fun h => ?_) (fun h => ?_)
      · refine x_loc [(0, .inr (.inr (some 0))), (1, .inl p), (2, .inl (m 1 (xix q0))), (3, .inl (m 1 (xix q1)))] ⟨rfl, rfl, rfl, rfl, trivial⟩ ?_
        exact t_m_arriveFrame_92 hd9 C _ hR _ _ _ h
      · refine x_aload_n C dX11_arriveFrame_73 rfl ?_
        refine x_getR C dX11_arriveFrame_74 fF_X11_9 rfl rfl ?_
        refine x_iload_n C dX11_arriveFrame_77 rfl ?_
        refine x_bipush C dX11_arriveFrame_78 (by decide) ?_
        obtain ⟨q10, hq10, h⟩ := x_bind h
        refine x_callSp C dX11_arriveFrame_80 (xin_27 _ (List.mem_of_getElem? (i := 18) rfl)) xy_X11_endAt (xt_X11_endAt) [] xv_49 (by omega) (by decide) (av := [.inl (m 1 (xix q0)), .inl 8]) rfl (Nat.le_of_ble_eq_true rfl) (c_m_endAt _ _ _ _ _ hq10) rfl ?_
        refine x_iconst C dX11_arriveFrame_83 ?_
        refine x_iastore C dX11_arriveFrame_84 rfl h (fun h => ?_)
        refine x_aload_n C dX11_arriveFrame_85 rfl ?_
        refine x_bipush C dX11_arriveFrame_86 (by decide) ?_
        refine x_iload_n C dX11_arriveFrame_88 rfl ?_
        obtain ⟨q11, hq11, h⟩ := x_bind h
        refine x_callVI C dX11_arriveFrame_89 (xin_45 _ (List.mem_of_getElem? (i := 8) rfl)) xy_X11_tellEvent (xi_X11_tellEvent) (xs_X11_tellEvent) (by omega) (by decide) (b := 0) rfl ⟨_, _, rfl⟩ (av := [.inl 7, .inl (m 1 (xix q0))]) rfl (Nat.le_of_ble_eq_true rfl) (c_m_tellEvent _ _ _ _ _ hq11) rfl ?_
        refine x_loc [(0, .inr (.inr (some 0))), (1, .inl p), (2, .inl (m 1 (xix q0))), (3, .inl (m 1 (xix q1)))] ⟨rfl, rfl, rfl, rfl, trivial⟩ ?_
        exact t_m_arriveFrame_92 hd9 C _ hR _ _ _ h
    · refine x_loc [(0, .inr (.inr (some 0)))] ⟨rfl, trivial⟩ ?_
      exact t_m_arriveFrame_46 hd9 C _ hR _ h
theorem c_m_arriveFrame (l : Launch) (p : Int) (m m9 : xM) (h : f_m_arriveFrame p m = some m9) : xMet l yX11_arriveFrame cX11_arriveFrame 5 none 5 lay_M [.inr (.inr (some 0)), .inl p] m none m9 :=
  xMet_v (by decide +kernel) (Nat.le_of_ble_eq_true rfl) (fun Γ C hR hl9 => t_m_arriveFrame (Nat.le_refl _) C p hR m h)
/-! ===== yX11_forget ===== -/
theorem dX11_forget_0 : decode cX11_forget 0 = .ok (.aload_n 0, 1) := by decide +kernel
theorem dX11_forget_1 : decode cX11_forget 1 = .ok (.getfield 9, 3) := by decide +kernel
theorem dX11_forget_4 : decode cX11_forget 4 = .ok (.iload_n 1, 1) := by decide +kernel
theorem dX11_forget_5 : decode cX11_forget 5 = .ok (.iconst 1, 1) := by decide +kernel
theorem dX11_forget_6 : decode cX11_forget 6 = .ok (.invokestatic 69, 3) := by decide +kernel
theorem dX11_forget_9 : decode cX11_forget 9 = .ok (.dup2, 1) := by decide +kernel
theorem dX11_forget_10 : decode cX11_forget 10 = .ok (.iaload, 1) := by decide +kernel
theorem dX11_forget_11 : decode cX11_forget 11 = .ok (.iconst 1, 1) := by decide +kernel
theorem dX11_forget_12 : decode cX11_forget 12 = .ok (.isub, 1) := by decide +kernel
theorem dX11_forget_13 : decode cX11_forget 13 = .ok (.iastore, 1) := by decide +kernel
theorem dX11_forget_14 : decode cX11_forget 14 = .ok (.iload_n 1, 1) := by decide +kernel
theorem dX11_forget_15 : decode cX11_forget 15 = .ok (.iload_n 2, 1) := by decide +kernel
theorem dX11_forget_16 : decode cX11_forget 16 = .ok (.iconst 0, 1) := by decide +kernel
theorem dX11_forget_17 : decode cX11_forget 17 = .ok (.invokestatic 73, 3) := by decide +kernel
theorem dX11_forget_20 : decode cX11_forget 20 = .ok (.istore_n 3, 1) := by decide +kernel
theorem dX11_forget_21 : decode cX11_forget 21 = .ok (.iload_n 3, 1) := by decide +kernel
theorem dX11_forget_22 : decode cX11_forget 22 = .ok (.iload_n 1, 1) := by decide +kernel
theorem dX11_forget_23 : decode cX11_forget 23 = .ok (.aload_n 0, 1) := by decide +kernel
theorem dX11_forget_24 : decode cX11_forget 24 = .ok (.iload_n 1, 1) := by decide +kernel
theorem dX11_forget_25 : decode cX11_forget 25 = .ok (.iconst 1, 1) := by decide +kernel
theorem dX11_forget_26 : decode cX11_forget 26 = .ok (.invokevirtual 101, 3) := by decide +kernel
theorem dX11_forget_29 : decode cX11_forget 29 = .ok (.iconst 0, 1) := by decide +kernel
theorem dX11_forget_30 : decode cX11_forget 30 = .ok (.invokestatic 73, 3) := by decide +kernel
theorem dX11_forget_33 : decode cX11_forget 33 = .ok (.if_icmp .ge 24, 3) := by decide +kernel
theorem dX11_forget_36 : decode cX11_forget 36 = .ok (.aload_n 0, 1) := by decide +kernel
theorem dX11_forget_37 : decode cX11_forget 37 = .ok (.getfield 9, 3) := by decide +kernel
theorem dX11_forget_40 : decode cX11_forget 40 = .ok (.iload_n 3, 1) := by decide +kernel
theorem dX11_forget_41 : decode cX11_forget 41 = .ok (.aload_n 0, 1) := by decide +kernel
theorem dX11_forget_42 : decode cX11_forget 42 = .ok (.getfield 9, 3) := by decide +kernel
theorem dX11_forget_45 : decode cX11_forget 45 = .ok (.iload_n 3, 1) := by decide +kernel
theorem dX11_forget_46 : decode cX11_forget 46 = .ok (.bipush 13, 2) := by decide +kernel
theorem dX11_forget_48 : decode cX11_forget 48 = .ok (.iadd, 1) := by decide +kernel
theorem dX11_forget_49 : decode cX11_forget 49 = .ok (.iaload, 1) := by decide +kernel
theorem dX11_forget_50 : decode cX11_forget 50 = .ok (.iastore, 1) := by decide +kernel
theorem dX11_forget_51 : decode cX11_forget 51 = .ok (.iinc 3 1, 3) := by decide +kernel
theorem dX11_forget_54 : decode cX11_forget 54 = .ok (.goto (-33), 3) := by decide +kernel
theorem dX11_forget_57 : decode cX11_forget 57 = .ok (.return_, 1) := by decide +kernel
def f_m_forget_21 (e : Int) (p : Int) : Nat → Int → xM → Option (xM)
  | 0, _, _ => none
  | n + 1, x3, m =>
     (Option.bind (f_m_of e 1 m) fun q2 =>
      (Option.bind (f_m_frameAt e q2 0 (xvw [] m)) fun q3 =>
      (if xw x3 < xw q3 then (if xib (x3 + 13) 3530 then (if xib x3 3530 then f_m_forget_21 e p n (x3 + 1) (xu m 1 (xix x3) (m 1 (xix (x3 + 13))))
      else none)
      else none)
      else some m)))
set_option maxRecDepth 1000000 in
set_option maxHeartbeats 4000000 in
theorem t_m_forget_21 {Γ : xG} {d : Nat} (hd9 : 3 ≤ d) (C : xC Γ lay_M RX11 cX11_forget 4 d) (e : Int) (p : Int) {m9 : xM} (hR : xRv Γ lay_M cX11_forget m9) : ∀ (n : Nat) (x3 : Int) (m : xM), f_m_forget_21 e p n x3 m = some m9 → xW Γ lay_M 4 21 [(0, .inr (.inr (some 0))), (1, .inl e), (3, .inl x3)] [] m := by
  intro n
  induction n with
  | zero => intro _ _ h; cases h
  | succ n ih =>
    intro x3 m h
    rw [f_m_forget_21] at h
    refine x_iload_n C dX11_forget_21 rfl ?_
    refine x_iload_n C dX11_forget_22 rfl ?_
    refine x_aload_n C dX11_forget_23 rfl ?_
    refine x_iload_n C dX11_forget_24 rfl ?_
    refine x_iconst C dX11_forget_25 ?_
    obtain ⟨q2, hq2, h⟩ := x_bind h
    refine x_callVI C dX11_forget_26 (xin_27 _ (List.mem_of_getElem? (i := 14) rfl)) xy_X11_of (xi_X11_of) (xs_X11_of) (by omega) (by decide) (b := 0) rfl ⟨_, _, rfl⟩ (av := [.inl e, .inl 1]) rfl (Nat.le_of_ble_eq_true rfl) (c_m_of _ _ _ _ _ hq2) rfl ?_
    refine x_iconst C dX11_forget_29 ?_
    obtain ⟨q3, hq3, h⟩ := x_bind h
    refine x_callSp C dX11_forget_30 (xin_28 _ (List.mem_of_getElem? (i := 5) rfl)) xy_X11_frameAt (xt_X11_frameAt) [] xv_49 (by omega) (by decide) (av := [.inl e, .inl q2, .inl 0]) rfl (Nat.le_of_ble_eq_true rfl) (c_m_frameAt _ _ _ _ _ _ hq3) rfl ?_
    refine x_icmp_ge C 57 dX11_forget_33 (by decide) h (fun h => ?_) (fun h => ?_)
    · exact x_returnV hR dX11_forget_57 h
    · refine x_aload_n C dX11_forget_36 rfl ?_
      refine x_getR C dX11_forget_37 fF_X11_9 rfl rfl ?_
      refine x_iload_n C dX11_forget_40 rfl ?_
      refine x_aload_n C dX11_forget_41 rfl ?_
      refine x_getR C dX11_forget_42 fF_X11_9 rfl rfl ?_
      refine x_iload_n C dX11_forget_45 rfl ?_
      refine x_bipush C dX11_forget_46 (by decide) ?_
      refine x_iadd C dX11_forget_48 ?_
      refine x_iaload C dX11_forget_49 rfl h (fun h => ?_)
      refine x_iastore C dX11_forget_50 rfl h (fun h => ?_)
      refine x_iinc C dX11_forget_51 (by decide) rfl ?_
      refine x_goto C 21 dX11_forget_54 (by decide) ?_
      refine x_loc [(0, .inr (.inr (some 0))), (1, .inl e), (3, .inl (x3 + 1))] ⟨rfl, rfl, rfl, trivial⟩ ?_
      exact ih _ _ h
def f_m_forget (e : Int) (p : Int) (m : xM) : Option (xM) :=
     (Option.bind (f_m_endAt e 1 (xvw [] m)) fun q0 =>
      (if xib q0 3530 then (if xib q0 3530 then (Option.bind (f_m_frameAt e p 0 (xvw [] (xu m 1 (xix q0) ((m 1 (xix q0)) - 1)))) fun q1 =>
      f_m_forget_21 e p fu q1 (xu m 1 (xix q0) ((m 1 (xix q0)) - 1)))
      else none)
      else none))
set_option maxRecDepth 1000000 in
set_option maxHeartbeats 4000000 in
theorem t_m_forget {Γ : xG} {d : Nat} (hd9 : 3 ≤ d) (C : xC Γ lay_M RX11 cX11_forget 4 d) (e : Int) (p : Int) {m9 : xM} (hR : xRv Γ lay_M cX11_forget m9) (m : xM) (h : f_m_forget e p m = some m9) : xW Γ lay_M 4 0 [(0, .inr (.inr (some 0))), (1, .inl e), (2, .inl p)] [] m := by
  unfold f_m_forget at h
  refine x_aload_n C dX11_forget_0 rfl ?_
  refine x_getR C dX11_forget_1 fF_X11_9 rfl rfl ?_
  refine x_iload_n C dX11_forget_4 rfl ?_
  refine x_iconst C dX11_forget_5 ?_
  obtain ⟨q0, hq0, h⟩ := x_bind h
  refine x_callSp C dX11_forget_6 (xin_27 _ (List.mem_of_getElem? (i := 18) rfl)) xy_X11_endAt (xt_X11_endAt) [] xv_49 (by omega) (by decide) (av := [.inl e, .inl 1]) rfl (Nat.le_of_ble_eq_true rfl) (c_m_endAt _ _ _ _ _ hq0) rfl ?_
  refine x_dup2 C dX11_forget_9 rfl rfl ?_
  refine x_iaload C dX11_forget_10 rfl h (fun h => ?_)
  refine x_iconst C dX11_forget_11 ?_
  refine x_isub C dX11_forget_12 ?_
  refine x_iastore C dX11_forget_13 rfl h (fun h => ?_)
  refine x_iload_n C dX11_forget_14 rfl ?_
  refine x_iload_n C dX11_forget_15 rfl ?_
  refine x_iconst C dX11_forget_16 ?_
  obtain ⟨q1, hq1, h⟩ := x_bind h
  refine x_callSp C dX11_forget_17 (xin_28 _ (List.mem_of_getElem? (i := 5) rfl)) xy_X11_frameAt (xt_X11_frameAt) [] xv_49 (by omega) (by decide) (av := [.inl e, .inl p, .inl 0]) rfl (Nat.le_of_ble_eq_true rfl) (c_m_frameAt _ _ _ _ _ _ hq1) rfl ?_
  refine x_istore_n C dX11_forget_20 (by decide) ?_
  refine x_loc [(0, .inr (.inr (some 0))), (1, .inl e), (3, .inl q1)] ⟨rfl, rfl, rfl, trivial⟩ ?_
  exact t_m_forget_21 hd9 C _ _ hR fu _ _ h
theorem c_m_forget (l : Launch) (e : Int) (p : Int) (m m9 : xM) (h : f_m_forget e p m = some m9) : xMet l yX11_forget cX11_forget 4 none 3 lay_M [.inr (.inr (some 0)), .inl e, .inl p] m none m9 :=
  xMet_v (by decide +kernel) (Nat.le_of_ble_eq_true rfl) (fun Γ C hR hl9 => t_m_forget (Nat.le_refl _) C e p hR m h)
/-! ===== yX11_arriveAck ===== -/
theorem xy_X11_ofFrame : xY yX11_ofFrame cX11_ofFrame 4 (some .int) 3 := ⟨(xin_28 _ (List.mem_of_getElem? (i := 4) rfl)), (xin_1 _ (List.mem_of_getElem? (i := 5) rfl)), by decide, by decide, by decide +kernel⟩
theorem xi_X11_ofFrame : Cond.instanceMethod yX11_ofFrame ∈ wsL_law := (xin_28 _ (List.mem_of_getElem? (i := 2) rfl))
theorem xs_X11_ofFrame : Cond.selects yX11_ofFrame.cls yX11_ofFrame yX11_ofFrame ∈ wsL_law := (xin_28 _ (List.mem_of_getElem? (i := 3) rfl))
theorem xy_X11_forget : xY yX11_forget cX11_forget 4 none 2 := ⟨(xin_45 _ (List.mem_of_getElem? (i := 23) rfl)), (xin_1 _ (List.mem_of_getElem? (i := 5) rfl)), by decide, by decide, by decide +kernel⟩
theorem xi_X11_forget : Cond.instanceMethod yX11_forget ∈ wsL_law := (xin_45 _ (List.mem_of_getElem? (i := 21) rfl))
theorem xs_X11_forget : Cond.selects yX11_forget.cls yX11_forget yX11_forget ∈ wsL_law := (xin_45 _ (List.mem_of_getElem? (i := 22) rfl))
theorem dX11_arriveAck_0 : decode cX11_arriveAck 0 = .ok (.aload_n 0, 1) := by decide +kernel
theorem dX11_arriveAck_1 : decode cX11_arriveAck 1 = .ok (.getfield 9, 3) := by decide +kernel
theorem dX11_arriveAck_4 : decode cX11_arriveAck 4 = .ok (.iload_n 1, 1) := by decide +kernel
theorem dX11_arriveAck_5 : decode cX11_arriveAck 5 = .ok (.iconst 2, 1) := by decide +kernel
theorem dX11_arriveAck_6 : decode cX11_arriveAck 6 = .ok (.invokestatic 111, 3) := by decide +kernel
theorem dX11_arriveAck_9 : decode cX11_arriveAck 9 = .ok (.iaload, 1) := by decide +kernel
theorem dX11_arriveAck_10 : decode cX11_arriveAck 10 = .ok (.istore_n 2, 1) := by decide +kernel
theorem dX11_arriveAck_11 : decode cX11_arriveAck 11 = .ok (.aload_n 0, 1) := by decide +kernel
theorem dX11_arriveAck_12 : decode cX11_arriveAck 12 = .ok (.getfield 9, 3) := by decide +kernel
theorem dX11_arriveAck_15 : decode cX11_arriveAck 15 = .ok (.iload_n 1, 1) := by decide +kernel
theorem dX11_arriveAck_16 : decode cX11_arriveAck 16 = .ok (.iconst 3, 1) := by decide +kernel
theorem dX11_arriveAck_17 : decode cX11_arriveAck 17 = .ok (.invokestatic 111, 3) := by decide +kernel
theorem dX11_arriveAck_20 : decode cX11_arriveAck 20 = .ok (.iaload, 1) := by decide +kernel
theorem dX11_arriveAck_21 : decode cX11_arriveAck 21 = .ok (.istore_n 3, 1) := by decide +kernel
theorem dX11_arriveAck_22 : decode cX11_arriveAck 22 = .ok (.iconst 0, 1) := by decide +kernel
theorem dX11_arriveAck_23 : decode cX11_arriveAck 23 = .ok (.istore 4, 2) := by decide +kernel
theorem dX11_arriveAck_25 : decode cX11_arriveAck 25 = .ok (.iload 4, 2) := by decide +kernel
theorem dX11_arriveAck_27 : decode cX11_arriveAck 27 = .ok (.aload_n 0, 1) := by decide +kernel
theorem dX11_arriveAck_28 : decode cX11_arriveAck 28 = .ok (.iload_n 2, 1) := by decide +kernel
theorem dX11_arriveAck_29 : decode cX11_arriveAck 29 = .ok (.iconst 1, 1) := by decide +kernel
theorem dX11_arriveAck_30 : decode cX11_arriveAck 30 = .ok (.invokevirtual 101, 3) := by decide +kernel
theorem dX11_arriveAck_33 : decode cX11_arriveAck 33 = .ok (.if_icmp .ge 28, 3) := by decide +kernel
theorem dX11_arriveAck_36 : decode cX11_arriveAck 36 = .ok (.aload_n 0, 1) := by decide +kernel
theorem dX11_arriveAck_37 : decode cX11_arriveAck 37 = .ok (.iload_n 2, 1) := by decide +kernel
theorem dX11_arriveAck_38 : decode cX11_arriveAck 38 = .ok (.iload 4, 2) := by decide +kernel
theorem dX11_arriveAck_40 : decode cX11_arriveAck 40 = .ok (.iconst 0, 1) := by decide +kernel
theorem dX11_arriveAck_41 : decode cX11_arriveAck 41 = .ok (.invokevirtual 124, 3) := by decide +kernel
theorem dX11_arriveAck_44 : decode cX11_arriveAck 44 = .ok (.iload_n 3, 1) := by decide +kernel
theorem dX11_arriveAck_45 : decode cX11_arriveAck 45 = .ok (.if_icmp .ne 10, 3) := by decide +kernel
theorem dX11_arriveAck_48 : decode cX11_arriveAck 48 = .ok (.aload_n 0, 1) := by decide +kernel
theorem dX11_arriveAck_49 : decode cX11_arriveAck 49 = .ok (.iload_n 2, 1) := by decide +kernel
theorem dX11_arriveAck_50 : decode cX11_arriveAck 50 = .ok (.iload 4, 2) := by decide +kernel
theorem dX11_arriveAck_52 : decode cX11_arriveAck 52 = .ok (.invokevirtual 127, 3) := by decide +kernel
theorem dX11_arriveAck_55 : decode cX11_arriveAck 55 = .ok (.iinc 4 1, 3) := by decide +kernel
theorem dX11_arriveAck_58 : decode cX11_arriveAck 58 = .ok (.goto (-33), 3) := by decide +kernel
theorem dX11_arriveAck_61 : decode cX11_arriveAck 61 = .ok (.aload_n 0, 1) := by decide +kernel
theorem dX11_arriveAck_62 : decode cX11_arriveAck 62 = .ok (.getfield 9, 3) := by decide +kernel
theorem dX11_arriveAck_65 : decode cX11_arriveAck 65 = .ok (.bipush 8, 2) := by decide +kernel
theorem dX11_arriveAck_67 : decode cX11_arriveAck 67 = .ok (.iconst 0, 1) := by decide +kernel
theorem dX11_arriveAck_68 : decode cX11_arriveAck 68 = .ok (.iastore, 1) := by decide +kernel
theorem dX11_arriveAck_69 : decode cX11_arriveAck 69 = .ok (.aload_n 0, 1) := by decide +kernel
theorem dX11_arriveAck_70 : decode cX11_arriveAck 70 = .ok (.getfield 9, 3) := by decide +kernel
theorem dX11_arriveAck_73 : decode cX11_arriveAck 73 = .ok (.bipush 9, 2) := by decide +kernel
theorem dX11_arriveAck_75 : decode cX11_arriveAck 75 = .ok (.dup2, 1) := by decide +kernel
theorem dX11_arriveAck_76 : decode cX11_arriveAck 76 = .ok (.iaload, 1) := by decide +kernel
theorem dX11_arriveAck_77 : decode cX11_arriveAck 77 = .ok (.iconst 1, 1) := by decide +kernel
theorem dX11_arriveAck_78 : decode cX11_arriveAck 78 = .ok (.iadd, 1) := by decide +kernel
theorem dX11_arriveAck_79 : decode cX11_arriveAck 79 = .ok (.iastore, 1) := by decide +kernel
theorem dX11_arriveAck_80 : decode cX11_arriveAck 80 = .ok (.return_, 1) := by decide +kernel
def f_m_arriveAck_61 (p : Int) (m : xM) : Option (xM) :=
     (if xib 8 3530 then (if xib 9 3530 then (if xib 9 3530 then some (xu (xu m 1 8 0) 1 9 ((m 1 9) + 1))
      else none)
      else none)
      else none)
set_option maxRecDepth 1000000 in
set_option maxHeartbeats 4000000 in
theorem t_m_arriveAck_61 {Γ : xG} {d : Nat} (hd9 : 4 ≤ d) (C : xC Γ lay_M RX11 cX11_arriveAck 5 d) (p : Int) {m9 : xM} (hR : xRv Γ lay_M cX11_arriveAck m9) (m : xM) (h : f_m_arriveAck_61 p m = some m9) : xW Γ lay_M 5 61 [(0, .inr (.inr (some 0)))] [] m := by
  unfold f_m_arriveAck_61 at h
  refine x_aload_n C dX11_arriveAck_61 rfl ?_
  refine x_getR C dX11_arriveAck_62 fF_X11_9 rfl rfl ?_
  refine x_bipush C dX11_arriveAck_65 (by decide) ?_
  refine x_iconst C dX11_arriveAck_67 ?_
  refine x_iastore C dX11_arriveAck_68 rfl h (fun h => ?_)
  refine x_aload_n C dX11_arriveAck_69 rfl ?_
  refine x_getR C dX11_arriveAck_70 fF_X11_9 rfl rfl ?_
  refine x_bipush C dX11_arriveAck_73 (by decide) ?_
  refine x_dup2 C dX11_arriveAck_75 rfl rfl ?_
  refine x_iaload C dX11_arriveAck_76 rfl h (fun h => ?_)
  refine x_iconst C dX11_arriveAck_77 ?_
  refine x_iadd C dX11_arriveAck_78 ?_
  refine x_iastore C dX11_arriveAck_79 rfl h (fun h => ?_)
  exact x_returnV hR dX11_arriveAck_80 h
def f_m_arriveAck_55 (p : Int) (k25 : Int → Int → Int → xM → Option (xM)) (x2 : Int) (x3 : Int) (x4 : Int) (m : xM) : Option (xM) :=
     k25 x2 x3 (x4 + 1) m
set_option maxRecDepth 1000000 in
set_option maxHeartbeats 4000000 in
theorem t_m_arriveAck_55 {Γ : xG} {d : Nat} (hd9 : 4 ≤ d) (C : xC Γ lay_M RX11 cX11_arriveAck 5 d) (p : Int) {m9 : xM} (hR : xRv Γ lay_M cX11_arriveAck m9) {k25 : Int → Int → Int → xM → Option (xM)} (hk25 : ∀ (x2 : Int) (x3 : Int) (x4 : Int) (m : xM), k25 x2 x3 x4 m = some m9 → xW Γ lay_M 5 25 [(0, .inr (.inr (some 0))), (2, .inl x2), (3, .inl x3), (4, .inl x4)] [] m) (x2 : Int) (x3 : Int) (x4 : Int) (m : xM) (h : f_m_arriveAck_55 p k25 x2 x3 x4 m = some m9) : xW Γ lay_M 5 55 [(0, .inr (.inr (some 0))), (2, .inl x2), (3, .inl x3), (4, .inl x4)] [] m := by
  unfold f_m_arriveAck_55 at h
  refine x_iinc C dX11_arriveAck_55 (by decide) rfl ?_
  refine x_goto C 25 dX11_arriveAck_58 (by decide) ?_
  refine x_loc [(0, .inr (.inr (some 0))), (2, .inl x2), (3, .inl x3), (4, .inl (x4 + 1))] ⟨rfl, rfl, rfl, rfl, trivial⟩ ?_
  exact hk25 _ _ _ _ h
def f_m_arriveAck_25 (p : Int) : Nat → Int → Int → Int → xM → Option (xM)
  | 0, _, _, _, _ => none
  | n + 1, x2, x3, x4, m =>
     (Option.bind (f_m_of x2 1 m) fun q2 =>
      (if xw x4 < xw q2 then (Option.bind (f_m_ofFrame x2 x4 0 m) fun q3 =>
      (if xw q3 = xw x3 then (Option.bind (f_m_forget x2 x4 m) fun q4 =>
      f_m_arriveAck_55 p (f_m_arriveAck_25 p n) x2 x3 x4 q4)
      else f_m_arriveAck_55 p (f_m_arriveAck_25 p n) x2 x3 x4 m))
      else f_m_arriveAck_61 p m))
set_option maxRecDepth 1000000 in
set_option maxHeartbeats 4000000 in
theorem t_m_arriveAck_25 {Γ : xG} {d : Nat} (hd9 : 4 ≤ d) (C : xC Γ lay_M RX11 cX11_arriveAck 5 d) (p : Int) {m9 : xM} (hR : xRv Γ lay_M cX11_arriveAck m9) : ∀ (n : Nat) (x2 : Int) (x3 : Int) (x4 : Int) (m : xM), f_m_arriveAck_25 p n x2 x3 x4 m = some m9 → xW Γ lay_M 5 25 [(0, .inr (.inr (some 0))), (2, .inl x2), (3, .inl x3), (4, .inl x4)] [] m := by
  intro n
  induction n with
  | zero => intro _ _ _ _ h; cases h
  | succ n ih =>
    intro x2 x3 x4 m h
    rw [f_m_arriveAck_25] at h
    refine x_iload C dX11_arriveAck_25 rfl ?_
    refine x_aload_n C dX11_arriveAck_27 rfl ?_
    refine x_iload_n C dX11_arriveAck_28 rfl ?_
    refine x_iconst C dX11_arriveAck_29 ?_
    obtain ⟨q2, hq2, h⟩ := x_bind h
    refine x_callVI C dX11_arriveAck_30 (xin_27 _ (List.mem_of_getElem? (i := 14) rfl)) xy_X11_of (xi_X11_of) (xs_X11_of) (by omega) (by decide) (b := 0) rfl ⟨_, _, rfl⟩ (av := [.inl x2, .inl 1]) rfl (Nat.le_of_ble_eq_true rfl) (c_m_of _ _ _ _ _ hq2) rfl ?_
    refine x_icmp_ge C 61 dX11_arriveAck_33 (by decide) h (fun h => ?_) (fun h => ?_)
    · refine x_loc [(0, .inr (.inr (some 0)))] ⟨rfl, trivial⟩ ?_
      exact t_m_arriveAck_61 hd9 C _ hR _ h
    · refine x_aload_n C dX11_arriveAck_36 rfl ?_
      refine x_iload_n C dX11_arriveAck_37 rfl ?_
      refine x_iload C dX11_arriveAck_38 rfl ?_
      refine x_iconst C dX11_arriveAck_40 ?_
      obtain ⟨q3, hq3, h⟩ := x_bind h
      refine x_callVI C dX11_arriveAck_41 (xin_28 _ (List.mem_of_getElem? (i := 1) rfl)) xy_X11_ofFrame (xi_X11_ofFrame) (xs_X11_ofFrame) (by omega) (by decide) (b := 0) rfl ⟨_, _, rfl⟩ (av := [.inl x2, .inl x4, .inl 0]) rfl (Nat.le_of_ble_eq_true rfl) (c_m_ofFrame _ _ _ _ _ _ hq3) rfl ?_
      refine x_iload_n C dX11_arriveAck_44 rfl ?_
      refine x_icmp_ne C 55 dX11_arriveAck_45 (by decide) h (fun h => ?_) (fun h => ?_)
      · refine x_loc [(0, .inr (.inr (some 0))), (2, .inl x2), (3, .inl x3), (4, .inl x4)] ⟨rfl, rfl, rfl, rfl, trivial⟩ ?_
        exact t_m_arriveAck_55 hd9 C _ hR ih _ _ _ _ h
      · refine x_aload_n C dX11_arriveAck_48 rfl ?_
        refine x_iload_n C dX11_arriveAck_49 rfl ?_
        refine x_iload C dX11_arriveAck_50 rfl ?_
        obtain ⟨q4, hq4, h⟩ := x_bind h
        refine x_callVI C dX11_arriveAck_52 (xin_45 _ (List.mem_of_getElem? (i := 20) rfl)) xy_X11_forget (xi_X11_forget) (xs_X11_forget) (by omega) (by decide) (b := 0) rfl ⟨_, _, rfl⟩ (av := [.inl x2, .inl x4]) rfl (Nat.le_of_ble_eq_true rfl) (c_m_forget _ _ _ _ _ hq4) rfl ?_
        refine x_loc [(0, .inr (.inr (some 0))), (2, .inl x2), (3, .inl x3), (4, .inl x4)] ⟨rfl, rfl, rfl, rfl, trivial⟩ ?_
        exact t_m_arriveAck_55 hd9 C _ hR ih _ _ _ _ h
def f_m_arriveAck (p : Int) (m : xM) : Option (xM) :=
     (Option.bind (f_m_flyAt p 2 (xvw [] m)) fun q0 =>
      (if xib q0 3530 then (Option.bind (f_m_flyAt p 3 (xvw [] m)) fun q1 =>
      (if xib q1 3530 then f_m_arriveAck_25 p fu (m 1 (xix q0)) (m 1 (xix q1)) 0 m
      else none))
      else none))
set_option maxRecDepth 1000000 in
set_option maxHeartbeats 4000000 in
theorem t_m_arriveAck {Γ : xG} {d : Nat} (hd9 : 4 ≤ d) (C : xC Γ lay_M RX11 cX11_arriveAck 5 d) (p : Int) {m9 : xM} (hR : xRv Γ lay_M cX11_arriveAck m9) (m : xM) (h : f_m_arriveAck p m = some m9) : xW Γ lay_M 5 0 [(0, .inr (.inr (some 0))), (1, .inl p)] [] m := by
  unfold f_m_arriveAck at h
  refine x_aload_n C dX11_arriveAck_0 rfl ?_
  refine x_getR C dX11_arriveAck_1 fF_X11_9 rfl rfl ?_
  refine x_iload_n C dX11_arriveAck_4 rfl ?_
  refine x_iconst C dX11_arriveAck_5 ?_
  obtain ⟨q0, hq0, h⟩ := x_bind h
  refine x_callSp C dX11_arriveAck_6 (xin_46 _ (List.mem_of_getElem? (i := 12) rfl)) xy_X11_flyAt (xt_X11_flyAt) [] xv_49 (by omega) (by decide) (av := [.inl p, .inl 2]) rfl (Nat.le_of_ble_eq_true rfl) (c_m_flyAt _ _ _ _ _ hq0) rfl ?_
  refine x_iaload C dX11_arriveAck_9 rfl h (fun h => ?_)
  refine x_istore_n C dX11_arriveAck_10 (by decide) ?_
  refine x_aload_n C dX11_arriveAck_11 rfl ?_
  refine x_getR C dX11_arriveAck_12 fF_X11_9 rfl rfl ?_
  refine x_iload_n C dX11_arriveAck_15 rfl ?_
  refine x_iconst C dX11_arriveAck_16 ?_
  obtain ⟨q1, hq1, h⟩ := x_bind h
  refine x_callSp C dX11_arriveAck_17 (xin_46 _ (List.mem_of_getElem? (i := 12) rfl)) xy_X11_flyAt (xt_X11_flyAt) [] xv_49 (by omega) (by decide) (av := [.inl p, .inl 3]) rfl (Nat.le_of_ble_eq_true rfl) (c_m_flyAt _ _ _ _ _ hq1) rfl ?_
  refine x_iaload C dX11_arriveAck_20 rfl h (fun h => ?_)
  refine x_istore_n C dX11_arriveAck_21 (by decide) ?_
  refine x_iconst C dX11_arriveAck_22 ?_
  refine x_istore C dX11_arriveAck_23 (by decide) ?_
  refine x_loc [(0, .inr (.inr (some 0))), (2, .inl (m 1 (xix q0))), (3, .inl (m 1 (xix q1))), (4, .inl 0)] ⟨rfl, rfl, rfl, rfl, trivial⟩ ?_
  exact t_m_arriveAck_25 hd9 C _ hR fu _ _ _ _ h
theorem c_m_arriveAck (l : Launch) (p : Int) (m m9 : xM) (h : f_m_arriveAck p m = some m9) : xMet l yX11_arriveAck cX11_arriveAck 5 none 4 lay_M [.inr (.inr (some 0)), .inl p] m none m9 :=
  xMet_v (by decide +kernel) (Nat.le_of_ble_eq_true rfl) (fun Γ C hR hl9 => t_m_arriveAck (Nat.le_refl _) C p hR m h)
/-! ===== yX11_arrivals ===== -/
theorem xy_X11_arriveFrame : xY yX11_arriveFrame cX11_arriveFrame 5 none 1 := ⟨(xin_46 _ (List.mem_of_getElem? (i := 22) rfl)), (xin_1 _ (List.mem_of_getElem? (i := 5) rfl)), by decide, by decide, by decide +kernel⟩
theorem xi_X11_arriveFrame : Cond.instanceMethod yX11_arriveFrame ∈ wsL_law := (xin_46 _ (List.mem_of_getElem? (i := 20) rfl))
theorem xs_X11_arriveFrame : Cond.selects yX11_arriveFrame.cls yX11_arriveFrame yX11_arriveFrame ∈ wsL_law := (xin_46 _ (List.mem_of_getElem? (i := 21) rfl))
theorem xy_X11_land : xY yX11_land cX11_land 3 none 1 := ⟨(xin_47 _ (List.mem_of_getElem? (i := 10) rfl)), (xin_1 _ (List.mem_of_getElem? (i := 5) rfl)), by decide, by decide, by decide +kernel⟩
theorem xi_X11_land : Cond.instanceMethod yX11_land ∈ wsL_law := (xin_47 _ (List.mem_of_getElem? (i := 8) rfl))
theorem xs_X11_land : Cond.selects yX11_land.cls yX11_land yX11_land ∈ wsL_law := (xin_47 _ (List.mem_of_getElem? (i := 9) rfl))
theorem xy_X11_arriveAck : xY yX11_arriveAck cX11_arriveAck 5 none 1 := ⟨(xin_46 _ (List.mem_of_getElem? (i := 18) rfl)), (xin_1 _ (List.mem_of_getElem? (i := 5) rfl)), by decide, by decide, by decide +kernel⟩
theorem xi_X11_arriveAck : Cond.instanceMethod yX11_arriveAck ∈ wsL_law := (xin_46 _ (List.mem_of_getElem? (i := 16) rfl))
theorem xs_X11_arriveAck : Cond.selects yX11_arriveAck.cls yX11_arriveAck yX11_arriveAck ∈ wsL_law := (xin_46 _ (List.mem_of_getElem? (i := 17) rfl))
theorem dX11_arrivals_0 : decode cX11_arrivals 0 = .ok (.iconst 0, 1) := by decide +kernel
theorem dX11_arrivals_1 : decode cX11_arrivals 1 = .ok (.istore_n 1, 1) := by decide +kernel
theorem dX11_arrivals_2 : decode cX11_arrivals 2 = .ok (.iload_n 1, 1) := by decide +kernel
theorem dX11_arrivals_3 : decode cX11_arrivals 3 = .ok (.aload_n 0, 1) := by decide +kernel
theorem dX11_arrivals_4 : decode cX11_arrivals 4 = .ok (.getfield 9, 3) := by decide +kernel
theorem dX11_arrivals_7 : decode cX11_arrivals 7 = .ok (.bipush 20, 2) := by decide +kernel
theorem dX11_arrivals_9 : decode cX11_arrivals 9 = .ok (.iaload, 1) := by decide +kernel
theorem dX11_arrivals_10 : decode cX11_arrivals 10 = .ok (.if_icmp .ge 63, 3) := by decide +kernel
theorem dX11_arrivals_13 : decode cX11_arrivals 13 = .ok (.aload_n 0, 1) := by decide +kernel
theorem dX11_arrivals_14 : decode cX11_arrivals 14 = .ok (.getfield 9, 3) := by decide +kernel
theorem dX11_arrivals_17 : decode cX11_arrivals 17 = .ok (.iload_n 1, 1) := by decide +kernel
theorem dX11_arrivals_18 : decode cX11_arrivals 18 = .ok (.iconst 0, 1) := by decide +kernel
theorem dX11_arrivals_19 : decode cX11_arrivals 19 = .ok (.invokestatic 111, 3) := by decide +kernel
theorem dX11_arrivals_22 : decode cX11_arrivals 22 = .ok (.iaload, 1) := by decide +kernel
theorem dX11_arrivals_23 : decode cX11_arrivals 23 = .ok (.aload_n 0, 1) := by decide +kernel
theorem dX11_arrivals_24 : decode cX11_arrivals 24 = .ok (.getfield 9, 3) := by decide +kernel
theorem dX11_arrivals_27 : decode cX11_arrivals 27 = .ok (.iconst 0, 1) := by decide +kernel
theorem dX11_arrivals_28 : decode cX11_arrivals 28 = .ok (.iaload, 1) := by decide +kernel
theorem dX11_arrivals_29 : decode cX11_arrivals 29 = .ok (.if_icmp .eq 9, 3) := by decide +kernel
theorem dX11_arrivals_32 : decode cX11_arrivals 32 = .ok (.iinc 1 1, 3) := by decide +kernel
theorem dX11_arrivals_35 : decode cX11_arrivals 35 = .ok (.goto (-33), 3) := by decide +kernel
theorem dX11_arrivals_38 : decode cX11_arrivals 38 = .ok (.aload_n 0, 1) := by decide +kernel
theorem dX11_arrivals_39 : decode cX11_arrivals 39 = .ok (.getfield 9, 3) := by decide +kernel
theorem dX11_arrivals_42 : decode cX11_arrivals 42 = .ok (.iload_n 1, 1) := by decide +kernel
theorem dX11_arrivals_43 : decode cX11_arrivals 43 = .ok (.iconst 1, 1) := by decide +kernel
theorem dX11_arrivals_44 : decode cX11_arrivals 44 = .ok (.invokestatic 111, 3) := by decide +kernel
theorem dX11_arrivals_47 : decode cX11_arrivals 47 = .ok (.iaload, 1) := by decide +kernel
theorem dX11_arrivals_48 : decode cX11_arrivals 48 = .ok (.iconst 1, 1) := by decide +kernel
theorem dX11_arrivals_49 : decode cX11_arrivals 49 = .ok (.if_icmp .ne 11, 3) := by decide +kernel
theorem dX11_arrivals_52 : decode cX11_arrivals 52 = .ok (.aload_n 0, 1) := by decide +kernel
theorem dX11_arrivals_53 : decode cX11_arrivals 53 = .ok (.iload_n 1, 1) := by decide +kernel
theorem dX11_arrivals_54 : decode cX11_arrivals 54 = .ok (.invokevirtual 130, 3) := by decide +kernel
theorem dX11_arrivals_57 : decode cX11_arrivals 57 = .ok (.goto 8, 3) := by decide +kernel
theorem dX11_arrivals_60 : decode cX11_arrivals 60 = .ok (.aload_n 0, 1) := by decide +kernel
theorem dX11_arrivals_61 : decode cX11_arrivals 61 = .ok (.iload_n 1, 1) := by decide +kernel
theorem dX11_arrivals_62 : decode cX11_arrivals 62 = .ok (.invokevirtual 134, 3) := by decide +kernel
theorem dX11_arrivals_65 : decode cX11_arrivals 65 = .ok (.aload_n 0, 1) := by decide +kernel
theorem dX11_arrivals_66 : decode cX11_arrivals 66 = .ok (.iload_n 1, 1) := by decide +kernel
theorem dX11_arrivals_67 : decode cX11_arrivals 67 = .ok (.invokevirtual 137, 3) := by decide +kernel
theorem dX11_arrivals_70 : decode cX11_arrivals 70 = .ok (.goto (-68), 3) := by decide +kernel
theorem dX11_arrivals_73 : decode cX11_arrivals 73 = .ok (.return_, 1) := by decide +kernel
def f_m_arrivals_65 (k2 : Int → xM → Option (xM)) (x1 : Int) (m : xM) : Option (xM) :=
     (Option.bind (f_m_land x1 m) fun q3 =>
      k2 x1 q3)
set_option maxRecDepth 1000000 in
set_option maxHeartbeats 4000000 in
theorem t_m_arrivals_65 {Γ : xG} {d : Nat} (hd9 : 6 ≤ d) (C : xC Γ lay_M RX11 cX11_arrivals 2 d) {m9 : xM} (hR : xRv Γ lay_M cX11_arrivals m9) {k2 : Int → xM → Option (xM)} (hk2 : ∀ (x1 : Int) (m : xM), k2 x1 m = some m9 → xW Γ lay_M 2 2 [(0, .inr (.inr (some 0))), (1, .inl x1)] [] m) (x1 : Int) (m : xM) (h : f_m_arrivals_65 k2 x1 m = some m9) : xW Γ lay_M 2 65 [(0, .inr (.inr (some 0))), (1, .inl x1)] [] m := by
  unfold f_m_arrivals_65 at h
  refine x_aload_n C dX11_arrivals_65 rfl ?_
  refine x_iload_n C dX11_arrivals_66 rfl ?_
  obtain ⟨q3, hq3, h⟩ := x_bind h
  refine x_callVI C dX11_arrivals_67 (xin_47 _ (List.mem_of_getElem? (i := 7) rfl)) xy_X11_land (xi_X11_land) (xs_X11_land) (by omega) (by decide) (b := 0) rfl ⟨_, _, rfl⟩ (av := [.inl x1]) rfl (Nat.le_of_ble_eq_true rfl) (c_m_land _ _ _ _ hq3) rfl ?_
  refine x_goto C 2 dX11_arrivals_70 (by decide) ?_
  refine x_loc [(0, .inr (.inr (some 0))), (1, .inl x1)] ⟨rfl, rfl, trivial⟩ ?_
  exact hk2 _ _ h
def f_m_arrivals_2 : Nat → Int → xM → Option (xM)
  | 0, _, _ => none
  | n + 1, x1, m =>
     (if xib 20 3530 then (if xw x1 < xw (m 1 20) then (Option.bind (f_m_flyAt x1 0 (xvw [] m)) fun q0 =>
      (if xib q0 3530 then (if xib 0 3530 then (if xw (m 1 (xix q0)) = xw (m 1 0) then (Option.bind (f_m_flyAt x1 1 (xvw [] m)) fun q1 =>
      (if xib q1 3530 then (if xw (m 1 (xix q1)) = xw 1 then (Option.bind (f_m_arriveAck x1 m) fun q4 =>
      f_m_arrivals_65 (f_m_arrivals_2 n) x1 q4)
      else (Option.bind (f_m_arriveFrame x1 m) fun q2 =>
      f_m_arrivals_65 (f_m_arrivals_2 n) x1 q2))
      else none))
      else f_m_arrivals_2 n (x1 + 1) m)
      else none)
      else none))
      else some m)
      else none)
set_option maxRecDepth 1000000 in
set_option maxHeartbeats 4000000 in
theorem t_m_arrivals_2 {Γ : xG} {d : Nat} (hd9 : 6 ≤ d) (C : xC Γ lay_M RX11 cX11_arrivals 2 d) {m9 : xM} (hR : xRv Γ lay_M cX11_arrivals m9) : ∀ (n : Nat) (x1 : Int) (m : xM), f_m_arrivals_2 n x1 m = some m9 → xW Γ lay_M 2 2 [(0, .inr (.inr (some 0))), (1, .inl x1)] [] m := by
  intro n
  induction n with
  | zero => intro _ _ h; cases h
  | succ n ih =>
    intro x1 m h
    rw [f_m_arrivals_2] at h
    refine x_iload_n C dX11_arrivals_2 rfl ?_
    refine x_aload_n C dX11_arrivals_3 rfl ?_
    refine x_getR C dX11_arrivals_4 fF_X11_9 rfl rfl ?_
    refine x_bipush C dX11_arrivals_7 (by decide) ?_
    refine x_iaload C dX11_arrivals_9 rfl h (fun h => ?_)
    refine x_icmp_ge C 73 dX11_arrivals_10 (by decide) h (fun h => ?_) (fun h => ?_)
    · exact x_returnV hR dX11_arrivals_73 h
    · refine x_aload_n C dX11_arrivals_13 rfl ?_
      refine x_getR C dX11_arrivals_14 fF_X11_9 rfl rfl ?_
      refine x_iload_n C dX11_arrivals_17 rfl ?_
      refine x_iconst C dX11_arrivals_18 ?_
      obtain ⟨q0, hq0, h⟩ := x_bind h
      refine x_callSp C dX11_arrivals_19 (xin_46 _ (List.mem_of_getElem? (i := 12) rfl)) xy_X11_flyAt (xt_X11_flyAt) [] xv_49 (by omega) (by decide) (av := [.inl x1, .inl 0]) rfl (Nat.le_of_ble_eq_true rfl) (c_m_flyAt _ _ _ _ _ hq0) rfl ?_
      refine x_iaload C dX11_arrivals_22 rfl h (fun h => ?_)
      refine x_aload_n C dX11_arrivals_23 rfl ?_
      refine x_getR C dX11_arrivals_24 fF_X11_9 rfl rfl ?_
      refine x_iconst C dX11_arrivals_27 ?_
      refine x_iaload C dX11_arrivals_28 rfl h (fun h => ?_)
      refine x_icmp_eq C 38 dX11_arrivals_29 (by decide) h (fun h => ?_) (fun h => ?_)
      · refine x_aload_n C dX11_arrivals_38 rfl ?_
        refine x_getR C dX11_arrivals_39 fF_X11_9 rfl rfl ?_
        refine x_iload_n C dX11_arrivals_42 rfl ?_
        refine x_iconst C dX11_arrivals_43 ?_
        obtain ⟨q1, hq1, h⟩ := x_bind h
        refine x_callSp C dX11_arrivals_44 (xin_46 _ (List.mem_of_getElem? (i := 12) rfl)) xy_X11_flyAt (xt_X11_flyAt) [] xv_49 (by omega) (by decide) (av := [.inl x1, .inl 1]) rfl (Nat.le_of_ble_eq_true rfl) (c_m_flyAt _ _ _ _ _ hq1) rfl ?_
        refine x_iaload C dX11_arrivals_47 rfl h (fun h => ?_)
        refine x_iconst C dX11_arrivals_48 ?_
        refine x_icmp_ne C 60 dX11_arrivals_49 (by decide) h (fun h => ?_) (fun h => ?_)
        · refine x_aload_n C dX11_arrivals_60 rfl ?_
          refine x_iload_n C dX11_arrivals_61 rfl ?_
          obtain ⟨q2, hq2, h⟩ := x_bind h
          refine x_callVI C dX11_arrivals_62 (xin_46 _ (List.mem_of_getElem? (i := 19) rfl)) xy_X11_arriveFrame (xi_X11_arriveFrame) (xs_X11_arriveFrame) (by omega) (by decide) (b := 0) rfl ⟨_, _, rfl⟩ (av := [.inl x1]) rfl (Nat.le_of_ble_eq_true rfl) (c_m_arriveFrame _ _ _ _ hq2) rfl ?_
          refine x_loc [(0, .inr (.inr (some 0))), (1, .inl x1)] ⟨rfl, rfl, trivial⟩ ?_
          exact t_m_arrivals_65 hd9 C hR ih _ _ h
        · refine x_aload_n C dX11_arrivals_52 rfl ?_
          refine x_iload_n C dX11_arrivals_53 rfl ?_
          obtain ⟨q4, hq4, h⟩ := x_bind h
          refine x_callVI C dX11_arrivals_54 (xin_46 _ (List.mem_of_getElem? (i := 15) rfl)) xy_X11_arriveAck (xi_X11_arriveAck) (xs_X11_arriveAck) (by omega) (by decide) (b := 0) rfl ⟨_, _, rfl⟩ (av := [.inl x1]) rfl (Nat.le_of_ble_eq_true rfl) (c_m_arriveAck _ _ _ _ hq4) rfl ?_
          refine x_goto C 65 dX11_arrivals_57 (by decide) ?_
          refine x_loc [(0, .inr (.inr (some 0))), (1, .inl x1)] ⟨rfl, rfl, trivial⟩ ?_
          exact t_m_arrivals_65 hd9 C hR ih _ _ h
      · refine x_iinc C dX11_arrivals_32 (by decide) rfl ?_
        refine x_goto C 2 dX11_arrivals_35 (by decide) ?_
        refine x_loc [(0, .inr (.inr (some 0))), (1, .inl (x1 + 1))] ⟨rfl, rfl, trivial⟩ ?_
        exact ih _ _ h
def f_m_arrivals (m : xM) : Option (xM) :=
     f_m_arrivals_2 fu 0 m
set_option maxRecDepth 1000000 in
set_option maxHeartbeats 4000000 in
theorem t_m_arrivals {Γ : xG} {d : Nat} (hd9 : 6 ≤ d) (C : xC Γ lay_M RX11 cX11_arrivals 2 d) {m9 : xM} (hR : xRv Γ lay_M cX11_arrivals m9) (m : xM) (h : f_m_arrivals m = some m9) : xW Γ lay_M 2 0 [(0, .inr (.inr (some 0)))] [] m := by
  unfold f_m_arrivals at h
  refine x_iconst C dX11_arrivals_0 ?_
  refine x_istore_n C dX11_arrivals_1 (by decide) ?_
  refine x_loc [(0, .inr (.inr (some 0))), (1, .inl 0)] ⟨rfl, rfl, trivial⟩ ?_
  exact t_m_arrivals_2 hd9 C hR fu _ _ h
theorem c_m_arrivals (l : Launch) (m m9 : xM) (h : f_m_arrivals m = some m9) : xMet l yX11_arrivals cX11_arrivals 2 none 6 lay_M [.inr (.inr (some 0))] m none m9 :=
  xMet_v (by decide +kernel) (Nat.le_of_ble_eq_true rfl) (fun Γ C hR hl9 => t_m_arrivals (Nat.le_refl _) C hR m h)
/-! ===== yX11_losing ===== -/
theorem dX11_losing_0 : decode cX11_losing 0 = .ok (.iconst 0, 1) := by decide +kernel
theorem dX11_losing_1 : decode cX11_losing 1 = .ok (.istore_n 1, 1) := by decide +kernel
theorem dX11_losing_2 : decode cX11_losing 2 = .ok (.iconst 0, 1) := by decide +kernel
theorem dX11_losing_3 : decode cX11_losing 3 = .ok (.istore_n 2, 1) := by decide +kernel
theorem dX11_losing_4 : decode cX11_losing 4 = .ok (.iload_n 2, 1) := by decide +kernel
theorem dX11_losing_5 : decode cX11_losing 5 = .ok (.iconst 2, 1) := by decide +kernel
theorem dX11_losing_6 : decode cX11_losing 6 = .ok (.if_icmp .ge 68, 3) := by decide +kernel
theorem dX11_losing_9 : decode cX11_losing 9 = .ok (.iload_n 1, 1) := by decide +kernel
theorem dX11_losing_10 : decode cX11_losing 10 = .ok (.aload_n 0, 1) := by decide +kernel
theorem dX11_losing_11 : decode cX11_losing 11 = .ok (.iload_n 2, 1) := by decide +kernel
theorem dX11_losing_12 : decode cX11_losing 12 = .ok (.iconst 0, 1) := by decide +kernel
theorem dX11_losing_13 : decode cX11_losing 13 = .ok (.invokevirtual 101, 3) := by decide +kernel
theorem dX11_losing_16 : decode cX11_losing 16 = .ok (.iadd, 1) := by decide +kernel
theorem dX11_losing_17 : decode cX11_losing 17 = .ok (.istore_n 1, 1) := by decide +kernel
theorem dX11_losing_18 : decode cX11_losing 18 = .ok (.iconst 0, 1) := by decide +kernel
theorem dX11_losing_19 : decode cX11_losing 19 = .ok (.istore_n 3, 1) := by decide +kernel
theorem dX11_losing_20 : decode cX11_losing 20 = .ok (.iload_n 3, 1) := by decide +kernel
theorem dX11_losing_21 : decode cX11_losing 21 = .ok (.aload_n 0, 1) := by decide +kernel
theorem dX11_losing_22 : decode cX11_losing 22 = .ok (.iload_n 2, 1) := by decide +kernel
theorem dX11_losing_23 : decode cX11_losing 23 = .ok (.iconst 1, 1) := by decide +kernel
theorem dX11_losing_24 : decode cX11_losing 24 = .ok (.invokevirtual 101, 3) := by decide +kernel
theorem dX11_losing_27 : decode cX11_losing 27 = .ok (.if_icmp .ge 41, 3) := by decide +kernel
theorem dX11_losing_30 : decode cX11_losing 30 = .ok (.iload_n 1, 1) := by decide +kernel
theorem dX11_losing_31 : decode cX11_losing 31 = .ok (.aload_n 0, 1) := by decide +kernel
theorem dX11_losing_32 : decode cX11_losing 32 = .ok (.iload_n 2, 1) := by decide +kernel
theorem dX11_losing_33 : decode cX11_losing 33 = .ok (.iload_n 3, 1) := by decide +kernel
theorem dX11_losing_34 : decode cX11_losing 34 = .ok (.iconst 0, 1) := by decide +kernel
theorem dX11_losing_35 : decode cX11_losing 35 = .ok (.invokevirtual 124, 3) := by decide +kernel
theorem dX11_losing_38 : decode cX11_losing 38 = .ok (.aload_n 0, 1) := by decide +kernel
theorem dX11_losing_39 : decode cX11_losing 39 = .ok (.iconst 1, 1) := by decide +kernel
theorem dX11_losing_40 : decode cX11_losing 40 = .ok (.iload_n 2, 1) := by decide +kernel
theorem dX11_losing_41 : decode cX11_losing 41 = .ok (.isub, 1) := by decide +kernel
theorem dX11_losing_42 : decode cX11_losing 42 = .ok (.iconst 3, 1) := by decide +kernel
theorem dX11_losing_43 : decode cX11_losing 43 = .ok (.invokevirtual 101, 3) := by decide +kernel
theorem dX11_losing_46 : decode cX11_losing 46 = .ok (.if_icmp .lt 13, 3) := by decide +kernel
theorem dX11_losing_49 : decode cX11_losing 49 = .ok (.aload_n 0, 1) := by decide +kernel
theorem dX11_losing_50 : decode cX11_losing 50 = .ok (.iload_n 2, 1) := by decide +kernel
theorem dX11_losing_51 : decode cX11_losing 51 = .ok (.iload_n 3, 1) := by decide +kernel
theorem dX11_losing_52 : decode cX11_losing 52 = .ok (.iconst 1, 1) := by decide +kernel
theorem dX11_losing_53 : decode cX11_losing 53 = .ok (.invokevirtual 124, 3) := by decide +kernel
theorem dX11_losing_56 : decode cX11_losing 56 = .ok (.goto 4, 3) := by decide +kernel
theorem dX11_losing_59 : decode cX11_losing 59 = .ok (.iconst 0, 1) := by decide +kernel
theorem dX11_losing_60 : decode cX11_losing 60 = .ok (.iadd, 1) := by decide +kernel
theorem dX11_losing_61 : decode cX11_losing 61 = .ok (.istore_n 1, 1) := by decide +kernel
theorem dX11_losing_62 : decode cX11_losing 62 = .ok (.iinc 3 1, 3) := by decide +kernel
theorem dX11_losing_65 : decode cX11_losing 65 = .ok (.goto (-45), 3) := by decide +kernel
theorem dX11_losing_68 : decode cX11_losing 68 = .ok (.iinc 2 1, 3) := by decide +kernel
theorem dX11_losing_71 : decode cX11_losing 71 = .ok (.goto (-67), 3) := by decide +kernel
theorem dX11_losing_74 : decode cX11_losing 74 = .ok (.iload_n 1, 1) := by decide +kernel
theorem dX11_losing_75 : decode cX11_losing 75 = .ok (.ireturn, 1) := by decide +kernel
def f_m_losing_68 (m : xM) (k4 : Int → Int → Option (Int)) (x1 : Int) (x2 : Int) : Option (Int) :=
     k4 x1 (x2 + 1)
set_option maxRecDepth 1000000 in
set_option maxHeartbeats 4000000 in
theorem t_m_losing_68 {Γ : xG} {d : Nat} (hd9 : 4 ≤ d) (C : xC Γ lay_M RX11 cX11_losing 4 d) {r : Int} {m : xM} (hR : xRi Γ lay_M cX11_losing r m) {k4 : Int → Int → Option (Int)} (hk4 : ∀ (x1 : Int) (x2 : Int), k4 x1 x2 = some r → xW Γ lay_M 4 4 [(0, .inr (.inr (some 0))), (1, .inl x1), (2, .inl x2)] [] m) (x1 : Int) (x2 : Int) (h : f_m_losing_68 m k4 x1 x2 = some r) : xW Γ lay_M 4 68 [(0, .inr (.inr (some 0))), (1, .inl x1), (2, .inl x2)] [] m := by
  unfold f_m_losing_68 at h
  refine x_iinc C dX11_losing_68 (by decide) rfl ?_
  refine x_goto C 4 dX11_losing_71 (by decide) ?_
  refine x_loc [(0, .inr (.inr (some 0))), (1, .inl x1), (2, .inl (x2 + 1))] ⟨rfl, rfl, rfl, trivial⟩ ?_
  exact hk4 _ _ h
def f_m_losing_60 (m : xM) (k4 : Int → Int → Option (Int)) (k20 : Int → Int → Int → Option (Int)) (x2 : Int) (x3 : Int) (s0 : Int) (s1 : Int) : Option (Int) :=
     k20 (s1 + s0) x2 (x3 + 1)
set_option maxRecDepth 1000000 in
set_option maxHeartbeats 4000000 in
theorem t_m_losing_60 {Γ : xG} {d : Nat} (hd9 : 4 ≤ d) (C : xC Γ lay_M RX11 cX11_losing 4 d) {r : Int} {m : xM} (hR : xRi Γ lay_M cX11_losing r m) {k4 : Int → Int → Option (Int)} (hk4 : ∀ (x1 : Int) (x2 : Int), k4 x1 x2 = some r → xW Γ lay_M 4 4 [(0, .inr (.inr (some 0))), (1, .inl x1), (2, .inl x2)] [] m) {k20 : Int → Int → Int → Option (Int)} (hk20 : ∀ (x1 : Int) (x2 : Int) (x3 : Int), k20 x1 x2 x3 = some r → xW Γ lay_M 4 20 [(0, .inr (.inr (some 0))), (1, .inl x1), (2, .inl x2), (3, .inl x3)] [] m) (x2 : Int) (x3 : Int) (s0 : Int) (s1 : Int) (h : f_m_losing_60 m k4 k20 x2 x3 s0 s1 = some r) : xW Γ lay_M 4 60 [(0, .inr (.inr (some 0))), (2, .inl x2), (3, .inl x3)] [.inl s0, .inl s1] m := by
  unfold f_m_losing_60 at h
  refine x_iadd C dX11_losing_60 ?_
  refine x_istore_n C dX11_losing_61 (by decide) ?_
  refine x_iinc C dX11_losing_62 (by decide) rfl ?_
  refine x_goto C 20 dX11_losing_65 (by decide) ?_
  refine x_loc [(0, .inr (.inr (some 0))), (1, .inl (s1 + s0)), (2, .inl x2), (3, .inl (x3 + 1))] ⟨rfl, rfl, rfl, rfl, trivial⟩ ?_
  exact hk20 _ _ _ h
def f_m_losing_20 (m : xM) (k4 : Int → Int → Option (Int)) : Nat → Int → Int → Int → Option (Int)
  | 0, _, _, _ => none
  | n + 1, x1, x2, x3 =>
     (Option.bind (f_m_of x2 1 m) fun q1 =>
      (if xw x3 < xw q1 then (Option.bind (f_m_ofFrame x2 x3 0 m) fun q2 =>
      (Option.bind (f_m_of (1 - x2) 3 m) fun q3 =>
      (if xw q2 < xw q3 then f_m_losing_60 m k4 (f_m_losing_20 m k4 n) x2 x3 0 x1
      else (Option.bind (f_m_ofFrame x2 x3 1 m) fun q4 =>
      f_m_losing_60 m k4 (f_m_losing_20 m k4 n) x2 x3 q4 x1))))
      else f_m_losing_68 m k4 x1 x2))
set_option maxRecDepth 1000000 in
set_option maxHeartbeats 4000000 in
theorem t_m_losing_20 {Γ : xG} {d : Nat} (hd9 : 4 ≤ d) (C : xC Γ lay_M RX11 cX11_losing 4 d) {r : Int} {m : xM} (hR : xRi Γ lay_M cX11_losing r m) {k4 : Int → Int → Option (Int)} (hk4 : ∀ (x1 : Int) (x2 : Int), k4 x1 x2 = some r → xW Γ lay_M 4 4 [(0, .inr (.inr (some 0))), (1, .inl x1), (2, .inl x2)] [] m) : ∀ (n : Nat) (x1 : Int) (x2 : Int) (x3 : Int), f_m_losing_20 m k4 n x1 x2 x3 = some r → xW Γ lay_M 4 20 [(0, .inr (.inr (some 0))), (1, .inl x1), (2, .inl x2), (3, .inl x3)] [] m := by
  intro n
  induction n with
  | zero => intro _ _ _ h; cases h
  | succ n ih =>
    intro x1 x2 x3 h
    rw [f_m_losing_20] at h
    refine x_iload_n C dX11_losing_20 rfl ?_
    refine x_aload_n C dX11_losing_21 rfl ?_
    refine x_iload_n C dX11_losing_22 rfl ?_
    refine x_iconst C dX11_losing_23 ?_
    obtain ⟨q1, hq1, h⟩ := x_bind h
    refine x_callVI C dX11_losing_24 (xin_27 _ (List.mem_of_getElem? (i := 14) rfl)) xy_X11_of (xi_X11_of) (xs_X11_of) (by omega) (by decide) (b := 0) rfl ⟨_, _, rfl⟩ (av := [.inl x2, .inl 1]) rfl (Nat.le_of_ble_eq_true rfl) (c_m_of _ _ _ _ _ hq1) rfl ?_
    refine x_icmp_ge C 68 dX11_losing_27 (by decide) h (fun h => ?_) (fun h => ?_)
    · refine x_loc [(0, .inr (.inr (some 0))), (1, .inl x1), (2, .inl x2)] ⟨rfl, rfl, rfl, trivial⟩ ?_
      exact t_m_losing_68 hd9 C hR hk4 _ _ h
    · refine x_iload_n C dX11_losing_30 rfl ?_
      refine x_aload_n C dX11_losing_31 rfl ?_
      refine x_iload_n C dX11_losing_32 rfl ?_
      refine x_iload_n C dX11_losing_33 rfl ?_
      refine x_iconst C dX11_losing_34 ?_
      obtain ⟨q2, hq2, h⟩ := x_bind h
      refine x_callVI C dX11_losing_35 (xin_28 _ (List.mem_of_getElem? (i := 1) rfl)) xy_X11_ofFrame (xi_X11_ofFrame) (xs_X11_ofFrame) (by omega) (by decide) (b := 0) rfl ⟨_, _, rfl⟩ (av := [.inl x2, .inl x3, .inl 0]) rfl (Nat.le_of_ble_eq_true rfl) (c_m_ofFrame _ _ _ _ _ _ hq2) rfl ?_
      refine x_aload_n C dX11_losing_38 rfl ?_
      refine x_iconst C dX11_losing_39 ?_
      refine x_iload_n C dX11_losing_40 rfl ?_
      refine x_isub C dX11_losing_41 ?_
      refine x_iconst C dX11_losing_42 ?_
      obtain ⟨q3, hq3, h⟩ := x_bind h
      refine x_callVI C dX11_losing_43 (xin_27 _ (List.mem_of_getElem? (i := 14) rfl)) xy_X11_of (xi_X11_of) (xs_X11_of) (by omega) (by decide) (b := 0) rfl ⟨_, _, rfl⟩ (av := [.inl (1 - x2), .inl 3]) rfl (Nat.le_of_ble_eq_true rfl) (c_m_of _ _ _ _ _ hq3) rfl ?_
      refine x_icmp_lt C 59 dX11_losing_46 (by decide) h (fun h => ?_) (fun h => ?_)
      · refine x_iconst C dX11_losing_59 ?_
        refine x_loc [(0, .inr (.inr (some 0))), (2, .inl x2), (3, .inl x3)] ⟨rfl, rfl, rfl, trivial⟩ ?_
        exact t_m_losing_60 hd9 C hR hk4 ih _ _ _ _ h
      · refine x_aload_n C dX11_losing_49 rfl ?_
        refine x_iload_n C dX11_losing_50 rfl ?_
        refine x_iload_n C dX11_losing_51 rfl ?_
        refine x_iconst C dX11_losing_52 ?_
        obtain ⟨q4, hq4, h⟩ := x_bind h
        refine x_callVI C dX11_losing_53 (xin_28 _ (List.mem_of_getElem? (i := 1) rfl)) xy_X11_ofFrame (xi_X11_ofFrame) (xs_X11_ofFrame) (by omega) (by decide) (b := 0) rfl ⟨_, _, rfl⟩ (av := [.inl x2, .inl x3, .inl 1]) rfl (Nat.le_of_ble_eq_true rfl) (c_m_ofFrame _ _ _ _ _ _ hq4) rfl ?_
        refine x_goto C 60 dX11_losing_56 (by decide) ?_
        refine x_loc [(0, .inr (.inr (some 0))), (2, .inl x2), (3, .inl x3)] ⟨rfl, rfl, rfl, trivial⟩ ?_
        exact t_m_losing_60 hd9 C hR hk4 ih _ _ _ _ h
def f_m_losing_4 (m : xM) : Nat → Int → Int → Option (Int)
  | 0, _, _ => none
  | n + 1, x1, x2 =>
     (if xw x2 < xw 2 then (Option.bind (f_m_of x2 0 m) fun q0 =>
      f_m_losing_20 m (f_m_losing_4 m n) fu (x1 + q0) x2 0)
      else some x1)
set_option maxRecDepth 1000000 in
set_option maxHeartbeats 4000000 in
theorem t_m_losing_4 {Γ : xG} {d : Nat} (hd9 : 4 ≤ d) (C : xC Γ lay_M RX11 cX11_losing 4 d) {r : Int} {m : xM} (hR : xRi Γ lay_M cX11_losing r m) : ∀ (n : Nat) (x1 : Int) (x2 : Int), f_m_losing_4 m n x1 x2 = some r → xW Γ lay_M 4 4 [(0, .inr (.inr (some 0))), (1, .inl x1), (2, .inl x2)] [] m := by
  intro n
  induction n with
  | zero => intro _ _ h; cases h
  | succ n ih =>
    intro x1 x2 h
    rw [f_m_losing_4] at h
    refine x_iload_n C dX11_losing_4 rfl ?_
    refine x_iconst C dX11_losing_5 ?_
    refine x_icmp_ge C 74 dX11_losing_6 (by decide) h (fun h => ?_) (fun h => ?_)
    · refine x_iload_n C dX11_losing_74 rfl ?_
      exact x_ireturnP hR dX11_losing_75 h
    · refine x_iload_n C dX11_losing_9 rfl ?_
      refine x_aload_n C dX11_losing_10 rfl ?_
      refine x_iload_n C dX11_losing_11 rfl ?_
      refine x_iconst C dX11_losing_12 ?_
      obtain ⟨q0, hq0, h⟩ := x_bind h
      refine x_callVI C dX11_losing_13 (xin_27 _ (List.mem_of_getElem? (i := 14) rfl)) xy_X11_of (xi_X11_of) (xs_X11_of) (by omega) (by decide) (b := 0) rfl ⟨_, _, rfl⟩ (av := [.inl x2, .inl 0]) rfl (Nat.le_of_ble_eq_true rfl) (c_m_of _ _ _ _ _ hq0) rfl ?_
      refine x_iadd C dX11_losing_16 ?_
      refine x_istore_n C dX11_losing_17 (by decide) ?_
      refine x_iconst C dX11_losing_18 ?_
      refine x_istore_n C dX11_losing_19 (by decide) ?_
      refine x_loc [(0, .inr (.inr (some 0))), (1, .inl (x1 + q0)), (2, .inl x2), (3, .inl 0)] ⟨rfl, rfl, rfl, rfl, trivial⟩ ?_
      exact t_m_losing_20 hd9 C hR ih fu _ _ _ h
def f_m_losing (m : xM) : Option (Int) :=
     f_m_losing_4 m fu 0 0
set_option maxRecDepth 1000000 in
set_option maxHeartbeats 4000000 in
theorem t_m_losing {Γ : xG} {d : Nat} (hd9 : 4 ≤ d) (C : xC Γ lay_M RX11 cX11_losing 4 d) {r : Int} {m : xM} (hR : xRi Γ lay_M cX11_losing r m) (h : f_m_losing m = some r) : xW Γ lay_M 4 0 [(0, .inr (.inr (some 0)))] [] m := by
  unfold f_m_losing at h
  refine x_iconst C dX11_losing_0 ?_
  refine x_istore_n C dX11_losing_1 (by decide) ?_
  refine x_iconst C dX11_losing_2 ?_
  refine x_istore_n C dX11_losing_3 (by decide) ?_
  refine x_loc [(0, .inr (.inr (some 0))), (1, .inl 0), (2, .inl 0)] ⟨rfl, rfl, rfl, trivial⟩ ?_
  exact t_m_losing_4 hd9 C hR fu _ _ h
theorem c_m_losing (l : Launch) (m : xM) (r : Int) (h : f_m_losing m = some r) : xMet l yX11_losing cX11_losing 4 (some .int) 4 lay_M [.inr (.inr (some 0))] m (some (.inl r)) m :=
  xMet_i (by decide +kernel) (Nat.le_of_ble_eq_true rfl) (fun Γ C hR hl9 => t_m_losing (Nat.le_refl _) C hR h)

/-! ===== yX10_append ===== -/
theorem fF_X10_90 : xF RX10 90 11 10 .int false := ⟨RX10, TX10, 16, tyX10, rfl, by decide, (xin_11 _ (List.mem_of_getElem? (i := 6) rfl)), rfl, inlX10, tyX10_ok, nmX10, rfl, rfl⟩
theorem fF_X10_41 : xF RX10 41 11 9 (.array .int) true := ⟨RX10, TX10, 16, tyX10, rfl, by decide, (xin_1 _ (List.mem_of_getElem? (i := 23) rfl)), rfl, inlX10, tyX10_ok, nmX10, rfl, rfl⟩
theorem dX10_append_0 : decode cX10_append 0 = .ok (.bipush 24, 2) := by decide +kernel
theorem dX10_append_2 : decode cX10_append 2 = .ok (.istore_n 2, 1) := by decide +kernel
theorem dX10_append_3 : decode cX10_append 3 = .ok (.iload_n 2, 1) := by decide +kernel
theorem dX10_append_4 : decode cX10_append 4 = .ok (.ifCond .lt 45, 3) := by decide +kernel
theorem dX10_append_7 : decode cX10_append 7 = .ok (.aload_n 0, 1) := by decide +kernel
theorem dX10_append_8 : decode cX10_append 8 = .ok (.getfield 90, 3) := by decide +kernel
theorem dX10_append_11 : decode cX10_append 11 = .ok (.sipush 600, 3) := by decide +kernel
theorem dX10_append_14 : decode cX10_append 14 = .ok (.if_icmp .ge 35, 3) := by decide +kernel
theorem dX10_append_17 : decode cX10_append 17 = .ok (.aload_n 0, 1) := by decide +kernel
theorem dX10_append_18 : decode cX10_append 18 = .ok (.getfield 41, 3) := by decide +kernel
theorem dX10_append_21 : decode cX10_append 21 = .ok (.aload_n 0, 1) := by decide +kernel
theorem dX10_append_22 : decode cX10_append 22 = .ok (.getfield 90, 3) := by decide +kernel
theorem dX10_append_25 : decode cX10_append 25 = .ok (.iload_n 1, 1) := by decide +kernel
theorem dX10_append_26 : decode cX10_append 26 = .ok (.iload_n 2, 1) := by decide +kernel
theorem dX10_append_27 : decode cX10_append 27 = .ok (.ishr, 1) := by decide +kernel
theorem dX10_append_28 : decode cX10_append 28 = .ok (.sipush 255, 3) := by decide +kernel
theorem dX10_append_31 : decode cX10_append 31 = .ok (.iand, 1) := by decide +kernel
theorem dX10_append_32 : decode cX10_append 32 = .ok (.iastore, 1) := by decide +kernel
theorem dX10_append_33 : decode cX10_append 33 = .ok (.aload_n 0, 1) := by decide +kernel
theorem dX10_append_34 : decode cX10_append 34 = .ok (.dup, 1) := by decide +kernel
theorem dX10_append_35 : decode cX10_append 35 = .ok (.getfield 90, 3) := by decide +kernel
theorem dX10_append_38 : decode cX10_append 38 = .ok (.iconst 1, 1) := by decide +kernel
theorem dX10_append_39 : decode cX10_append 39 = .ok (.iadd, 1) := by decide +kernel
theorem dX10_append_40 : decode cX10_append 40 = .ok (.putfield 90, 3) := by decide +kernel
theorem dX10_append_43 : decode cX10_append 43 = .ok (.iinc 2 (-8), 3) := by decide +kernel
theorem dX10_append_46 : decode cX10_append 46 = .ok (.goto (-43), 3) := by decide +kernel
theorem dX10_append_49 : decode cX10_append 49 = .ok (.return_, 1) := by decide +kernel
def f_X_append_43 (z : Int) (k3 : Int → xM → Option (xM)) (x2 : Int) (m : xM) : Option (xM) :=
     k3 (x2 + (-8)) m
set_option maxRecDepth 1000000 in
set_option maxHeartbeats 4000000 in
theorem t_X_append_43 {Γ : xG} {d : Nat} (hd9 : 1 ≤ d) (C : xC Γ lay_X RX10 cX10_append 3 d) (z : Int) {m9 : xM} (hR : xRv Γ lay_X cX10_append m9) {k3 : Int → xM → Option (xM)} (hk3 : ∀ (x2 : Int) (m : xM), k3 x2 m = some m9 → xW Γ lay_X 3 3 [(0, .inr (.inr (some 0))), (1, .inl z), (2, .inl x2)] [] m) (x2 : Int) (m : xM) (h : f_X_append_43 z k3 x2 m = some m9) : xW Γ lay_X 3 43 [(0, .inr (.inr (some 0))), (1, .inl z), (2, .inl x2)] [] m := by
  unfold f_X_append_43 at h
  refine x_iinc C dX10_append_43 (by decide) rfl ?_
  refine x_goto C 3 dX10_append_46 (by decide) ?_
  refine x_loc [(0, .inr (.inr (some 0))), (1, .inl z), (2, .inl (x2 + (-8)))] ⟨rfl, rfl, rfl, trivial⟩ ?_
  exact hk3 _ _ h
def f_X_append_3 (z : Int) : Nat → Int → xM → Option (xM)
  | 0, _, _ => none
  | n + 1, x2, m =>
     (if xw x2 < 0 then some m
      else (if xw (m 0 10) < xw 600 then (if xib (m 0 10) 600 then f_X_append_43 z (f_X_append_3 z n) x2 (xu (xu m 441 (xix (m 0 10)) (xiand (xishr z x2) 255)) 0 10 ((m 0 10) + 1))
      else none)
      else some m))
set_option maxRecDepth 1000000 in
set_option maxHeartbeats 4000000 in
theorem t_X_append_3 {Γ : xG} {d : Nat} (hd9 : 1 ≤ d) (C : xC Γ lay_X RX10 cX10_append 3 d) (z : Int) {m9 : xM} (hR : xRv Γ lay_X cX10_append m9) : ∀ (n : Nat) (x2 : Int) (m : xM), f_X_append_3 z n x2 m = some m9 → xW Γ lay_X 3 3 [(0, .inr (.inr (some 0))), (1, .inl z), (2, .inl x2)] [] m := by
  intro n
  induction n with
  | zero => intro _ _ h; cases h
  | succ n ih =>
    intro x2 m h
    rw [f_X_append_3] at h
    refine x_iload_n C dX10_append_3 rfl ?_
    refine x_if_lt C 49 dX10_append_4 (by decide) h (fun h => ?_) (fun h => ?_)
    · exact x_returnV hR dX10_append_49 h
    · refine x_aload_n C dX10_append_7 rfl ?_
      refine x_getI C dX10_append_8 fF_X10_90 rfl rfl ?_
      refine x_sipush C dX10_append_11 (by decide) ?_
      refine x_icmp_ge C 49 dX10_append_14 (by decide) h (fun h => ?_) (fun h => ?_)
      · exact x_returnV hR dX10_append_49 h
      · refine x_aload_n C dX10_append_17 rfl ?_
        refine x_getR C dX10_append_18 fF_X10_41 rfl rfl ?_
        refine x_aload_n C dX10_append_21 rfl ?_
        refine x_getI C dX10_append_22 fF_X10_90 rfl rfl ?_
        refine x_iload_n C dX10_append_25 rfl ?_
        refine x_iload_n C dX10_append_26 rfl ?_
        refine x_ishr C dX10_append_27 ?_
        refine x_sipush C dX10_append_28 (by decide) ?_
        refine x_iand C dX10_append_31 ?_
        refine x_iastore C dX10_append_32 rfl h (fun h => ?_)
        refine x_aload_n C dX10_append_33 rfl ?_
        refine x_dup C dX10_append_34 rfl ?_
        refine x_getI C dX10_append_35 fF_X10_90 rfl rfl ?_
        refine x_iconst C dX10_append_38 ?_
        refine x_iadd C dX10_append_39 ?_
        refine x_putI C dX10_append_40 fF_X10_90 rfl rfl ?_
        refine x_loc [(0, .inr (.inr (some 0))), (1, .inl z), (2, .inl x2)] ⟨rfl, rfl, rfl, trivial⟩ ?_
        exact t_X_append_43 hd9 C _ hR ih _ _ h
def f_X_append (z : Int) (m : xM) : Option (xM) :=
     f_X_append_3 z fu 24 m
set_option maxRecDepth 1000000 in
set_option maxHeartbeats 4000000 in
theorem t_X_append {Γ : xG} {d : Nat} (hd9 : 1 ≤ d) (C : xC Γ lay_X RX10 cX10_append 3 d) (z : Int) {m9 : xM} (hR : xRv Γ lay_X cX10_append m9) (m : xM) (h : f_X_append z m = some m9) : xW Γ lay_X 3 0 [(0, .inr (.inr (some 0))), (1, .inl z)] [] m := by
  unfold f_X_append at h
  refine x_bipush C dX10_append_0 (by decide) ?_
  refine x_istore_n C dX10_append_2 (by decide) ?_
  refine x_loc [(0, .inr (.inr (some 0))), (1, .inl z), (2, .inl 24)] ⟨rfl, rfl, rfl, trivial⟩ ?_
  exact t_X_append_3 hd9 C _ hR fu _ _ h
theorem c_X_append (l : Launch) (z : Int) (m m9 : xM) (h : f_X_append z m = some m9) : xMet l yX10_append cX10_append 3 none 1 lay_X [.inr (.inr (some 0)), .inl z] m none m9 :=
  xMet_v (by decide +kernel) (Nat.le_of_ble_eq_true rfl) (fun Γ C hR hl9 => t_X_append (Nat.le_refl _) C z hR m h)
/-! ===== yX10_feed ===== -/
theorem xy_X10_append : xY yX10_append cX10_append 3 none 1 := ⟨(xin_11 _ (List.mem_of_getElem? (i := 10) rfl)), (xin_1 _ (List.mem_of_getElem? (i := 2) rfl)), by decide, by decide, by decide +kernel⟩
theorem xi_X10_append : Cond.instanceMethod yX10_append ∈ wsL_law := (xin_11 _ (List.mem_of_getElem? (i := 8) rfl))
theorem xs_X10_append : Cond.selects yX10_append.cls yX10_append yX10_append ∈ wsL_law := (xin_11 _ (List.mem_of_getElem? (i := 9) rfl))
theorem dX10_feed_0 : decode cX10_feed 0 = .ok (.aload_n 0, 1) := by decide +kernel
theorem dX10_feed_1 : decode cX10_feed 1 = .ok (.getfield 90, 3) := by decide +kernel
theorem dX10_feed_4 : decode cX10_feed 4 = .ok (.bipush 20, 2) := by decide +kernel
theorem dX10_feed_6 : decode cX10_feed 6 = .ok (.iadd, 1) := by decide +kernel
theorem dX10_feed_7 : decode cX10_feed 7 = .ok (.sipush 600, 3) := by decide +kernel
theorem dX10_feed_10 : decode cX10_feed 10 = .ok (.if_icmp .le 5, 3) := by decide +kernel
theorem dX10_feed_13 : decode cX10_feed 13 = .ok (.iconst (-1), 1) := by decide +kernel
theorem dX10_feed_14 : decode cX10_feed 14 = .ok (.ireturn, 1) := by decide +kernel
theorem dX10_feed_15 : decode cX10_feed 15 = .ok (.aload_n 0, 1) := by decide +kernel
theorem dX10_feed_16 : decode cX10_feed 16 = .ok (.iload_n 1, 1) := by decide +kernel
theorem dX10_feed_17 : decode cX10_feed 17 = .ok (.invokevirtual 93, 3) := by decide +kernel
theorem dX10_feed_20 : decode cX10_feed 20 = .ok (.aload_n 0, 1) := by decide +kernel
theorem dX10_feed_21 : decode cX10_feed 21 = .ok (.iload_n 2, 1) := by decide +kernel
theorem dX10_feed_22 : decode cX10_feed 22 = .ok (.invokevirtual 93, 3) := by decide +kernel
theorem dX10_feed_25 : decode cX10_feed 25 = .ok (.aload_n 0, 1) := by decide +kernel
theorem dX10_feed_26 : decode cX10_feed 26 = .ok (.iload_n 3, 1) := by decide +kernel
theorem dX10_feed_27 : decode cX10_feed 27 = .ok (.invokevirtual 93, 3) := by decide +kernel
theorem dX10_feed_30 : decode cX10_feed 30 = .ok (.aload_n 0, 1) := by decide +kernel
theorem dX10_feed_31 : decode cX10_feed 31 = .ok (.iload 4, 2) := by decide +kernel
theorem dX10_feed_33 : decode cX10_feed 33 = .ok (.invokevirtual 93, 3) := by decide +kernel
theorem dX10_feed_36 : decode cX10_feed 36 = .ok (.aload_n 0, 1) := by decide +kernel
theorem dX10_feed_37 : decode cX10_feed 37 = .ok (.iload 5, 2) := by decide +kernel
theorem dX10_feed_39 : decode cX10_feed 39 = .ok (.invokevirtual 93, 3) := by decide +kernel
theorem dX10_feed_42 : decode cX10_feed 42 = .ok (.aload_n 0, 1) := by decide +kernel
theorem dX10_feed_43 : decode cX10_feed 43 = .ok (.getfield 90, 3) := by decide +kernel
theorem dX10_feed_46 : decode cX10_feed 46 = .ok (.ireturn, 1) := by decide +kernel
def f_X_feed (a : Int) (b : Int) (c : Int) (d0 : Int) (e : Int) (m : xM) : Option (Int × xM) :=
     (if xw 600 < xw ((m 0 10) + 20) then some ((-1), m)
      else (Option.bind (f_X_append a m) fun q0 =>
      (Option.bind (f_X_append b q0) fun q1 =>
      (Option.bind (f_X_append c q1) fun q2 =>
      (Option.bind (f_X_append d0 q2) fun q3 =>
      (Option.bind (f_X_append e q3) fun q4 =>
      some ((q4 0 10), q4)))))))
set_option maxRecDepth 1000000 in
set_option maxHeartbeats 4000000 in
theorem t_X_feed {Γ : xG} {d : Nat} (hd9 : 2 ≤ d) (C : xC Γ lay_X RX10 cX10_feed 6 d) (a : Int) (b : Int) (c : Int) (d0 : Int) (e : Int) {r : Int} {m9 : xM} (hR : xRi Γ lay_X cX10_feed r m9) (m : xM) (h : f_X_feed a b c d0 e m = some (r, m9)) : xW Γ lay_X 6 0 [(0, .inr (.inr (some 0))), (1, .inl a), (2, .inl b), (3, .inl c), (4, .inl d0), (5, .inl e)] [] m := by
  unfold f_X_feed at h
  refine x_aload_n C dX10_feed_0 rfl ?_
  refine x_getI C dX10_feed_1 fF_X10_90 rfl rfl ?_
  refine x_bipush C dX10_feed_4 (by decide) ?_
  refine x_iadd C dX10_feed_6 ?_
  refine x_sipush C dX10_feed_7 (by decide) ?_
  refine x_icmp_le C 15 dX10_feed_10 (by decide) h (fun h => ?_) (fun h => ?_)
  · refine x_aload_n C dX10_feed_15 rfl ?_
    refine x_iload_n C dX10_feed_16 rfl ?_
    obtain ⟨q0, hq0, h⟩ := x_bind h
    refine x_callVI C dX10_feed_17 (xin_11 _ (List.mem_of_getElem? (i := 7) rfl)) xy_X10_append (xi_X10_append) (xs_X10_append) (by omega) (by decide) (b := 0) rfl ⟨_, _, rfl⟩ (av := [.inl a]) rfl (Nat.le_of_ble_eq_true rfl) (c_X_append _ _ _ _ hq0) rfl ?_
    refine x_aload_n C dX10_feed_20 rfl ?_
    refine x_iload_n C dX10_feed_21 rfl ?_
    obtain ⟨q1, hq1, h⟩ := x_bind h
    refine x_callVI C dX10_feed_22 (xin_11 _ (List.mem_of_getElem? (i := 7) rfl)) xy_X10_append (xi_X10_append) (xs_X10_append) (by omega) (by decide) (b := 0) rfl ⟨_, _, rfl⟩ (av := [.inl b]) rfl (Nat.le_of_ble_eq_true rfl) (c_X_append _ _ _ _ hq1) rfl ?_
    refine x_aload_n C dX10_feed_25 rfl ?_
    refine x_iload_n C dX10_feed_26 rfl ?_
    obtain ⟨q2, hq2, h⟩ := x_bind h
    refine x_callVI C dX10_feed_27 (xin_11 _ (List.mem_of_getElem? (i := 7) rfl)) xy_X10_append (xi_X10_append) (xs_X10_append) (by omega) (by decide) (b := 0) rfl ⟨_, _, rfl⟩ (av := [.inl c]) rfl (Nat.le_of_ble_eq_true rfl) (c_X_append _ _ _ _ hq2) rfl ?_
    refine x_aload_n C dX10_feed_30 rfl ?_
    refine x_iload C dX10_feed_31 rfl ?_
    obtain ⟨q3, hq3, h⟩ := x_bind h
    refine x_callVI C dX10_feed_33 (xin_11 _ (List.mem_of_getElem? (i := 7) rfl)) xy_X10_append (xi_X10_append) (xs_X10_append) (by omega) (by decide) (b := 0) rfl ⟨_, _, rfl⟩ (av := [.inl d0]) rfl (Nat.le_of_ble_eq_true rfl) (c_X_append _ _ _ _ hq3) rfl ?_
    refine x_aload_n C dX10_feed_36 rfl ?_
    refine x_iload C dX10_feed_37 rfl ?_
    obtain ⟨q4, hq4, h⟩ := x_bind h
    refine x_callVI C dX10_feed_39 (xin_11 _ (List.mem_of_getElem? (i := 7) rfl)) xy_X10_append (xi_X10_append) (xs_X10_append) (by omega) (by decide) (b := 0) rfl ⟨_, _, rfl⟩ (av := [.inl e]) rfl (Nat.le_of_ble_eq_true rfl) (c_X_append _ _ _ _ hq4) rfl ?_
    refine x_aload_n C dX10_feed_42 rfl ?_
    refine x_getI C dX10_feed_43 fF_X10_90 rfl rfl ?_
    exact x_ireturn hR dX10_feed_46 h
  · refine x_iconst C dX10_feed_13 ?_
    exact x_ireturn hR dX10_feed_14 h
theorem c_X_feed (l : Launch) (a : Int) (b : Int) (c : Int) (d0 : Int) (e : Int) (m : xM) (r : Int) (m9 : xM) (h : f_X_feed a b c d0 e m = some (r, m9)) : xMet l yX10_feed cX10_feed 6 (some .int) 2 lay_X [.inr (.inr (some 0)), .inl a, .inl b, .inl c, .inl d0, .inl e] m (some (.inl r)) m9 :=
  xMet_i (by decide +kernel) (Nat.le_of_ble_eq_true rfl) (fun Γ C hR hl9 => t_X_feed (Nat.le_refl _) C a b c d0 e hR m h)
/-! ===== yX10_checkLength ===== -/
theorem dX10_checkLength_0 : decode cX10_checkLength 0 = .ok (.iload_n 1, 1) := by decide +kernel
theorem dX10_checkLength_1 : decode cX10_checkLength 1 = .ok (.ifCond .lt 16, 3) := by decide +kernel
theorem dX10_checkLength_4 : decode cX10_checkLength 4 = .ok (.iload_n 1, 1) := by decide +kernel
theorem dX10_checkLength_5 : decode cX10_checkLength 5 = .ok (.iload_n 2, 1) := by decide +kernel
theorem dX10_checkLength_6 : decode cX10_checkLength 6 = .ok (.if_icmp .gt 11, 3) := by decide +kernel
theorem dX10_checkLength_9 : decode cX10_checkLength 9 = .ok (.iload_n 1, 1) := by decide +kernel
theorem dX10_checkLength_10 : decode cX10_checkLength 10 = .ok (.aload_n 0, 1) := by decide +kernel
theorem dX10_checkLength_11 : decode cX10_checkLength 11 = .ok (.getfield 90, 3) := by decide +kernel
theorem dX10_checkLength_14 : decode cX10_checkLength 14 = .ok (.if_icmp .le 13, 3) := by decide +kernel
theorem dX10_checkLength_17 : decode cX10_checkLength 17 = .ok (.new 126, 3) := by decide +kernel
theorem dX10_checkLength_20 : decode cX10_checkLength 20 = .ok (.dup, 1) := by decide +kernel
theorem dX10_checkLength_21 : decode cX10_checkLength 21 = .ok (.ldc 128, 2) := by decide +kernel
theorem dX10_checkLength_23 : decode cX10_checkLength 23 = .ok (.invokespecial 130, 3) := by decide +kernel
theorem dX10_checkLength_26 : decode cX10_checkLength 26 = .ok (.athrow, 1) := by decide +kernel
theorem dX10_checkLength_27 : decode cX10_checkLength 27 = .ok (.return_, 1) := by decide +kernel
def f_X_checkLength_17 (z : Int) (w : Int) (m : xM) : Option (Int) :=
     none
set_option maxRecDepth 1000000 in
set_option maxHeartbeats 4000000 in
theorem t_X_checkLength_17 {Γ : xG} {d : Nat} (hd9 : 1 ≤ d) (C : xC Γ lay_X RX10 cX10_checkLength 3 d) (z : Int) (w : Int) {r : Int} {m : xM} (hR : xRv Γ lay_X cX10_checkLength m) (h : f_X_checkLength_17 z w m = some r) : xW Γ lay_X 3 17 [] [] m := by
  unfold f_X_checkLength_17 at h
  cases h
def f_X_checkLength (z : Int) (w : Int) (m : xM) : Option (Int) :=
     (if xw z < 0 then f_X_checkLength_17 z w m
      else (if xw w < xw z then f_X_checkLength_17 z w m
      else (if xw (m 0 10) < xw z then f_X_checkLength_17 z w m
      else some 0)))
set_option maxRecDepth 1000000 in
set_option maxHeartbeats 4000000 in
theorem t_X_checkLength {Γ : xG} {d : Nat} (hd9 : 1 ≤ d) (C : xC Γ lay_X RX10 cX10_checkLength 3 d) (z : Int) (w : Int) {r : Int} {m : xM} (hR : xRv Γ lay_X cX10_checkLength m) (h : f_X_checkLength z w m = some r) : xW Γ lay_X 3 0 [(0, .inr (.inr (some 0))), (1, .inl z), (2, .inl w)] [] m := by
  unfold f_X_checkLength at h
  refine x_iload_n C dX10_checkLength_0 rfl ?_
  refine x_if_lt C 17 dX10_checkLength_1 (by decide) h (fun h => ?_) (fun h => ?_)
  · refine x_loc [] trivial ?_
    exact t_X_checkLength_17 hd9 C _ _ hR h
  · refine x_iload_n C dX10_checkLength_4 rfl ?_
    refine x_iload_n C dX10_checkLength_5 rfl ?_
    refine x_icmp_gt C 17 dX10_checkLength_6 (by decide) h (fun h => ?_) (fun h => ?_)
    · refine x_loc [] trivial ?_
      exact t_X_checkLength_17 hd9 C _ _ hR h
    · refine x_iload_n C dX10_checkLength_9 rfl ?_
      refine x_aload_n C dX10_checkLength_10 rfl ?_
      refine x_getI C dX10_checkLength_11 fF_X10_90 rfl rfl ?_
      refine x_icmp_le C 27 dX10_checkLength_14 (by decide) h (fun h => ?_) (fun h => ?_)
      · exact x_returnV hR dX10_checkLength_27 rfl
      · refine x_loc [] trivial ?_
        exact t_X_checkLength_17 hd9 C _ _ hR h
theorem c_X_checkLength (l : Launch) (z : Int) (w : Int) (m : xM) (r : Int) (h : f_X_checkLength z w m = some r) : xMet l yX10_checkLength cX10_checkLength 3 none 1 lay_X [.inr (.inr (some 0)), .inl z, .inl w] m none m :=
  xMet_v (by decide +kernel) (Nat.le_of_ble_eq_true rfl) (fun Γ C hR hl9 => t_X_checkLength (Nat.le_refl _) C z w hR h)
/-! ===== yX10_closeText ===== -/
theorem fF_X10_54 : xF RX10 54 11 12 (.object "ModemLink$Tokens") true := ⟨RX10, TX10, 16, tyX10, rfl, by decide, (xin_2 _ (List.mem_of_getElem? (i := 4) rfl)), rfl, inlX10, tyX10_ok, nmX10, rfl, rfl⟩
theorem fF_X10_110 : xF RX10 110 9 6 .int false := ⟨RX8, TX8, 7, tyX8, rfl, by decide, (xin_11 _ (List.mem_of_getElem? (i := 18) rfl)), rfl, inlX8, tyX8_ok, nmX8, rfl, rfl⟩
theorem fF_X10_133 : xF RX10 133 9 3 .int false := ⟨RX8, TX8, 7, tyX8, rfl, by decide, (xin_17 _ (List.mem_of_getElem? (i := 4) rfl)), rfl, inlX8, tyX8_ok, nmX8, rfl, rfl⟩
theorem fF_X10_45 : xF RX10 45 11 11 .int false := ⟨RX10, TX10, 16, tyX10, rfl, by decide, (xin_2 _ (List.mem_of_getElem? (i := 0) rfl)), rfl, inlX10, tyX10_ok, nmX10, rfl, rfl⟩
theorem dX10_closeText_0 : decode cX10_closeText 0 = .ok (.aload_n 0, 1) := by decide +kernel
theorem dX10_closeText_1 : decode cX10_closeText 1 = .ok (.iconst 0, 1) := by decide +kernel
theorem dX10_closeText_2 : decode cX10_closeText 2 = .ok (.putfield 90, 3) := by decide +kernel
theorem dX10_closeText_5 : decode cX10_closeText 5 = .ok (.aload_n 0, 1) := by decide +kernel
theorem dX10_closeText_6 : decode cX10_closeText 6 = .ok (.aload_n 0, 1) := by decide +kernel
theorem dX10_closeText_7 : decode cX10_closeText 7 = .ok (.getfield 54, 3) := by decide +kernel
theorem dX10_closeText_10 : decode cX10_closeText 10 = .ok (.getfield 110, 3) := by decide +kernel
theorem dX10_closeText_13 : decode cX10_closeText 13 = .ok (.ifCond .ne 7, 3) := by decide +kernel
theorem dX10_closeText_16 : decode cX10_closeText 16 = .ok (.iconst (-1), 1) := by decide +kernel
theorem dX10_closeText_17 : decode cX10_closeText 17 = .ok (.goto 10, 3) := by decide +kernel
theorem dX10_closeText_20 : decode cX10_closeText 20 = .ok (.aload_n 0, 1) := by decide +kernel
theorem dX10_closeText_21 : decode cX10_closeText 21 = .ok (.getfield 54, 3) := by decide +kernel
theorem dX10_closeText_24 : decode cX10_closeText 24 = .ok (.getfield 133, 3) := by decide +kernel
theorem dX10_closeText_27 : decode cX10_closeText 27 = .ok (.putfield 45, 3) := by decide +kernel
theorem dX10_closeText_30 : decode cX10_closeText 30 = .ok (.return_, 1) := by decide +kernel
def f_X_closeText_27 (s0 : Int) (m : xM) : Option (xM) :=
     some (xu m 0 11 s0)
set_option maxRecDepth 1000000 in
set_option maxHeartbeats 4000000 in
theorem t_X_closeText_27 {Γ : xG} {d : Nat} (hd9 : 1 ≤ d) (C : xC Γ lay_X RX10 cX10_closeText 1 d) {m9 : xM} (hR : xRv Γ lay_X cX10_closeText m9) (s0 : Int) (m : xM) (h : f_X_closeText_27 s0 m = some m9) : xW Γ lay_X 1 27 [] [.inl s0, .inr (.inr (some 0))] m := by
  unfold f_X_closeText_27 at h
  refine x_putI C dX10_closeText_27 fF_X10_45 rfl rfl ?_
  exact x_returnV hR dX10_closeText_30 h
def f_X_closeText (m : xM) : Option (xM) :=
     (if xw (m 442 6) = 0 then f_X_closeText_27 (-1) (xu m 0 10 0)
      else f_X_closeText_27 (m 442 3) (xu m 0 10 0))
set_option maxRecDepth 1000000 in
set_option maxHeartbeats 4000000 in
theorem t_X_closeText {Γ : xG} {d : Nat} (hd9 : 1 ≤ d) (C : xC Γ lay_X RX10 cX10_closeText 1 d) {m9 : xM} (hR : xRv Γ lay_X cX10_closeText m9) (m : xM) (h : f_X_closeText m = some m9) : xW Γ lay_X 1 0 [(0, .inr (.inr (some 0)))] [] m := by
  unfold f_X_closeText at h
  refine x_aload_n C dX10_closeText_0 rfl ?_
  refine x_iconst C dX10_closeText_1 ?_
  refine x_putI C dX10_closeText_2 fF_X10_90 rfl rfl ?_
  refine x_aload_n C dX10_closeText_5 rfl ?_
  refine x_aload_n C dX10_closeText_6 rfl ?_
  refine x_getR C dX10_closeText_7 fF_X10_54 rfl rfl ?_
  refine x_getI C dX10_closeText_10 fF_X10_110 rfl rfl ?_
  refine x_if_ne C 20 dX10_closeText_13 (by decide) h (fun h => ?_) (fun h => ?_)
  · refine x_aload_n C dX10_closeText_20 rfl ?_
    refine x_getR C dX10_closeText_21 fF_X10_54 rfl rfl ?_
    refine x_getI C dX10_closeText_24 fF_X10_133 rfl rfl ?_
    refine x_loc [] trivial ?_
    exact t_X_closeText_27 hd9 C hR _ _ h
  · refine x_iconst C dX10_closeText_16 ?_
    refine x_goto C 27 dX10_closeText_17 (by decide) ?_
    refine x_loc [] trivial ?_
    exact t_X_closeText_27 hd9 C hR _ _ h
theorem c_X_closeText (l : Launch) (m m9 : xM) (h : f_X_closeText m = some m9) : xMet l yX10_closeText cX10_closeText 1 none 1 lay_X [.inr (.inr (some 0))] m none m9 :=
  xMet_v (by decide +kernel) (Nat.le_of_ble_eq_true rfl) (fun Γ C hR hl9 => t_X_closeText (Nat.le_refl _) C hR m h)
/-! ===== yX10_size ===== -/
theorem fF_X10_27 : xF RX10 27 11 2 (.object "ModemLink$Line") true := ⟨RX10, TX10, 16, tyX10, rfl, by decide, (xin_1 _ (List.mem_of_getElem? (i := 19) rfl)), rfl, inlX10, tyX10_ok, nmX10, rfl, rfl⟩
theorem fF_X10_136 : xF RX10 136 4 8 .int false := ⟨RX3, TX3, 17, tyX3, rfl, by decide, (xin_17 _ (List.mem_of_getElem? (i := 17) rfl)), rfl, inlX3, tyX3_ok, nmX3, rfl, rfl⟩
theorem fF_X10_139 : xF RX10 139 4 7 .int false := ⟨RX3, TX3, 17, tyX3, rfl, by decide, (xin_20 _ (List.mem_of_getElem? (i := 23) rfl)), rfl, inlX3, tyX3_ok, nmX3, rfl, rfl⟩
theorem fF_X10_142 : xF RX10 142 4 9 .int false := ⟨RX3, TX3, 17, tyX3, rfl, by decide, (xin_29 _ (List.mem_of_getElem? (i := 7) rfl)), rfl, inlX3, tyX3_ok, nmX3, rfl, rfl⟩
theorem fF_X10_145 : xF RX10 145 4 10 .int false := ⟨RX3, TX3, 17, tyX3, rfl, by decide, (xin_29 _ (List.mem_of_getElem? (i := 8) rfl)), rfl, inlX3, tyX3_ok, nmX3, rfl, rfl⟩
theorem fF_X10_148 : xF RX10 148 4 11 .int false := ⟨RX3, TX3, 17, tyX3, rfl, by decide, (xin_29 _ (List.mem_of_getElem? (i := 9) rfl)), rfl, inlX3, tyX3_ok, nmX3, rfl, rfl⟩
theorem fF_X10_151 : xF RX10 151 4 12 .int false := ⟨RX3, TX3, 17, tyX3, rfl, by decide, (xin_29 _ (List.mem_of_getElem? (i := 10) rfl)), rfl, inlX3, tyX3_ok, nmX3, rfl, rfl⟩
theorem fF_X10_154 : xF RX10 154 4 13 .int false := ⟨RX3, TX3, 17, tyX3, rfl, by decide, (xin_29 _ (List.mem_of_getElem? (i := 11) rfl)), rfl, inlX3, tyX3_ok, nmX3, rfl, rfl⟩
theorem fF_X10_157 : xF RX10 157 4 14 .int false := ⟨RX3, TX3, 17, tyX3, rfl, by decide, (xin_29 _ (List.mem_of_getElem? (i := 12) rfl)), rfl, inlX3, tyX3_ok, nmX3, rfl, rfl⟩
theorem fF_X10_160 : xF RX10 160 4 15 .int false := ⟨RX3, TX3, 17, tyX3, rfl, by decide, (xin_29 _ (List.mem_of_getElem? (i := 13) rfl)), rfl, inlX3, tyX3_ok, nmX3, rfl, rfl⟩
theorem fF_X10_163 : xF RX10 163 4 16 .int false := ⟨RX3, TX3, 17, tyX3, rfl, by decide, (xin_29 _ (List.mem_of_getElem? (i := 14) rfl)), rfl, inlX3, tyX3_ok, nmX3, rfl, rfl⟩
theorem fF_X10_69 : xF RX10 69 4 4 (.object "ModemLink$Log") true := ⟨RX3, TX3, 17, tyX3, rfl, by decide, (xin_2 _ (List.mem_of_getElem? (i := 12) rfl)), rfl, inlX3, tyX3_ok, nmX3, rfl, rfl⟩
theorem fF_X10_166 : xF RX10 166 5 2 .int false := ⟨RX4, TX4, 3, tyX4, rfl, by decide, (xin_29 _ (List.mem_of_getElem? (i := 15) rfl)), rfl, inlX4, tyX4_ok, nmX4, rfl, rfl⟩
theorem dX10_size_0 : decode cX10_size 0 = .ok (.aload_n 0, 1) := by decide +kernel
theorem dX10_size_1 : decode cX10_size 1 = .ok (.getfield 27, 3) := by decide +kernel
theorem dX10_size_4 : decode cX10_size 4 = .ok (.getfield 136, 3) := by decide +kernel
theorem dX10_size_7 : decode cX10_size 7 = .ok (.iconst 1, 1) := by decide +kernel
theorem dX10_size_8 : decode cX10_size 8 = .ok (.if_icmp .ne 7, 3) := by decide +kernel
theorem dX10_size_11 : decode cX10_size 11 = .ok (.iconst 1, 1) := by decide +kernel
theorem dX10_size_12 : decode cX10_size 12 = .ok (.goto 4, 3) := by decide +kernel
theorem dX10_size_15 : decode cX10_size 15 = .ok (.iconst 0, 1) := by decide +kernel
theorem dX10_size_16 : decode cX10_size 16 = .ok (.istore_n 2, 1) := by decide +kernel
theorem dX10_size_17 : decode cX10_size 17 = .ok (.aload_n 0, 1) := by decide +kernel
theorem dX10_size_18 : decode cX10_size 18 = .ok (.getfield 27, 3) := by decide +kernel
theorem dX10_size_21 : decode cX10_size 21 = .ok (.getfield 136, 3) := by decide +kernel
theorem dX10_size_24 : decode cX10_size 24 = .ok (.iconst 2, 1) := by decide +kernel
theorem dX10_size_25 : decode cX10_size 25 = .ok (.if_icmp .ne 7, 3) := by decide +kernel
theorem dX10_size_28 : decode cX10_size 28 = .ok (.iconst 1, 1) := by decide +kernel
theorem dX10_size_29 : decode cX10_size 29 = .ok (.goto 4, 3) := by decide +kernel
theorem dX10_size_32 : decode cX10_size 32 = .ok (.iconst 0, 1) := by decide +kernel
theorem dX10_size_33 : decode cX10_size 33 = .ok (.istore_n 3, 1) := by decide +kernel
theorem dX10_size_34 : decode cX10_size 34 = .ok (.iload_n 1, 1) := by decide +kernel
theorem dX10_size_35 : decode cX10_size 35 = .ok (.tableswitch 220 0 11 #[61, 69, 77, 85, 101, 117, 133, 149, 172, 188, 204, 215], 61) := by decide +kernel
theorem dX10_size_96 : decode cX10_size 96 = .ok (.aload_n 0, 1) := by decide +kernel
theorem dX10_size_97 : decode cX10_size 97 = .ok (.getfield 27, 3) := by decide +kernel
theorem dX10_size_100 : decode cX10_size 100 = .ok (.getfield 139, 3) := by decide +kernel
theorem dX10_size_103 : decode cX10_size 103 = .ok (.ireturn, 1) := by decide +kernel
theorem dX10_size_104 : decode cX10_size 104 = .ok (.aload_n 0, 1) := by decide +kernel
theorem dX10_size_105 : decode cX10_size 105 = .ok (.getfield 27, 3) := by decide +kernel
theorem dX10_size_108 : decode cX10_size 108 = .ok (.getfield 136, 3) := by decide +kernel
theorem dX10_size_111 : decode cX10_size 111 = .ok (.ireturn, 1) := by decide +kernel
theorem dX10_size_112 : decode cX10_size 112 = .ok (.aload_n 0, 1) := by decide +kernel
theorem dX10_size_113 : decode cX10_size 113 = .ok (.getfield 27, 3) := by decide +kernel
theorem dX10_size_116 : decode cX10_size 116 = .ok (.getfield 142, 3) := by decide +kernel
theorem dX10_size_119 : decode cX10_size 119 = .ok (.ireturn, 1) := by decide +kernel
theorem dX10_size_120 : decode cX10_size 120 = .ok (.iload_n 3, 1) := by decide +kernel
theorem dX10_size_121 : decode cX10_size 121 = .ok (.ifCond .eq 13, 3) := by decide +kernel
theorem dX10_size_124 : decode cX10_size 124 = .ok (.aload_n 0, 1) := by decide +kernel
theorem dX10_size_125 : decode cX10_size 125 = .ok (.getfield 27, 3) := by decide +kernel
theorem dX10_size_128 : decode cX10_size 128 = .ok (.getfield 145, 3) := by decide +kernel
theorem dX10_size_131 : decode cX10_size 131 = .ok (.goto 4, 3) := by decide +kernel
theorem dX10_size_134 : decode cX10_size 134 = .ok (.iconst (-1), 1) := by decide +kernel
theorem dX10_size_135 : decode cX10_size 135 = .ok (.ireturn, 1) := by decide +kernel
theorem dX10_size_136 : decode cX10_size 136 = .ok (.iload_n 2, 1) := by decide +kernel
theorem dX10_size_137 : decode cX10_size 137 = .ok (.ifCond .eq 13, 3) := by decide +kernel
theorem dX10_size_140 : decode cX10_size 140 = .ok (.aload_n 0, 1) := by decide +kernel
theorem dX10_size_141 : decode cX10_size 141 = .ok (.getfield 27, 3) := by decide +kernel
theorem dX10_size_144 : decode cX10_size 144 = .ok (.getfield 148, 3) := by decide +kernel
theorem dX10_size_147 : decode cX10_size 147 = .ok (.goto 4, 3) := by decide +kernel
theorem dX10_size_150 : decode cX10_size 150 = .ok (.iconst (-1), 1) := by decide +kernel
theorem dX10_size_151 : decode cX10_size 151 = .ok (.ireturn, 1) := by decide +kernel
theorem dX10_size_152 : decode cX10_size 152 = .ok (.iload_n 2, 1) := by decide +kernel
theorem dX10_size_153 : decode cX10_size 153 = .ok (.ifCond .eq 13, 3) := by decide +kernel
theorem dX10_size_156 : decode cX10_size 156 = .ok (.aload_n 0, 1) := by decide +kernel
theorem dX10_size_157 : decode cX10_size 157 = .ok (.getfield 27, 3) := by decide +kernel
theorem dX10_size_160 : decode cX10_size 160 = .ok (.getfield 151, 3) := by decide +kernel
theorem dX10_size_163 : decode cX10_size 163 = .ok (.goto 4, 3) := by decide +kernel
theorem dX10_size_166 : decode cX10_size 166 = .ok (.iconst (-1), 1) := by decide +kernel
theorem dX10_size_167 : decode cX10_size 167 = .ok (.ireturn, 1) := by decide +kernel
theorem dX10_size_168 : decode cX10_size 168 = .ok (.iload_n 2, 1) := by decide +kernel
theorem dX10_size_169 : decode cX10_size 169 = .ok (.ifCond .eq 13, 3) := by decide +kernel
theorem dX10_size_172 : decode cX10_size 172 = .ok (.aload_n 0, 1) := by decide +kernel
theorem dX10_size_173 : decode cX10_size 173 = .ok (.getfield 27, 3) := by decide +kernel
theorem dX10_size_176 : decode cX10_size 176 = .ok (.getfield 154, 3) := by decide +kernel
theorem dX10_size_179 : decode cX10_size 179 = .ok (.goto 4, 3) := by decide +kernel
theorem dX10_size_182 : decode cX10_size 182 = .ok (.iconst (-1), 1) := by decide +kernel
theorem dX10_size_183 : decode cX10_size 183 = .ok (.ireturn, 1) := by decide +kernel
theorem dX10_size_184 : decode cX10_size 184 = .ok (.aload_n 0, 1) := by decide +kernel
theorem dX10_size_185 : decode cX10_size 185 = .ok (.getfield 27, 3) := by decide +kernel
theorem dX10_size_188 : decode cX10_size 188 = .ok (.getfield 136, 3) := by decide +kernel
theorem dX10_size_191 : decode cX10_size 191 = .ok (.iconst 3, 1) := by decide +kernel
theorem dX10_size_192 : decode cX10_size 192 = .ok (.if_icmp .ne 13, 3) := by decide +kernel
theorem dX10_size_195 : decode cX10_size 195 = .ok (.aload_n 0, 1) := by decide +kernel
theorem dX10_size_196 : decode cX10_size 196 = .ok (.getfield 27, 3) := by decide +kernel
theorem dX10_size_199 : decode cX10_size 199 = .ok (.getfield 157, 3) := by decide +kernel
theorem dX10_size_202 : decode cX10_size 202 = .ok (.goto 4, 3) := by decide +kernel
theorem dX10_size_205 : decode cX10_size 205 = .ok (.iconst (-1), 1) := by decide +kernel
theorem dX10_size_206 : decode cX10_size 206 = .ok (.ireturn, 1) := by decide +kernel
theorem dX10_size_207 : decode cX10_size 207 = .ok (.iload_n 3, 1) := by decide +kernel
theorem dX10_size_208 : decode cX10_size 208 = .ok (.ifCond .eq 13, 3) := by decide +kernel
theorem dX10_size_211 : decode cX10_size 211 = .ok (.aload_n 0, 1) := by decide +kernel
theorem dX10_size_212 : decode cX10_size 212 = .ok (.getfield 27, 3) := by decide +kernel
theorem dX10_size_215 : decode cX10_size 215 = .ok (.getfield 160, 3) := by decide +kernel
theorem dX10_size_218 : decode cX10_size 218 = .ok (.goto 4, 3) := by decide +kernel
theorem dX10_size_221 : decode cX10_size 221 = .ok (.iconst 0, 1) := by decide +kernel
theorem dX10_size_222 : decode cX10_size 222 = .ok (.ireturn, 1) := by decide +kernel
theorem dX10_size_223 : decode cX10_size 223 = .ok (.iload_n 3, 1) := by decide +kernel
theorem dX10_size_224 : decode cX10_size 224 = .ok (.ifCond .eq 13, 3) := by decide +kernel
theorem dX10_size_227 : decode cX10_size 227 = .ok (.aload_n 0, 1) := by decide +kernel
theorem dX10_size_228 : decode cX10_size 228 = .ok (.getfield 27, 3) := by decide +kernel
theorem dX10_size_231 : decode cX10_size 231 = .ok (.getfield 163, 3) := by decide +kernel
theorem dX10_size_234 : decode cX10_size 234 = .ok (.goto 4, 3) := by decide +kernel
theorem dX10_size_237 : decode cX10_size 237 = .ok (.iconst 0, 1) := by decide +kernel
theorem dX10_size_238 : decode cX10_size 238 = .ok (.ireturn, 1) := by decide +kernel
theorem dX10_size_239 : decode cX10_size 239 = .ok (.aload_n 0, 1) := by decide +kernel
theorem dX10_size_240 : decode cX10_size 240 = .ok (.getfield 27, 3) := by decide +kernel
theorem dX10_size_243 : decode cX10_size 243 = .ok (.getfield 69, 3) := by decide +kernel
theorem dX10_size_246 : decode cX10_size 246 = .ok (.getfield 166, 3) := by decide +kernel
theorem dX10_size_249 : decode cX10_size 249 = .ok (.ireturn, 1) := by decide +kernel
theorem dX10_size_250 : decode cX10_size 250 = .ok (.aload_n 0, 1) := by decide +kernel
theorem dX10_size_251 : decode cX10_size 251 = .ok (.getfield 90, 3) := by decide +kernel
theorem dX10_size_254 : decode cX10_size 254 = .ok (.ireturn, 1) := by decide +kernel
theorem dX10_size_255 : decode cX10_size 255 = .ok (.new 171, 3) := by decide +kernel
theorem dX10_size_258 : decode cX10_size 258 = .ok (.dup, 1) := by decide +kernel
theorem dX10_size_259 : decode cX10_size 259 = .ok (.ldc 173, 2) := by decide +kernel
theorem dX10_size_261 : decode cX10_size 261 = .ok (.invokespecial 175, 3) := by decide +kernel
theorem dX10_size_264 : decode cX10_size 264 = .ok (.athrow, 1) := by decide +kernel
def f_X_size_33 (w : Int) (m : xM) (x2 : Int) (s0 : Int) : Option (Int) :=
     (if xw w = 0 then some (m 11 7)
      else (if xw w = 1 then some (m 11 8)
      else (if xw w = 2 then some (m 11 9)
      else (if xw w = 3 then (if xw s0 = 0 then some (-1)
      else some (m 11 10))
      else (if xw w = 4 then (if xw x2 = 0 then some (-1)
      else some (m 11 11))
      else (if xw w = 5 then (if xw x2 = 0 then some (-1)
      else some (m 11 12))
      else (if xw w = 6 then (if xw x2 = 0 then some (-1)
      else some (m 11 13))
      else (if xw w = 7 then (if xw (m 11 8) = xw 3 then some (m 11 14)
      else some (-1))
      else (if xw w = 8 then (if xw s0 = 0 then some 0
      else some (m 11 15))
      else (if xw w = 9 then (if xw s0 = 0 then some 0
      else some (m 11 16))
      else (if xw w = 10 then some (m 39 2)
      else (if xw w = 11 then some (m 0 10)
      else none))))))))))))
set_option maxRecDepth 1000000 in
set_option maxHeartbeats 4000000 in
theorem t_X_size_33 {Γ : xG} {d : Nat} (hd9 : 1 ≤ d) (C : xC Γ lay_X RX10 cX10_size 4 d) (w : Int) {r : Int} {m : xM} (hR : xRi Γ lay_X cX10_size r m) (x2 : Int) (s0 : Int) (h : f_X_size_33 w m x2 s0 = some r) : xW Γ lay_X 4 33 [(0, .inr (.inr (some 0))), (1, .inl w), (2, .inl x2)] [.inl s0] m := by
  unfold f_X_size_33 at h
  refine x_istore_n C dX10_size_33 (by decide) ?_
  refine x_iload_n C dX10_size_34 rfl ?_
  refine x_ite h (fun hc0 h => ?_) (fun hc0 h => ?_)
  · refine x_tabIn C 96 0 dX10_size_35 hc0 (by decide) (by decide) rfl (by decide) ?_
    refine x_aload_n C dX10_size_96 rfl ?_
    refine x_getR C dX10_size_97 fF_X10_27 rfl rfl ?_
    refine x_getI C dX10_size_100 fF_X10_139 rfl rfl ?_
    exact x_ireturnP hR dX10_size_103 h
  refine x_ite h (fun hc1 h => ?_) (fun hc1 h => ?_)
  · refine x_tabIn C 104 1 dX10_size_35 hc1 (by decide) (by decide) rfl (by decide) ?_
    refine x_aload_n C dX10_size_104 rfl ?_
    refine x_getR C dX10_size_105 fF_X10_27 rfl rfl ?_
    refine x_getI C dX10_size_108 fF_X10_136 rfl rfl ?_
    exact x_ireturnP hR dX10_size_111 h
  refine x_ite h (fun hc2 h => ?_) (fun hc2 h => ?_)
  · refine x_tabIn C 112 2 dX10_size_35 hc2 (by decide) (by decide) rfl (by decide) ?_
    refine x_aload_n C dX10_size_112 rfl ?_
    refine x_getR C dX10_size_113 fF_X10_27 rfl rfl ?_
    refine x_getI C dX10_size_116 fF_X10_142 rfl rfl ?_
    exact x_ireturnP hR dX10_size_119 h
  refine x_ite h (fun hc3 h => ?_) (fun hc3 h => ?_)
  · refine x_tabIn C 120 3 dX10_size_35 hc3 (by decide) (by decide) rfl (by decide) ?_
    refine x_iload_n C dX10_size_120 rfl ?_
    refine x_if_eq C 134 dX10_size_121 (by decide) h (fun h => ?_) (fun h => ?_)
    · refine x_iconst C dX10_size_134 ?_
      exact x_ireturnP hR dX10_size_135 h
    · refine x_aload_n C dX10_size_124 rfl ?_
      refine x_getR C dX10_size_125 fF_X10_27 rfl rfl ?_
      refine x_getI C dX10_size_128 fF_X10_145 rfl rfl ?_
      refine x_goto C 135 dX10_size_131 (by decide) ?_
      exact x_ireturnP hR dX10_size_135 h
  refine x_ite h (fun hc4 h => ?_) (fun hc4 h => ?_)
  · refine x_tabIn C 136 4 dX10_size_35 hc4 (by decide) (by decide) rfl (by decide) ?_
    refine x_iload_n C dX10_size_136 rfl ?_
    refine x_if_eq C 150 dX10_size_137 (by decide) h (fun h => ?_) (fun h => ?_)
    · refine x_iconst C dX10_size_150 ?_
      exact x_ireturnP hR dX10_size_151 h
    · refine x_aload_n C dX10_size_140 rfl ?_
      refine x_getR C dX10_size_141 fF_X10_27 rfl rfl ?_
      refine x_getI C dX10_size_144 fF_X10_148 rfl rfl ?_
      refine x_goto C 151 dX10_size_147 (by decide) ?_
      exact x_ireturnP hR dX10_size_151 h
  refine x_ite h (fun hc5 h => ?_) (fun hc5 h => ?_)
  · refine x_tabIn C 152 5 dX10_size_35 hc5 (by decide) (by decide) rfl (by decide) ?_
    refine x_iload_n C dX10_size_152 rfl ?_
    refine x_if_eq C 166 dX10_size_153 (by decide) h (fun h => ?_) (fun h => ?_)
    · refine x_iconst C dX10_size_166 ?_
      exact x_ireturnP hR dX10_size_167 h
    · refine x_aload_n C dX10_size_156 rfl ?_
      refine x_getR C dX10_size_157 fF_X10_27 rfl rfl ?_
      refine x_getI C dX10_size_160 fF_X10_151 rfl rfl ?_
      refine x_goto C 167 dX10_size_163 (by decide) ?_
      exact x_ireturnP hR dX10_size_167 h
  refine x_ite h (fun hc6 h => ?_) (fun hc6 h => ?_)
  · refine x_tabIn C 168 6 dX10_size_35 hc6 (by decide) (by decide) rfl (by decide) ?_
    refine x_iload_n C dX10_size_168 rfl ?_
    refine x_if_eq C 182 dX10_size_169 (by decide) h (fun h => ?_) (fun h => ?_)
    · refine x_iconst C dX10_size_182 ?_
      exact x_ireturnP hR dX10_size_183 h
    · refine x_aload_n C dX10_size_172 rfl ?_
      refine x_getR C dX10_size_173 fF_X10_27 rfl rfl ?_
      refine x_getI C dX10_size_176 fF_X10_154 rfl rfl ?_
      refine x_goto C 183 dX10_size_179 (by decide) ?_
      exact x_ireturnP hR dX10_size_183 h
  refine x_ite h (fun hc7 h => ?_) (fun hc7 h => ?_)
  · refine x_tabIn C 184 7 dX10_size_35 hc7 (by decide) (by decide) rfl (by decide) ?_
    refine x_aload_n C dX10_size_184 rfl ?_
    refine x_getR C dX10_size_185 fF_X10_27 rfl rfl ?_
    refine x_getI C dX10_size_188 fF_X10_136 rfl rfl ?_
    refine x_iconst C dX10_size_191 ?_
    refine x_icmp_ne C 205 dX10_size_192 (by decide) h (fun h => ?_) (fun h => ?_)
    · refine x_iconst C dX10_size_205 ?_
      exact x_ireturnP hR dX10_size_206 h
    · refine x_aload_n C dX10_size_195 rfl ?_
      refine x_getR C dX10_size_196 fF_X10_27 rfl rfl ?_
      refine x_getI C dX10_size_199 fF_X10_157 rfl rfl ?_
      refine x_goto C 206 dX10_size_202 (by decide) ?_
      exact x_ireturnP hR dX10_size_206 h
  refine x_ite h (fun hc8 h => ?_) (fun hc8 h => ?_)
  · refine x_tabIn C 207 8 dX10_size_35 hc8 (by decide) (by decide) rfl (by decide) ?_
    refine x_iload_n C dX10_size_207 rfl ?_
    refine x_if_eq C 221 dX10_size_208 (by decide) h (fun h => ?_) (fun h => ?_)
    · refine x_iconst C dX10_size_221 ?_
      exact x_ireturnP hR dX10_size_222 h
    · refine x_aload_n C dX10_size_211 rfl ?_
      refine x_getR C dX10_size_212 fF_X10_27 rfl rfl ?_
      refine x_getI C dX10_size_215 fF_X10_160 rfl rfl ?_
      refine x_goto C 222 dX10_size_218 (by decide) ?_
      exact x_ireturnP hR dX10_size_222 h
  refine x_ite h (fun hc9 h => ?_) (fun hc9 h => ?_)
  · refine x_tabIn C 223 9 dX10_size_35 hc9 (by decide) (by decide) rfl (by decide) ?_
    refine x_iload_n C dX10_size_223 rfl ?_
    refine x_if_eq C 237 dX10_size_224 (by decide) h (fun h => ?_) (fun h => ?_)
    · refine x_iconst C dX10_size_237 ?_
      exact x_ireturnP hR dX10_size_238 h
    · refine x_aload_n C dX10_size_227 rfl ?_
      refine x_getR C dX10_size_228 fF_X10_27 rfl rfl ?_
      refine x_getI C dX10_size_231 fF_X10_163 rfl rfl ?_
      refine x_goto C 238 dX10_size_234 (by decide) ?_
      exact x_ireturnP hR dX10_size_238 h
  refine x_ite h (fun hc10 h => ?_) (fun hc10 h => ?_)
  · refine x_tabIn C 239 10 dX10_size_35 hc10 (by decide) (by decide) rfl (by decide) ?_
    refine x_aload_n C dX10_size_239 rfl ?_
    refine x_getR C dX10_size_240 fF_X10_27 rfl rfl ?_
    refine x_getR C dX10_size_243 fF_X10_69 rfl rfl ?_
    refine x_getI C dX10_size_246 fF_X10_166 rfl rfl ?_
    exact x_ireturnP hR dX10_size_249 h
  refine x_ite h (fun hc11 h => ?_) (fun hc11 h => ?_)
  · refine x_tabIn C 250 11 dX10_size_35 hc11 (by decide) (by decide) rfl (by decide) ?_
    refine x_aload_n C dX10_size_250 rfl ?_
    refine x_getI C dX10_size_251 fF_X10_90 rfl rfl ?_
    exact x_ireturnP hR dX10_size_254 h
  refine x_tabOut C 255 (x := w) dX10_size_35 (by omega) (by decide) ?_
  cases h
def f_X_size_16 (w : Int) (m : xM) (s0 : Int) : Option (Int) :=
     (if xw (m 11 8) = xw 2 then f_X_size_33 w m s0 1
      else f_X_size_33 w m s0 0)
set_option maxRecDepth 1000000 in
set_option maxHeartbeats 4000000 in
theorem t_X_size_16 {Γ : xG} {d : Nat} (hd9 : 1 ≤ d) (C : xC Γ lay_X RX10 cX10_size 4 d) (w : Int) {r : Int} {m : xM} (hR : xRi Γ lay_X cX10_size r m) (s0 : Int) (h : f_X_size_16 w m s0 = some r) : xW Γ lay_X 4 16 [(0, .inr (.inr (some 0))), (1, .inl w)] [.inl s0] m := by
  unfold f_X_size_16 at h
  refine x_istore_n C dX10_size_16 (by decide) ?_
  refine x_aload_n C dX10_size_17 rfl ?_
  refine x_getR C dX10_size_18 fF_X10_27 rfl rfl ?_
  refine x_getI C dX10_size_21 fF_X10_136 rfl rfl ?_
  refine x_iconst C dX10_size_24 ?_
  refine x_icmp_ne C 32 dX10_size_25 (by decide) h (fun h => ?_) (fun h => ?_)
  · refine x_iconst C dX10_size_32 ?_
    refine x_loc [(0, .inr (.inr (some 0))), (1, .inl w), (2, .inl s0)] ⟨rfl, rfl, rfl, trivial⟩ ?_
    exact t_X_size_33 hd9 C _ hR _ _ h
  · refine x_iconst C dX10_size_28 ?_
    refine x_goto C 33 dX10_size_29 (by decide) ?_
    refine x_loc [(0, .inr (.inr (some 0))), (1, .inl w), (2, .inl s0)] ⟨rfl, rfl, rfl, trivial⟩ ?_
    exact t_X_size_33 hd9 C _ hR _ _ h
def f_X_size (w : Int) (m : xM) : Option (Int) :=
     (if xw (m 11 8) = xw 1 then f_X_size_16 w m 1
      else f_X_size_16 w m 0)
set_option maxRecDepth 1000000 in
set_option maxHeartbeats 4000000 in
theorem t_X_size {Γ : xG} {d : Nat} (hd9 : 1 ≤ d) (C : xC Γ lay_X RX10 cX10_size 4 d) (w : Int) {r : Int} {m : xM} (hR : xRi Γ lay_X cX10_size r m) (h : f_X_size w m = some r) : xW Γ lay_X 4 0 [(0, .inr (.inr (some 0))), (1, .inl w)] [] m := by
  unfold f_X_size at h
  refine x_aload_n C dX10_size_0 rfl ?_
  refine x_getR C dX10_size_1 fF_X10_27 rfl rfl ?_
  refine x_getI C dX10_size_4 fF_X10_136 rfl rfl ?_
  refine x_iconst C dX10_size_7 ?_
  refine x_icmp_ne C 15 dX10_size_8 (by decide) h (fun h => ?_) (fun h => ?_)
  · refine x_iconst C dX10_size_15 ?_
    refine x_loc [(0, .inr (.inr (some 0))), (1, .inl w)] ⟨rfl, rfl, trivial⟩ ?_
    exact t_X_size_16 hd9 C _ hR _ h
  · refine x_iconst C dX10_size_11 ?_
    refine x_goto C 16 dX10_size_12 (by decide) ?_
    refine x_loc [(0, .inr (.inr (some 0))), (1, .inl w)] ⟨rfl, rfl, trivial⟩ ?_
    exact t_X_size_16 hd9 C _ hR _ h
theorem c_X_size (l : Launch) (w : Int) (m : xM) (r : Int) (h : f_X_size w m = some r) : xMet l yX10_size cX10_size 4 (some .int) 1 lay_X [.inr (.inr (some 0)), .inl w] m (some (.inl r)) m :=
  xMet_i (by decide +kernel) (Nat.le_of_ble_eq_true rfl) (fun Γ C hR hl9 => t_X_size (Nat.le_refl _) C w hR h)
/-! ===== yX10_total ===== -/
theorem fF_X10_178 : xF RX10 178 4 5 (.array .int) true := ⟨RX3, TX3, 17, tyX3, rfl, by decide, (xin_21 _ (List.mem_of_getElem? (i := 1) rfl)), rfl, inlX3, tyX3_ok, nmX3, rfl, rfl⟩
theorem dX10_total_0 : decode cX10_total 0 = .ok (.iload_n 1, 1) := by decide +kernel
theorem dX10_total_1 : decode cX10_total 1 = .ok (.ifCond .lt 9, 3) := by decide +kernel
theorem dX10_total_4 : decode cX10_total 4 = .ok (.iload_n 1, 1) := by decide +kernel
theorem dX10_total_5 : decode cX10_total 5 = .ok (.bipush 11, 2) := by decide +kernel
theorem dX10_total_7 : decode cX10_total 7 = .ok (.if_icmp .lt 13, 3) := by decide +kernel
theorem dX10_total_10 : decode cX10_total 10 = .ok (.new 171, 3) := by decide +kernel
theorem dX10_total_13 : decode cX10_total 13 = .ok (.dup, 1) := by decide +kernel
theorem dX10_total_14 : decode cX10_total 14 = .ok (.ldc 176, 2) := by decide +kernel
theorem dX10_total_16 : decode cX10_total 16 = .ok (.invokespecial 175, 3) := by decide +kernel
theorem dX10_total_19 : decode cX10_total 19 = .ok (.athrow, 1) := by decide +kernel
theorem dX10_total_20 : decode cX10_total 20 = .ok (.aload_n 0, 1) := by decide +kernel
theorem dX10_total_21 : decode cX10_total 21 = .ok (.getfield 27, 3) := by decide +kernel
theorem dX10_total_24 : decode cX10_total 24 = .ok (.getfield 178, 3) := by decide +kernel
theorem dX10_total_27 : decode cX10_total 27 = .ok (.iload_n 1, 1) := by decide +kernel
theorem dX10_total_28 : decode cX10_total 28 = .ok (.iaload, 1) := by decide +kernel
theorem dX10_total_29 : decode cX10_total 29 = .ok (.ireturn, 1) := by decide +kernel
def f_X_total_10 (w : Int) (m : xM) : Option (Int) :=
     none
set_option maxRecDepth 1000000 in
set_option maxHeartbeats 4000000 in
theorem t_X_total_10 {Γ : xG} {d : Nat} (hd9 : 1 ≤ d) (C : xC Γ lay_X RX10 cX10_total 2 d) (w : Int) {r : Int} {m : xM} (hR : xRi Γ lay_X cX10_total r m) (h : f_X_total_10 w m = some r) : xW Γ lay_X 2 10 [] [] m := by
  unfold f_X_total_10 at h
  cases h
def f_X_total (w : Int) (m : xM) : Option (Int) :=
     (if xw w < 0 then f_X_total_10 w m
      else (if xw w < xw 11 then (if xib w 11 then some (m 41 (xix w))
      else none)
      else f_X_total_10 w m))
set_option maxRecDepth 1000000 in
set_option maxHeartbeats 4000000 in
theorem t_X_total {Γ : xG} {d : Nat} (hd9 : 1 ≤ d) (C : xC Γ lay_X RX10 cX10_total 2 d) (w : Int) {r : Int} {m : xM} (hR : xRi Γ lay_X cX10_total r m) (h : f_X_total w m = some r) : xW Γ lay_X 2 0 [(0, .inr (.inr (some 0))), (1, .inl w)] [] m := by
  unfold f_X_total at h
  refine x_iload_n C dX10_total_0 rfl ?_
  refine x_if_lt C 10 dX10_total_1 (by decide) h (fun h => ?_) (fun h => ?_)
  · refine x_loc [] trivial ?_
    exact t_X_total_10 hd9 C _ hR h
  · refine x_iload_n C dX10_total_4 rfl ?_
    refine x_bipush C dX10_total_5 (by decide) ?_
    refine x_icmp_lt C 20 dX10_total_7 (by decide) h (fun h => ?_) (fun h => ?_)
    · refine x_aload_n C dX10_total_20 rfl ?_
      refine x_getR C dX10_total_21 fF_X10_27 rfl rfl ?_
      refine x_getR C dX10_total_24 fF_X10_178 rfl rfl ?_
      refine x_iload_n C dX10_total_27 rfl ?_
      refine x_iaload C dX10_total_28 rfl h (fun h => ?_)
      exact x_ireturnP hR dX10_total_29 h
    · refine x_loc [] trivial ?_
      exact t_X_total_10 hd9 C _ hR h
theorem c_X_total (l : Launch) (w : Int) (m : xM) (r : Int) (h : f_X_total w m = some r) : xMet l yX10_total cX10_total 2 (some .int) 1 lay_X [.inr (.inr (some 0)), .inl w] m (some (.inl r)) m :=
  xMet_i (by decide +kernel) (Nat.le_of_ble_eq_true rfl) (fun Γ C hR hl9 => t_X_total (Nat.le_refl _) C w hR h)
/-! ===== yX10_checkEnd ===== -/
theorem dX10_checkEnd_0 : decode cX10_checkEnd 0 = .ok (.iload_n 1, 1) := by decide +kernel
theorem dX10_checkEnd_1 : decode cX10_checkEnd 1 = .ok (.ifCond .eq 18, 3) := by decide +kernel
theorem dX10_checkEnd_4 : decode cX10_checkEnd 4 = .ok (.iload_n 1, 1) := by decide +kernel
theorem dX10_checkEnd_5 : decode cX10_checkEnd 5 = .ok (.iconst 1, 1) := by decide +kernel
theorem dX10_checkEnd_6 : decode cX10_checkEnd 6 = .ok (.if_icmp .eq 13, 3) := by decide +kernel
theorem dX10_checkEnd_9 : decode cX10_checkEnd 9 = .ok (.new 171, 3) := by decide +kernel
theorem dX10_checkEnd_12 : decode cX10_checkEnd 12 = .ok (.dup, 1) := by decide +kernel
theorem dX10_checkEnd_13 : decode cX10_checkEnd 13 = .ok (.ldc 230, 2) := by decide +kernel
theorem dX10_checkEnd_15 : decode cX10_checkEnd 15 = .ok (.invokespecial 175, 3) := by decide +kernel
theorem dX10_checkEnd_18 : decode cX10_checkEnd 18 = .ok (.athrow, 1) := by decide +kernel
theorem dX10_checkEnd_19 : decode cX10_checkEnd 19 = .ok (.return_, 1) := by decide +kernel
def f_X_checkEnd (e : Int) (m : xM) : Option (Int) :=
     (if xw e = 0 then some 0
      else (if xw e = xw 1 then some 0
      else none))
set_option maxRecDepth 1000000 in
set_option maxHeartbeats 4000000 in
theorem t_X_checkEnd {Γ : xG} {d : Nat} (hd9 : 1 ≤ d) (C : xC Γ lay_X RX10 cX10_checkEnd 2 d) (e : Int) {r : Int} {m : xM} (hR : xRv Γ lay_X cX10_checkEnd m) (h : f_X_checkEnd e m = some r) : xW Γ lay_X 2 0 [(0, .inr (.inr (some 0))), (1, .inl e)] [] m := by
  unfold f_X_checkEnd at h
  refine x_iload_n C dX10_checkEnd_0 rfl ?_
  refine x_if_eq C 19 dX10_checkEnd_1 (by decide) h (fun h => ?_) (fun h => ?_)
  · exact x_returnV hR dX10_checkEnd_19 rfl
  · refine x_iload_n C dX10_checkEnd_4 rfl ?_
    refine x_iconst C dX10_checkEnd_5 ?_
    refine x_icmp_eq C 19 dX10_checkEnd_6 (by decide) h (fun h => ?_) (fun h => ?_)
    · exact x_returnV hR dX10_checkEnd_19 rfl
    · cases h
theorem c_X_checkEnd (l : Launch) (e : Int) (m : xM) (r : Int) (h : f_X_checkEnd e m = some r) : xMet l yX10_checkEnd cX10_checkEnd 2 none 1 lay_X [.inr (.inr (some 0)), .inl e] m none m :=
  xMet_v (by decide +kernel) (Nat.le_of_ble_eq_true rfl) (fun Γ C hR hl9 => t_X_checkEnd (Nat.le_refl _) C e hR h)
/-! ===== yX10_end ===== -/
theorem xy_X10_checkEnd : xY yX10_checkEnd cX10_checkEnd 2 none 1 := ⟨(xin_30 _ (List.mem_of_getElem? (i := 0) rfl)), (xin_1 _ (List.mem_of_getElem? (i := 2) rfl)), by decide, by decide, by decide +kernel⟩
theorem xi_X10_checkEnd : Cond.instanceMethod yX10_checkEnd ∈ wsL_law := (xin_29 _ (List.mem_of_getElem? (i := 22) rfl))
theorem xs_X10_checkEnd : Cond.selects yX10_checkEnd.cls yX10_checkEnd yX10_checkEnd ∈ wsL_law := (xin_29 _ (List.mem_of_getElem? (i := 23) rfl))
theorem xv_46 : xview lay_X lay_eo [11, 1, 12, 23, 34, 39, 41, 42] := xview_of (by decide +kernel)
theorem fF_X10_188 : xF RX10 188 2 5 .int false := ⟨RX1, TX1, 11, tyX1, rfl, by decide, (xin_29 _ (List.mem_of_getElem? (i := 20) rfl)), rfl, inlX1, tyX1_ok, nmX1, rfl, rfl⟩
theorem fF_X10_193 : xF RX10 193 2 2 (.object "ModemLink$Frames") true := ⟨RX1, TX1, 11, tyX1, rfl, by decide, (xin_31 _ (List.mem_of_getElem? (i := 5) rfl)), rfl, inlX1, tyX1_ok, nmX1, rfl, rfl⟩
theorem fF_X10_197 : xF RX10 197 3 5 .int false := ⟨RX2, TX2, 6, tyX2, rfl, by decide, (xin_31 _ (List.mem_of_getElem? (i := 6) rfl)), rfl, inlX2, tyX2_ok, nmX2, rfl, rfl⟩
theorem fF_X10_202 : xF RX10 202 3 4 .int false := ⟨RX2, TX2, 6, tyX2, rfl, by decide, (xin_31 _ (List.mem_of_getElem? (i := 7) rfl)), rfl, inlX2, tyX2_ok, nmX2, rfl, rfl⟩
theorem fF_X10_203 : xF RX10 203 3 3 .int false := ⟨RX2, TX2, 6, tyX2, rfl, by decide, (xin_31 _ (List.mem_of_getElem? (i := 8) rfl)), rfl, inlX2, tyX2_ok, nmX2, rfl, rfl⟩
theorem fF_X10_206 : xF RX10 206 2 7 .int false := ⟨RX1, TX1, 11, tyX1, rfl, by decide, (xin_31 _ (List.mem_of_getElem? (i := 9) rfl)), rfl, inlX1, tyX1_ok, nmX1, rfl, rfl⟩
theorem fF_X10_209 : xF RX10 209 2 6 .int false := ⟨RX1, TX1, 11, tyX1, rfl, by decide, (xin_31 _ (List.mem_of_getElem? (i := 10) rfl)), rfl, inlX1, tyX1_ok, nmX1, rfl, rfl⟩
theorem fF_X10_212 : xF RX10 212 2 8 .int false := ⟨RX1, TX1, 11, tyX1, rfl, by decide, (xin_31 _ (List.mem_of_getElem? (i := 11) rfl)), rfl, inlX1, tyX1_ok, nmX1, rfl, rfl⟩
theorem fF_X10_215 : xF RX10 215 2 9 .boolean false := ⟨RX1, TX1, 11, tyX1, rfl, by decide, (xin_31 _ (List.mem_of_getElem? (i := 12) rfl)), rfl, inlX1, tyX1_ok, nmX1, rfl, rfl⟩
theorem fF_X10_218 : xF RX10 218 2 3 (.object "ModemLink$Dictionary") true := ⟨RX1, TX1, 11, tyX1, rfl, by decide, (xin_31 _ (List.mem_of_getElem? (i := 13) rfl)), rfl, inlX1, tyX1_ok, nmX1, rfl, rfl⟩
theorem fF_X10_222 : xF RX10 222 1 1 .int false := ⟨RX0, TX0, 2, tyX0, rfl, by decide, (xin_31 _ (List.mem_of_getElem? (i := 14) rfl)), rfl, inlX0, tyX0_ok, nmX0, rfl, rfl⟩
theorem fF_X10_225 : xF RX10 225 2 4 (.object "ModemLink$Dictionary") true := ⟨RX1, TX1, 11, tyX1, rfl, by decide, (xin_31 _ (List.mem_of_getElem? (i := 15) rfl)), rfl, inlX1, tyX1_ok, nmX1, rfl, rfl⟩
theorem dX10_end_0 : decode cX10_end 0 = .ok (.aload_n 0, 1) := by decide +kernel
theorem dX10_end_1 : decode cX10_end 1 = .ok (.iload_n 1, 1) := by decide +kernel
theorem dX10_end_2 : decode cX10_end 2 = .ok (.invokevirtual 181, 3) := by decide +kernel
theorem dX10_end_5 : decode cX10_end 5 = .ok (.aload_n 0, 1) := by decide +kernel
theorem dX10_end_6 : decode cX10_end 6 = .ok (.getfield 27, 3) := by decide +kernel
theorem dX10_end_9 : decode cX10_end 9 = .ok (.iload_n 1, 1) := by decide +kernel
theorem dX10_end_10 : decode cX10_end 10 = .ok (.invokevirtual 184, 3) := by decide +kernel
theorem dX10_end_13 : decode cX10_end 13 = .ok (.astore_n 3, 1) := by decide +kernel
theorem dX10_end_14 : decode cX10_end 14 = .ok (.iload_n 2, 1) := by decide +kernel
theorem dX10_end_15 : decode cX10_end 15 = .ok (.tableswitch 142 0 9 #[53, 58, 66, 82, 98, 103, 108, 113, 126, 134], 53) := by decide +kernel
theorem dX10_end_68 : decode cX10_end 68 = .ok (.aload_n 3, 1) := by decide +kernel
theorem dX10_end_69 : decode cX10_end 69 = .ok (.getfield 188, 3) := by decide +kernel
theorem dX10_end_72 : decode cX10_end 72 = .ok (.ireturn, 1) := by decide +kernel
theorem dX10_end_73 : decode cX10_end 73 = .ok (.aload_n 3, 1) := by decide +kernel
theorem dX10_end_74 : decode cX10_end 74 = .ok (.getfield 193, 3) := by decide +kernel
theorem dX10_end_77 : decode cX10_end 77 = .ok (.getfield 197, 3) := by decide +kernel
theorem dX10_end_80 : decode cX10_end 80 = .ok (.ireturn, 1) := by decide +kernel
theorem dX10_end_81 : decode cX10_end 81 = .ok (.aload_n 3, 1) := by decide +kernel
theorem dX10_end_82 : decode cX10_end 82 = .ok (.getfield 193, 3) := by decide +kernel
theorem dX10_end_85 : decode cX10_end 85 = .ok (.getfield 202, 3) := by decide +kernel
theorem dX10_end_88 : decode cX10_end 88 = .ok (.aload_n 3, 1) := by decide +kernel
theorem dX10_end_89 : decode cX10_end 89 = .ok (.getfield 193, 3) := by decide +kernel
theorem dX10_end_92 : decode cX10_end 92 = .ok (.getfield 197, 3) := by decide +kernel
theorem dX10_end_95 : decode cX10_end 95 = .ok (.isub, 1) := by decide +kernel
theorem dX10_end_96 : decode cX10_end 96 = .ok (.ireturn, 1) := by decide +kernel
theorem dX10_end_97 : decode cX10_end 97 = .ok (.aload_n 3, 1) := by decide +kernel
theorem dX10_end_98 : decode cX10_end 98 = .ok (.getfield 193, 3) := by decide +kernel
theorem dX10_end_101 : decode cX10_end 101 = .ok (.getfield 203, 3) := by decide +kernel
theorem dX10_end_104 : decode cX10_end 104 = .ok (.aload_n 3, 1) := by decide +kernel
theorem dX10_end_105 : decode cX10_end 105 = .ok (.getfield 193, 3) := by decide +kernel
theorem dX10_end_108 : decode cX10_end 108 = .ok (.getfield 202, 3) := by decide +kernel
theorem dX10_end_111 : decode cX10_end 111 = .ok (.iadd, 1) := by decide +kernel
theorem dX10_end_112 : decode cX10_end 112 = .ok (.ireturn, 1) := by decide +kernel
theorem dX10_end_113 : decode cX10_end 113 = .ok (.aload_n 3, 1) := by decide +kernel
theorem dX10_end_114 : decode cX10_end 114 = .ok (.getfield 206, 3) := by decide +kernel
theorem dX10_end_117 : decode cX10_end 117 = .ok (.ireturn, 1) := by decide +kernel
theorem dX10_end_118 : decode cX10_end 118 = .ok (.aload_n 3, 1) := by decide +kernel
theorem dX10_end_119 : decode cX10_end 119 = .ok (.getfield 209, 3) := by decide +kernel
theorem dX10_end_122 : decode cX10_end 122 = .ok (.ireturn, 1) := by decide +kernel
theorem dX10_end_123 : decode cX10_end 123 = .ok (.aload_n 3, 1) := by decide +kernel
theorem dX10_end_124 : decode cX10_end 124 = .ok (.getfield 212, 3) := by decide +kernel
theorem dX10_end_127 : decode cX10_end 127 = .ok (.ireturn, 1) := by decide +kernel
theorem dX10_end_128 : decode cX10_end 128 = .ok (.aload_n 3, 1) := by decide +kernel
theorem dX10_end_129 : decode cX10_end 129 = .ok (.getfield 215, 3) := by decide +kernel
theorem dX10_end_132 : decode cX10_end 132 = .ok (.ifCond .eq 7, 3) := by decide +kernel
theorem dX10_end_135 : decode cX10_end 135 = .ok (.iconst 1, 1) := by decide +kernel
theorem dX10_end_136 : decode cX10_end 136 = .ok (.goto 4, 3) := by decide +kernel
theorem dX10_end_139 : decode cX10_end 139 = .ok (.iconst 0, 1) := by decide +kernel
theorem dX10_end_140 : decode cX10_end 140 = .ok (.ireturn, 1) := by decide +kernel
theorem dX10_end_141 : decode cX10_end 141 = .ok (.aload_n 3, 1) := by decide +kernel
theorem dX10_end_142 : decode cX10_end 142 = .ok (.getfield 218, 3) := by decide +kernel
theorem dX10_end_145 : decode cX10_end 145 = .ok (.getfield 222, 3) := by decide +kernel
theorem dX10_end_148 : decode cX10_end 148 = .ok (.ireturn, 1) := by decide +kernel
theorem dX10_end_149 : decode cX10_end 149 = .ok (.aload_n 3, 1) := by decide +kernel
theorem dX10_end_150 : decode cX10_end 150 = .ok (.getfield 225, 3) := by decide +kernel
theorem dX10_end_153 : decode cX10_end 153 = .ok (.getfield 222, 3) := by decide +kernel
theorem dX10_end_156 : decode cX10_end 156 = .ok (.ireturn, 1) := by decide +kernel
theorem dX10_end_157 : decode cX10_end 157 = .ok (.new 171, 3) := by decide +kernel
theorem dX10_end_160 : decode cX10_end 160 = .ok (.dup, 1) := by decide +kernel
theorem dX10_end_161 : decode cX10_end 161 = .ok (.ldc 228, 2) := by decide +kernel
theorem dX10_end_163 : decode cX10_end 163 = .ok (.invokespecial 175, 3) := by decide +kernel
theorem dX10_end_166 : decode cX10_end 166 = .ok (.athrow, 1) := by decide +kernel
def f_X_end (e : Int) (w : Int) (m : xM) : Option (Int) :=
     (Option.bind (f_X_checkEnd e m) fun q0 =>
      (if xw e = 0 then (if xw w = 0 then some (m 12 5)
      else (if xw w = 1 then some (m 15 5)
      else (if xw w = 2 then some ((m 15 4) - (m 15 5))
      else (if xw w = 3 then some ((m 15 3) + (m 15 4))
      else (if xw w = 4 then some (m 12 7)
      else (if xw w = 5 then some (m 12 6)
      else (if xw w = 6 then some (m 12 8)
      else (if xw w = 7 then (if xw (m 12 9) = 0 then some 0
      else some 1)
      else (if xw w = 8 then some (m 19 1)
      else (if xw w = 9 then some (m 21 1)
      else none))))))))))
      else (if xw e = 1 then (if xw w = 0 then some (m 23 5)
      else (if xw w = 1 then some (m 26 5)
      else (if xw w = 2 then some ((m 26 4) - (m 26 5))
      else (if xw w = 3 then some ((m 26 3) + (m 26 4))
      else (if xw w = 4 then some (m 23 7)
      else (if xw w = 5 then some (m 23 6)
      else (if xw w = 6 then some (m 23 8)
      else (if xw w = 7 then (if xw (m 23 9) = 0 then some 0
      else some 1)
      else (if xw w = 8 then some (m 30 1)
      else (if xw w = 9 then some (m 32 1)
      else none))))))))))
      else none)))
set_option maxRecDepth 1000000 in
set_option maxHeartbeats 4000000 in
theorem t_X_end {Γ : xG} {d : Nat} (hd9 : 2 ≤ d) (C : xC Γ lay_X RX10 cX10_end 4 d) (e : Int) (w : Int) {r : Int} {m : xM} (hR : xRi Γ lay_X cX10_end r m) (h : f_X_end e w m = some r) : xW Γ lay_X 4 0 [(0, .inr (.inr (some 0))), (1, .inl e), (2, .inl w)] [] m := by
  unfold f_X_end at h
  refine x_aload_n C dX10_end_0 rfl ?_
  refine x_iload_n C dX10_end_1 rfl ?_
  obtain ⟨q0, hq0, h⟩ := x_bind h
  refine x_callVI C dX10_end_2 (xin_29 _ (List.mem_of_getElem? (i := 21) rfl)) xy_X10_checkEnd (xi_X10_checkEnd) (xs_X10_checkEnd) (by omega) (by decide) (b := 0) rfl ⟨_, _, rfl⟩ (av := [.inl e]) rfl (Nat.le_of_ble_eq_true rfl) (c_X_checkEnd _ _ _ _ hq0) rfl ?_
  refine x_aload_n C dX10_end_5 rfl ?_
  refine x_getR C dX10_end_6 fF_X10_27 rfl rfl ?_
  refine x_iload_n C dX10_end_9 rfl ?_
  refine x_ite h (fun hk92 h => ?_) (fun _ h => ?_)
  · refine x_callVp C dX10_end_10 (xin_30 _ (List.mem_of_getElem? (i := 1) rfl)) xy_X3_endOf (xi_X3_endOf) (xs_X3_endOf) [11, 1, 12, 23, 34, 39, 41, 42] xv_46 (by omega) (by decide) (b := 0) rfl ⟨_, _, rfl⟩ (av := [.inl e]) rfl (Nat.le_of_ble_eq_true rfl) (c_endOf0 _ _ _ (by first | decide | assumption | exact xw_1m0 (by assumption) | exact xw_1m1 (by assumption) | exact xw_ne1 (by assumption) | exact xw_n1m0 (by assumption))) rfl ?_
    refine x_astore_n C dX10_end_13 (by decide) ?_
    refine x_iload_n C dX10_end_14 rfl ?_
    refine x_ite h (fun hc0 h => ?_) (fun hc0 h => ?_)
    · refine x_tabIn C 68 0 dX10_end_15 hc0 (by decide) (by decide) rfl (by decide) ?_
      refine x_aload_n C dX10_end_68 rfl ?_
      refine x_getI C dX10_end_69 fF_X10_188 rfl rfl ?_
      exact x_ireturnP hR dX10_end_72 h
    refine x_ite h (fun hc1 h => ?_) (fun hc1 h => ?_)
    · refine x_tabIn C 73 1 dX10_end_15 hc1 (by decide) (by decide) rfl (by decide) ?_
      refine x_aload_n C dX10_end_73 rfl ?_
      refine x_getR C dX10_end_74 fF_X10_193 rfl rfl ?_
      refine x_getI C dX10_end_77 fF_X10_197 rfl rfl ?_
      exact x_ireturnP hR dX10_end_80 h
    refine x_ite h (fun hc2 h => ?_) (fun hc2 h => ?_)
    · refine x_tabIn C 81 2 dX10_end_15 hc2 (by decide) (by decide) rfl (by decide) ?_
      refine x_aload_n C dX10_end_81 rfl ?_
      refine x_getR C dX10_end_82 fF_X10_193 rfl rfl ?_
      refine x_getI C dX10_end_85 fF_X10_202 rfl rfl ?_
      refine x_aload_n C dX10_end_88 rfl ?_
      refine x_getR C dX10_end_89 fF_X10_193 rfl rfl ?_
      refine x_getI C dX10_end_92 fF_X10_197 rfl rfl ?_
      refine x_isub C dX10_end_95 ?_
      exact x_ireturnP hR dX10_end_96 h
    refine x_ite h (fun hc3 h => ?_) (fun hc3 h => ?_)
    · refine x_tabIn C 97 3 dX10_end_15 hc3 (by decide) (by decide) rfl (by decide) ?_
      refine x_aload_n C dX10_end_97 rfl ?_
      refine x_getR C dX10_end_98 fF_X10_193 rfl rfl ?_
      refine x_getI C dX10_end_101 fF_X10_203 rfl rfl ?_
      refine x_aload_n C dX10_end_104 rfl ?_
      refine x_getR C dX10_end_105 fF_X10_193 rfl rfl ?_
      refine x_getI C dX10_end_108 fF_X10_202 rfl rfl ?_
      refine x_iadd C dX10_end_111 ?_
      exact x_ireturnP hR dX10_end_112 h
    refine x_ite h (fun hc4 h => ?_) (fun hc4 h => ?_)
    · refine x_tabIn C 113 4 dX10_end_15 hc4 (by decide) (by decide) rfl (by decide) ?_
      refine x_aload_n C dX10_end_113 rfl ?_
      refine x_getI C dX10_end_114 fF_X10_206 rfl rfl ?_
      exact x_ireturnP hR dX10_end_117 h
    refine x_ite h (fun hc5 h => ?_) (fun hc5 h => ?_)
    · refine x_tabIn C 118 5 dX10_end_15 hc5 (by decide) (by decide) rfl (by decide) ?_
      refine x_aload_n C dX10_end_118 rfl ?_
      refine x_getI C dX10_end_119 fF_X10_209 rfl rfl ?_
      exact x_ireturnP hR dX10_end_122 h
    refine x_ite h (fun hc6 h => ?_) (fun hc6 h => ?_)
    · refine x_tabIn C 123 6 dX10_end_15 hc6 (by decide) (by decide) rfl (by decide) ?_
      refine x_aload_n C dX10_end_123 rfl ?_
      refine x_getI C dX10_end_124 fF_X10_212 rfl rfl ?_
      exact x_ireturnP hR dX10_end_127 h
    refine x_ite h (fun hc7 h => ?_) (fun hc7 h => ?_)
    · refine x_tabIn C 128 7 dX10_end_15 hc7 (by decide) (by decide) rfl (by decide) ?_
      refine x_aload_n C dX10_end_128 rfl ?_
      refine x_getI C dX10_end_129 fF_X10_215 rfl rfl ?_
      refine x_if_eq C 139 dX10_end_132 (by decide) h (fun h => ?_) (fun h => ?_)
      · refine x_iconst C dX10_end_139 ?_
        exact x_ireturnP hR dX10_end_140 h
      · refine x_iconst C dX10_end_135 ?_
        refine x_goto C 140 dX10_end_136 (by decide) ?_
        exact x_ireturnP hR dX10_end_140 h
    refine x_ite h (fun hc8 h => ?_) (fun hc8 h => ?_)
    · refine x_tabIn C 141 8 dX10_end_15 hc8 (by decide) (by decide) rfl (by decide) ?_
      refine x_aload_n C dX10_end_141 rfl ?_
      refine x_getR C dX10_end_142 fF_X10_218 rfl rfl ?_
      refine x_getI C dX10_end_145 fF_X10_222 rfl rfl ?_
      exact x_ireturnP hR dX10_end_148 h
    refine x_ite h (fun hc9 h => ?_) (fun hc9 h => ?_)
    · refine x_tabIn C 149 9 dX10_end_15 hc9 (by decide) (by decide) rfl (by decide) ?_
      refine x_aload_n C dX10_end_149 rfl ?_
      refine x_getR C dX10_end_150 fF_X10_225 rfl rfl ?_
      refine x_getI C dX10_end_153 fF_X10_222 rfl rfl ?_
      exact x_ireturnP hR dX10_end_156 h
    refine x_tabOut C 157 (x := w) dX10_end_15 (by omega) (by decide) ?_
    cases h
  · obtain ⟨hk92, h⟩ := x_some1 h
    refine x_callVp C dX10_end_10 (xin_30 _ (List.mem_of_getElem? (i := 1) rfl)) xy_X3_endOf (xi_X3_endOf) (xs_X3_endOf) [11, 1, 12, 23, 34, 39, 41, 42] xv_46 (by omega) (by decide) (b := 0) rfl ⟨_, _, rfl⟩ (av := [.inl e]) rfl (Nat.le_of_ble_eq_true rfl) (c_endOf1 _ _ _ (by first | decide | assumption | exact xw_1m0 (by assumption) | exact xw_1m1 (by assumption) | exact xw_ne1 (by assumption) | exact xw_n1m0 (by assumption))) rfl ?_
    refine x_astore_n C dX10_end_13 (by decide) ?_
    refine x_iload_n C dX10_end_14 rfl ?_
    refine x_ite h (fun hc0 h => ?_) (fun hc0 h => ?_)
    · refine x_tabIn C 68 0 dX10_end_15 hc0 (by decide) (by decide) rfl (by decide) ?_
      refine x_aload_n C dX10_end_68 rfl ?_
      refine x_getI C dX10_end_69 fF_X10_188 rfl rfl ?_
      exact x_ireturnP hR dX10_end_72 h
    refine x_ite h (fun hc1 h => ?_) (fun hc1 h => ?_)
    · refine x_tabIn C 73 1 dX10_end_15 hc1 (by decide) (by decide) rfl (by decide) ?_
      refine x_aload_n C dX10_end_73 rfl ?_
      refine x_getR C dX10_end_74 fF_X10_193 rfl rfl ?_
      refine x_getI C dX10_end_77 fF_X10_197 rfl rfl ?_
      exact x_ireturnP hR dX10_end_80 h
    refine x_ite h (fun hc2 h => ?_) (fun hc2 h => ?_)
    · refine x_tabIn C 81 2 dX10_end_15 hc2 (by decide) (by decide) rfl (by decide) ?_
      refine x_aload_n C dX10_end_81 rfl ?_
      refine x_getR C dX10_end_82 fF_X10_193 rfl rfl ?_
      refine x_getI C dX10_end_85 fF_X10_202 rfl rfl ?_
      refine x_aload_n C dX10_end_88 rfl ?_
      refine x_getR C dX10_end_89 fF_X10_193 rfl rfl ?_
      refine x_getI C dX10_end_92 fF_X10_197 rfl rfl ?_
      refine x_isub C dX10_end_95 ?_
      exact x_ireturnP hR dX10_end_96 h
    refine x_ite h (fun hc3 h => ?_) (fun hc3 h => ?_)
    · refine x_tabIn C 97 3 dX10_end_15 hc3 (by decide) (by decide) rfl (by decide) ?_
      refine x_aload_n C dX10_end_97 rfl ?_
      refine x_getR C dX10_end_98 fF_X10_193 rfl rfl ?_
      refine x_getI C dX10_end_101 fF_X10_203 rfl rfl ?_
      refine x_aload_n C dX10_end_104 rfl ?_
      refine x_getR C dX10_end_105 fF_X10_193 rfl rfl ?_
      refine x_getI C dX10_end_108 fF_X10_202 rfl rfl ?_
      refine x_iadd C dX10_end_111 ?_
      exact x_ireturnP hR dX10_end_112 h
    refine x_ite h (fun hc4 h => ?_) (fun hc4 h => ?_)
    · refine x_tabIn C 113 4 dX10_end_15 hc4 (by decide) (by decide) rfl (by decide) ?_
      refine x_aload_n C dX10_end_113 rfl ?_
      refine x_getI C dX10_end_114 fF_X10_206 rfl rfl ?_
      exact x_ireturnP hR dX10_end_117 h
    refine x_ite h (fun hc5 h => ?_) (fun hc5 h => ?_)
    · refine x_tabIn C 118 5 dX10_end_15 hc5 (by decide) (by decide) rfl (by decide) ?_
      refine x_aload_n C dX10_end_118 rfl ?_
      refine x_getI C dX10_end_119 fF_X10_209 rfl rfl ?_
      exact x_ireturnP hR dX10_end_122 h
    refine x_ite h (fun hc6 h => ?_) (fun hc6 h => ?_)
    · refine x_tabIn C 123 6 dX10_end_15 hc6 (by decide) (by decide) rfl (by decide) ?_
      refine x_aload_n C dX10_end_123 rfl ?_
      refine x_getI C dX10_end_124 fF_X10_212 rfl rfl ?_
      exact x_ireturnP hR dX10_end_127 h
    refine x_ite h (fun hc7 h => ?_) (fun hc7 h => ?_)
    · refine x_tabIn C 128 7 dX10_end_15 hc7 (by decide) (by decide) rfl (by decide) ?_
      refine x_aload_n C dX10_end_128 rfl ?_
      refine x_getI C dX10_end_129 fF_X10_215 rfl rfl ?_
      refine x_if_eq C 139 dX10_end_132 (by decide) h (fun h => ?_) (fun h => ?_)
      · refine x_iconst C dX10_end_139 ?_
        exact x_ireturnP hR dX10_end_140 h
      · refine x_iconst C dX10_end_135 ?_
        refine x_goto C 140 dX10_end_136 (by decide) ?_
        exact x_ireturnP hR dX10_end_140 h
    refine x_ite h (fun hc8 h => ?_) (fun hc8 h => ?_)
    · refine x_tabIn C 141 8 dX10_end_15 hc8 (by decide) (by decide) rfl (by decide) ?_
      refine x_aload_n C dX10_end_141 rfl ?_
      refine x_getR C dX10_end_142 fF_X10_218 rfl rfl ?_
      refine x_getI C dX10_end_145 fF_X10_222 rfl rfl ?_
      exact x_ireturnP hR dX10_end_148 h
    refine x_ite h (fun hc9 h => ?_) (fun hc9 h => ?_)
    · refine x_tabIn C 149 9 dX10_end_15 hc9 (by decide) (by decide) rfl (by decide) ?_
      refine x_aload_n C dX10_end_149 rfl ?_
      refine x_getR C dX10_end_150 fF_X10_225 rfl rfl ?_
      refine x_getI C dX10_end_153 fF_X10_222 rfl rfl ?_
      exact x_ireturnP hR dX10_end_156 h
    refine x_tabOut C 157 (x := w) dX10_end_15 (by omega) (by decide) ?_
    cases h
theorem c_X_end (l : Launch) (e : Int) (w : Int) (m : xM) (r : Int) (h : f_X_end e w m = some r) : xMet l yX10_end cX10_end 4 (some .int) 2 lay_X [.inr (.inr (some 0)), .inl e, .inl w] m (some (.inl r)) m :=
  xMet_i (by decide +kernel) (Nat.le_of_ble_eq_true rfl) (fun Γ C hR hl9 => t_X_end (Nat.le_refl _) C e w hR h)
/-! ===== yX10_frame ===== -/
theorem fF_X10_242 : xF RX10 242 3 1 (.array .int) true := ⟨RX2, TX2, 6, tyX2, rfl, by decide, (xin_35 _ (List.mem_of_getElem? (i := 7) rfl)), rfl, inlX2, tyX2_ok, nmX2, rfl, rfl⟩
theorem xv_47 : xview lay_X lay_F [15, 16, 17, 18] := xview_of (by decide +kernel)
theorem fF_X10_249 : xF RX10 249 3 2 (.array .int) true := ⟨RX2, TX2, 6, tyX2, rfl, by decide, (xin_35 _ (List.mem_of_getElem? (i := 8) rfl)), rfl, inlX2, tyX2_ok, nmX2, rfl, rfl⟩
theorem xv_48 : xview lay_X lay_F [26, 27, 28, 29] := xview_of (by decide +kernel)
theorem dX10_frame_0 : decode cX10_frame 0 = .ok (.aload_n 0, 1) := by decide +kernel
theorem dX10_frame_1 : decode cX10_frame 1 = .ok (.iload_n 1, 1) := by decide +kernel
theorem dX10_frame_2 : decode cX10_frame 2 = .ok (.invokevirtual 181, 3) := by decide +kernel
theorem dX10_frame_5 : decode cX10_frame 5 = .ok (.aload_n 0, 1) := by decide +kernel
theorem dX10_frame_6 : decode cX10_frame 6 = .ok (.getfield 27, 3) := by decide +kernel
theorem dX10_frame_9 : decode cX10_frame 9 = .ok (.iload_n 1, 1) := by decide +kernel
theorem dX10_frame_10 : decode cX10_frame 10 = .ok (.invokevirtual 184, 3) := by decide +kernel
theorem dX10_frame_13 : decode cX10_frame 13 = .ok (.getfield 193, 3) := by decide +kernel
theorem dX10_frame_16 : decode cX10_frame 16 = .ok (.astore 4, 2) := by decide +kernel
theorem dX10_frame_18 : decode cX10_frame 18 = .ok (.iload_n 2, 1) := by decide +kernel
theorem dX10_frame_19 : decode cX10_frame 19 = .ok (.ifCond .lt 12, 3) := by decide +kernel
theorem dX10_frame_22 : decode cX10_frame 22 = .ok (.iload_n 2, 1) := by decide +kernel
theorem dX10_frame_23 : decode cX10_frame 23 = .ok (.aload 4, 2) := by decide +kernel
theorem dX10_frame_25 : decode cX10_frame 25 = .ok (.getfield 202, 3) := by decide +kernel
theorem dX10_frame_28 : decode cX10_frame 28 = .ok (.if_icmp .lt 13, 3) := by decide +kernel
theorem dX10_frame_31 : decode cX10_frame 31 = .ok (.new 171, 3) := by decide +kernel
theorem dX10_frame_34 : decode cX10_frame 34 = .ok (.dup, 1) := by decide +kernel
theorem dX10_frame_35 : decode cX10_frame 35 = .ok (.ldc 240, 2) := by decide +kernel
theorem dX10_frame_37 : decode cX10_frame 37 = .ok (.invokespecial 175, 3) := by decide +kernel
theorem dX10_frame_40 : decode cX10_frame 40 = .ok (.athrow, 1) := by decide +kernel
theorem dX10_frame_41 : decode cX10_frame 41 = .ok (.iload_n 3, 1) := by decide +kernel
theorem dX10_frame_42 : decode cX10_frame 42 = .ok (.tableswitch 79 0 3 #[30, 38, 51, 64], 30) := by decide +kernel
theorem dX10_frame_72 : decode cX10_frame 72 = .ok (.aload 4, 2) := by decide +kernel
theorem dX10_frame_74 : decode cX10_frame 74 = .ok (.getfield 203, 3) := by decide +kernel
theorem dX10_frame_77 : decode cX10_frame 77 = .ok (.iload_n 2, 1) := by decide +kernel
theorem dX10_frame_78 : decode cX10_frame 78 = .ok (.iadd, 1) := by decide +kernel
theorem dX10_frame_79 : decode cX10_frame 79 = .ok (.ireturn, 1) := by decide +kernel
theorem dX10_frame_80 : decode cX10_frame 80 = .ok (.aload 4, 2) := by decide +kernel
theorem dX10_frame_82 : decode cX10_frame 82 = .ok (.getfield 242, 3) := by decide +kernel
theorem dX10_frame_85 : decode cX10_frame 85 = .ok (.aload 4, 2) := by decide +kernel
theorem dX10_frame_87 : decode cX10_frame 87 = .ok (.iload_n 2, 1) := by decide +kernel
theorem dX10_frame_88 : decode cX10_frame 88 = .ok (.invokevirtual 245, 3) := by decide +kernel
theorem dX10_frame_91 : decode cX10_frame 91 = .ok (.iaload, 1) := by decide +kernel
theorem dX10_frame_92 : decode cX10_frame 92 = .ok (.ireturn, 1) := by decide +kernel
theorem dX10_frame_93 : decode cX10_frame 93 = .ok (.aload 4, 2) := by decide +kernel
theorem dX10_frame_95 : decode cX10_frame 95 = .ok (.getfield 249, 3) := by decide +kernel
theorem dX10_frame_98 : decode cX10_frame 98 = .ok (.aload 4, 2) := by decide +kernel
theorem dX10_frame_100 : decode cX10_frame 100 = .ok (.iload_n 2, 1) := by decide +kernel
theorem dX10_frame_101 : decode cX10_frame 101 = .ok (.invokevirtual 245, 3) := by decide +kernel
theorem dX10_frame_104 : decode cX10_frame 104 = .ok (.iaload, 1) := by decide +kernel
theorem dX10_frame_105 : decode cX10_frame 105 = .ok (.ireturn, 1) := by decide +kernel
theorem dX10_frame_106 : decode cX10_frame 106 = .ok (.iload_n 2, 1) := by decide +kernel
theorem dX10_frame_107 : decode cX10_frame 107 = .ok (.aload 4, 2) := by decide +kernel
theorem dX10_frame_109 : decode cX10_frame 109 = .ok (.getfield 197, 3) := by decide +kernel
theorem dX10_frame_112 : decode cX10_frame 112 = .ok (.if_icmp .ge 7, 3) := by decide +kernel
theorem dX10_frame_115 : decode cX10_frame 115 = .ok (.iconst 0, 1) := by decide +kernel
theorem dX10_frame_116 : decode cX10_frame 116 = .ok (.goto 4, 3) := by decide +kernel
theorem dX10_frame_119 : decode cX10_frame 119 = .ok (.iconst 1, 1) := by decide +kernel
theorem dX10_frame_120 : decode cX10_frame 120 = .ok (.ireturn, 1) := by decide +kernel
theorem dX10_frame_121 : decode cX10_frame 121 = .ok (.new 171, 3) := by decide +kernel
theorem dX10_frame_124 : decode cX10_frame 124 = .ok (.dup, 1) := by decide +kernel
theorem dX10_frame_125 : decode cX10_frame 125 = .ok (.ldc 252, 2) := by decide +kernel
theorem dX10_frame_127 : decode cX10_frame 127 = .ok (.invokespecial 175, 3) := by decide +kernel
theorem dX10_frame_130 : decode cX10_frame 130 = .ok (.athrow, 1) := by decide +kernel
def f_X_frame_31 (e : Int) (p : Int) (w : Int) (m : xM) : Option (Int) :=
     none
set_option maxRecDepth 1000000 in
set_option maxHeartbeats 4000000 in
theorem t_X_frame_31 {Γ : xG} {d : Nat} (hd9 : 3 ≤ d) (C : xC Γ lay_X RX10 cX10_frame 5 d) (e : Int) (p : Int) (w : Int) {r : Int} {m : xM} (hR : xRi Γ lay_X cX10_frame r m) (h : f_X_frame_31 e p w m = some r) : xW Γ lay_X 5 31 [] [] m := by
  unfold f_X_frame_31 at h
  cases h
def f_X_frame (e : Int) (p : Int) (w : Int) (m : xM) : Option (Int) :=
     (Option.bind (f_X_checkEnd e m) fun q0 =>
      (if xw e = 0 then (if xw p < 0 then f_X_frame_31 e p w m
      else (if xw p < xw (m 15 4) then (if xw w = 0 then some ((m 15 3) + p)
      else (if xw w = 1 then (Option.bind (f_F_slot p (xvw [15, 16, 17, 18] m)) fun q3 =>
      (if xib q3 7 then some (m 17 (xix q3))
      else none))
      else (if xw w = 2 then (Option.bind (f_F_slot p (xvw [15, 16, 17, 18] m)) fun q4 =>
      (if xib q4 7 then some (m 18 (xix q4))
      else none))
      else (if xw w = 3 then (if xw p < xw (m 15 5) then some 0
      else some 1)
      else none))))
      else f_X_frame_31 e p w m))
      else (if xw e = 1 then (if xw p < 0 then f_X_frame_31 e p w m
      else (if xw p < xw (m 26 4) then (if xw w = 0 then some ((m 26 3) + p)
      else (if xw w = 1 then (Option.bind (f_F_slot p (xvw [26, 27, 28, 29] m)) fun q6 =>
      (if xib q6 7 then some (m 28 (xix q6))
      else none))
      else (if xw w = 2 then (Option.bind (f_F_slot p (xvw [26, 27, 28, 29] m)) fun q7 =>
      (if xib q7 7 then some (m 29 (xix q7))
      else none))
      else (if xw w = 3 then (if xw p < xw (m 26 5) then some 0
      else some 1)
      else none))))
      else f_X_frame_31 e p w m))
      else none)))
set_option maxRecDepth 1000000 in
set_option maxHeartbeats 4000000 in
theorem t_X_frame {Γ : xG} {d : Nat} (hd9 : 3 ≤ d) (C : xC Γ lay_X RX10 cX10_frame 5 d) (e : Int) (p : Int) (w : Int) {r : Int} {m : xM} (hR : xRi Γ lay_X cX10_frame r m) (h : f_X_frame e p w m = some r) : xW Γ lay_X 5 0 [(0, .inr (.inr (some 0))), (1, .inl e), (2, .inl p), (3, .inl w)] [] m := by
  unfold f_X_frame at h
  refine x_aload_n C dX10_frame_0 rfl ?_
  refine x_iload_n C dX10_frame_1 rfl ?_
  obtain ⟨q0, hq0, h⟩ := x_bind h
  refine x_callVI C dX10_frame_2 (xin_29 _ (List.mem_of_getElem? (i := 21) rfl)) xy_X10_checkEnd (xi_X10_checkEnd) (xs_X10_checkEnd) (by omega) (by decide) (b := 0) rfl ⟨_, _, rfl⟩ (av := [.inl e]) rfl (Nat.le_of_ble_eq_true rfl) (c_X_checkEnd _ _ _ _ hq0) rfl ?_
  refine x_aload_n C dX10_frame_5 rfl ?_
  refine x_getR C dX10_frame_6 fF_X10_27 rfl rfl ?_
  refine x_iload_n C dX10_frame_9 rfl ?_
  refine x_ite h (fun hk92 h => ?_) (fun _ h => ?_)
  · refine x_callVp C dX10_frame_10 (xin_30 _ (List.mem_of_getElem? (i := 1) rfl)) xy_X3_endOf (xi_X3_endOf) (xs_X3_endOf) [11, 1, 12, 23, 34, 39, 41, 42] xv_46 (by omega) (by decide) (b := 0) rfl ⟨_, _, rfl⟩ (av := [.inl e]) rfl (Nat.le_of_ble_eq_true rfl) (c_endOf0 _ _ _ (by first | decide | assumption | exact xw_1m0 (by assumption) | exact xw_1m1 (by assumption) | exact xw_ne1 (by assumption) | exact xw_n1m0 (by assumption))) rfl ?_
    refine x_getR C dX10_frame_13 fF_X10_193 rfl rfl ?_
    refine x_astore C dX10_frame_16 (by decide) ?_
    refine x_iload_n C dX10_frame_18 rfl ?_
    refine x_if_lt C 31 dX10_frame_19 (by decide) h (fun h => ?_) (fun h => ?_)
    · refine x_loc [] trivial ?_
      exact t_X_frame_31 hd9 C _ _ _ hR h
    · refine x_iload_n C dX10_frame_22 rfl ?_
      refine x_aload C dX10_frame_23 rfl ?_
      refine x_getI C dX10_frame_25 fF_X10_202 rfl rfl ?_
      refine x_icmp_lt C 41 dX10_frame_28 (by decide) h (fun h => ?_) (fun h => ?_)
      · refine x_iload_n C dX10_frame_41 rfl ?_
        refine x_ite h (fun hc0 h => ?_) (fun hc0 h => ?_)
        · refine x_tabIn C 72 0 dX10_frame_42 hc0 (by decide) (by decide) rfl (by decide) ?_
          refine x_aload C dX10_frame_72 rfl ?_
          refine x_getI C dX10_frame_74 fF_X10_203 rfl rfl ?_
          refine x_iload_n C dX10_frame_77 rfl ?_
          refine x_iadd C dX10_frame_78 ?_
          exact x_ireturnP hR dX10_frame_79 h
        refine x_ite h (fun hc1 h => ?_) (fun hc1 h => ?_)
        · refine x_tabIn C 80 1 dX10_frame_42 hc1 (by decide) (by decide) rfl (by decide) ?_
          refine x_aload C dX10_frame_80 rfl ?_
          refine x_getR C dX10_frame_82 fF_X10_242 rfl rfl ?_
          refine x_aload C dX10_frame_85 rfl ?_
          refine x_iload_n C dX10_frame_87 rfl ?_
          obtain ⟨q3, hq3, h⟩ := x_bind h
          refine x_callVp C dX10_frame_88 (xin_35 _ (List.mem_of_getElem? (i := 9) rfl)) xy_X2_slotOf (xi_X2_slotOf) (xs_X2_slotOf) [15, 16, 17, 18] xv_47 (by omega) (by decide) (b := 0) rfl ⟨_, _, rfl⟩ (av := [.inl p]) rfl (Nat.le_of_ble_eq_true rfl) (c_F_slot _ _ _ _ hq3) rfl ?_
          refine x_iaload C dX10_frame_91 rfl h (fun h => ?_)
          exact x_ireturnP hR dX10_frame_92 h
        refine x_ite h (fun hc2 h => ?_) (fun hc2 h => ?_)
        · refine x_tabIn C 93 2 dX10_frame_42 hc2 (by decide) (by decide) rfl (by decide) ?_
          refine x_aload C dX10_frame_93 rfl ?_
          refine x_getR C dX10_frame_95 fF_X10_249 rfl rfl ?_
          refine x_aload C dX10_frame_98 rfl ?_
          refine x_iload_n C dX10_frame_100 rfl ?_
          obtain ⟨q4, hq4, h⟩ := x_bind h
          refine x_callVp C dX10_frame_101 (xin_35 _ (List.mem_of_getElem? (i := 9) rfl)) xy_X2_slotOf (xi_X2_slotOf) (xs_X2_slotOf) [15, 16, 17, 18] xv_47 (by omega) (by decide) (b := 0) rfl ⟨_, _, rfl⟩ (av := [.inl p]) rfl (Nat.le_of_ble_eq_true rfl) (c_F_slot _ _ _ _ hq4) rfl ?_
          refine x_iaload C dX10_frame_104 rfl h (fun h => ?_)
          exact x_ireturnP hR dX10_frame_105 h
        refine x_ite h (fun hc3 h => ?_) (fun hc3 h => ?_)
        · refine x_tabIn C 106 3 dX10_frame_42 hc3 (by decide) (by decide) rfl (by decide) ?_
          refine x_iload_n C dX10_frame_106 rfl ?_
          refine x_aload C dX10_frame_107 rfl ?_
          refine x_getI C dX10_frame_109 fF_X10_197 rfl rfl ?_
          refine x_icmp_ge C 119 dX10_frame_112 (by decide) h (fun h => ?_) (fun h => ?_)
          · refine x_iconst C dX10_frame_119 ?_
            exact x_ireturnP hR dX10_frame_120 h
          · refine x_iconst C dX10_frame_115 ?_
            refine x_goto C 120 dX10_frame_116 (by decide) ?_
            exact x_ireturnP hR dX10_frame_120 h
        refine x_tabOut C 121 (x := w) dX10_frame_42 (by omega) (by decide) ?_
        cases h
      · refine x_loc [] trivial ?_
        exact t_X_frame_31 hd9 C _ _ _ hR h
  · obtain ⟨hk92, h⟩ := x_some1 h
    refine x_callVp C dX10_frame_10 (xin_30 _ (List.mem_of_getElem? (i := 1) rfl)) xy_X3_endOf (xi_X3_endOf) (xs_X3_endOf) [11, 1, 12, 23, 34, 39, 41, 42] xv_46 (by omega) (by decide) (b := 0) rfl ⟨_, _, rfl⟩ (av := [.inl e]) rfl (Nat.le_of_ble_eq_true rfl) (c_endOf1 _ _ _ (by first | decide | assumption | exact xw_1m0 (by assumption) | exact xw_1m1 (by assumption) | exact xw_ne1 (by assumption) | exact xw_n1m0 (by assumption))) rfl ?_
    refine x_getR C dX10_frame_13 fF_X10_193 rfl rfl ?_
    refine x_astore C dX10_frame_16 (by decide) ?_
    refine x_iload_n C dX10_frame_18 rfl ?_
    refine x_if_lt C 31 dX10_frame_19 (by decide) h (fun h => ?_) (fun h => ?_)
    · refine x_loc [] trivial ?_
      exact t_X_frame_31 hd9 C _ _ _ hR h
    · refine x_iload_n C dX10_frame_22 rfl ?_
      refine x_aload C dX10_frame_23 rfl ?_
      refine x_getI C dX10_frame_25 fF_X10_202 rfl rfl ?_
      refine x_icmp_lt C 41 dX10_frame_28 (by decide) h (fun h => ?_) (fun h => ?_)
      · refine x_iload_n C dX10_frame_41 rfl ?_
        refine x_ite h (fun hc0 h => ?_) (fun hc0 h => ?_)
        · refine x_tabIn C 72 0 dX10_frame_42 hc0 (by decide) (by decide) rfl (by decide) ?_
          refine x_aload C dX10_frame_72 rfl ?_
          refine x_getI C dX10_frame_74 fF_X10_203 rfl rfl ?_
          refine x_iload_n C dX10_frame_77 rfl ?_
          refine x_iadd C dX10_frame_78 ?_
          exact x_ireturnP hR dX10_frame_79 h
        refine x_ite h (fun hc1 h => ?_) (fun hc1 h => ?_)
        · refine x_tabIn C 80 1 dX10_frame_42 hc1 (by decide) (by decide) rfl (by decide) ?_
          refine x_aload C dX10_frame_80 rfl ?_
          refine x_getR C dX10_frame_82 fF_X10_242 rfl rfl ?_
          refine x_aload C dX10_frame_85 rfl ?_
          refine x_iload_n C dX10_frame_87 rfl ?_
          obtain ⟨q6, hq6, h⟩ := x_bind h
          refine x_callVp C dX10_frame_88 (xin_35 _ (List.mem_of_getElem? (i := 9) rfl)) xy_X2_slotOf (xi_X2_slotOf) (xs_X2_slotOf) [26, 27, 28, 29] xv_48 (by omega) (by decide) (b := 0) rfl ⟨_, _, rfl⟩ (av := [.inl p]) rfl (Nat.le_of_ble_eq_true rfl) (c_F_slot _ _ _ _ hq6) rfl ?_
          refine x_iaload C dX10_frame_91 rfl h (fun h => ?_)
          exact x_ireturnP hR dX10_frame_92 h
        refine x_ite h (fun hc2 h => ?_) (fun hc2 h => ?_)
        · refine x_tabIn C 93 2 dX10_frame_42 hc2 (by decide) (by decide) rfl (by decide) ?_
          refine x_aload C dX10_frame_93 rfl ?_
          refine x_getR C dX10_frame_95 fF_X10_249 rfl rfl ?_
          refine x_aload C dX10_frame_98 rfl ?_
          refine x_iload_n C dX10_frame_100 rfl ?_
          obtain ⟨q7, hq7, h⟩ := x_bind h
          refine x_callVp C dX10_frame_101 (xin_35 _ (List.mem_of_getElem? (i := 9) rfl)) xy_X2_slotOf (xi_X2_slotOf) (xs_X2_slotOf) [26, 27, 28, 29] xv_48 (by omega) (by decide) (b := 0) rfl ⟨_, _, rfl⟩ (av := [.inl p]) rfl (Nat.le_of_ble_eq_true rfl) (c_F_slot _ _ _ _ hq7) rfl ?_
          refine x_iaload C dX10_frame_104 rfl h (fun h => ?_)
          exact x_ireturnP hR dX10_frame_105 h
        refine x_ite h (fun hc3 h => ?_) (fun hc3 h => ?_)
        · refine x_tabIn C 106 3 dX10_frame_42 hc3 (by decide) (by decide) rfl (by decide) ?_
          refine x_iload_n C dX10_frame_106 rfl ?_
          refine x_aload C dX10_frame_107 rfl ?_
          refine x_getI C dX10_frame_109 fF_X10_197 rfl rfl ?_
          refine x_icmp_ge C 119 dX10_frame_112 (by decide) h (fun h => ?_) (fun h => ?_)
          · refine x_iconst C dX10_frame_119 ?_
            exact x_ireturnP hR dX10_frame_120 h
          · refine x_iconst C dX10_frame_115 ?_
            refine x_goto C 120 dX10_frame_116 (by decide) ?_
            exact x_ireturnP hR dX10_frame_120 h
        refine x_tabOut C 121 (x := w) dX10_frame_42 (by omega) (by decide) ?_
        cases h
      · refine x_loc [] trivial ?_
        exact t_X_frame_31 hd9 C _ _ _ hR h
theorem c_X_frame (l : Launch) (e : Int) (p : Int) (w : Int) (m : xM) (r : Int) (h : f_X_frame e p w m = some r) : xMet l yX10_frame cX10_frame 5 (some .int) 3 lay_X [.inr (.inr (some 0)), .inl e, .inl p, .inl w] m (some (.inl r)) m :=
  xMet_i (by decide +kernel) (Nat.le_of_ble_eq_true rfl) (fun Γ C hR hl9 => t_X_frame (Nat.le_refl _) C e p w hR h)
/-! ===== yX10_received ===== -/
theorem xv_49 : xview lay_X lay_E [12, 13, 14, 15, 16, 17, 18, 19, 20, 21, 22] := xview_of (by decide +kernel)
theorem fF_X10_258 : xF RX10 258 2 1 (.array .int) true := ⟨RX1, TX1, 11, tyX1, rfl, by decide, (xin_31 _ (List.mem_of_getElem? (i := 20) rfl)), rfl, inlX1, tyX1_ok, nmX1, rfl, rfl⟩
theorem xv_50 : xview lay_X lay_E [23, 24, 25, 26, 27, 28, 29, 30, 31, 32, 33] := xview_of (by decide +kernel)
theorem dX10_received_0 : decode cX10_received 0 = .ok (.aload_n 0, 1) := by decide +kernel
theorem dX10_received_1 : decode cX10_received 1 = .ok (.iload_n 1, 1) := by decide +kernel
theorem dX10_received_2 : decode cX10_received 2 = .ok (.invokevirtual 181, 3) := by decide +kernel
theorem dX10_received_5 : decode cX10_received 5 = .ok (.aload_n 0, 1) := by decide +kernel
theorem dX10_received_6 : decode cX10_received 6 = .ok (.getfield 27, 3) := by decide +kernel
theorem dX10_received_9 : decode cX10_received 9 = .ok (.iload_n 1, 1) := by decide +kernel
theorem dX10_received_10 : decode cX10_received 10 = .ok (.invokevirtual 184, 3) := by decide +kernel
theorem dX10_received_13 : decode cX10_received 13 = .ok (.astore_n 3, 1) := by decide +kernel
theorem dX10_received_14 : decode cX10_received 14 = .ok (.iload_n 2, 1) := by decide +kernel
theorem dX10_received_15 : decode cX10_received 15 = .ok (.ifCond .lt 20, 3) := by decide +kernel
theorem dX10_received_18 : decode cX10_received 18 = .ok (.iload_n 2, 1) := by decide +kernel
theorem dX10_received_19 : decode cX10_received 19 = .ok (.aload_n 3, 1) := by decide +kernel
theorem dX10_received_20 : decode cX10_received 20 = .ok (.invokevirtual 254, 3) := by decide +kernel
theorem dX10_received_23 : decode cX10_received 23 = .ok (.if_icmp .ge 12, 3) := by decide +kernel
theorem dX10_received_26 : decode cX10_received 26 = .ok (.aload_n 3, 1) := by decide +kernel
theorem dX10_received_27 : decode cX10_received 27 = .ok (.getfield 258, 3) := by decide +kernel
theorem dX10_received_30 : decode cX10_received 30 = .ok (.iload_n 2, 1) := by decide +kernel
theorem dX10_received_31 : decode cX10_received 31 = .ok (.iaload, 1) := by decide +kernel
theorem dX10_received_32 : decode cX10_received 32 = .ok (.goto 4, 3) := by decide +kernel
theorem dX10_received_35 : decode cX10_received 35 = .ok (.iconst (-1), 1) := by decide +kernel
theorem dX10_received_36 : decode cX10_received 36 = .ok (.ireturn, 1) := by decide +kernel
def f_X_received (e : Int) (p : Int) (m : xM) : Option (Int) :=
     (Option.bind (f_X_checkEnd e m) fun q0 =>
      (if xw e = 0 then (if xw p < 0 then some (-1)
      else (Option.bind (f_E_kept (xvw [12, 13, 14, 15, 16, 17, 18, 19, 20, 21, 22] m)) fun q3 =>
      (if xw p < xw q3 then (if xib p 400 then some (m 14 (xix p))
      else none)
      else some (-1))))
      else (if xw e = 1 then (if xw p < 0 then some (-1)
      else (Option.bind (f_E_kept (xvw [23, 24, 25, 26, 27, 28, 29, 30, 31, 32, 33] m)) fun q5 =>
      (if xw p < xw q5 then (if xib p 400 then some (m 25 (xix p))
      else none)
      else some (-1))))
      else none)))
set_option maxRecDepth 1000000 in
set_option maxHeartbeats 4000000 in
theorem t_X_received {Γ : xG} {d : Nat} (hd9 : 2 ≤ d) (C : xC Γ lay_X RX10 cX10_received 4 d) (e : Int) (p : Int) {r : Int} {m : xM} (hR : xRi Γ lay_X cX10_received r m) (h : f_X_received e p m = some r) : xW Γ lay_X 4 0 [(0, .inr (.inr (some 0))), (1, .inl e), (2, .inl p)] [] m := by
  unfold f_X_received at h
  refine x_aload_n C dX10_received_0 rfl ?_
  refine x_iload_n C dX10_received_1 rfl ?_
  obtain ⟨q0, hq0, h⟩ := x_bind h
  refine x_callVI C dX10_received_2 (xin_29 _ (List.mem_of_getElem? (i := 21) rfl)) xy_X10_checkEnd (xi_X10_checkEnd) (xs_X10_checkEnd) (by omega) (by decide) (b := 0) rfl ⟨_, _, rfl⟩ (av := [.inl e]) rfl (Nat.le_of_ble_eq_true rfl) (c_X_checkEnd _ _ _ _ hq0) rfl ?_
  refine x_aload_n C dX10_received_5 rfl ?_
  refine x_getR C dX10_received_6 fF_X10_27 rfl rfl ?_
  refine x_iload_n C dX10_received_9 rfl ?_
  refine x_ite h (fun hk92 h => ?_) (fun _ h => ?_)
  · refine x_callVp C dX10_received_10 (xin_30 _ (List.mem_of_getElem? (i := 1) rfl)) xy_X3_endOf (xi_X3_endOf) (xs_X3_endOf) [11, 1, 12, 23, 34, 39, 41, 42] xv_46 (by omega) (by decide) (b := 0) rfl ⟨_, _, rfl⟩ (av := [.inl e]) rfl (Nat.le_of_ble_eq_true rfl) (c_endOf0 _ _ _ (by first | decide | assumption | exact xw_1m0 (by assumption) | exact xw_1m1 (by assumption) | exact xw_ne1 (by assumption) | exact xw_n1m0 (by assumption))) rfl ?_
    refine x_astore_n C dX10_received_13 (by decide) ?_
    refine x_iload_n C dX10_received_14 rfl ?_
    refine x_if_lt C 35 dX10_received_15 (by decide) h (fun h => ?_) (fun h => ?_)
    · refine x_iconst C dX10_received_35 ?_
      exact x_ireturnP hR dX10_received_36 h
    · refine x_iload_n C dX10_received_18 rfl ?_
      refine x_aload_n C dX10_received_19 rfl ?_
      obtain ⟨q3, hq3, h⟩ := x_bind h
      refine x_callVp C dX10_received_20 (xin_31 _ (List.mem_of_getElem? (i := 21) rfl)) xy_X1_keptCount (xi_X1_keptCount) (xs_X1_keptCount) [12, 13, 14, 15, 16, 17, 18, 19, 20, 21, 22] xv_49 (by omega) (by decide) (b := 0) rfl ⟨_, _, rfl⟩ (av := []) rfl (Nat.le_of_ble_eq_true rfl) (c_E_kept _ _ _ hq3) rfl ?_
      refine x_icmp_ge C 35 dX10_received_23 (by decide) h (fun h => ?_) (fun h => ?_)
      · refine x_iconst C dX10_received_35 ?_
        exact x_ireturnP hR dX10_received_36 h
      · refine x_aload_n C dX10_received_26 rfl ?_
        refine x_getR C dX10_received_27 fF_X10_258 rfl rfl ?_
        refine x_iload_n C dX10_received_30 rfl ?_
        refine x_iaload C dX10_received_31 rfl h (fun h => ?_)
        refine x_goto C 36 dX10_received_32 (by decide) ?_
        exact x_ireturnP hR dX10_received_36 h
  · obtain ⟨hk92, h⟩ := x_some1 h
    refine x_callVp C dX10_received_10 (xin_30 _ (List.mem_of_getElem? (i := 1) rfl)) xy_X3_endOf (xi_X3_endOf) (xs_X3_endOf) [11, 1, 12, 23, 34, 39, 41, 42] xv_46 (by omega) (by decide) (b := 0) rfl ⟨_, _, rfl⟩ (av := [.inl e]) rfl (Nat.le_of_ble_eq_true rfl) (c_endOf1 _ _ _ (by first | decide | assumption | exact xw_1m0 (by assumption) | exact xw_1m1 (by assumption) | exact xw_ne1 (by assumption) | exact xw_n1m0 (by assumption))) rfl ?_
    refine x_astore_n C dX10_received_13 (by decide) ?_
    refine x_iload_n C dX10_received_14 rfl ?_
    refine x_if_lt C 35 dX10_received_15 (by decide) h (fun h => ?_) (fun h => ?_)
    · refine x_iconst C dX10_received_35 ?_
      exact x_ireturnP hR dX10_received_36 h
    · refine x_iload_n C dX10_received_18 rfl ?_
      refine x_aload_n C dX10_received_19 rfl ?_
      obtain ⟨q5, hq5, h⟩ := x_bind h
      refine x_callVp C dX10_received_20 (xin_31 _ (List.mem_of_getElem? (i := 21) rfl)) xy_X1_keptCount (xi_X1_keptCount) (xs_X1_keptCount) [23, 24, 25, 26, 27, 28, 29, 30, 31, 32, 33] xv_50 (by omega) (by decide) (b := 0) rfl ⟨_, _, rfl⟩ (av := []) rfl (Nat.le_of_ble_eq_true rfl) (c_E_kept _ _ _ hq5) rfl ?_
      refine x_icmp_ge C 35 dX10_received_23 (by decide) h (fun h => ?_) (fun h => ?_)
      · refine x_iconst C dX10_received_35 ?_
        exact x_ireturnP hR dX10_received_36 h
      · refine x_aload_n C dX10_received_26 rfl ?_
        refine x_getR C dX10_received_27 fF_X10_258 rfl rfl ?_
        refine x_iload_n C dX10_received_30 rfl ?_
        refine x_iaload C dX10_received_31 rfl h (fun h => ?_)
        refine x_goto C 36 dX10_received_32 (by decide) ?_
        exact x_ireturnP hR dX10_received_36 h
theorem c_X_received (l : Launch) (e : Int) (p : Int) (m : xM) (r : Int) (h : f_X_received e p m = some r) : xMet l yX10_received cX10_received 4 (some .int) 2 lay_X [.inr (.inr (some 0)), .inl e, .inl p] m (some (.inl r)) m :=
  xMet_i (by decide +kernel) (Nat.le_of_ble_eq_true rfl) (fun Γ C hR hl9 => t_X_received (Nat.le_refl _) C e p hR h)

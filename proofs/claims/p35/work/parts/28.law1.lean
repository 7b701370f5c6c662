/-! ===== yL_most ===== -/
theorem dL_most_0 : decode cL_most 0 = .ok (.iload_n 0, 1) := by decide +kernel
theorem dL_most_1 : decode cL_most 1 = .ok (.ldc 7, 2) := by decide +kernel
theorem dL_most_3 : decode cL_most 3 = .ok (.iand, 1) := by decide +kernel
theorem dL_most_4 : decode cL_most 4 = .ok (.iload_n 1, 1) := by decide +kernel
theorem dL_most_5 : decode cL_most 5 = .ok (.irem, 1) := by decide +kernel
theorem dL_most_6 : decode cL_most 6 = .ok (.ireturn, 1) := by decide +kernel
def f_L_most (v : Int) (k : Int) (hp : gH) : Option (Int) :=
     (if xw k = 0 then none
      else some (xirem (xiand v 2147483647) k))
set_option maxRecDepth 1000000 in
set_option maxHeartbeats 4000000 in
theorem t_L_most {P : gG → Prop} {d : Nat} {m : xM} {hp : gH} {r : Int} (hd9 : 1 ≤ d) (C : ∀ Γ, P Γ → gX Γ lay_X RL cL_most 2 d hp) (v : Int) (k : Int) (hR : ∀ Γ, P Γ → gRi Γ lay_X cL_most r m hp) (h : f_L_most v k hp = some r) : gJ P lay_X 2 0 [(0, .inl v), (1, .inl k)] [] m hp hp := by
  unfold f_L_most at h
  refine g_iload_n C dL_most_0 rfl ?_
  refine g_ldc C 2147483647 dL_most_1 (xin_34 _ (List.mem_of_getElem? (i := 14) rfl)) (by decide) ?_
  refine g_iand C dL_most_3 ?_
  refine g_iload_n C dL_most_4 rfl ?_
  refine g_irem C dL_most_5 h (fun h9 h => ?_)
  exact g_ireturn hR dL_most_6 (by cases h; exact ⟨rfl, rfl, rfl⟩)
theorem c_L_most {v : Int} {k : Int} (m : xM) {r : Int} {hp : gH} (h : f_L_most v k hp = some r) (l : Launch) : gMet l yL_most cL_most 2 (some .int) 1 lay_X [.inl v, .inl k] m hp (some (.inl r)) m hp :=
  gMet_i (by decide +kernel) (Nat.le_of_ble_eq_true rfl) (fun P C hR => t_L_most (Nat.le_refl _) C _ _ hR h)
/-! ===== yL_add ===== -/
theorem xy_X10_feed : xY yX10_feed cX10_feed 6 (some .int) 5 := ⟨(xin_11 _ (List.mem_of_getElem? (i := 5) rfl)), (xin_1 _ (List.mem_of_getElem? (i := 2) rfl)), by decide, by decide, by decide +kernel⟩
theorem xi_X10_feed : Cond.instanceMethod yX10_feed ∈ wsL_law := (xin_11 _ (List.mem_of_getElem? (i := 3) rfl))
theorem xs_X10_feed : Cond.selects yX10_feed.cls yX10_feed yX10_feed ∈ wsL_law := (xin_11 _ (List.mem_of_getElem? (i := 4) rfl))
theorem dL_add_0 : decode cL_add 0 = .ok (.aload_n 1, 1) := by decide +kernel
theorem dL_add_1 : decode cL_add 1 = .ok (.aload_n 1, 1) := by decide +kernel
theorem dL_add_2 : decode cL_add 2 = .ok (.iconst 5, 1) := by decide +kernel
theorem dL_add_3 : decode cL_add 3 = .ok (.iaload, 1) := by decide +kernel
theorem dL_add_4 : decode cL_add 4 = .ok (.bipush 20, 2) := by decide +kernel
theorem dL_add_6 : decode cL_add 6 = .ok (.irem, 1) := by decide +kernel
theorem dL_add_7 : decode cL_add 7 = .ok (.iconst 4, 1) := by decide +kernel
theorem dL_add_8 : decode cL_add 8 = .ok (.idiv, 1) := by decide +kernel
theorem dL_add_9 : decode cL_add 9 = .ok (.dup2, 1) := by decide +kernel
theorem dL_add_10 : decode cL_add 10 = .ok (.iaload, 1) := by decide +kernel
theorem dL_add_11 : decode cL_add 11 = .ok (.iload_n 2, 1) := by decide +kernel
theorem dL_add_12 : decode cL_add 12 = .ok (.bipush 24, 2) := by decide +kernel
theorem dL_add_14 : decode cL_add 14 = .ok (.bipush 8, 2) := by decide +kernel
theorem dL_add_16 : decode cL_add 16 = .ok (.aload_n 1, 1) := by decide +kernel
theorem dL_add_17 : decode cL_add 17 = .ok (.iconst 5, 1) := by decide +kernel
theorem dL_add_18 : decode cL_add 18 = .ok (.iaload, 1) := by decide +kernel
theorem dL_add_19 : decode cL_add 19 = .ok (.iconst 4, 1) := by decide +kernel
theorem dL_add_20 : decode cL_add 20 = .ok (.irem, 1) := by decide +kernel
theorem dL_add_21 : decode cL_add 21 = .ok (.imul, 1) := by decide +kernel
theorem dL_add_22 : decode cL_add 22 = .ok (.isub, 1) := by decide +kernel
theorem dL_add_23 : decode cL_add 23 = .ok (.ishl, 1) := by decide +kernel
theorem dL_add_24 : decode cL_add 24 = .ok (.ior, 1) := by decide +kernel
theorem dL_add_25 : decode cL_add 25 = .ok (.iastore, 1) := by decide +kernel
theorem dL_add_26 : decode cL_add 26 = .ok (.aload_n 1, 1) := by decide +kernel
theorem dL_add_27 : decode cL_add 27 = .ok (.iconst 5, 1) := by decide +kernel
theorem dL_add_28 : decode cL_add 28 = .ok (.dup2, 1) := by decide +kernel
theorem dL_add_29 : decode cL_add 29 = .ok (.iaload, 1) := by decide +kernel
theorem dL_add_30 : decode cL_add 30 = .ok (.iconst 1, 1) := by decide +kernel
theorem dL_add_31 : decode cL_add 31 = .ok (.iadd, 1) := by decide +kernel
theorem dL_add_32 : decode cL_add 32 = .ok (.iastore, 1) := by decide +kernel
theorem dL_add_33 : decode cL_add 33 = .ok (.aload_n 1, 1) := by decide +kernel
theorem dL_add_34 : decode cL_add 34 = .ok (.iconst 5, 1) := by decide +kernel
theorem dL_add_35 : decode cL_add 35 = .ok (.iaload, 1) := by decide +kernel
theorem dL_add_36 : decode cL_add 36 = .ok (.bipush 20, 2) := by decide +kernel
theorem dL_add_38 : decode cL_add 38 = .ok (.irem, 1) := by decide +kernel
theorem dL_add_39 : decode cL_add 39 = .ok (.ifCond .eq 4, 3) := by decide +kernel
theorem dL_add_42 : decode cL_add 42 = .ok (.return_, 1) := by decide +kernel
theorem dL_add_43 : decode cL_add 43 = .ok (.aload_n 0, 1) := by decide +kernel
theorem dL_add_44 : decode cL_add 44 = .ok (.aload_n 1, 1) := by decide +kernel
theorem dL_add_45 : decode cL_add 45 = .ok (.iconst 0, 1) := by decide +kernel
theorem dL_add_46 : decode cL_add 46 = .ok (.iaload, 1) := by decide +kernel
theorem dL_add_47 : decode cL_add 47 = .ok (.aload_n 1, 1) := by decide +kernel
theorem dL_add_48 : decode cL_add 48 = .ok (.iconst 1, 1) := by decide +kernel
theorem dL_add_49 : decode cL_add 49 = .ok (.iaload, 1) := by decide +kernel
theorem dL_add_50 : decode cL_add 50 = .ok (.aload_n 1, 1) := by decide +kernel
theorem dL_add_51 : decode cL_add 51 = .ok (.iconst 2, 1) := by decide +kernel
theorem dL_add_52 : decode cL_add 52 = .ok (.iaload, 1) := by decide +kernel
theorem dL_add_53 : decode cL_add 53 = .ok (.aload_n 1, 1) := by decide +kernel
theorem dL_add_54 : decode cL_add 54 = .ok (.iconst 3, 1) := by decide +kernel
theorem dL_add_55 : decode cL_add 55 = .ok (.iaload, 1) := by decide +kernel
theorem dL_add_56 : decode cL_add 56 = .ok (.aload_n 1, 1) := by decide +kernel
theorem dL_add_57 : decode cL_add 57 = .ok (.iconst 4, 1) := by decide +kernel
theorem dL_add_58 : decode cL_add 58 = .ok (.iaload, 1) := by decide +kernel
theorem dL_add_59 : decode cL_add 59 = .ok (.invokevirtual 8, 3) := by decide +kernel
theorem dL_add_62 : decode cL_add 62 = .ok (.pop, 1) := by decide +kernel
theorem dL_add_63 : decode cL_add 63 = .ok (.iconst 0, 1) := by decide +kernel
theorem dL_add_64 : decode cL_add 64 = .ok (.istore_n 3, 1) := by decide +kernel
theorem dL_add_65 : decode cL_add 65 = .ok (.iload_n 3, 1) := by decide +kernel
theorem dL_add_66 : decode cL_add 66 = .ok (.iconst 5, 1) := by decide +kernel
theorem dL_add_67 : decode cL_add 67 = .ok (.if_icmp .ge 13, 3) := by decide +kernel
theorem dL_add_70 : decode cL_add 70 = .ok (.aload_n 1, 1) := by decide +kernel
theorem dL_add_71 : decode cL_add 71 = .ok (.iload_n 3, 1) := by decide +kernel
theorem dL_add_72 : decode cL_add 72 = .ok (.iconst 0, 1) := by decide +kernel
theorem dL_add_73 : decode cL_add 73 = .ok (.iastore, 1) := by decide +kernel
theorem dL_add_74 : decode cL_add 74 = .ok (.iinc 3 1, 3) := by decide +kernel
theorem dL_add_77 : decode cL_add 77 = .ok (.goto (-12), 3) := by decide +kernel
theorem dL_add_80 : decode cL_add 80 = .ok (.return_, 1) := by decide +kernel
def f_L_add_65 (w : Nat) (b : Int) : Nat → Int → xM → gH → Option (xM × gH)
  | 0, _, _, _ => none
  | n + 1, x3, m, hp =>
     (if xw x3 < xw 5 then (Option.bind (gsN 0 hp w x3 0) fun q13 =>
      f_L_add_65 w b n (x3 + 1) m q13)
      else some (m, hp))
set_option maxRecDepth 1000000 in
set_option maxHeartbeats 4000000 in
theorem t_L_add_65 {P : gG → Prop} {d : Nat} {m9 : xM} {h9 : gH} (hd9 : 3 ≤ d) (C : ∀ Γ, P Γ → gX Γ lay_X RL cL_add 4 d h9) (w : Nat) (b : Int) (hR : ∀ Γ, P Γ → gRv Γ lay_X cL_add m9 h9) : ∀ (n : Nat) (x3 : Int) (m : xM) (hp : gH), f_L_add_65 w b n x3 m hp = some (m9, h9) → gJ P lay_X 4 65 [(1, .inr (.inr (some w))), (3, .inl x3)] [] m hp h9 := by
  intro n
  induction n with
  | zero => intro _ _ _ h; cases h
  | succ n ih =>
    intro x3 m hp h
    rw [f_L_add_65] at h
    refine g_iload_n C dL_add_65 rfl ?_
    refine g_iconst C dL_add_66 ?_
    refine g_icmp_ge C 80 dL_add_67 (by decide) h (fun h => ?_) (fun h => ?_)
    · exact g_return hR dL_add_80 (by cases h; exact ⟨rfl, rfl⟩)
    · refine g_aload_n C dL_add_70 rfl ?_
      refine g_iload_n C dL_add_71 rfl ?_
      refine g_iconst C dL_add_72 ?_
      obtain ⟨q13, hq13, h⟩ := x_bind h
      refine g_iastore C dL_add_73 hq13 ?_
      refine g_iinc C dL_add_74 (by decide) rfl ?_
      refine g_goto C 65 dL_add_77 (by decide) ?_
      refine g_loc [(1, .inr (.inr (some w))), (3, .inl (x3 + 1))] ⟨rfl, rfl, trivial⟩ ?_
      exact ih _ _ _ h
def f_L_add (w : Nat) (b : Int) (m : xM) (hp : gH) : Option (xM × gH) :=
     (Option.bind (gaN 0 hp w 5) fun q0 =>
      (if xw 20 = 0 then none
      else (if xw 4 = 0 then none
      else (Option.bind (gaN 0 hp w (xidiv (xirem q0 20) 4)) fun q1 =>
      (Option.bind (gaN 0 hp w 5) fun q2 =>
      (if xw 4 = 0 then none
      else (Option.bind (gsN 0 hp w (xidiv (xirem q0 20) 4) (xior q1 (xishl b (24 - (8 * (xirem q2 4)))))) fun q3 =>
      (Option.bind (gaN 0 q3 w 5) fun q4 =>
      (Option.bind (gsN 0 q3 w 5 (q4 + 1)) fun q5 =>
      (Option.bind (gaN 0 q5 w 5) fun q6 =>
      (if xw 20 = 0 then none
      else (if xw (xirem q6 20) = 0 then (Option.bind (gaN 0 q5 w 0) fun q7 =>
      (Option.bind (gaN 0 q5 w 1) fun q8 =>
      (Option.bind (gaN 0 q5 w 2) fun q9 =>
      (Option.bind (gaN 0 q5 w 3) fun q10 =>
      (Option.bind (gaN 0 q5 w 4) fun q11 =>
      (Option.bind (f_X_feed q7 q8 q9 q10 q11 m) fun q12 =>
      f_L_add_65 w b fu 0 q12.2 q5))))))
      else some (m, q5)))))))))))))
set_option maxRecDepth 1000000 in
set_option maxHeartbeats 4000000 in
theorem t_L_add {P : gG → Prop} {d : Nat} {m9 : xM} {h9 : gH} (hd9 : 3 ≤ d) (C : ∀ Γ, P Γ → gX Γ lay_X RL cL_add 4 d h9) (w : Nat) (b : Int) (hR : ∀ Γ, P Γ → gRv Γ lay_X cL_add m9 h9) (m : xM) (hp : gH) (h : f_L_add w b m hp = some (m9, h9)) : gJ P lay_X 4 0 [(0, .inr (.inr (some 0))), (1, .inr (.inr (some w))), (2, .inl b)] [] m hp h9 := by
  unfold f_L_add at h
  refine g_aload_n C dL_add_0 rfl ?_
  refine g_aload_n C dL_add_1 rfl ?_
  refine g_iconst C dL_add_2 ?_
  obtain ⟨q0, hq0, h⟩ := x_bind h
  refine g_iaload C dL_add_3 hq0 ?_
  refine g_bipush C dL_add_4 (by decide) ?_
  refine g_irem C dL_add_6 h (fun h9 h => ?_)
  refine g_iconst C dL_add_7 ?_
  refine g_idiv C dL_add_8 h (fun h9 h => ?_)
  refine g_dup2 C dL_add_9 rfl rfl ?_
  obtain ⟨q1, hq1, h⟩ := x_bind h
  refine g_iaload C dL_add_10 hq1 ?_
  refine g_iload_n C dL_add_11 rfl ?_
  refine g_bipush C dL_add_12 (by decide) ?_
  refine g_bipush C dL_add_14 (by decide) ?_
  refine g_aload_n C dL_add_16 rfl ?_
  refine g_iconst C dL_add_17 ?_
  obtain ⟨q2, hq2, h⟩ := x_bind h
  refine g_iaload C dL_add_18 hq2 ?_
  refine g_iconst C dL_add_19 ?_
  refine g_irem C dL_add_20 h (fun h9 h => ?_)
  refine g_imul C dL_add_21 ?_
  refine g_isub C dL_add_22 ?_
  refine g_ishl C dL_add_23 ?_
  refine g_ior C dL_add_24 ?_
  obtain ⟨q3, hq3, h⟩ := x_bind h
  refine g_iastore C dL_add_25 hq3 ?_
  refine g_aload_n C dL_add_26 rfl ?_
  refine g_iconst C dL_add_27 ?_
  refine g_dup2 C dL_add_28 rfl rfl ?_
  obtain ⟨q4, hq4, h⟩ := x_bind h
  refine g_iaload C dL_add_29 hq4 ?_
  refine g_iconst C dL_add_30 ?_
  refine g_iadd C dL_add_31 ?_
  obtain ⟨q5, hq5, h⟩ := x_bind h
  refine g_iastore C dL_add_32 hq5 ?_
  refine g_aload_n C dL_add_33 rfl ?_
  refine g_iconst C dL_add_34 ?_
  obtain ⟨q6, hq6, h⟩ := x_bind h
  refine g_iaload C dL_add_35 hq6 ?_
  refine g_bipush C dL_add_36 (by decide) ?_
  refine g_irem C dL_add_38 h (fun h9 h => ?_)
  refine g_if_eq C 43 dL_add_39 (by decide) h (fun h => ?_) (fun h => ?_)
  · refine g_aload_n C dL_add_43 rfl ?_
    refine g_aload_n C dL_add_44 rfl ?_
    refine g_iconst C dL_add_45 ?_
    obtain ⟨q7, hq7, h⟩ := x_bind h
    refine g_iaload C dL_add_46 hq7 ?_
    refine g_aload_n C dL_add_47 rfl ?_
    refine g_iconst C dL_add_48 ?_
    obtain ⟨q8, hq8, h⟩ := x_bind h
    refine g_iaload C dL_add_49 hq8 ?_
    refine g_aload_n C dL_add_50 rfl ?_
    refine g_iconst C dL_add_51 ?_
    obtain ⟨q9, hq9, h⟩ := x_bind h
    refine g_iaload C dL_add_52 hq9 ?_
    refine g_aload_n C dL_add_53 rfl ?_
    refine g_iconst C dL_add_54 ?_
    obtain ⟨q10, hq10, h⟩ := x_bind h
    refine g_iaload C dL_add_55 hq10 ?_
    refine g_aload_n C dL_add_56 rfl ?_
    refine g_iconst C dL_add_57 ?_
    obtain ⟨q11, hq11, h⟩ := x_bind h
    refine g_iaload C dL_add_58 hq11 ?_
    obtain ⟨q12, hq12, h⟩ := x_bind h
    refine g_callX C dL_add_59 (xin_11 _ (List.mem_of_getElem? (i := 2) rfl)) xy_X10_feed xi_X10_feed xs_X10_feed (by omega) (by decide) (b := 0) (ci := 11) rfl ⟨_, _, rfl⟩ (av := [.inl q7, .inl q8, .inl q9, .inl q10, .inl q11]) rfl (Nat.le_of_ble_eq_true rfl) (fun l => c_X_feed l _ _ _ _ _ _ q12.1 q12.2 hq12) rfl ?_
    refine g_pop C dL_add_62 rfl ?_
    refine g_iconst C dL_add_63 ?_
    refine g_istore_n C dL_add_64 (by decide) ?_
    refine g_loc [(1, .inr (.inr (some w))), (3, .inl 0)] ⟨rfl, rfl, trivial⟩ ?_
    exact t_L_add_65 hd9 C _ _ hR fu _ _ _ h
  · exact g_return hR dL_add_42 (by cases h; exact ⟨rfl, rfl⟩)
theorem c_L_add {w : Nat} {b : Int} {m m9 : xM} {hp h9 : gH} (h : f_L_add w b m hp = some (m9, h9)) (l : Launch) : gMet l yL_add cL_add 4 none 3 lay_X [.inr (.inr (some 0)), .inr (.inr (some w)), .inl b] m hp none m9 h9 :=
  gMet_v (by decide +kernel) (Nat.le_of_ble_eq_true rfl) (fun P C hR => t_L_add (Nat.le_refl _) C _ _ hR m hp h)
theorem le_L_add {w : Nat} {b : Int} {m m9 : xM} {hp h9 : gH} (h : f_L_add w b m hp = some (m9, h9)) : gle hp h9 :=
  (t_L_add (P := fun _ => False) (Nat.le_refl _) (fun _ q => q.elim) _ _ (fun _ q => q.elim) m hp h).1
/-! ===== yL_number ===== -/
theorem xy_L_add : xY yL_add cL_add 4 none 3 := ⟨(xin_11 _ (List.mem_of_getElem? (i := 1) rfl)), (xin_8 _ (List.mem_of_getElem? (i := 21) rfl)), by decide, by decide, by decide +kernel⟩
theorem xt_L_add : Cond.static yL_add ∈ wsL_law := (xin_11 _ (List.mem_of_getElem? (i := 0) rfl))
theorem dL_number_0 : decode cL_number 0 = .ok (.iconst 1, 1) := by decide +kernel
theorem dL_number_1 : decode cL_number 1 = .ok (.istore_n 3, 1) := by decide +kernel
theorem dL_number_2 : decode cL_number 2 = .ok (.iload_n 3, 1) := by decide +kernel
theorem dL_number_3 : decode cL_number 3 = .ok (.iload_n 2, 1) := by decide +kernel
theorem dL_number_4 : decode cL_number 4 = .ok (.bipush 10, 2) := by decide +kernel
theorem dL_number_6 : decode cL_number 6 = .ok (.idiv, 1) := by decide +kernel
theorem dL_number_7 : decode cL_number 7 = .ok (.if_icmp .gt 11, 3) := by decide +kernel
theorem dL_number_10 : decode cL_number 10 = .ok (.iload_n 3, 1) := by decide +kernel
theorem dL_number_11 : decode cL_number 11 = .ok (.bipush 10, 2) := by decide +kernel
theorem dL_number_13 : decode cL_number 13 = .ok (.imul, 1) := by decide +kernel
theorem dL_number_14 : decode cL_number 14 = .ok (.istore_n 3, 1) := by decide +kernel
theorem dL_number_15 : decode cL_number 15 = .ok (.goto (-13), 3) := by decide +kernel
theorem dL_number_18 : decode cL_number 18 = .ok (.iload_n 3, 1) := by decide +kernel
theorem dL_number_19 : decode cL_number 19 = .ok (.ifCond .le 25, 3) := by decide +kernel
theorem dL_number_22 : decode cL_number 22 = .ok (.aload_n 0, 1) := by decide +kernel
theorem dL_number_23 : decode cL_number 23 = .ok (.aload_n 1, 1) := by decide +kernel
theorem dL_number_24 : decode cL_number 24 = .ok (.bipush 48, 2) := by decide +kernel
theorem dL_number_26 : decode cL_number 26 = .ok (.iload_n 2, 1) := by decide +kernel
theorem dL_number_27 : decode cL_number 27 = .ok (.iload_n 3, 1) := by decide +kernel
theorem dL_number_28 : decode cL_number 28 = .ok (.idiv, 1) := by decide +kernel
theorem dL_number_29 : decode cL_number 29 = .ok (.bipush 10, 2) := by decide +kernel
theorem dL_number_31 : decode cL_number 31 = .ok (.irem, 1) := by decide +kernel
theorem dL_number_32 : decode cL_number 32 = .ok (.iadd, 1) := by decide +kernel
theorem dL_number_33 : decode cL_number 33 = .ok (.invokestatic 14, 3) := by decide +kernel
theorem dL_number_36 : decode cL_number 36 = .ok (.iload_n 3, 1) := by decide +kernel
theorem dL_number_37 : decode cL_number 37 = .ok (.bipush 10, 2) := by decide +kernel
theorem dL_number_39 : decode cL_number 39 = .ok (.idiv, 1) := by decide +kernel
theorem dL_number_40 : decode cL_number 40 = .ok (.istore_n 3, 1) := by decide +kernel
theorem dL_number_41 : decode cL_number 41 = .ok (.goto (-23), 3) := by decide +kernel
theorem dL_number_44 : decode cL_number 44 = .ok (.return_, 1) := by decide +kernel
def f_L_number_18 (w : Nat) (v : Int) : Nat → Int → xM → gH → Option (xM × gH)
  | 0, _, _, _ => none
  | n + 1, x3, m, hp =>
     (if 0 < xw x3 then (if xw x3 = 0 then none
      else (if xw 10 = 0 then none
      else (Option.bind (f_L_add w (48 + (xirem (xidiv v x3) 10)) m hp) fun q0 =>
      (if xw 10 = 0 then none
      else f_L_number_18 w v n (xidiv x3 10) q0.1 q0.2))))
      else some (m, hp))
set_option maxRecDepth 1000000 in
set_option maxHeartbeats 4000000 in
theorem t_L_number_18 {P : gG → Prop} {d : Nat} {m9 : xM} {h9 : gH} (hd9 : 4 ≤ d) (C : ∀ Γ, P Γ → gX Γ lay_X RL cL_number 4 d h9) (w : Nat) (v : Int) (hR : ∀ Γ, P Γ → gRv Γ lay_X cL_number m9 h9) : ∀ (n : Nat) (x3 : Int) (m : xM) (hp : gH), f_L_number_18 w v n x3 m hp = some (m9, h9) → gJ P lay_X 4 18 [(0, .inr (.inr (some 0))), (1, .inr (.inr (some w))), (2, .inl v), (3, .inl x3)] [] m hp h9 := by
  intro n
  induction n with
  | zero => intro _ _ _ h; cases h
  | succ n ih =>
    intro x3 m hp h
    rw [f_L_number_18] at h
    refine g_iload_n C dL_number_18 rfl ?_
    refine g_if_le C 44 dL_number_19 (by decide) h (fun h => ?_) (fun h => ?_)
    · exact g_return hR dL_number_44 (by cases h; exact ⟨rfl, rfl⟩)
    · refine g_aload_n C dL_number_22 rfl ?_
      refine g_aload_n C dL_number_23 rfl ?_
      refine g_bipush C dL_number_24 (by decide) ?_
      refine g_iload_n C dL_number_26 rfl ?_
      refine g_iload_n C dL_number_27 rfl ?_
      refine g_idiv C dL_number_28 h (fun h9 h => ?_)
      refine g_bipush C dL_number_29 (by decide) ?_
      refine g_irem C dL_number_31 h (fun h9 h => ?_)
      refine g_iadd C dL_number_32 ?_
      obtain ⟨q0, hq0, h⟩ := x_bind h
      refine g_callS C dL_number_33 (xin_10 _ (List.mem_of_getElem? (i := 23) rfl)) xy_L_add xt_L_add (by omega) (by decide) (av := [.inr (.inr (some 0)), .inr (.inr (some w)), .inl (48 + (xirem (xidiv v x3) 10))]) rfl (Nat.le_of_ble_eq_true rfl) (le_L_add hq0) (c_L_add hq0) rfl ?_
      refine g_iload_n C dL_number_36 rfl ?_
      refine g_bipush C dL_number_37 (by decide) ?_
      refine g_idiv C dL_number_39 h (fun h9 h => ?_)
      refine g_istore_n C dL_number_40 (by decide) ?_
      refine g_goto C 18 dL_number_41 (by decide) ?_
      refine g_loc [(0, .inr (.inr (some 0))), (1, .inr (.inr (some w))), (2, .inl v), (3, .inl (xidiv x3 10))] ⟨rfl, rfl, rfl, rfl, trivial⟩ ?_
      exact ih _ _ _ h
def f_L_number_2 (w : Nat) (v : Int) : Nat → Int → xM → gH → Option (xM × gH)
  | 0, _, _, _ => none
  | n + 1, x3, m, hp =>
     (if xw 10 = 0 then none
      else (if xw (xidiv v 10) < xw x3 then f_L_number_18 w v fu x3 m hp
      else f_L_number_2 w v n (x3 * 10) m hp))
set_option maxRecDepth 1000000 in
set_option maxHeartbeats 4000000 in
theorem t_L_number_2 {P : gG → Prop} {d : Nat} {m9 : xM} {h9 : gH} (hd9 : 4 ≤ d) (C : ∀ Γ, P Γ → gX Γ lay_X RL cL_number 4 d h9) (w : Nat) (v : Int) (hR : ∀ Γ, P Γ → gRv Γ lay_X cL_number m9 h9) : ∀ (n : Nat) (x3 : Int) (m : xM) (hp : gH), f_L_number_2 w v n x3 m hp = some (m9, h9) → gJ P lay_X 4 2 [(0, .inr (.inr (some 0))), (1, .inr (.inr (some w))), (2, .inl v), (3, .inl x3)] [] m hp h9 := by
  intro n
  induction n with
  | zero => intro _ _ _ h; cases h
  | succ n ih =>
    intro x3 m hp h
    rw [f_L_number_2] at h
    refine g_iload_n C dL_number_2 rfl ?_
    refine g_iload_n C dL_number_3 rfl ?_
    refine g_bipush C dL_number_4 (by decide) ?_
    refine g_idiv C dL_number_6 h (fun h9 h => ?_)
    refine g_icmp_gt C 18 dL_number_7 (by decide) h (fun h => ?_) (fun h => ?_)
    · refine g_loc [(0, .inr (.inr (some 0))), (1, .inr (.inr (some w))), (2, .inl v), (3, .inl x3)] ⟨rfl, rfl, rfl, rfl, trivial⟩ ?_
      exact t_L_number_18 hd9 C _ _ hR fu _ _ _ h
    · refine g_iload_n C dL_number_10 rfl ?_
      refine g_bipush C dL_number_11 (by decide) ?_
      refine g_imul C dL_number_13 ?_
      refine g_istore_n C dL_number_14 (by decide) ?_
      refine g_goto C 2 dL_number_15 (by decide) ?_
      refine g_loc [(0, .inr (.inr (some 0))), (1, .inr (.inr (some w))), (2, .inl v), (3, .inl (x3 * 10))] ⟨rfl, rfl, rfl, rfl, trivial⟩ ?_
      exact ih _ _ _ h
def f_L_number (w : Nat) (v : Int) (m : xM) (hp : gH) : Option (xM × gH) :=
     f_L_number_2 w v fu 1 m hp
set_option maxRecDepth 1000000 in
set_option maxHeartbeats 4000000 in
theorem t_L_number {P : gG → Prop} {d : Nat} {m9 : xM} {h9 : gH} (hd9 : 4 ≤ d) (C : ∀ Γ, P Γ → gX Γ lay_X RL cL_number 4 d h9) (w : Nat) (v : Int) (hR : ∀ Γ, P Γ → gRv Γ lay_X cL_number m9 h9) (m : xM) (hp : gH) (h : f_L_number w v m hp = some (m9, h9)) : gJ P lay_X 4 0 [(0, .inr (.inr (some 0))), (1, .inr (.inr (some w))), (2, .inl v)] [] m hp h9 := by
  unfold f_L_number at h
  refine g_iconst C dL_number_0 ?_
  refine g_istore_n C dL_number_1 (by decide) ?_
  refine g_loc [(0, .inr (.inr (some 0))), (1, .inr (.inr (some w))), (2, .inl v), (3, .inl 1)] ⟨rfl, rfl, rfl, rfl, trivial⟩ ?_
  exact t_L_number_2 hd9 C _ _ hR fu _ _ _ h
theorem c_L_number {w : Nat} {v : Int} {m m9 : xM} {hp h9 : gH} (h : f_L_number w v m hp = some (m9, h9)) (l : Launch) : gMet l yL_number cL_number 4 none 4 lay_X [.inr (.inr (some 0)), .inr (.inr (some w)), .inl v] m hp none m9 h9 :=
  gMet_v (by decide +kernel) (Nat.le_of_ble_eq_true rfl) (fun P C hR => t_L_number (Nat.le_refl _) C _ _ hR m hp h)
theorem le_L_number {w : Nat} {v : Int} {m m9 : xM} {hp h9 : gH} (h : f_L_number w v m hp = some (m9, h9)) : gle hp h9 :=
  (t_L_number (P := fun _ => False) (Nat.le_refl _) (fun _ q => q.elim) _ _ (fun _ q => q.elim) m hp h).1
/-! ===== yL_end ===== -/
theorem dL_end_0 : decode cL_end 0 = .ok (.aload_n 1, 1) := by decide +kernel
theorem dL_end_1 : decode cL_end 1 = .ok (.iconst 5, 1) := by decide +kernel
theorem dL_end_2 : decode cL_end 2 = .ok (.iaload, 1) := by decide +kernel
theorem dL_end_3 : decode cL_end 3 = .ok (.istore_n 2, 1) := by decide +kernel
theorem dL_end_4 : decode cL_end 4 = .ok (.aload_n 1, 1) := by decide +kernel
theorem dL_end_5 : decode cL_end 5 = .ok (.iconst 5, 1) := by decide +kernel
theorem dL_end_6 : decode cL_end 6 = .ok (.iaload, 1) := by decide +kernel
theorem dL_end_7 : decode cL_end 7 = .ok (.bipush 20, 2) := by decide +kernel
theorem dL_end_9 : decode cL_end 9 = .ok (.irem, 1) := by decide +kernel
theorem dL_end_10 : decode cL_end 10 = .ok (.ifCond .eq 13, 3) := by decide +kernel
theorem dL_end_13 : decode cL_end 13 = .ok (.aload_n 0, 1) := by decide +kernel
theorem dL_end_14 : decode cL_end 14 = .ok (.aload_n 1, 1) := by decide +kernel
theorem dL_end_15 : decode cL_end 15 = .ok (.bipush 32, 2) := by decide +kernel
theorem dL_end_17 : decode cL_end 17 = .ok (.invokestatic 14, 3) := by decide +kernel
theorem dL_end_20 : decode cL_end 20 = .ok (.goto (-16), 3) := by decide +kernel
theorem dL_end_23 : decode cL_end 23 = .ok (.aload_n 1, 1) := by decide +kernel
theorem dL_end_24 : decode cL_end 24 = .ok (.iconst 5, 1) := by decide +kernel
theorem dL_end_25 : decode cL_end 25 = .ok (.iconst 0, 1) := by decide +kernel
theorem dL_end_26 : decode cL_end 26 = .ok (.iastore, 1) := by decide +kernel
theorem dL_end_27 : decode cL_end 27 = .ok (.iload_n 2, 1) := by decide +kernel
theorem dL_end_28 : decode cL_end 28 = .ok (.ireturn, 1) := by decide +kernel
def f_L_end_23 (w : Nat) (x2 : Int) (m : xM) (hp : gH) : Option (Int × xM × gH) :=
     (Option.bind (gsN 0 hp w 5 0) fun q2 =>
      some (x2, m, q2))
set_option maxRecDepth 1000000 in
set_option maxHeartbeats 4000000 in
theorem t_L_end_23 {P : gG → Prop} {d : Nat} {r : Int} {m9 : xM} {h9 : gH} (hd9 : 4 ≤ d) (C : ∀ Γ, P Γ → gX Γ lay_X RL cL_end 3 d h9) (w : Nat) (hR : ∀ Γ, P Γ → gRi Γ lay_X cL_end r m9 h9) (x2 : Int) (m : xM) (hp : gH) (h : f_L_end_23 w x2 m hp = some (r, m9, h9)) : gJ P lay_X 3 23 [(1, .inr (.inr (some w))), (2, .inl x2)] [] m hp h9 := by
  unfold f_L_end_23 at h
  refine g_aload_n C dL_end_23 rfl ?_
  refine g_iconst C dL_end_24 ?_
  refine g_iconst C dL_end_25 ?_
  obtain ⟨q2, hq2, h⟩ := x_bind h
  refine g_iastore C dL_end_26 hq2 ?_
  refine g_iload_n C dL_end_27 rfl ?_
  exact g_ireturn hR dL_end_28 (by cases h; exact ⟨rfl, rfl, rfl⟩)
def f_L_end_4 (w : Nat) : Nat → Int → xM → gH → Option (Int × xM × gH)
  | 0, _, _, _ => none
  | n + 1, x2, m, hp =>
     (Option.bind (gaN 0 hp w 5) fun q1 =>
      (if xw 20 = 0 then none
      else (if xw (xirem q1 20) = 0 then f_L_end_23 w x2 m hp
      else (Option.bind (f_L_add w 32 m hp) fun q3 =>
      f_L_end_4 w n x2 q3.1 q3.2))))
set_option maxRecDepth 1000000 in
set_option maxHeartbeats 4000000 in
theorem t_L_end_4 {P : gG → Prop} {d : Nat} {r : Int} {m9 : xM} {h9 : gH} (hd9 : 4 ≤ d) (C : ∀ Γ, P Γ → gX Γ lay_X RL cL_end 3 d h9) (w : Nat) (hR : ∀ Γ, P Γ → gRi Γ lay_X cL_end r m9 h9) : ∀ (n : Nat) (x2 : Int) (m : xM) (hp : gH), f_L_end_4 w n x2 m hp = some (r, m9, h9) → gJ P lay_X 3 4 [(0, .inr (.inr (some 0))), (1, .inr (.inr (some w))), (2, .inl x2)] [] m hp h9 := by
  intro n
  induction n with
  | zero => intro _ _ _ h; cases h
  | succ n ih =>
    intro x2 m hp h
    rw [f_L_end_4] at h
    refine g_aload_n C dL_end_4 rfl ?_
    refine g_iconst C dL_end_5 ?_
    obtain ⟨q1, hq1, h⟩ := x_bind h
    refine g_iaload C dL_end_6 hq1 ?_
    refine g_bipush C dL_end_7 (by decide) ?_
    refine g_irem C dL_end_9 h (fun h9 h => ?_)
    refine g_if_eq C 23 dL_end_10 (by decide) h (fun h => ?_) (fun h => ?_)
    · refine g_loc [(1, .inr (.inr (some w))), (2, .inl x2)] ⟨rfl, rfl, trivial⟩ ?_
      exact t_L_end_23 hd9 C _ hR _ _ _ h
    · refine g_aload_n C dL_end_13 rfl ?_
      refine g_aload_n C dL_end_14 rfl ?_
      refine g_bipush C dL_end_15 (by decide) ?_
      obtain ⟨q3, hq3, h⟩ := x_bind h
      refine g_callS C dL_end_17 (xin_10 _ (List.mem_of_getElem? (i := 23) rfl)) xy_L_add xt_L_add (by omega) (by decide) (av := [.inr (.inr (some 0)), .inr (.inr (some w)), .inl 32]) rfl (Nat.le_of_ble_eq_true rfl) (le_L_add hq3) (c_L_add hq3) rfl ?_
      refine g_goto C 4 dL_end_20 (by decide) ?_
      refine g_loc [(0, .inr (.inr (some 0))), (1, .inr (.inr (some w))), (2, .inl x2)] ⟨rfl, rfl, rfl, trivial⟩ ?_
      exact ih _ _ _ h
def f_L_end (w : Nat) (m : xM) (hp : gH) : Option (Int × xM × gH) :=
     (Option.bind (gaN 0 hp w 5) fun q0 =>
      f_L_end_4 w fu q0 m hp)
set_option maxRecDepth 1000000 in
set_option maxHeartbeats 4000000 in
theorem t_L_end {P : gG → Prop} {d : Nat} {r : Int} {m9 : xM} {h9 : gH} (hd9 : 4 ≤ d) (C : ∀ Γ, P Γ → gX Γ lay_X RL cL_end 3 d h9) (w : Nat) (hR : ∀ Γ, P Γ → gRi Γ lay_X cL_end r m9 h9) (m : xM) (hp : gH) (h : f_L_end w m hp = some (r, m9, h9)) : gJ P lay_X 3 0 [(0, .inr (.inr (some 0))), (1, .inr (.inr (some w)))] [] m hp h9 := by
  unfold f_L_end at h
  refine g_aload_n C dL_end_0 rfl ?_
  refine g_iconst C dL_end_1 ?_
  obtain ⟨q0, hq0, h⟩ := x_bind h
  refine g_iaload C dL_end_2 hq0 ?_
  refine g_istore_n C dL_end_3 (by decide) ?_
  refine g_loc [(0, .inr (.inr (some 0))), (1, .inr (.inr (some w))), (2, .inl q0)] ⟨rfl, rfl, rfl, trivial⟩ ?_
  exact t_L_end_4 hd9 C _ hR fu _ _ _ h
theorem c_L_end {w : Nat} {m m9 : xM} {r : Int} {hp h9 : gH} (h : f_L_end w m hp = some (r, m9, h9)) (l : Launch) : gMet l yL_end cL_end 3 (some .int) 4 lay_X [.inr (.inr (some 0)), .inr (.inr (some w))] m hp (some (.inl r)) m9 h9 :=
  gMet_i (by decide +kernel) (Nat.le_of_ble_eq_true rfl) (fun P C hR => t_L_end (Nat.le_refl _) C _ hR m hp h)
theorem le_L_end {w : Nat} {m m9 : xM} {r : Int} {hp h9 : gH} (h : f_L_end w m hp = some (r, m9, h9)) : gle hp h9 :=
  (t_L_end (P := fun _ => False) (Nat.le_refl _) (fun _ q => q.elim) _ (fun _ q => q.elim) m hp h).1
/-! ===== yL_word ===== -/
theorem dL_word_0 : decode cL_word 0 = .ok (.iconst 0, 1) := by decide +kernel
theorem dL_word_1 : decode cL_word 1 = .ok (.istore_n 3, 1) := by decide +kernel
theorem dL_word_2 : decode cL_word 2 = .ok (.iload_n 3, 1) := by decide +kernel
theorem dL_word_3 : decode cL_word 3 = .ok (.aload_n 2, 1) := by decide +kernel
theorem dL_word_4 : decode cL_word 4 = .ok (.invokevirtual 51, 3) := by decide +kernel
theorem dL_word_7 : decode cL_word 7 = .ok (.if_icmp .ge 19, 3) := by decide +kernel
theorem dL_word_10 : decode cL_word 10 = .ok (.aload_n 0, 1) := by decide +kernel
theorem dL_word_11 : decode cL_word 11 = .ok (.aload_n 1, 1) := by decide +kernel
theorem dL_word_12 : decode cL_word 12 = .ok (.aload_n 2, 1) := by decide +kernel
theorem dL_word_13 : decode cL_word 13 = .ok (.iload_n 3, 1) := by decide +kernel
theorem dL_word_14 : decode cL_word 14 = .ok (.invokevirtual 57, 3) := by decide +kernel
theorem dL_word_17 : decode cL_word 17 = .ok (.invokestatic 14, 3) := by decide +kernel
theorem dL_word_20 : decode cL_word 20 = .ok (.iinc 3 1, 3) := by decide +kernel
theorem dL_word_23 : decode cL_word 23 = .ok (.goto (-21), 3) := by decide +kernel
theorem dL_word_26 : decode cL_word 26 = .ok (.return_, 1) := by decide +kernel
def f_L_word_2 (w : Nat) (s : Nat) : Nat → Int → xM → gH → Option (xM × gH)
  | 0, _, _, _ => none
  | n + 1, x3, m, hp =>
     (if xw x3 < xw (xsl s) then (if xib x3 (xSby.getD s []).length then (Option.bind (f_L_add w (xsc s (xix x3)) m hp) fun q1 =>
      f_L_word_2 w s n (x3 + 1) q1.1 q1.2)
      else none)
      else some (m, hp))
set_option maxRecDepth 1000000 in
set_option maxHeartbeats 4000000 in
theorem t_L_word_2 {P : gG → Prop} {d : Nat} {m9 : xM} {h9 : gH} (hd9 : 4 ≤ d) (C : ∀ Γ, P Γ → gX Γ lay_X RL cL_word 4 d h9) (w : Nat) (s : Nat) (hR : ∀ Γ, P Γ → gRv Γ lay_X cL_word m9 h9) (hi_s : xSok s) : ∀ (n : Nat) (x3 : Int) (m : xM) (hp : gH), f_L_word_2 w s n x3 m hp = some (m9, h9) → gJ P lay_X 4 2 [(0, .inr (.inr (some 0))), (1, .inr (.inr (some w))), (2, .inr (.inr (some (1000 + s)))), (3, .inl x3)] [] m hp h9 := by
  intro n
  induction n with
  | zero => intro _ _ _ h; cases h
  | succ n ih =>
    intro x3 m hp h
    rw [f_L_word_2] at h
    refine g_iload_n C dL_word_2 rfl ?_
    refine g_aload_n C dL_word_3 rfl ?_
    refine g_slen C s hi_s dL_word_4 (xin_8 _ (List.mem_of_getElem? (i := 23) rfl)) (by omega) (Nat.le_of_ble_eq_true rfl) ?_
    refine g_icmp_ge C 26 dL_word_7 (by decide) h (fun h => ?_) (fun h => ?_)
    · exact g_return hR dL_word_26 (by cases h; exact ⟨rfl, rfl⟩)
    · refine g_aload_n C dL_word_10 rfl ?_
      refine g_aload_n C dL_word_11 rfl ?_
      refine g_aload_n C dL_word_12 rfl ?_
      refine g_iload_n C dL_word_13 rfl ?_
      obtain ⟨hj1, h⟩ := x_some1 h
      refine g_schar C s hi_s dL_word_14 (xin_9 _ (List.mem_of_getElem? (i := 11) rfl)) (by omega) (Nat.le_of_ble_eq_true rfl) hj1 ?_
      obtain ⟨q1, hq1, h⟩ := x_bind h
      refine g_callS C dL_word_17 (xin_10 _ (List.mem_of_getElem? (i := 23) rfl)) xy_L_add xt_L_add (by omega) (by decide) (av := [.inr (.inr (some 0)), .inr (.inr (some w)), .inl (xsc s (xix x3))]) rfl (Nat.le_of_ble_eq_true rfl) (le_L_add hq1) (c_L_add hq1) rfl ?_
      refine g_iinc C dL_word_20 (by decide) rfl ?_
      refine g_goto C 2 dL_word_23 (by decide) ?_
      refine g_loc [(0, .inr (.inr (some 0))), (1, .inr (.inr (some w))), (2, .inr (.inr (some (1000 + s)))), (3, .inl (x3 + 1))] ⟨rfl, rfl, rfl, rfl, trivial⟩ ?_
      exact ih _ _ _ h
def f_L_word (w : Nat) (s : Nat) (m : xM) (hp : gH) : Option (xM × gH) :=
     f_L_word_2 w s fu 0 m hp
set_option maxRecDepth 1000000 in
set_option maxHeartbeats 4000000 in
theorem t_L_word {P : gG → Prop} {d : Nat} {m9 : xM} {h9 : gH} (hd9 : 4 ≤ d) (C : ∀ Γ, P Γ → gX Γ lay_X RL cL_word 4 d h9) (w : Nat) (s : Nat) (hR : ∀ Γ, P Γ → gRv Γ lay_X cL_word m9 h9) (hi_s : xSok s) (m : xM) (hp : gH) (h : f_L_word w s m hp = some (m9, h9)) : gJ P lay_X 4 0 [(0, .inr (.inr (some 0))), (1, .inr (.inr (some w))), (2, .inr (.inr (some (1000 + s))))] [] m hp h9 := by
  unfold f_L_word at h
  refine g_iconst C dL_word_0 ?_
  refine g_istore_n C dL_word_1 (by decide) ?_
  refine g_loc [(0, .inr (.inr (some 0))), (1, .inr (.inr (some w))), (2, .inr (.inr (some (1000 + s)))), (3, .inl 0)] ⟨rfl, rfl, rfl, rfl, trivial⟩ ?_
  exact t_L_word_2 hd9 C _ _ hR hi_s fu _ _ _ h
theorem c_L_word {w : Nat} {s : Nat} (hi_s : xSok s) {m m9 : xM} {hp h9 : gH} (h : f_L_word w s m hp = some (m9, h9)) (l : Launch) : gMet l yL_word cL_word 4 none 4 lay_X [.inr (.inr (some 0)), .inr (.inr (some w)), .inr (.inr (some (1000 + s)))] m hp none m9 h9 :=
  gMet_v (by decide +kernel) (Nat.le_of_ble_eq_true rfl) (fun P C hR => t_L_word (Nat.le_refl _) C _ _ hR hi_s m hp h)
theorem le_L_word {w : Nat} {s : Nat} (hi_s : xSok s) {m m9 : xM} {hp h9 : gH} (h : f_L_word w s m hp = some (m9, h9)) : gle hp h9 :=
  (t_L_word (P := fun _ => False) (Nat.le_refl _) (fun _ q => q.elim) _ _ (fun _ q => q.elim) hi_s m hp h).1
/-! ===== yL_line ===== -/
theorem xy_L_word : xY yL_word cL_word 4 none 3 := ⟨(xin_8 _ (List.mem_of_getElem? (i := 22) rfl)), (xin_8 _ (List.mem_of_getElem? (i := 21) rfl)), by decide, by decide, by decide +kernel⟩
theorem xt_L_word : Cond.static yL_word ∈ wsL_law := (xin_8 _ (List.mem_of_getElem? (i := 20) rfl))
theorem xy_L_number : xY yL_number cL_number 4 none 3 := ⟨(xin_34 _ (List.mem_of_getElem? (i := 23) rfl)), (xin_8 _ (List.mem_of_getElem? (i := 21) rfl)), by decide, by decide, by decide +kernel⟩
theorem xt_L_number : Cond.static yL_number ∈ wsL_law := (xin_34 _ (List.mem_of_getElem? (i := 22) rfl))
theorem dL_line_0 : decode cL_line 0 = .ok (.aload_n 0, 1) := by decide +kernel
theorem dL_line_1 : decode cL_line 1 = .ok (.aload_n 1, 1) := by decide +kernel
theorem dL_line_2 : decode cL_line 2 = .ok (.aload_n 2, 1) := by decide +kernel
theorem dL_line_3 : decode cL_line 3 = .ok (.invokestatic 61, 3) := by decide +kernel
theorem dL_line_6 : decode cL_line 6 = .ok (.aload_n 3, 1) := by decide +kernel
theorem dL_line_7 : decode cL_line 7 = .ok (.astore 4, 2) := by decide +kernel
theorem dL_line_9 : decode cL_line 9 = .ok (.aload 4, 2) := by decide +kernel
theorem dL_line_11 : decode cL_line 11 = .ok (.arraylength, 1) := by decide +kernel
theorem dL_line_12 : decode cL_line 12 = .ok (.istore 5, 2) := by decide +kernel
theorem dL_line_14 : decode cL_line 14 = .ok (.iconst 0, 1) := by decide +kernel
theorem dL_line_15 : decode cL_line 15 = .ok (.istore 6, 2) := by decide +kernel
theorem dL_line_17 : decode cL_line 17 = .ok (.iload 6, 2) := by decide +kernel
theorem dL_line_19 : decode cL_line 19 = .ok (.iload 5, 2) := by decide +kernel
theorem dL_line_21 : decode cL_line 21 = .ok (.if_icmp .ge 30, 3) := by decide +kernel
theorem dL_line_24 : decode cL_line 24 = .ok (.aload 4, 2) := by decide +kernel
theorem dL_line_26 : decode cL_line 26 = .ok (.iload 6, 2) := by decide +kernel
theorem dL_line_28 : decode cL_line 28 = .ok (.iaload, 1) := by decide +kernel
theorem dL_line_29 : decode cL_line 29 = .ok (.istore 7, 2) := by decide +kernel
theorem dL_line_31 : decode cL_line 31 = .ok (.aload_n 0, 1) := by decide +kernel
theorem dL_line_32 : decode cL_line 32 = .ok (.aload_n 1, 1) := by decide +kernel
theorem dL_line_33 : decode cL_line 33 = .ok (.bipush 32, 2) := by decide +kernel
theorem dL_line_35 : decode cL_line 35 = .ok (.invokestatic 14, 3) := by decide +kernel
theorem dL_line_38 : decode cL_line 38 = .ok (.aload_n 0, 1) := by decide +kernel
theorem dL_line_39 : decode cL_line 39 = .ok (.aload_n 1, 1) := by decide +kernel
theorem dL_line_40 : decode cL_line 40 = .ok (.iload 7, 2) := by decide +kernel
theorem dL_line_42 : decode cL_line 42 = .ok (.invokestatic 65, 3) := by decide +kernel
theorem dL_line_45 : decode cL_line 45 = .ok (.iinc 6 1, 3) := by decide +kernel
theorem dL_line_48 : decode cL_line 48 = .ok (.goto (-31), 3) := by decide +kernel
theorem dL_line_51 : decode cL_line 51 = .ok (.aload_n 0, 1) := by decide +kernel
theorem dL_line_52 : decode cL_line 52 = .ok (.aload_n 1, 1) := by decide +kernel
theorem dL_line_53 : decode cL_line 53 = .ok (.bipush 59, 2) := by decide +kernel
theorem dL_line_55 : decode cL_line 55 = .ok (.invokestatic 14, 3) := by decide +kernel
theorem dL_line_58 : decode cL_line 58 = .ok (.return_, 1) := by decide +kernel
def f_L_line_51 (w : Nat) (s : Nat) (a : Nat) (m : xM) (hp : gH) : Option (xM × gH) :=
     (Option.bind (f_L_add w 59 m hp) fun q2 =>
      some (q2.1, q2.2))
set_option maxRecDepth 1000000 in
set_option maxHeartbeats 4000000 in
theorem t_L_line_51 {P : gG → Prop} {d : Nat} {m9 : xM} {h9 : gH} (hd9 : 5 ≤ d) (C : ∀ Γ, P Γ → gX Γ lay_X RL cL_line 8 d h9) (w : Nat) (s : Nat) (a : Nat) (hR : ∀ Γ, P Γ → gRv Γ lay_X cL_line m9 h9) (hi_s : xSok s) (m : xM) (hp : gH) (h : f_L_line_51 w s a m hp = some (m9, h9)) : gJ P lay_X 8 51 [(0, .inr (.inr (some 0))), (1, .inr (.inr (some w)))] [] m hp h9 := by
  unfold f_L_line_51 at h
  refine g_aload_n C dL_line_51 rfl ?_
  refine g_aload_n C dL_line_52 rfl ?_
  refine g_bipush C dL_line_53 (by decide) ?_
  obtain ⟨q2, hq2, h⟩ := x_bind h
  refine g_callS C dL_line_55 (xin_10 _ (List.mem_of_getElem? (i := 23) rfl)) xy_L_add xt_L_add (by omega) (by decide) (av := [.inr (.inr (some 0)), .inr (.inr (some w)), .inl 59]) rfl (Nat.le_of_ble_eq_true rfl) (le_L_add hq2) (c_L_add hq2) rfl ?_
  exact g_return hR dL_line_58 (by cases h; exact ⟨rfl, rfl⟩)
def f_L_line_17 (w : Nat) (s : Nat) (a : Nat) : Nat → Nat → Int → Int → xM → gH → Option (xM × gH)
  | 0, _, _, _, _, _ => none
  | n + 1, x4, x5, x6, m, hp =>
     (if xw x6 < xw x5 then (Option.bind (gaN 0 hp x4 x6) fun q3 =>
      (Option.bind (f_L_add w 32 m hp) fun q4 =>
      (Option.bind (f_L_number w q3 q4.1 q4.2) fun q5 =>
      f_L_line_17 w s a n x4 x5 (x6 + 1) q5.1 q5.2)))
      else f_L_line_51 w s a m hp)
set_option maxRecDepth 1000000 in
set_option maxHeartbeats 4000000 in
theorem t_L_line_17 {P : gG → Prop} {d : Nat} {m9 : xM} {h9 : gH} (hd9 : 5 ≤ d) (C : ∀ Γ, P Γ → gX Γ lay_X RL cL_line 8 d h9) (w : Nat) (s : Nat) (a : Nat) (hR : ∀ Γ, P Γ → gRv Γ lay_X cL_line m9 h9) (hi_s : xSok s) : ∀ (n : Nat) (x4 : Nat) (x5 : Int) (x6 : Int) (m : xM) (hp : gH), f_L_line_17 w s a n x4 x5 x6 m hp = some (m9, h9) → gJ P lay_X 8 17 [(0, .inr (.inr (some 0))), (1, .inr (.inr (some w))), (4, .inr (.inr (some x4))), (5, .inl x5), (6, .inl x6)] [] m hp h9 := by
  intro n
  induction n with
  | zero => intro _ _ _ _ _ h; cases h
  | succ n ih =>
    intro x4 x5 x6 m hp h
    rw [f_L_line_17] at h
    refine g_iload C dL_line_17 rfl ?_
    refine g_iload C dL_line_19 rfl ?_
    refine g_icmp_ge C 51 dL_line_21 (by decide) h (fun h => ?_) (fun h => ?_)
    · refine g_loc [(0, .inr (.inr (some 0))), (1, .inr (.inr (some w)))] ⟨rfl, rfl, trivial⟩ ?_
      exact t_L_line_51 hd9 C _ _ _ hR hi_s _ _ h
    · refine g_aload C dL_line_24 rfl ?_
      refine g_iload C dL_line_26 rfl ?_
      obtain ⟨q3, hq3, h⟩ := x_bind h
      refine g_iaload C dL_line_28 hq3 ?_
      refine g_istore C dL_line_29 (by decide) ?_
      refine g_aload_n C dL_line_31 rfl ?_
      refine g_aload_n C dL_line_32 rfl ?_
      refine g_bipush C dL_line_33 (by decide) ?_
      obtain ⟨q4, hq4, h⟩ := x_bind h
      refine g_callS C dL_line_35 (xin_10 _ (List.mem_of_getElem? (i := 23) rfl)) xy_L_add xt_L_add (by omega) (by decide) (av := [.inr (.inr (some 0)), .inr (.inr (some w)), .inl 32]) rfl (Nat.le_of_ble_eq_true rfl) (le_L_add hq4) (c_L_add hq4) rfl ?_
      refine g_aload_n C dL_line_38 rfl ?_
      refine g_aload_n C dL_line_39 rfl ?_
      refine g_iload C dL_line_40 rfl ?_
      obtain ⟨q5, hq5, h⟩ := x_bind h
      refine g_callS C dL_line_42 (xin_34 _ (List.mem_of_getElem? (i := 21) rfl)) xy_L_number xt_L_number (by omega) (by decide) (av := [.inr (.inr (some 0)), .inr (.inr (some w)), .inl q3]) rfl (Nat.le_of_ble_eq_true rfl) (le_L_number hq5) (c_L_number hq5) rfl ?_
      refine g_iinc C dL_line_45 (by decide) rfl ?_
      refine g_goto C 17 dL_line_48 (by decide) ?_
      refine g_loc [(0, .inr (.inr (some 0))), (1, .inr (.inr (some w))), (4, .inr (.inr (some x4))), (5, .inl x5), (6, .inl (x6 + 1))] ⟨rfl, rfl, rfl, rfl, rfl, trivial⟩ ?_
      exact ih _ _ _ _ _ h
def f_L_line (w : Nat) (s : Nat) (a : Nat) (m : xM) (hp : gH) : Option (xM × gH) :=
     (Option.bind (f_L_word w s m hp) fun q0 =>
      (Option.bind (glc q0.2 a) fun q1 =>
      f_L_line_17 w s a fu a q1 0 q0.1 q0.2))
set_option maxRecDepth 1000000 in
set_option maxHeartbeats 4000000 in
theorem t_L_line {P : gG → Prop} {d : Nat} {m9 : xM} {h9 : gH} (hd9 : 5 ≤ d) (C : ∀ Γ, P Γ → gX Γ lay_X RL cL_line 8 d h9) (w : Nat) (s : Nat) (a : Nat) (hR : ∀ Γ, P Γ → gRv Γ lay_X cL_line m9 h9) (hi_s : xSok s) (m : xM) (hp : gH) (h : f_L_line w s a m hp = some (m9, h9)) : gJ P lay_X 8 0 [(0, .inr (.inr (some 0))), (1, .inr (.inr (some w))), (2, .inr (.inr (some (1000 + s)))), (3, .inr (.inr (some a)))] [] m hp h9 := by
  unfold f_L_line at h
  refine g_aload_n C dL_line_0 rfl ?_
  refine g_aload_n C dL_line_1 rfl ?_
  refine g_aload_n C dL_line_2 rfl ?_
  obtain ⟨q0, hq0, h⟩ := x_bind h
  refine g_callS C dL_line_3 (xin_8 _ (List.mem_of_getElem? (i := 19) rfl)) xy_L_word xt_L_word (by omega) (by decide) (av := [.inr (.inr (some 0)), .inr (.inr (some w)), .inr (.inr (some (1000 + s)))]) rfl (Nat.le_of_ble_eq_true rfl) (le_L_word hi_s hq0) (c_L_word hi_s hq0) rfl ?_
  refine g_aload_n C dL_line_6 rfl ?_
  refine g_astore C dL_line_7 (by decide) ?_
  refine g_aload C dL_line_9 rfl ?_
  obtain ⟨q1, hq1, h⟩ := x_bind h
  refine g_lenC C dL_line_11 hq1 ?_
  refine g_istore C dL_line_12 (by decide) ?_
  refine g_iconst C dL_line_14 ?_
  refine g_istore C dL_line_15 (by decide) ?_
  refine g_loc [(0, .inr (.inr (some 0))), (1, .inr (.inr (some w))), (4, .inr (.inr (some a))), (5, .inl q1), (6, .inl 0)] ⟨rfl, rfl, rfl, rfl, rfl, trivial⟩ ?_
  exact t_L_line_17 hd9 C _ _ _ hR hi_s fu _ _ _ _ _ h
theorem c_L_line {w : Nat} {s : Nat} {a : Nat} (hi_s : xSok s) {m m9 : xM} {hp h9 : gH} (h : f_L_line w s a m hp = some (m9, h9)) (l : Launch) : gMet l yL_line cL_line 8 none 5 lay_X [.inr (.inr (some 0)), .inr (.inr (some w)), .inr (.inr (some (1000 + s))), .inr (.inr (some a))] m hp none m9 h9 :=
  gMet_v (by decide +kernel) (Nat.le_of_ble_eq_true rfl) (fun P C hR => t_L_line (Nat.le_refl _) C _ _ _ hR hi_s m hp h)
theorem le_L_line {w : Nat} {s : Nat} {a : Nat} (hi_s : xSok s) {m m9 : xM} {hp h9 : gH} (h : f_L_line w s a m hp = some (m9, h9)) : gle hp h9 :=
  (t_L_line (P := fun _ => False) (Nat.le_refl _) (fun _ q => q.elim) _ _ _ (fun _ q => q.elim) hi_s m hp h).1
/-! ===== yL_tell ===== -/
theorem nF_31 : xFN RL 31 2 .int false := ⟨RX11, TX11, 31, tyX11, rfl, by decide, (List.mem_of_getElem? (i := 1) rfl), rfl, inlX11, tyX11_ok, nmX11, rfl, rfl⟩
theorem xy_L_line : xY yL_line cL_line 8 none 4 := ⟨(xin_34 _ (List.mem_of_getElem? (i := 20) rfl)), (xin_8 _ (List.mem_of_getElem? (i := 21) rfl)), by decide, by decide, by decide +kernel⟩
theorem xt_L_line : Cond.static yL_line ∈ wsL_law := (xin_34 _ (List.mem_of_getElem? (i := 19) rfl))
theorem nF_35 : xFN RL 35 12 (.array .int) false := ⟨RX11, TX11, 31, tyX11, rfl, by decide, (List.mem_of_getElem? (i := 5) rfl), rfl, inlX11, tyX11_ok, nmX11, rfl, rfl⟩
theorem nF_42 : xFN RL 42 14 (.array .int) false := ⟨RX11, TX11, 31, tyX11, rfl, by decide, (List.mem_of_getElem? (i := 7) rfl), rfl, inlX11, tyX11_ok, nmX11, rfl, rfl⟩
theorem nF_45 : xFN RL 45 16 (.array .int) false := ⟨RX11, TX11, 31, tyX11, rfl, by decide, (List.mem_of_getElem? (i := 9) rfl), rfl, inlX11, tyX11_ok, nmX11, rfl, rfl⟩
theorem nF_48 : xFN RL 48 15 (.array .int) false := ⟨RX11, TX11, 31, tyX11, rfl, by decide, (List.mem_of_getElem? (i := 8) rfl), rfl, inlX11, tyX11_ok, nmX11, rfl, rfl⟩
theorem xy_L_end : xY yL_end cL_end 3 (some .int) 2 := ⟨(xin_11 _ (List.mem_of_getElem? (i := 13) rfl)), (xin_8 _ (List.mem_of_getElem? (i := 21) rfl)), by decide, by decide, by decide +kernel⟩
theorem xt_L_end : Cond.static yL_end ∈ wsL_law := (xin_11 _ (List.mem_of_getElem? (i := 12) rfl))
theorem xy_X10_load : xY yX10_load cX10_load 2 (some .int) 1 := ⟨(xin_11 _ (List.mem_of_getElem? (i := 17) rfl)), (xin_1 _ (List.mem_of_getElem? (i := 2) rfl)), by decide, by decide, by decide +kernel⟩
theorem xi_X10_load : Cond.instanceMethod yX10_load ∈ wsL_law := (xin_11 _ (List.mem_of_getElem? (i := 15) rfl))
theorem xs_X10_load : Cond.selects yX10_load.cls yX10_load yX10_load ∈ wsL_law := (xin_11 _ (List.mem_of_getElem? (i := 16) rfl))
theorem nF_39 : xFN RL 39 13 (.array .int) false := ⟨RX11, TX11, 31, tyX11, rfl, by decide, (List.mem_of_getElem? (i := 6) rfl), rfl, inlX11, tyX11_ok, nmX11, rfl, rfl⟩
theorem dL_tell_0 : decode cL_tell 0 = .ok (.aload_n 0, 1) := by decide +kernel
theorem dL_tell_1 : decode cL_tell 1 = .ok (.aload_n 1, 1) := by decide +kernel
theorem dL_tell_2 : decode cL_tell 2 = .ok (.ldc 68, 2) := by decide +kernel
theorem dL_tell_4 : decode cL_tell 4 = .ok (.iconst 1, 1) := by decide +kernel
theorem dL_tell_5 : decode cL_tell 5 = .ok (.newarray .int, 2) := by decide +kernel
theorem dL_tell_7 : decode cL_tell 7 = .ok (.dup, 1) := by decide +kernel
theorem dL_tell_8 : decode cL_tell 8 = .ok (.iconst 0, 1) := by decide +kernel
theorem dL_tell_9 : decode cL_tell 9 = .ok (.aload_n 2, 1) := by decide +kernel
theorem dL_tell_10 : decode cL_tell 10 = .ok (.getfield 31, 3) := by decide +kernel
theorem dL_tell_13 : decode cL_tell 13 = .ok (.iastore, 1) := by decide +kernel
theorem dL_tell_14 : decode cL_tell 14 = .ok (.invokestatic 70, 3) := by decide +kernel
theorem dL_tell_17 : decode cL_tell 17 = .ok (.aload_n 0, 1) := by decide +kernel
theorem dL_tell_18 : decode cL_tell 18 = .ok (.aload_n 1, 1) := by decide +kernel
theorem dL_tell_19 : decode cL_tell 19 = .ok (.ldc 73, 2) := by decide +kernel
theorem dL_tell_21 : decode cL_tell 21 = .ok (.invokestatic 61, 3) := by decide +kernel
theorem dL_tell_24 : decode cL_tell 24 = .ok (.iconst 0, 1) := by decide +kernel
theorem dL_tell_25 : decode cL_tell 25 = .ok (.istore_n 3, 1) := by decide +kernel
theorem dL_tell_26 : decode cL_tell 26 = .ok (.iload_n 3, 1) := by decide +kernel
theorem dL_tell_27 : decode cL_tell 27 = .ok (.aload_n 2, 1) := by decide +kernel
theorem dL_tell_28 : decode cL_tell 28 = .ok (.getfield 35, 3) := by decide +kernel
theorem dL_tell_31 : decode cL_tell 31 = .ok (.arraylength, 1) := by decide +kernel
theorem dL_tell_32 : decode cL_tell 32 = .ok (.if_icmp .ge 54, 3) := by decide +kernel
theorem dL_tell_35 : decode cL_tell 35 = .ok (.aload_n 0, 1) := by decide +kernel
theorem dL_tell_36 : decode cL_tell 36 = .ok (.aload_n 1, 1) := by decide +kernel
theorem dL_tell_37 : decode cL_tell 37 = .ok (.iload_n 3, 1) := by decide +kernel
theorem dL_tell_38 : decode cL_tell 38 = .ok (.ifCond .le 8, 3) := by decide +kernel
theorem dL_tell_41 : decode cL_tell 41 = .ok (.bipush 44, 2) := by decide +kernel
theorem dL_tell_43 : decode cL_tell 43 = .ok (.goto 5, 3) := by decide +kernel
theorem dL_tell_46 : decode cL_tell 46 = .ok (.bipush 32, 2) := by decide +kernel
theorem dL_tell_48 : decode cL_tell 48 = .ok (.invokestatic 14, 3) := by decide +kernel
theorem dL_tell_51 : decode cL_tell 51 = .ok (.aload_n 0, 1) := by decide +kernel
theorem dL_tell_52 : decode cL_tell 52 = .ok (.aload_n 1, 1) := by decide +kernel
theorem dL_tell_53 : decode cL_tell 53 = .ok (.aload_n 2, 1) := by decide +kernel
theorem dL_tell_54 : decode cL_tell 54 = .ok (.getfield 35, 3) := by decide +kernel
theorem dL_tell_57 : decode cL_tell 57 = .ok (.iload_n 3, 1) := by decide +kernel
theorem dL_tell_58 : decode cL_tell 58 = .ok (.iaload, 1) := by decide +kernel
theorem dL_tell_59 : decode cL_tell 59 = .ok (.invokestatic 65, 3) := by decide +kernel
theorem dL_tell_62 : decode cL_tell 62 = .ok (.aload_n 0, 1) := by decide +kernel
theorem dL_tell_63 : decode cL_tell 63 = .ok (.aload_n 1, 1) := by decide +kernel
theorem dL_tell_64 : decode cL_tell 64 = .ok (.bipush 32, 2) := by decide +kernel
theorem dL_tell_66 : decode cL_tell 66 = .ok (.invokestatic 14, 3) := by decide +kernel
theorem dL_tell_69 : decode cL_tell 69 = .ok (.aload_n 0, 1) := by decide +kernel
theorem dL_tell_70 : decode cL_tell 70 = .ok (.aload_n 1, 1) := by decide +kernel
theorem dL_tell_71 : decode cL_tell 71 = .ok (.aload_n 2, 1) := by decide +kernel
theorem dL_tell_72 : decode cL_tell 72 = .ok (.getfield 39, 3) := by decide +kernel
theorem dL_tell_75 : decode cL_tell 75 = .ok (.iload_n 3, 1) := by decide +kernel
theorem dL_tell_76 : decode cL_tell 76 = .ok (.iaload, 1) := by decide +kernel
theorem dL_tell_77 : decode cL_tell 77 = .ok (.invokestatic 65, 3) := by decide +kernel
theorem dL_tell_80 : decode cL_tell 80 = .ok (.iinc 3 1, 3) := by decide +kernel
theorem dL_tell_83 : decode cL_tell 83 = .ok (.goto (-57), 3) := by decide +kernel
theorem dL_tell_86 : decode cL_tell 86 = .ok (.aload_n 0, 1) := by decide +kernel
theorem dL_tell_87 : decode cL_tell 87 = .ok (.aload_n 1, 1) := by decide +kernel
theorem dL_tell_88 : decode cL_tell 88 = .ok (.bipush 59, 2) := by decide +kernel
theorem dL_tell_90 : decode cL_tell 90 = .ok (.invokestatic 14, 3) := by decide +kernel
theorem dL_tell_93 : decode cL_tell 93 = .ok (.aload_n 0, 1) := by decide +kernel
theorem dL_tell_94 : decode cL_tell 94 = .ok (.aload_n 1, 1) := by decide +kernel
theorem dL_tell_95 : decode cL_tell 95 = .ok (.ldc 75, 2) := by decide +kernel
theorem dL_tell_97 : decode cL_tell 97 = .ok (.iconst 4, 1) := by decide +kernel
theorem dL_tell_98 : decode cL_tell 98 = .ok (.newarray .int, 2) := by decide +kernel
theorem dL_tell_100 : decode cL_tell 100 = .ok (.dup, 1) := by decide +kernel
theorem dL_tell_101 : decode cL_tell 101 = .ok (.iconst 0, 1) := by decide +kernel
theorem dL_tell_102 : decode cL_tell 102 = .ok (.aload_n 2, 1) := by decide +kernel
theorem dL_tell_103 : decode cL_tell 103 = .ok (.getfield 42, 3) := by decide +kernel
theorem dL_tell_106 : decode cL_tell 106 = .ok (.iconst 0, 1) := by decide +kernel
theorem dL_tell_107 : decode cL_tell 107 = .ok (.iaload, 1) := by decide +kernel
theorem dL_tell_108 : decode cL_tell 108 = .ok (.iastore, 1) := by decide +kernel
theorem dL_tell_109 : decode cL_tell 109 = .ok (.dup, 1) := by decide +kernel
theorem dL_tell_110 : decode cL_tell 110 = .ok (.iconst 1, 1) := by decide +kernel
theorem dL_tell_111 : decode cL_tell 111 = .ok (.aload_n 2, 1) := by decide +kernel
theorem dL_tell_112 : decode cL_tell 112 = .ok (.getfield 42, 3) := by decide +kernel
theorem dL_tell_115 : decode cL_tell 115 = .ok (.iconst 1, 1) := by decide +kernel
theorem dL_tell_116 : decode cL_tell 116 = .ok (.iaload, 1) := by decide +kernel
theorem dL_tell_117 : decode cL_tell 117 = .ok (.iastore, 1) := by decide +kernel
theorem dL_tell_118 : decode cL_tell 118 = .ok (.dup, 1) := by decide +kernel
theorem dL_tell_119 : decode cL_tell 119 = .ok (.iconst 2, 1) := by decide +kernel
theorem dL_tell_120 : decode cL_tell 120 = .ok (.aload_n 2, 1) := by decide +kernel
theorem dL_tell_121 : decode cL_tell 121 = .ok (.getfield 42, 3) := by decide +kernel
theorem dL_tell_124 : decode cL_tell 124 = .ok (.iconst 2, 1) := by decide +kernel
theorem dL_tell_125 : decode cL_tell 125 = .ok (.iaload, 1) := by decide +kernel
theorem dL_tell_126 : decode cL_tell 126 = .ok (.iastore, 1) := by decide +kernel
theorem dL_tell_127 : decode cL_tell 127 = .ok (.dup, 1) := by decide +kernel
theorem dL_tell_128 : decode cL_tell 128 = .ok (.iconst 3, 1) := by decide +kernel
theorem dL_tell_129 : decode cL_tell 129 = .ok (.aload_n 2, 1) := by decide +kernel
theorem dL_tell_130 : decode cL_tell 130 = .ok (.getfield 42, 3) := by decide +kernel
theorem dL_tell_133 : decode cL_tell 133 = .ok (.iconst 3, 1) := by decide +kernel
theorem dL_tell_134 : decode cL_tell 134 = .ok (.iaload, 1) := by decide +kernel
theorem dL_tell_135 : decode cL_tell 135 = .ok (.iastore, 1) := by decide +kernel
theorem dL_tell_136 : decode cL_tell 136 = .ok (.invokestatic 70, 3) := by decide +kernel
theorem dL_tell_139 : decode cL_tell 139 = .ok (.aload_n 0, 1) := by decide +kernel
theorem dL_tell_140 : decode cL_tell 140 = .ok (.aload_n 1, 1) := by decide +kernel
theorem dL_tell_141 : decode cL_tell 141 = .ok (.ldc 76, 2) := by decide +kernel
theorem dL_tell_143 : decode cL_tell 143 = .ok (.iconst 1, 1) := by decide +kernel
theorem dL_tell_144 : decode cL_tell 144 = .ok (.newarray .int, 2) := by decide +kernel
theorem dL_tell_146 : decode cL_tell 146 = .ok (.dup, 1) := by decide +kernel
theorem dL_tell_147 : decode cL_tell 147 = .ok (.iconst 0, 1) := by decide +kernel
theorem dL_tell_148 : decode cL_tell 148 = .ok (.aload_n 2, 1) := by decide +kernel
theorem dL_tell_149 : decode cL_tell 149 = .ok (.getfield 45, 3) := by decide +kernel
theorem dL_tell_152 : decode cL_tell 152 = .ok (.iconst 0, 1) := by decide +kernel
theorem dL_tell_153 : decode cL_tell 153 = .ok (.iaload, 1) := by decide +kernel
theorem dL_tell_154 : decode cL_tell 154 = .ok (.iastore, 1) := by decide +kernel
theorem dL_tell_155 : decode cL_tell 155 = .ok (.invokestatic 70, 3) := by decide +kernel
theorem dL_tell_158 : decode cL_tell 158 = .ok (.aload_n 0, 1) := by decide +kernel
theorem dL_tell_159 : decode cL_tell 159 = .ok (.aload_n 1, 1) := by decide +kernel
theorem dL_tell_160 : decode cL_tell 160 = .ok (.ldc 78, 2) := by decide +kernel
theorem dL_tell_162 : decode cL_tell 162 = .ok (.iconst 1, 1) := by decide +kernel
theorem dL_tell_163 : decode cL_tell 163 = .ok (.newarray .int, 2) := by decide +kernel
theorem dL_tell_165 : decode cL_tell 165 = .ok (.dup, 1) := by decide +kernel
theorem dL_tell_166 : decode cL_tell 166 = .ok (.iconst 0, 1) := by decide +kernel
theorem dL_tell_167 : decode cL_tell 167 = .ok (.aload_n 2, 1) := by decide +kernel
theorem dL_tell_168 : decode cL_tell 168 = .ok (.getfield 45, 3) := by decide +kernel
theorem dL_tell_171 : decode cL_tell 171 = .ok (.iconst 1, 1) := by decide +kernel
theorem dL_tell_172 : decode cL_tell 172 = .ok (.iaload, 1) := by decide +kernel
theorem dL_tell_173 : decode cL_tell 173 = .ok (.iastore, 1) := by decide +kernel
theorem dL_tell_174 : decode cL_tell 174 = .ok (.invokestatic 70, 3) := by decide +kernel
theorem dL_tell_177 : decode cL_tell 177 = .ok (.aload_n 0, 1) := by decide +kernel
theorem dL_tell_178 : decode cL_tell 178 = .ok (.aload_n 1, 1) := by decide +kernel
theorem dL_tell_179 : decode cL_tell 179 = .ok (.ldc 80, 2) := by decide +kernel
theorem dL_tell_181 : decode cL_tell 181 = .ok (.iconst 1, 1) := by decide +kernel
theorem dL_tell_182 : decode cL_tell 182 = .ok (.newarray .int, 2) := by decide +kernel
theorem dL_tell_184 : decode cL_tell 184 = .ok (.dup, 1) := by decide +kernel
theorem dL_tell_185 : decode cL_tell 185 = .ok (.iconst 0, 1) := by decide +kernel
theorem dL_tell_186 : decode cL_tell 186 = .ok (.aload_n 2, 1) := by decide +kernel
theorem dL_tell_187 : decode cL_tell 187 = .ok (.getfield 45, 3) := by decide +kernel
theorem dL_tell_190 : decode cL_tell 190 = .ok (.iconst 2, 1) := by decide +kernel
theorem dL_tell_191 : decode cL_tell 191 = .ok (.iaload, 1) := by decide +kernel
theorem dL_tell_192 : decode cL_tell 192 = .ok (.iastore, 1) := by decide +kernel
theorem dL_tell_193 : decode cL_tell 193 = .ok (.invokestatic 70, 3) := by decide +kernel
theorem dL_tell_196 : decode cL_tell 196 = .ok (.aload_n 0, 1) := by decide +kernel
theorem dL_tell_197 : decode cL_tell 197 = .ok (.aload_n 1, 1) := by decide +kernel
theorem dL_tell_198 : decode cL_tell 198 = .ok (.ldc 82, 2) := by decide +kernel
theorem dL_tell_200 : decode cL_tell 200 = .ok (.iconst 2, 1) := by decide +kernel
theorem dL_tell_201 : decode cL_tell 201 = .ok (.newarray .int, 2) := by decide +kernel
theorem dL_tell_203 : decode cL_tell 203 = .ok (.dup, 1) := by decide +kernel
theorem dL_tell_204 : decode cL_tell 204 = .ok (.iconst 0, 1) := by decide +kernel
theorem dL_tell_205 : decode cL_tell 205 = .ok (.aload_n 2, 1) := by decide +kernel
theorem dL_tell_206 : decode cL_tell 206 = .ok (.getfield 45, 3) := by decide +kernel
theorem dL_tell_209 : decode cL_tell 209 = .ok (.iconst 3, 1) := by decide +kernel
theorem dL_tell_210 : decode cL_tell 210 = .ok (.iaload, 1) := by decide +kernel
theorem dL_tell_211 : decode cL_tell 211 = .ok (.iastore, 1) := by decide +kernel
theorem dL_tell_212 : decode cL_tell 212 = .ok (.dup, 1) := by decide +kernel
theorem dL_tell_213 : decode cL_tell 213 = .ok (.iconst 1, 1) := by decide +kernel
theorem dL_tell_214 : decode cL_tell 214 = .ok (.aload_n 2, 1) := by decide +kernel
theorem dL_tell_215 : decode cL_tell 215 = .ok (.getfield 45, 3) := by decide +kernel
theorem dL_tell_218 : decode cL_tell 218 = .ok (.iconst 4, 1) := by decide +kernel
theorem dL_tell_219 : decode cL_tell 219 = .ok (.iaload, 1) := by decide +kernel
theorem dL_tell_220 : decode cL_tell 220 = .ok (.iastore, 1) := by decide +kernel
theorem dL_tell_221 : decode cL_tell 221 = .ok (.invokestatic 70, 3) := by decide +kernel
theorem dL_tell_224 : decode cL_tell 224 = .ok (.aload_n 0, 1) := by decide +kernel
theorem dL_tell_225 : decode cL_tell 225 = .ok (.aload_n 1, 1) := by decide +kernel
theorem dL_tell_226 : decode cL_tell 226 = .ok (.ldc 84, 2) := by decide +kernel
theorem dL_tell_228 : decode cL_tell 228 = .ok (.iconst 1, 1) := by decide +kernel
theorem dL_tell_229 : decode cL_tell 229 = .ok (.newarray .int, 2) := by decide +kernel
theorem dL_tell_231 : decode cL_tell 231 = .ok (.dup, 1) := by decide +kernel
theorem dL_tell_232 : decode cL_tell 232 = .ok (.iconst 0, 1) := by decide +kernel
theorem dL_tell_233 : decode cL_tell 233 = .ok (.aload_n 2, 1) := by decide +kernel
theorem dL_tell_234 : decode cL_tell 234 = .ok (.getfield 45, 3) := by decide +kernel
theorem dL_tell_237 : decode cL_tell 237 = .ok (.iconst 5, 1) := by decide +kernel
theorem dL_tell_238 : decode cL_tell 238 = .ok (.iaload, 1) := by decide +kernel
theorem dL_tell_239 : decode cL_tell 239 = .ok (.iastore, 1) := by decide +kernel
theorem dL_tell_240 : decode cL_tell 240 = .ok (.invokestatic 70, 3) := by decide +kernel
theorem dL_tell_243 : decode cL_tell 243 = .ok (.aload_n 0, 1) := by decide +kernel
theorem dL_tell_244 : decode cL_tell 244 = .ok (.aload_n 1, 1) := by decide +kernel
theorem dL_tell_245 : decode cL_tell 245 = .ok (.ldc 86, 2) := by decide +kernel
theorem dL_tell_247 : decode cL_tell 247 = .ok (.iconst 1, 1) := by decide +kernel
theorem dL_tell_248 : decode cL_tell 248 = .ok (.newarray .int, 2) := by decide +kernel
theorem dL_tell_250 : decode cL_tell 250 = .ok (.dup, 1) := by decide +kernel
theorem dL_tell_251 : decode cL_tell 251 = .ok (.iconst 0, 1) := by decide +kernel
theorem dL_tell_252 : decode cL_tell 252 = .ok (.aload_n 2, 1) := by decide +kernel
theorem dL_tell_253 : decode cL_tell 253 = .ok (.getfield 45, 3) := by decide +kernel
theorem dL_tell_256 : decode cL_tell 256 = .ok (.bipush 6, 2) := by decide +kernel
theorem dL_tell_258 : decode cL_tell 258 = .ok (.iaload, 1) := by decide +kernel
theorem dL_tell_259 : decode cL_tell 259 = .ok (.iastore, 1) := by decide +kernel
theorem dL_tell_260 : decode cL_tell 260 = .ok (.invokestatic 70, 3) := by decide +kernel
theorem dL_tell_263 : decode cL_tell 263 = .ok (.aload_n 0, 1) := by decide +kernel
theorem dL_tell_264 : decode cL_tell 264 = .ok (.aload_n 1, 1) := by decide +kernel
theorem dL_tell_265 : decode cL_tell 265 = .ok (.ldc 88, 2) := by decide +kernel
theorem dL_tell_267 : decode cL_tell 267 = .ok (.invokestatic 61, 3) := by decide +kernel
theorem dL_tell_270 : decode cL_tell 270 = .ok (.aload_n 2, 1) := by decide +kernel
theorem dL_tell_271 : decode cL_tell 271 = .ok (.getfield 48, 3) := by decide +kernel
theorem dL_tell_274 : decode cL_tell 274 = .ok (.astore_n 3, 1) := by decide +kernel
theorem dL_tell_275 : decode cL_tell 275 = .ok (.aload_n 3, 1) := by decide +kernel
theorem dL_tell_276 : decode cL_tell 276 = .ok (.arraylength, 1) := by decide +kernel
theorem dL_tell_277 : decode cL_tell 277 = .ok (.istore 4, 2) := by decide +kernel
theorem dL_tell_279 : decode cL_tell 279 = .ok (.iconst 0, 1) := by decide +kernel
theorem dL_tell_280 : decode cL_tell 280 = .ok (.istore 5, 2) := by decide +kernel
theorem dL_tell_282 : decode cL_tell 282 = .ok (.iload 5, 2) := by decide +kernel
theorem dL_tell_284 : decode cL_tell 284 = .ok (.iload 4, 2) := by decide +kernel
theorem dL_tell_286 : decode cL_tell 286 = .ok (.if_icmp .ge 29, 3) := by decide +kernel
theorem dL_tell_289 : decode cL_tell 289 = .ok (.aload_n 3, 1) := by decide +kernel
theorem dL_tell_290 : decode cL_tell 290 = .ok (.iload 5, 2) := by decide +kernel
theorem dL_tell_292 : decode cL_tell 292 = .ok (.iaload, 1) := by decide +kernel
theorem dL_tell_293 : decode cL_tell 293 = .ok (.istore 6, 2) := by decide +kernel
theorem dL_tell_295 : decode cL_tell 295 = .ok (.aload_n 0, 1) := by decide +kernel
theorem dL_tell_296 : decode cL_tell 296 = .ok (.aload_n 1, 1) := by decide +kernel
theorem dL_tell_297 : decode cL_tell 297 = .ok (.bipush 32, 2) := by decide +kernel
theorem dL_tell_299 : decode cL_tell 299 = .ok (.invokestatic 14, 3) := by decide +kernel
theorem dL_tell_302 : decode cL_tell 302 = .ok (.aload_n 0, 1) := by decide +kernel
theorem dL_tell_303 : decode cL_tell 303 = .ok (.aload_n 1, 1) := by decide +kernel
theorem dL_tell_304 : decode cL_tell 304 = .ok (.iload 6, 2) := by decide +kernel
theorem dL_tell_306 : decode cL_tell 306 = .ok (.invokestatic 65, 3) := by decide +kernel
theorem dL_tell_309 : decode cL_tell 309 = .ok (.iinc 5 1, 3) := by decide +kernel
theorem dL_tell_312 : decode cL_tell 312 = .ok (.goto (-30), 3) := by decide +kernel
theorem dL_tell_315 : decode cL_tell 315 = .ok (.aload_n 0, 1) := by decide +kernel
theorem dL_tell_316 : decode cL_tell 316 = .ok (.aload_n 1, 1) := by decide +kernel
theorem dL_tell_317 : decode cL_tell 317 = .ok (.bipush 59, 2) := by decide +kernel
theorem dL_tell_319 : decode cL_tell 319 = .ok (.invokestatic 14, 3) := by decide +kernel
theorem dL_tell_322 : decode cL_tell 322 = .ok (.aload_n 0, 1) := by decide +kernel
theorem dL_tell_323 : decode cL_tell 323 = .ok (.aload_n 0, 1) := by decide +kernel
theorem dL_tell_324 : decode cL_tell 324 = .ok (.aload_n 1, 1) := by decide +kernel
theorem dL_tell_325 : decode cL_tell 325 = .ok (.invokestatic 89, 3) := by decide +kernel
theorem dL_tell_328 : decode cL_tell 328 = .ok (.invokevirtual 93, 3) := by decide +kernel
theorem dL_tell_331 : decode cL_tell 331 = .ok (.ireturn, 1) := by decide +kernel
def f_L_tell_315 (w : Nat) (u : Nat) (m : xM) (hp : gH) : Option (Int × xM × gH) :=
     (Option.bind (f_L_add w 59 m hp) fun q58 =>
      (Option.bind (f_L_end w q58.1 q58.2) fun q59 =>
      (Option.bind (f_X_load q59.1 q59.2.1) fun q60 =>
      some (q60.1, q60.2, q59.2.2))))
set_option maxRecDepth 1000000 in
set_option maxHeartbeats 4000000 in
theorem t_L_tell_315 {P : gG → Prop} {d : Nat} {r : Int} {m9 : xM} {h9 : gH} (hd9 : 9 ≤ d) (C : ∀ Γ, P Γ → gX Γ lay_X RL cL_tell 7 d h9) (w : Nat) (u : Nat) (hR : ∀ Γ, P Γ → gRi Γ lay_X cL_tell r m9 h9) (m : xM) (hp : gH) (h : f_L_tell_315 w u m hp = some (r, m9, h9)) : gJ P lay_X 7 315 [(0, .inr (.inr (some 0))), (1, .inr (.inr (some w)))] [] m hp h9 := by
  unfold f_L_tell_315 at h
  refine g_aload_n C dL_tell_315 rfl ?_
  refine g_aload_n C dL_tell_316 rfl ?_
  refine g_bipush C dL_tell_317 (by decide) ?_
  obtain ⟨q58, hq58, h⟩ := x_bind h
  refine g_callS C dL_tell_319 (xin_10 _ (List.mem_of_getElem? (i := 23) rfl)) xy_L_add xt_L_add (by omega) (by decide) (av := [.inr (.inr (some 0)), .inr (.inr (some w)), .inl 59]) rfl (Nat.le_of_ble_eq_true rfl) (le_L_add hq58) (c_L_add hq58) rfl ?_
  refine g_aload_n C dL_tell_322 rfl ?_
  refine g_aload_n C dL_tell_323 rfl ?_
  refine g_aload_n C dL_tell_324 rfl ?_
  obtain ⟨q59, hq59, h⟩ := x_bind h
  refine g_callS C dL_tell_325 (xin_11 _ (List.mem_of_getElem? (i := 11) rfl)) xy_L_end xt_L_end (by omega) (by decide) (av := [.inr (.inr (some 0)), .inr (.inr (some w))]) rfl (Nat.le_of_ble_eq_true rfl) (le_L_end hq59) (c_L_end hq59) rfl ?_
  obtain ⟨q60, hq60, h⟩ := x_bind h
  refine g_callX C dL_tell_328 (xin_11 _ (List.mem_of_getElem? (i := 14) rfl)) xy_X10_load xi_X10_load xs_X10_load (by omega) (by decide) (b := 0) (ci := 11) rfl ⟨_, _, rfl⟩ (av := [.inl q59.1]) rfl (Nat.le_of_ble_eq_true rfl) (fun l => c_X_load l _ _ q60.1 q60.2 hq60) rfl ?_
  exact g_ireturn hR dL_tell_331 (by cases h; exact ⟨rfl, rfl, rfl⟩)
def f_L_tell_282 (w : Nat) (u : Nat) : Nat → Nat → Int → Int → xM → gH → Option (Int × xM × gH)
  | 0, _, _, _, _, _ => none
  | n + 1, x3, x4, x5, m, hp =>
     (if xw x5 < xw x4 then (Option.bind (gaN 0 hp x3 x5) fun q61 =>
      (Option.bind (f_L_add w 32 m hp) fun q62 =>
      (Option.bind (f_L_number w q61 q62.1 q62.2) fun q63 =>
      f_L_tell_282 w u n x3 x4 (x5 + 1) q63.1 q63.2)))
      else f_L_tell_315 w u m hp)
set_option maxRecDepth 1000000 in
set_option maxHeartbeats 4000000 in
theorem t_L_tell_282 {P : gG → Prop} {d : Nat} {r : Int} {m9 : xM} {h9 : gH} (hd9 : 9 ≤ d) (C : ∀ Γ, P Γ → gX Γ lay_X RL cL_tell 7 d h9) (w : Nat) (u : Nat) (hR : ∀ Γ, P Γ → gRi Γ lay_X cL_tell r m9 h9) : ∀ (n : Nat) (x3 : Nat) (x4 : Int) (x5 : Int) (m : xM) (hp : gH), f_L_tell_282 w u n x3 x4 x5 m hp = some (r, m9, h9) → gJ P lay_X 7 282 [(0, .inr (.inr (some 0))), (1, .inr (.inr (some w))), (3, .inr (.inr (some x3))), (4, .inl x4), (5, .inl x5)] [] m hp h9 := by
  intro n
  induction n with
  | zero => intro _ _ _ _ _ h; cases h
  | succ n ih =>
    intro x3 x4 x5 m hp h
    rw [f_L_tell_282] at h
    refine g_iload C dL_tell_282 rfl ?_
    refine g_iload C dL_tell_284 rfl ?_
    refine g_icmp_ge C 315 dL_tell_286 (by decide) h (fun h => ?_) (fun h => ?_)
    · refine g_loc [(0, .inr (.inr (some 0))), (1, .inr (.inr (some w)))] ⟨rfl, rfl, trivial⟩ ?_
      exact t_L_tell_315 hd9 C _ _ hR _ _ h
    · refine g_aload_n C dL_tell_289 rfl ?_
      refine g_iload C dL_tell_290 rfl ?_
      obtain ⟨q61, hq61, h⟩ := x_bind h
      refine g_iaload C dL_tell_292 hq61 ?_
      refine g_istore C dL_tell_293 (by decide) ?_
      refine g_aload_n C dL_tell_295 rfl ?_
      refine g_aload_n C dL_tell_296 rfl ?_
      refine g_bipush C dL_tell_297 (by decide) ?_
      obtain ⟨q62, hq62, h⟩ := x_bind h
      refine g_callS C dL_tell_299 (xin_10 _ (List.mem_of_getElem? (i := 23) rfl)) xy_L_add xt_L_add (by omega) (by decide) (av := [.inr (.inr (some 0)), .inr (.inr (some w)), .inl 32]) rfl (Nat.le_of_ble_eq_true rfl) (le_L_add hq62) (c_L_add hq62) rfl ?_
      refine g_aload_n C dL_tell_302 rfl ?_
      refine g_aload_n C dL_tell_303 rfl ?_
      refine g_iload C dL_tell_304 rfl ?_
      obtain ⟨q63, hq63, h⟩ := x_bind h
      refine g_callS C dL_tell_306 (xin_34 _ (List.mem_of_getElem? (i := 21) rfl)) xy_L_number xt_L_number (by omega) (by decide) (av := [.inr (.inr (some 0)), .inr (.inr (some w)), .inl q61]) rfl (Nat.le_of_ble_eq_true rfl) (le_L_number hq63) (c_L_number hq63) rfl ?_
      refine g_iinc C dL_tell_309 (by decide) rfl ?_
      refine g_goto C 282 dL_tell_312 (by decide) ?_
      refine g_loc [(0, .inr (.inr (some 0))), (1, .inr (.inr (some w))), (3, .inr (.inr (some x3))), (4, .inl x4), (5, .inl (x5 + 1))] ⟨rfl, rfl, rfl, rfl, rfl, trivial⟩ ?_
      exact ih _ _ _ _ _ h
def f_L_tell_86 (w : Nat) (u : Nat) (m : xM) (hp : gH) : Option (Int × xM × gH) :=
     (Option.bind (f_L_add w 59 m hp) fun q7 =>
      (Option.bind (gNw 0 q7.2 4) fun q8 =>
      (Option.bind (gfK q8.2 u 14) fun q9 =>
      (Option.bind (gaN 0 q8.2 q9 0) fun q10 =>
      (Option.bind (gsN 0 q8.2 q8.1 0 q10) fun q11 =>
      (Option.bind (gfK q11 u 14) fun q12 =>
      (Option.bind (gaN 0 q11 q12 1) fun q13 =>
      (Option.bind (gsN 0 q11 q8.1 1 q13) fun q14 =>
      (Option.bind (gfK q14 u 14) fun q15 =>
      (Option.bind (gaN 0 q14 q15 2) fun q16 =>
      (Option.bind (gsN 0 q14 q8.1 2 q16) fun q17 =>
      (Option.bind (gfK q17 u 14) fun q18 =>
      (Option.bind (gaN 0 q17 q18 3) fun q19 =>
      (Option.bind (gsN 0 q17 q8.1 3 q19) fun q20 =>
      (Option.bind (f_L_line w 12 q8.1 q7.1 q20) fun q21 =>
      (Option.bind (gNw 0 q21.2 1) fun q22 =>
      (Option.bind (gfK q22.2 u 16) fun q23 =>
      (Option.bind (gaN 0 q22.2 q23 0) fun q24 =>
      (Option.bind (gsN 0 q22.2 q22.1 0 q24) fun q25 =>
      (Option.bind (f_L_line w 13 q22.1 q21.1 q25) fun q26 =>
      (Option.bind (gNw 0 q26.2 1) fun q27 =>
      (Option.bind (gfK q27.2 u 16) fun q28 =>
      (Option.bind (gaN 0 q27.2 q28 1) fun q29 =>
      (Option.bind (gsN 0 q27.2 q27.1 0 q29) fun q30 =>
      (Option.bind (f_L_line w 14 q27.1 q26.1 q30) fun q31 =>
      (Option.bind (gNw 0 q31.2 1) fun q32 =>
      (Option.bind (gfK q32.2 u 16) fun q33 =>
      (Option.bind (gaN 0 q32.2 q33 2) fun q34 =>
      (Option.bind (gsN 0 q32.2 q32.1 0 q34) fun q35 =>
      (Option.bind (f_L_line w 15 q32.1 q31.1 q35) fun q36 =>
      (Option.bind (gNw 0 q36.2 2) fun q37 =>
      (Option.bind (gfK q37.2 u 16) fun q38 =>
      (Option.bind (gaN 0 q37.2 q38 3) fun q39 =>
      (Option.bind (gsN 0 q37.2 q37.1 0 q39) fun q40 =>
      (Option.bind (gfK q40 u 16) fun q41 =>
      (Option.bind (gaN 0 q40 q41 4) fun q42 =>
      (Option.bind (gsN 0 q40 q37.1 1 q42) fun q43 =>
      (Option.bind (f_L_line w 16 q37.1 q36.1 q43) fun q44 =>
      (Option.bind (gNw 0 q44.2 1) fun q45 =>
      (Option.bind (gfK q45.2 u 16) fun q46 =>
      (Option.bind (gaN 0 q45.2 q46 5) fun q47 =>
      (Option.bind (gsN 0 q45.2 q45.1 0 q47) fun q48 =>
      (Option.bind (f_L_line w 17 q45.1 q44.1 q48) fun q49 =>
      (Option.bind (gNw 0 q49.2 1) fun q50 =>
      (Option.bind (gfK q50.2 u 16) fun q51 =>
      (Option.bind (gaN 0 q50.2 q51 6) fun q52 =>
      (Option.bind (gsN 0 q50.2 q50.1 0 q52) fun q53 =>
      (Option.bind (f_L_line w 18 q50.1 q49.1 q53) fun q54 =>
      (Option.bind (f_L_word w 19 q54.1 q54.2) fun q55 =>
      (Option.bind (gfK q55.2 u 15) fun q56 =>
      (Option.bind (glc q55.2 q56) fun q57 =>
      f_L_tell_282 w u fu q56 q57 0 q55.1 q55.2)))))))))))))))))))))))))))))))))))))))))))))))))))
set_option maxRecDepth 1000000 in
set_option maxHeartbeats 4000000 in
theorem t_L_tell_86 {P : gG → Prop} {d : Nat} {r : Int} {m9 : xM} {h9 : gH} (hd9 : 9 ≤ d) (C : ∀ Γ, P Γ → gX Γ lay_X RL cL_tell 7 d h9) (w : Nat) (u : Nat) (hR : ∀ Γ, P Γ → gRi Γ lay_X cL_tell r m9 h9) (m : xM) (hp : gH) (h : f_L_tell_86 w u m hp = some (r, m9, h9)) : gJ P lay_X 7 86 [(0, .inr (.inr (some 0))), (1, .inr (.inr (some w))), (2, .inr (.inr (some u)))] [] m hp h9 := by
  unfold f_L_tell_86 at h
  refine g_aload_n C dL_tell_86 rfl ?_
  refine g_aload_n C dL_tell_87 rfl ?_
  refine g_bipush C dL_tell_88 (by decide) ?_
  obtain ⟨q7, hq7, h⟩ := x_bind h
  refine g_callS C dL_tell_90 (xin_10 _ (List.mem_of_getElem? (i := 23) rfl)) xy_L_add xt_L_add (by omega) (by decide) (av := [.inr (.inr (some 0)), .inr (.inr (some w)), .inl 59]) rfl (Nat.le_of_ble_eq_true rfl) (le_L_add hq7) (c_L_add hq7) rfl ?_
  refine g_aload_n C dL_tell_93 rfl ?_
  refine g_aload_n C dL_tell_94 rfl ?_
  refine g_ldcS C "train" 12 dL_tell_95 (List.mem_of_getElem? (i := 12) rfl) ?_
  refine g_iconst C dL_tell_97 ?_
  obtain ⟨q8, hq8, h⟩ := x_bind h
  refine g_newi C dL_tell_98 (xin_1 _ (List.mem_of_getElem? (i := 3) rfl)) hq8 ?_
  refine g_dup C dL_tell_100 rfl ?_
  refine g_iconst C dL_tell_101 ?_
  refine g_aload_n C dL_tell_102 rfl ?_
  obtain ⟨q9, hq9, h⟩ := x_bind h
  refine g_getKN C dL_tell_103 nF_42 hq9 ?_
  refine g_iconst C dL_tell_106 ?_
  obtain ⟨q10, hq10, h⟩ := x_bind h
  refine g_iaload C dL_tell_107 hq10 ?_
  obtain ⟨q11, hq11, h⟩ := x_bind h
  refine g_iastore C dL_tell_108 hq11 ?_
  refine g_dup C dL_tell_109 rfl ?_
  refine g_iconst C dL_tell_110 ?_
  refine g_aload_n C dL_tell_111 rfl ?_
  obtain ⟨q12, hq12, h⟩ := x_bind h
  refine g_getKN C dL_tell_112 nF_42 hq12 ?_
  refine g_iconst C dL_tell_115 ?_
  obtain ⟨q13, hq13, h⟩ := x_bind h
  refine g_iaload C dL_tell_116 hq13 ?_
  obtain ⟨q14, hq14, h⟩ := x_bind h
  refine g_iastore C dL_tell_117 hq14 ?_
  refine g_dup C dL_tell_118 rfl ?_
  refine g_iconst C dL_tell_119 ?_
  refine g_aload_n C dL_tell_120 rfl ?_
  obtain ⟨q15, hq15, h⟩ := x_bind h
  refine g_getKN C dL_tell_121 nF_42 hq15 ?_
  refine g_iconst C dL_tell_124 ?_
  obtain ⟨q16, hq16, h⟩ := x_bind h
  refine g_iaload C dL_tell_125 hq16 ?_
  obtain ⟨q17, hq17, h⟩ := x_bind h
  refine g_iastore C dL_tell_126 hq17 ?_
  refine g_dup C dL_tell_127 rfl ?_
  refine g_iconst C dL_tell_128 ?_
  refine g_aload_n C dL_tell_129 rfl ?_
  obtain ⟨q18, hq18, h⟩ := x_bind h
  refine g_getKN C dL_tell_130 nF_42 hq18 ?_
  refine g_iconst C dL_tell_133 ?_
  obtain ⟨q19, hq19, h⟩ := x_bind h
  refine g_iaload C dL_tell_134 hq19 ?_
  obtain ⟨q20, hq20, h⟩ := x_bind h
  refine g_iastore C dL_tell_135 hq20 ?_
  obtain ⟨q21, hq21, h⟩ := x_bind h
  refine g_callS C dL_tell_136 (xin_34 _ (List.mem_of_getElem? (i := 18) rfl)) xy_L_line xt_L_line (by omega) (by decide) (av := [.inr (.inr (some 0)), .inr (.inr (some w)), .inr (.inr (some 1012)), .inr (.inr (some q8.1))]) rfl (Nat.le_of_ble_eq_true rfl) (le_L_line (by decide) hq21) (c_L_line (by decide) hq21) rfl ?_
  refine g_aload_n C dL_tell_139 rfl ?_
  refine g_aload_n C dL_tell_140 rfl ?_
  refine g_ldcS C "retries" 13 dL_tell_141 (List.mem_of_getElem? (i := 13) rfl) ?_
  refine g_iconst C dL_tell_143 ?_
  obtain ⟨q22, hq22, h⟩ := x_bind h
  refine g_newi C dL_tell_144 (xin_1 _ (List.mem_of_getElem? (i := 3) rfl)) hq22 ?_
  refine g_dup C dL_tell_146 rfl ?_
  refine g_iconst C dL_tell_147 ?_
  refine g_aload_n C dL_tell_148 rfl ?_
  obtain ⟨q23, hq23, h⟩ := x_bind h
  refine g_getKN C dL_tell_149 nF_45 hq23 ?_
  refine g_iconst C dL_tell_152 ?_
  obtain ⟨q24, hq24, h⟩ := x_bind h
  refine g_iaload C dL_tell_153 hq24 ?_
  obtain ⟨q25, hq25, h⟩ := x_bind h
  refine g_iastore C dL_tell_154 hq25 ?_
  obtain ⟨q26, hq26, h⟩ := x_bind h
  refine g_callS C dL_tell_155 (xin_34 _ (List.mem_of_getElem? (i := 18) rfl)) xy_L_line xt_L_line (by omega) (by decide) (av := [.inr (.inr (some 0)), .inr (.inr (some w)), .inr (.inr (some 1013)), .inr (.inr (some q22.1))]) rfl (Nat.le_of_ble_eq_true rfl) (le_L_line (by decide) hq26) (c_L_line (by decide) hq26) rfl ?_
  refine g_aload_n C dL_tell_158 rfl ?_
  refine g_aload_n C dL_tell_159 rfl ?_
  refine g_ldcS C "hold" 14 dL_tell_160 (List.mem_of_getElem? (i := 14) rfl) ?_
  refine g_iconst C dL_tell_162 ?_
  obtain ⟨q27, hq27, h⟩ := x_bind h
  refine g_newi C dL_tell_163 (xin_1 _ (List.mem_of_getElem? (i := 3) rfl)) hq27 ?_
  refine g_dup C dL_tell_165 rfl ?_
  refine g_iconst C dL_tell_166 ?_
  refine g_aload_n C dL_tell_167 rfl ?_
  obtain ⟨q28, hq28, h⟩ := x_bind h
  refine g_getKN C dL_tell_168 nF_45 hq28 ?_
  refine g_iconst C dL_tell_171 ?_
  obtain ⟨q29, hq29, h⟩ := x_bind h
  refine g_iaload C dL_tell_172 hq29 ?_
  obtain ⟨q30, hq30, h⟩ := x_bind h
  refine g_iastore C dL_tell_173 hq30 ?_
  obtain ⟨q31, hq31, h⟩ := x_bind h
  refine g_callS C dL_tell_174 (xin_34 _ (List.mem_of_getElem? (i := 18) rfl)) xy_L_line xt_L_line (by omega) (by decide) (av := [.inr (.inr (some 0)), .inr (.inr (some w)), .inr (.inr (some 1014)), .inr (.inr (some q27.1))]) rfl (Nat.le_of_ble_eq_true rfl) (le_L_line (by decide) hq31) (c_L_line (by decide) hq31) rfl ?_
  refine g_aload_n C dL_tell_177 rfl ?_
  refine g_aload_n C dL_tell_178 rfl ?_
  refine g_ldcS C "window" 15 dL_tell_179 (List.mem_of_getElem? (i := 15) rfl) ?_
  refine g_iconst C dL_tell_181 ?_
  obtain ⟨q32, hq32, h⟩ := x_bind h
  refine g_newi C dL_tell_182 (xin_1 _ (List.mem_of_getElem? (i := 3) rfl)) hq32 ?_
  refine g_dup C dL_tell_184 rfl ?_
  refine g_iconst C dL_tell_185 ?_
  refine g_aload_n C dL_tell_186 rfl ?_
  obtain ⟨q33, hq33, h⟩ := x_bind h
  refine g_getKN C dL_tell_187 nF_45 hq33 ?_
  refine g_iconst C dL_tell_190 ?_
  obtain ⟨q34, hq34, h⟩ := x_bind h
  refine g_iaload C dL_tell_191 hq34 ?_
  obtain ⟨q35, hq35, h⟩ := x_bind h
  refine g_iastore C dL_tell_192 hq35 ?_
  obtain ⟨q36, hq36, h⟩ := x_bind h
  refine g_callS C dL_tell_193 (xin_34 _ (List.mem_of_getElem? (i := 18) rfl)) xy_L_line xt_L_line (by omega) (by decide) (av := [.inr (.inr (some 0)), .inr (.inr (some w)), .inr (.inr (some 1015)), .inr (.inr (some q32.1))]) rfl (Nat.le_of_ble_eq_true rfl) (le_L_line (by decide) hq36) (c_L_line (by decide) hq36) rfl ?_
  refine g_aload_n C dL_tell_196 rfl ?_
  refine g_aload_n C dL_tell_197 rfl ?_
  refine g_ldcS C "delay" 16 dL_tell_198 (List.mem_of_getElem? (i := 16) rfl) ?_
  refine g_iconst C dL_tell_200 ?_
  obtain ⟨q37, hq37, h⟩ := x_bind h
  refine g_newi C dL_tell_201 (xin_1 _ (List.mem_of_getElem? (i := 3) rfl)) hq37 ?_
  refine g_dup C dL_tell_203 rfl ?_
  refine g_iconst C dL_tell_204 ?_
  refine g_aload_n C dL_tell_205 rfl ?_
  obtain ⟨q38, hq38, h⟩ := x_bind h
  refine g_getKN C dL_tell_206 nF_45 hq38 ?_
  refine g_iconst C dL_tell_209 ?_
  obtain ⟨q39, hq39, h⟩ := x_bind h
  refine g_iaload C dL_tell_210 hq39 ?_
  obtain ⟨q40, hq40, h⟩ := x_bind h
  refine g_iastore C dL_tell_211 hq40 ?_
  refine g_dup C dL_tell_212 rfl ?_
  refine g_iconst C dL_tell_213 ?_
  refine g_aload_n C dL_tell_214 rfl ?_
  obtain ⟨q41, hq41, h⟩ := x_bind h
  refine g_getKN C dL_tell_215 nF_45 hq41 ?_
  refine g_iconst C dL_tell_218 ?_
  obtain ⟨q42, hq42, h⟩ := x_bind h
  refine g_iaload C dL_tell_219 hq42 ?_
  obtain ⟨q43, hq43, h⟩ := x_bind h
  refine g_iastore C dL_tell_220 hq43 ?_
  obtain ⟨q44, hq44, h⟩ := x_bind h
  refine g_callS C dL_tell_221 (xin_34 _ (List.mem_of_getElem? (i := 18) rfl)) xy_L_line xt_L_line (by omega) (by decide) (av := [.inr (.inr (some 0)), .inr (.inr (some w)), .inr (.inr (some 1016)), .inr (.inr (some q37.1))]) rfl (Nat.le_of_ble_eq_true rfl) (le_L_line (by decide) hq44) (c_L_line (by decide) hq44) rfl ?_
  refine g_aload_n C dL_tell_224 rfl ?_
  refine g_aload_n C dL_tell_225 rfl ?_
  refine g_ldcS C "limit" 17 dL_tell_226 (List.mem_of_getElem? (i := 17) rfl) ?_
  refine g_iconst C dL_tell_228 ?_
  obtain ⟨q45, hq45, h⟩ := x_bind h
  refine g_newi C dL_tell_229 (xin_1 _ (List.mem_of_getElem? (i := 3) rfl)) hq45 ?_
  refine g_dup C dL_tell_231 rfl ?_
  refine g_iconst C dL_tell_232 ?_
  refine g_aload_n C dL_tell_233 rfl ?_
  obtain ⟨q46, hq46, h⟩ := x_bind h
  refine g_getKN C dL_tell_234 nF_45 hq46 ?_
  refine g_iconst C dL_tell_237 ?_
  obtain ⟨q47, hq47, h⟩ := x_bind h
  refine g_iaload C dL_tell_238 hq47 ?_
  obtain ⟨q48, hq48, h⟩ := x_bind h
  refine g_iastore C dL_tell_239 hq48 ?_
  obtain ⟨q49, hq49, h⟩ := x_bind h
  refine g_callS C dL_tell_240 (xin_34 _ (List.mem_of_getElem? (i := 18) rfl)) xy_L_line xt_L_line (by omega) (by decide) (av := [.inr (.inr (some 0)), .inr (.inr (some w)), .inr (.inr (some 1017)), .inr (.inr (some q45.1))]) rfl (Nat.le_of_ble_eq_true rfl) (le_L_line (by decide) hq49) (c_L_line (by decide) hq49) rfl ?_
  refine g_aload_n C dL_tell_243 rfl ?_
  refine g_aload_n C dL_tell_244 rfl ?_
  refine g_ldcS C "patience" 18 dL_tell_245 (List.mem_of_getElem? (i := 18) rfl) ?_
  refine g_iconst C dL_tell_247 ?_
  obtain ⟨q50, hq50, h⟩ := x_bind h
  refine g_newi C dL_tell_248 (xin_1 _ (List.mem_of_getElem? (i := 3) rfl)) hq50 ?_
  refine g_dup C dL_tell_250 rfl ?_
  refine g_iconst C dL_tell_251 ?_
  refine g_aload_n C dL_tell_252 rfl ?_
  obtain ⟨q51, hq51, h⟩ := x_bind h
  refine g_getKN C dL_tell_253 nF_45 hq51 ?_
  refine g_bipush C dL_tell_256 (by decide) ?_
  obtain ⟨q52, hq52, h⟩ := x_bind h
  refine g_iaload C dL_tell_258 hq52 ?_
  obtain ⟨q53, hq53, h⟩ := x_bind h
  refine g_iastore C dL_tell_259 hq53 ?_
  obtain ⟨q54, hq54, h⟩ := x_bind h
  refine g_callS C dL_tell_260 (xin_34 _ (List.mem_of_getElem? (i := 18) rfl)) xy_L_line xt_L_line (by omega) (by decide) (av := [.inr (.inr (some 0)), .inr (.inr (some w)), .inr (.inr (some 1018)), .inr (.inr (some q50.1))]) rfl (Nat.le_of_ble_eq_true rfl) (le_L_line (by decide) hq54) (c_L_line (by decide) hq54) rfl ?_
  refine g_aload_n C dL_tell_263 rfl ?_
  refine g_aload_n C dL_tell_264 rfl ?_
  refine g_ldcS C "noise" 19 dL_tell_265 (List.mem_of_getElem? (i := 19) rfl) ?_
  obtain ⟨q55, hq55, h⟩ := x_bind h
  refine g_callS C dL_tell_267 (xin_8 _ (List.mem_of_getElem? (i := 19) rfl)) xy_L_word xt_L_word (by omega) (by decide) (av := [.inr (.inr (some 0)), .inr (.inr (some w)), .inr (.inr (some 1019))]) rfl (Nat.le_of_ble_eq_true rfl) (le_L_word (by decide) hq55) (c_L_word (by decide) hq55) rfl ?_
  refine g_aload_n C dL_tell_270 rfl ?_
  obtain ⟨q56, hq56, h⟩ := x_bind h
  refine g_getKN C dL_tell_271 nF_48 hq56 ?_
  refine g_astore_n C dL_tell_274 (by decide) ?_
  refine g_aload_n C dL_tell_275 rfl ?_
  obtain ⟨q57, hq57, h⟩ := x_bind h
  refine g_lenC C dL_tell_276 hq57 ?_
  refine g_istore C dL_tell_277 (by decide) ?_
  refine g_iconst C dL_tell_279 ?_
  refine g_istore C dL_tell_280 (by decide) ?_
  refine g_loc [(0, .inr (.inr (some 0))), (1, .inr (.inr (some w))), (3, .inr (.inr (some q56))), (4, .inl q57), (5, .inl 0)] ⟨rfl, rfl, rfl, rfl, rfl, trivial⟩ ?_
  exact t_L_tell_282 hd9 C _ _ hR fu _ _ _ _ _ h
def f_L_tell_48 (w : Nat) (u : Nat) (k26 : Int → xM → gH → Option (Int × xM × gH)) (x3 : Int) (s0 : Int) (s1 : Nat) (m : xM) (hp : gH) : Option (Int × xM × gH) :=
     (Option.bind (f_L_add s1 s0 m hp) fun q64 =>
      (Option.bind (gfK q64.2 u 12) fun q65 =>
      (Option.bind (gaN 0 q64.2 q65 x3) fun q66 =>
      (Option.bind (f_L_number w q66 q64.1 q64.2) fun q67 =>
      (Option.bind (f_L_add w 32 q67.1 q67.2) fun q68 =>
      (Option.bind (gfK q68.2 u 13) fun q69 =>
      (Option.bind (gaN 0 q68.2 q69 x3) fun q70 =>
      (Option.bind (f_L_number w q70 q68.1 q68.2) fun q71 =>
      k26 (x3 + 1) q71.1 q71.2))))))))
set_option maxRecDepth 1000000 in
set_option maxHeartbeats 4000000 in
theorem t_L_tell_48 {P : gG → Prop} {d : Nat} {r : Int} {m9 : xM} {h9 : gH} (hd9 : 9 ≤ d) (C : ∀ Γ, P Γ → gX Γ lay_X RL cL_tell 7 d h9) (w : Nat) (u : Nat) (hR : ∀ Γ, P Γ → gRi Γ lay_X cL_tell r m9 h9) {k26 : Int → xM → gH → Option (Int × xM × gH)} (hk26 : ∀ (x3 : Int) (m : xM) (hp : gH), k26 x3 m hp = some (r, m9, h9) → gJ P lay_X 7 26 [(0, .inr (.inr (some 0))), (1, .inr (.inr (some w))), (2, .inr (.inr (some u))), (3, .inl x3)] [] m hp h9) (x3 : Int) (s0 : Int) (s1 : Nat) (m : xM) (hp : gH) (h : f_L_tell_48 w u k26 x3 s0 s1 m hp = some (r, m9, h9)) : gJ P lay_X 7 48 [(0, .inr (.inr (some 0))), (1, .inr (.inr (some w))), (2, .inr (.inr (some u))), (3, .inl x3)] [.inl s0, .inr (.inr (some s1)), .inr (.inr (some 0))] m hp h9 := by
  unfold f_L_tell_48 at h
  obtain ⟨q64, hq64, h⟩ := x_bind h
  refine g_callS C dL_tell_48 (xin_10 _ (List.mem_of_getElem? (i := 23) rfl)) xy_L_add xt_L_add (by omega) (by decide) (av := [.inr (.inr (some 0)), .inr (.inr (some s1)), .inl s0]) rfl (Nat.le_of_ble_eq_true rfl) (le_L_add hq64) (c_L_add hq64) rfl ?_
  refine g_aload_n C dL_tell_51 rfl ?_
  refine g_aload_n C dL_tell_52 rfl ?_
  refine g_aload_n C dL_tell_53 rfl ?_
  obtain ⟨q65, hq65, h⟩ := x_bind h
  refine g_getKN C dL_tell_54 nF_35 hq65 ?_
  refine g_iload_n C dL_tell_57 rfl ?_
  obtain ⟨q66, hq66, h⟩ := x_bind h
  refine g_iaload C dL_tell_58 hq66 ?_
  obtain ⟨q67, hq67, h⟩ := x_bind h
  refine g_callS C dL_tell_59 (xin_34 _ (List.mem_of_getElem? (i := 21) rfl)) xy_L_number xt_L_number (by omega) (by decide) (av := [.inr (.inr (some 0)), .inr (.inr (some w)), .inl q66]) rfl (Nat.le_of_ble_eq_true rfl) (le_L_number hq67) (c_L_number hq67) rfl ?_
  refine g_aload_n C dL_tell_62 rfl ?_
  refine g_aload_n C dL_tell_63 rfl ?_
  refine g_bipush C dL_tell_64 (by decide) ?_
  obtain ⟨q68, hq68, h⟩ := x_bind h
  refine g_callS C dL_tell_66 (xin_10 _ (List.mem_of_getElem? (i := 23) rfl)) xy_L_add xt_L_add (by omega) (by decide) (av := [.inr (.inr (some 0)), .inr (.inr (some w)), .inl 32]) rfl (Nat.le_of_ble_eq_true rfl) (le_L_add hq68) (c_L_add hq68) rfl ?_
  refine g_aload_n C dL_tell_69 rfl ?_
  refine g_aload_n C dL_tell_70 rfl ?_
  refine g_aload_n C dL_tell_71 rfl ?_
  obtain ⟨q69, hq69, h⟩ := x_bind h
  refine g_getKN C dL_tell_72 nF_39 hq69 ?_
  refine g_iload_n C dL_tell_75 rfl ?_
  obtain ⟨q70, hq70, h⟩ := x_bind h
  refine g_iaload C dL_tell_76 hq70 ?_
  obtain ⟨q71, hq71, h⟩ := x_bind h
  refine g_callS C dL_tell_77 (xin_34 _ (List.mem_of_getElem? (i := 21) rfl)) xy_L_number xt_L_number (by omega) (by decide) (av := [.inr (.inr (some 0)), .inr (.inr (some w)), .inl q70]) rfl (Nat.le_of_ble_eq_true rfl) (le_L_number hq71) (c_L_number hq71) rfl ?_
  refine g_iinc C dL_tell_80 (by decide) rfl ?_
  refine g_goto C 26 dL_tell_83 (by decide) ?_
  refine g_loc [(0, .inr (.inr (some 0))), (1, .inr (.inr (some w))), (2, .inr (.inr (some u))), (3, .inl (x3 + 1))] ⟨rfl, rfl, rfl, rfl, trivial⟩ ?_
  exact hk26 _ _ _ h
def f_L_tell_26 (w : Nat) (u : Nat) : Nat → Int → xM → gH → Option (Int × xM × gH)
  | 0, _, _, _ => none
  | n + 1, x3, m, hp =>
     (Option.bind (gfK hp u 12) fun q5 =>
      (Option.bind (glc hp q5) fun q6 =>
      (if xw x3 < xw q6 then (if 0 < xw x3 then f_L_tell_48 w u (f_L_tell_26 w u n) x3 44 w m hp
      else f_L_tell_48 w u (f_L_tell_26 w u n) x3 32 w m hp)
      else f_L_tell_86 w u m hp)))
set_option maxRecDepth 1000000 in
set_option maxHeartbeats 4000000 in
theorem t_L_tell_26 {P : gG → Prop} {d : Nat} {r : Int} {m9 : xM} {h9 : gH} (hd9 : 9 ≤ d) (C : ∀ Γ, P Γ → gX Γ lay_X RL cL_tell 7 d h9) (w : Nat) (u : Nat) (hR : ∀ Γ, P Γ → gRi Γ lay_X cL_tell r m9 h9) : ∀ (n : Nat) (x3 : Int) (m : xM) (hp : gH), f_L_tell_26 w u n x3 m hp = some (r, m9, h9) → gJ P lay_X 7 26 [(0, .inr (.inr (some 0))), (1, .inr (.inr (some w))), (2, .inr (.inr (some u))), (3, .inl x3)] [] m hp h9 := by
  intro n
  induction n with
  | zero => intro _ _ _ h; cases h
  | succ n ih =>
    intro x3 m hp h
    rw [f_L_tell_26] at h
    refine g_iload_n C dL_tell_26 rfl ?_
    refine g_aload_n C dL_tell_27 rfl ?_
    obtain ⟨q5, hq5, h⟩ := x_bind h
    refine g_getKN C dL_tell_28 nF_35 hq5 ?_
    obtain ⟨q6, hq6, h⟩ := x_bind h
    refine g_lenC C dL_tell_31 hq6 ?_
    refine g_icmp_ge C 86 dL_tell_32 (by decide) h (fun h => ?_) (fun h => ?_)
    · refine g_loc [(0, .inr (.inr (some 0))), (1, .inr (.inr (some w))), (2, .inr (.inr (some u)))] ⟨rfl, rfl, rfl, trivial⟩ ?_
      exact t_L_tell_86 hd9 C _ _ hR _ _ h
    · refine g_aload_n C dL_tell_35 rfl ?_
      refine g_aload_n C dL_tell_36 rfl ?_
      refine g_iload_n C dL_tell_37 rfl ?_
      refine g_if_le C 46 dL_tell_38 (by decide) h (fun h => ?_) (fun h => ?_)
      · refine g_bipush C dL_tell_46 (by decide) ?_
        refine g_loc [(0, .inr (.inr (some 0))), (1, .inr (.inr (some w))), (2, .inr (.inr (some u))), (3, .inl x3)] ⟨rfl, rfl, rfl, rfl, trivial⟩ ?_
        exact t_L_tell_48 hd9 C _ _ hR ih _ _ _ _ _ h
      · refine g_bipush C dL_tell_41 (by decide) ?_
        refine g_goto C 48 dL_tell_43 (by decide) ?_
        refine g_loc [(0, .inr (.inr (some 0))), (1, .inr (.inr (some w))), (2, .inr (.inr (some u))), (3, .inl x3)] ⟨rfl, rfl, rfl, rfl, trivial⟩ ?_
        exact t_L_tell_48 hd9 C _ _ hR ih _ _ _ _ _ h
def f_L_tell (w : Nat) (u : Nat) (m : xM) (hp : gH) : Option (Int × xM × gH) :=
     (Option.bind (gNw 0 hp 1) fun q0 =>
      (Option.bind (gfI q0.2 u 2) fun q1 =>
      (Option.bind (gsN 0 q0.2 q0.1 0 q1) fun q2 =>
      (Option.bind (f_L_line w 10 q0.1 m q2) fun q3 =>
      (Option.bind (f_L_word w 11 q3.1 q3.2) fun q4 =>
      f_L_tell_26 w u fu 0 q4.1 q4.2)))))
set_option maxRecDepth 1000000 in
set_option maxHeartbeats 4000000 in
theorem t_L_tell {P : gG → Prop} {d : Nat} {r : Int} {m9 : xM} {h9 : gH} (hd9 : 9 ≤ d) (C : ∀ Γ, P Γ → gX Γ lay_X RL cL_tell 7 d h9) (w : Nat) (u : Nat) (hR : ∀ Γ, P Γ → gRi Γ lay_X cL_tell r m9 h9) (m : xM) (hp : gH) (h : f_L_tell w u m hp = some (r, m9, h9)) : gJ P lay_X 7 0 [(0, .inr (.inr (some 0))), (1, .inr (.inr (some w))), (2, .inr (.inr (some u)))] [] m hp h9 := by
  unfold f_L_tell at h
  refine g_aload_n C dL_tell_0 rfl ?_
  refine g_aload_n C dL_tell_1 rfl ?_
  refine g_ldcS C "line" 10 dL_tell_2 (List.mem_of_getElem? (i := 10) rfl) ?_
  refine g_iconst C dL_tell_4 ?_
  obtain ⟨q0, hq0, h⟩ := x_bind h
  refine g_newi C dL_tell_5 (xin_1 _ (List.mem_of_getElem? (i := 3) rfl)) hq0 ?_
  refine g_dup C dL_tell_7 rfl ?_
  refine g_iconst C dL_tell_8 ?_
  refine g_aload_n C dL_tell_9 rfl ?_
  obtain ⟨q1, hq1, h⟩ := x_bind h
  refine g_getIN C dL_tell_10 nF_31 hq1 ?_
  obtain ⟨q2, hq2, h⟩ := x_bind h
  refine g_iastore C dL_tell_13 hq2 ?_
  obtain ⟨q3, hq3, h⟩ := x_bind h
  refine g_callS C dL_tell_14 (xin_34 _ (List.mem_of_getElem? (i := 18) rfl)) xy_L_line xt_L_line (by omega) (by decide) (av := [.inr (.inr (some 0)), .inr (.inr (some w)), .inr (.inr (some 1010)), .inr (.inr (some q0.1))]) rfl (Nat.le_of_ble_eq_true rfl) (le_L_line (by decide) hq3) (c_L_line (by decide) hq3) rfl ?_
  refine g_aload_n C dL_tell_17 rfl ?_
  refine g_aload_n C dL_tell_18 rfl ?_
  refine g_ldcS C "rates" 11 dL_tell_19 (List.mem_of_getElem? (i := 11) rfl) ?_
  obtain ⟨q4, hq4, h⟩ := x_bind h
  refine g_callS C dL_tell_21 (xin_8 _ (List.mem_of_getElem? (i := 19) rfl)) xy_L_word xt_L_word (by omega) (by decide) (av := [.inr (.inr (some 0)), .inr (.inr (some w)), .inr (.inr (some 1011))]) rfl (Nat.le_of_ble_eq_true rfl) (le_L_word (by decide) hq4) (c_L_word (by decide) hq4) rfl ?_
  refine g_iconst C dL_tell_24 ?_
  refine g_istore_n C dL_tell_25 (by decide) ?_
  refine g_loc [(0, .inr (.inr (some 0))), (1, .inr (.inr (some w))), (2, .inr (.inr (some u))), (3, .inl 0)] ⟨rfl, rfl, rfl, rfl, trivial⟩ ?_
  exact t_L_tell_26 hd9 C _ _ hR fu _ _ _ h
theorem c_L_tell {w : Nat} {u : Nat} {m m9 : xM} {r : Int} {hp h9 : gH} (h : f_L_tell w u m hp = some (r, m9, h9)) (l : Launch) : gMet l yL_tell cL_tell 7 (some .int) 9 lay_X [.inr (.inr (some 0)), .inr (.inr (some w)), .inr (.inr (some u))] m hp (some (.inl r)) m9 h9 :=
  gMet_i (by decide +kernel) (Nat.le_of_ble_eq_true rfl) (fun P C hR => t_L_tell (Nat.le_refl _) C _ _ hR m hp h)
theorem le_L_tell {w : Nat} {u : Nat} {m m9 : xM} {r : Int} {hp h9 : gH} (h : f_L_tell w u m hp = some (r, m9, h9)) : gle hp h9 :=
  (t_L_tell (P := fun _ => False) (Nat.le_refl _) (fun _ q => q.elim) _ _ (fun _ q => q.elim) m hp h).1

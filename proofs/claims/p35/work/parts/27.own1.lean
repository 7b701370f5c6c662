/-! ===== yX11_with ===== -/
theorem dX11_with_0 : decode cX11_with 0 = .ok (.aload_n 0, 1) := by decide +kernel
theorem dX11_with_1 : decode cX11_with 1 = .ok (.arraylength, 1) := by decide +kernel
theorem dX11_with_2 : decode cX11_with 2 = .ok (.iconst 1, 1) := by decide +kernel
theorem dX11_with_3 : decode cX11_with 3 = .ok (.iadd, 1) := by decide +kernel
theorem dX11_with_4 : decode cX11_with 4 = .ok (.newarray .int, 2) := by decide +kernel
theorem dX11_with_6 : decode cX11_with 6 = .ok (.astore_n 2, 1) := by decide +kernel
theorem dX11_with_7 : decode cX11_with 7 = .ok (.iconst 0, 1) := by decide +kernel
theorem dX11_with_8 : decode cX11_with 8 = .ok (.istore_n 3, 1) := by decide +kernel
theorem dX11_with_9 : decode cX11_with 9 = .ok (.iload_n 3, 1) := by decide +kernel
theorem dX11_with_10 : decode cX11_with 10 = .ok (.aload_n 0, 1) := by decide +kernel
theorem dX11_with_11 : decode cX11_with 11 = .ok (.arraylength, 1) := by decide +kernel
theorem dX11_with_12 : decode cX11_with 12 = .ok (.if_icmp .ge 15, 3) := by decide +kernel
theorem dX11_with_15 : decode cX11_with 15 = .ok (.aload_n 2, 1) := by decide +kernel
theorem dX11_with_16 : decode cX11_with 16 = .ok (.iload_n 3, 1) := by decide +kernel
theorem dX11_with_17 : decode cX11_with 17 = .ok (.aload_n 0, 1) := by decide +kernel
theorem dX11_with_18 : decode cX11_with 18 = .ok (.iload_n 3, 1) := by decide +kernel
theorem dX11_with_19 : decode cX11_with 19 = .ok (.iaload, 1) := by decide +kernel
theorem dX11_with_20 : decode cX11_with 20 = .ok (.iastore, 1) := by decide +kernel
theorem dX11_with_21 : decode cX11_with 21 = .ok (.iinc 3 1, 3) := by decide +kernel
theorem dX11_with_24 : decode cX11_with 24 = .ok (.goto (-15), 3) := by decide +kernel
theorem dX11_with_27 : decode cX11_with 27 = .ok (.aload_n 2, 1) := by decide +kernel
theorem dX11_with_28 : decode cX11_with 28 = .ok (.aload_n 0, 1) := by decide +kernel
theorem dX11_with_29 : decode cX11_with 29 = .ok (.arraylength, 1) := by decide +kernel
theorem dX11_with_30 : decode cX11_with 30 = .ok (.iload_n 1, 1) := by decide +kernel
theorem dX11_with_31 : decode cX11_with 31 = .ok (.iastore, 1) := by decide +kernel
theorem dX11_with_32 : decode cX11_with 32 = .ok (.aload_n 2, 1) := by decide +kernel
theorem dX11_with_33 : decode cX11_with 33 = .ok (.areturn, 1) := by decide +kernel
def f_O_with_27 (a : Nat) (v : Int) (x2 : Nat) (hp : gH) : Option (Nat × gH) :=
     (Option.bind (glc hp a) fun q3 =>
      (Option.bind (gsN 0 hp x2 q3 v) fun q4 =>
      some (x2, q4)))
set_option maxRecDepth 1000000 in
set_option maxHeartbeats 4000000 in
theorem t_O_with_27 {P : gG → Prop} {d : Nat} {m : xM} {r : Nat} {h9 : gH} (hd9 : 1 ≤ d) (C : ∀ Γ, P Γ → gX Γ lay_X RX11 cX11_with 4 d h9) (a : Nat) (v : Int) (hR : ∀ Γ, P Γ → gRa Γ lay_X cX11_with r m h9) (x2 : Nat) (hp : gH) (h : f_O_with_27 a v x2 hp = some (r, h9)) : gJ P lay_X 4 27 [(0, .inr (.inr (some a))), (1, .inl v), (2, .inr (.inr (some x2)))] [] m hp h9 := by
  unfold f_O_with_27 at h
  refine g_aload_n C dX11_with_27 rfl ?_
  refine g_aload_n C dX11_with_28 rfl ?_
  obtain ⟨q3, hq3, h⟩ := x_bind h
  refine g_lenC C dX11_with_29 hq3 ?_
  refine g_iload_n C dX11_with_30 rfl ?_
  obtain ⟨q4, hq4, h⟩ := x_bind h
  refine g_iastore C dX11_with_31 hq4 ?_
  refine g_aload_n C dX11_with_32 rfl ?_
  exact g_areturn hR dX11_with_33 (by cases h; exact ⟨rfl, rfl, rfl⟩)
def f_O_with_9 (a : Nat) (v : Int) : Nat → Nat → Int → gH → Option (Nat × gH)
  | 0, _, _, _ => none
  | n + 1, x2, x3, hp =>
     (Option.bind (glc hp a) fun q2 =>
      (if xw x3 < xw q2 then (Option.bind (gaN 0 hp a x3) fun q5 =>
      (Option.bind (gsN 0 hp x2 x3 q5) fun q6 =>
      f_O_with_9 a v n x2 (x3 + 1) q6))
      else f_O_with_27 a v x2 hp))
set_option maxRecDepth 1000000 in
set_option maxHeartbeats 4000000 in
theorem t_O_with_9 {P : gG → Prop} {d : Nat} {m : xM} {r : Nat} {h9 : gH} (hd9 : 1 ≤ d) (C : ∀ Γ, P Γ → gX Γ lay_X RX11 cX11_with 4 d h9) (a : Nat) (v : Int) (hR : ∀ Γ, P Γ → gRa Γ lay_X cX11_with r m h9) : ∀ (n : Nat) (x2 : Nat) (x3 : Int) (hp : gH), f_O_with_9 a v n x2 x3 hp = some (r, h9) → gJ P lay_X 4 9 [(0, .inr (.inr (some a))), (1, .inl v), (2, .inr (.inr (some x2))), (3, .inl x3)] [] m hp h9 := by
  intro n
  induction n with
  | zero => intro _ _ _ h; cases h
  | succ n ih =>
    intro x2 x3 hp h
    rw [f_O_with_9] at h
    refine g_iload_n C dX11_with_9 rfl ?_
    refine g_aload_n C dX11_with_10 rfl ?_
    obtain ⟨q2, hq2, h⟩ := x_bind h
    refine g_lenC C dX11_with_11 hq2 ?_
    refine g_icmp_ge C 27 dX11_with_12 (by decide) h (fun h => ?_) (fun h => ?_)
    · refine g_loc [(0, .inr (.inr (some a))), (1, .inl v), (2, .inr (.inr (some x2)))] ⟨rfl, rfl, rfl, trivial⟩ ?_
      exact t_O_with_27 hd9 C _ _ hR _ _ h
    · refine g_aload_n C dX11_with_15 rfl ?_
      refine g_iload_n C dX11_with_16 rfl ?_
      refine g_aload_n C dX11_with_17 rfl ?_
      refine g_iload_n C dX11_with_18 rfl ?_
      obtain ⟨q5, hq5, h⟩ := x_bind h
      refine g_iaload C dX11_with_19 hq5 ?_
      obtain ⟨q6, hq6, h⟩ := x_bind h
      refine g_iastore C dX11_with_20 hq6 ?_
      refine g_iinc C dX11_with_21 (by decide) rfl ?_
      refine g_goto C 9 dX11_with_24 (by decide) ?_
      refine g_loc [(0, .inr (.inr (some a))), (1, .inl v), (2, .inr (.inr (some x2))), (3, .inl (x3 + 1))] ⟨rfl, rfl, rfl, rfl, trivial⟩ ?_
      exact ih _ _ _ h
def f_O_with (a : Nat) (v : Int) (hp : gH) : Option (Nat × gH) :=
     (Option.bind (glc hp a) fun q0 =>
      (Option.bind (gNw 0 hp (q0 + 1)) fun q1 =>
      f_O_with_9 a v fu q1.1 0 q1.2))
set_option maxRecDepth 1000000 in
set_option maxHeartbeats 4000000 in
theorem t_O_with {P : gG → Prop} {d : Nat} {m : xM} {r : Nat} {h9 : gH} (hd9 : 1 ≤ d) (C : ∀ Γ, P Γ → gX Γ lay_X RX11 cX11_with 4 d h9) (a : Nat) (v : Int) (hR : ∀ Γ, P Γ → gRa Γ lay_X cX11_with r m h9) (hp : gH) (h : f_O_with a v hp = some (r, h9)) : gJ P lay_X 4 0 [(0, .inr (.inr (some a))), (1, .inl v)] [] m hp h9 := by
  unfold f_O_with at h
  refine g_aload_n C dX11_with_0 rfl ?_
  obtain ⟨q0, hq0, h⟩ := x_bind h
  refine g_lenC C dX11_with_1 hq0 ?_
  refine g_iconst C dX11_with_2 ?_
  refine g_iadd C dX11_with_3 ?_
  obtain ⟨q1, hq1, h⟩ := x_bind h
  refine g_newi C dX11_with_4 (xin_1 _ (List.mem_of_getElem? (i := 3) rfl)) hq1 ?_
  refine g_astore_n C dX11_with_6 (by decide) ?_
  refine g_iconst C dX11_with_7 ?_
  refine g_istore_n C dX11_with_8 (by decide) ?_
  refine g_loc [(0, .inr (.inr (some a))), (1, .inl v), (2, .inr (.inr (some q1.1))), (3, .inl 0)] ⟨rfl, rfl, rfl, rfl, trivial⟩ ?_
  exact t_O_with_9 hd9 C _ _ hR fu _ _ _ h
theorem c_O_with {a : Nat} {v : Int} (m : xM) {r : Nat} {hp h9 : gH} (h : f_O_with a v hp = some (r, h9)) (l : Launch) : gMet l yX11_with cX11_with 4 (some (.array .int)) 1 lay_X [.inr (.inr (some a)), .inl v] m hp (some (.inr (.inr (some r)))) m h9 :=
  gMet_a (by first | exact Or.inl ⟨_, rfl⟩ | exact Or.inr ⟨_, rfl⟩) (by decide +kernel) (Nat.le_of_ble_eq_true rfl) (fun P C hR => t_O_with (Nat.le_refl _) C _ _ hR hp h)
theorem le_O_with {a : Nat} {v : Int} {r : Nat} {hp h9 : gH} (h : f_O_with a v hp = some (r, h9)) : gle hp h9 :=
  (t_O_with (P := fun _ => False) (m := fun _ _ => 0) (Nat.le_refl _) (fun _ q => q.elim) _ _ (fun _ q => q.elim) hp h).1
/-! ===== yX11_part ===== -/
theorem dX11_part_0 : decode cX11_part 0 = .ok (.iload_n 2, 1) := by decide +kernel
theorem dX11_part_1 : decode cX11_part 1 = .ok (.iload_n 1, 1) := by decide +kernel
theorem dX11_part_2 : decode cX11_part 2 = .ok (.isub, 1) := by decide +kernel
theorem dX11_part_3 : decode cX11_part 3 = .ok (.newarray .int, 2) := by decide +kernel
theorem dX11_part_5 : decode cX11_part 5 = .ok (.astore_n 3, 1) := by decide +kernel
theorem dX11_part_6 : decode cX11_part 6 = .ok (.iload_n 1, 1) := by decide +kernel
theorem dX11_part_7 : decode cX11_part 7 = .ok (.istore 4, 2) := by decide +kernel
theorem dX11_part_9 : decode cX11_part 9 = .ok (.iload 4, 2) := by decide +kernel
theorem dX11_part_11 : decode cX11_part 11 = .ok (.iload_n 2, 1) := by decide +kernel
theorem dX11_part_12 : decode cX11_part 12 = .ok (.if_icmp .ge 19, 3) := by decide +kernel
theorem dX11_part_15 : decode cX11_part 15 = .ok (.aload_n 3, 1) := by decide +kernel
theorem dX11_part_16 : decode cX11_part 16 = .ok (.iload 4, 2) := by decide +kernel
theorem dX11_part_18 : decode cX11_part 18 = .ok (.iload_n 1, 1) := by decide +kernel
theorem dX11_part_19 : decode cX11_part 19 = .ok (.isub, 1) := by decide +kernel
theorem dX11_part_20 : decode cX11_part 20 = .ok (.aload_n 0, 1) := by decide +kernel
theorem dX11_part_21 : decode cX11_part 21 = .ok (.iload 4, 2) := by decide +kernel
theorem dX11_part_23 : decode cX11_part 23 = .ok (.iaload, 1) := by decide +kernel
theorem dX11_part_24 : decode cX11_part 24 = .ok (.iastore, 1) := by decide +kernel
theorem dX11_part_25 : decode cX11_part 25 = .ok (.iinc 4 1, 3) := by decide +kernel
theorem dX11_part_28 : decode cX11_part 28 = .ok (.goto (-19), 3) := by decide +kernel
theorem dX11_part_31 : decode cX11_part 31 = .ok (.aload_n 3, 1) := by decide +kernel
theorem dX11_part_32 : decode cX11_part 32 = .ok (.areturn, 1) := by decide +kernel
def f_O_part_31 (a : Nat) (b : Int) (c : Int) (x3 : Nat) (hp : gH) : Option (Nat × gH) :=
     some (x3, hp)
set_option maxRecDepth 1000000 in
set_option maxHeartbeats 4000000 in
theorem t_O_part_31 {P : gG → Prop} {d : Nat} {m : xM} {r : Nat} {h9 : gH} (hd9 : 1 ≤ d) (C : ∀ Γ, P Γ → gX Γ lay_X RX11 cX11_part 5 d h9) (a : Nat) (b : Int) (c : Int) (hR : ∀ Γ, P Γ → gRa Γ lay_X cX11_part r m h9) (x3 : Nat) (hp : gH) (h : f_O_part_31 a b c x3 hp = some (r, h9)) : gJ P lay_X 5 31 [(3, .inr (.inr (some x3)))] [] m hp h9 := by
  unfold f_O_part_31 at h
  refine g_aload_n C dX11_part_31 rfl ?_
  exact g_areturn hR dX11_part_32 (by cases h; exact ⟨rfl, rfl, rfl⟩)
def f_O_part_9 (a : Nat) (b : Int) (c : Int) : Nat → Nat → Int → gH → Option (Nat × gH)
  | 0, _, _, _ => none
  | n + 1, x3, x4, hp =>
     (if xw x4 < xw c then (Option.bind (gaN 0 hp a x4) fun q1 =>
      (Option.bind (gsN 0 hp x3 (x4 - b) q1) fun q2 =>
      f_O_part_9 a b c n x3 (x4 + 1) q2))
      else f_O_part_31 a b c x3 hp)
set_option maxRecDepth 1000000 in
set_option maxHeartbeats 4000000 in
theorem t_O_part_9 {P : gG → Prop} {d : Nat} {m : xM} {r : Nat} {h9 : gH} (hd9 : 1 ≤ d) (C : ∀ Γ, P Γ → gX Γ lay_X RX11 cX11_part 5 d h9) (a : Nat) (b : Int) (c : Int) (hR : ∀ Γ, P Γ → gRa Γ lay_X cX11_part r m h9) : ∀ (n : Nat) (x3 : Nat) (x4 : Int) (hp : gH), f_O_part_9 a b c n x3 x4 hp = some (r, h9) → gJ P lay_X 5 9 [(0, .inr (.inr (some a))), (1, .inl b), (2, .inl c), (3, .inr (.inr (some x3))), (4, .inl x4)] [] m hp h9 := by
  intro n
  induction n with
  | zero => intro _ _ _ h; cases h
  | succ n ih =>
    intro x3 x4 hp h
    rw [f_O_part_9] at h
    refine g_iload C dX11_part_9 rfl ?_
    refine g_iload_n C dX11_part_11 rfl ?_
    refine g_icmp_ge C 31 dX11_part_12 (by decide) h (fun h => ?_) (fun h => ?_)
    · refine g_loc [(3, .inr (.inr (some x3)))] ⟨rfl, trivial⟩ ?_
      exact t_O_part_31 hd9 C _ _ _ hR _ _ h
    · refine g_aload_n C dX11_part_15 rfl ?_
      refine g_iload C dX11_part_16 rfl ?_
      refine g_iload_n C dX11_part_18 rfl ?_
      refine g_isub C dX11_part_19 ?_
      refine g_aload_n C dX11_part_20 rfl ?_
      refine g_iload C dX11_part_21 rfl ?_
      obtain ⟨q1, hq1, h⟩ := x_bind h
      refine g_iaload C dX11_part_23 hq1 ?_
      obtain ⟨q2, hq2, h⟩ := x_bind h
      refine g_iastore C dX11_part_24 hq2 ?_
      refine g_iinc C dX11_part_25 (by decide) rfl ?_
      refine g_goto C 9 dX11_part_28 (by decide) ?_
      refine g_loc [(0, .inr (.inr (some a))), (1, .inl b), (2, .inl c), (3, .inr (.inr (some x3))), (4, .inl (x4 + 1))] ⟨rfl, rfl, rfl, rfl, rfl, trivial⟩ ?_
      exact ih _ _ _ h
def f_O_part (a : Nat) (b : Int) (c : Int) (hp : gH) : Option (Nat × gH) :=
     (Option.bind (gNw 0 hp (c - b)) fun q0 =>
      f_O_part_9 a b c fu q0.1 b q0.2)
set_option maxRecDepth 1000000 in
set_option maxHeartbeats 4000000 in
theorem t_O_part {P : gG → Prop} {d : Nat} {m : xM} {r : Nat} {h9 : gH} (hd9 : 1 ≤ d) (C : ∀ Γ, P Γ → gX Γ lay_X RX11 cX11_part 5 d h9) (a : Nat) (b : Int) (c : Int) (hR : ∀ Γ, P Γ → gRa Γ lay_X cX11_part r m h9) (hp : gH) (h : f_O_part a b c hp = some (r, h9)) : gJ P lay_X 5 0 [(0, .inr (.inr (some a))), (1, .inl b), (2, .inl c)] [] m hp h9 := by
  unfold f_O_part at h
  refine g_iload_n C dX11_part_0 rfl ?_
  refine g_iload_n C dX11_part_1 rfl ?_
  refine g_isub C dX11_part_2 ?_
  obtain ⟨q0, hq0, h⟩ := x_bind h
  refine g_newi C dX11_part_3 (xin_1 _ (List.mem_of_getElem? (i := 3) rfl)) hq0 ?_
  refine g_astore_n C dX11_part_5 (by decide) ?_
  refine g_iload_n C dX11_part_6 rfl ?_
  refine g_istore C dX11_part_7 (by decide) ?_
  refine g_loc [(0, .inr (.inr (some a))), (1, .inl b), (2, .inl c), (3, .inr (.inr (some q0.1))), (4, .inl b)] ⟨rfl, rfl, rfl, rfl, rfl, trivial⟩ ?_
  exact t_O_part_9 hd9 C _ _ _ hR fu _ _ _ h
theorem c_O_part {a : Nat} {b : Int} {c : Int} (m : xM) {r : Nat} {hp h9 : gH} (h : f_O_part a b c hp = some (r, h9)) (l : Launch) : gMet l yX11_part cX11_part 5 (some (.array .int)) 1 lay_X [.inr (.inr (some a)), .inl b, .inl c] m hp (some (.inr (.inr (some r)))) m h9 :=
  gMet_a (by first | exact Or.inl ⟨_, rfl⟩ | exact Or.inr ⟨_, rfl⟩) (by decide +kernel) (Nat.le_of_ble_eq_true rfl) (fun P C hR => t_O_part (Nat.le_refl _) C _ _ _ hR hp h)
theorem le_O_part {a : Nat} {b : Int} {c : Int} {r : Nat} {hp h9 : gH} (h : f_O_part a b c hp = some (r, h9)) : gle hp h9 :=
  (t_O_part (P := fun _ => False) (m := fun _ _ => 0) (Nat.le_refl _) (fun _ q => q.elim) _ _ _ (fun _ q => q.elim) hp h).1
/-! ===== yX11_has ===== -/
theorem dX11_has_0 : decode cX11_has 0 = .ok (.aload_n 0, 1) := by decide +kernel
theorem dX11_has_1 : decode cX11_has 1 = .ok (.astore_n 2, 1) := by decide +kernel
theorem dX11_has_2 : decode cX11_has 2 = .ok (.aload_n 2, 1) := by decide +kernel
theorem dX11_has_3 : decode cX11_has 3 = .ok (.arraylength, 1) := by decide +kernel
theorem dX11_has_4 : decode cX11_has 4 = .ok (.istore_n 3, 1) := by decide +kernel
theorem dX11_has_5 : decode cX11_has 5 = .ok (.iconst 0, 1) := by decide +kernel
theorem dX11_has_6 : decode cX11_has 6 = .ok (.istore 4, 2) := by decide +kernel
theorem dX11_has_8 : decode cX11_has 8 = .ok (.iload 4, 2) := by decide +kernel
theorem dX11_has_10 : decode cX11_has 10 = .ok (.iload_n 3, 1) := by decide +kernel
theorem dX11_has_11 : decode cX11_has 11 = .ok (.if_icmp .ge 23, 3) := by decide +kernel
theorem dX11_has_14 : decode cX11_has 14 = .ok (.aload_n 2, 1) := by decide +kernel
theorem dX11_has_15 : decode cX11_has 15 = .ok (.iload 4, 2) := by decide +kernel
theorem dX11_has_17 : decode cX11_has 17 = .ok (.iaload, 1) := by decide +kernel
theorem dX11_has_18 : decode cX11_has 18 = .ok (.istore 5, 2) := by decide +kernel
theorem dX11_has_20 : decode cX11_has 20 = .ok (.iload 5, 2) := by decide +kernel
theorem dX11_has_22 : decode cX11_has 22 = .ok (.iload_n 1, 1) := by decide +kernel
theorem dX11_has_23 : decode cX11_has 23 = .ok (.if_icmp .ne 5, 3) := by decide +kernel
theorem dX11_has_26 : decode cX11_has 26 = .ok (.iconst 1, 1) := by decide +kernel
theorem dX11_has_27 : decode cX11_has 27 = .ok (.ireturn, 1) := by decide +kernel
theorem dX11_has_28 : decode cX11_has 28 = .ok (.iinc 4 1, 3) := by decide +kernel
theorem dX11_has_31 : decode cX11_has 31 = .ok (.goto (-23), 3) := by decide +kernel
theorem dX11_has_34 : decode cX11_has 34 = .ok (.iconst 0, 1) := by decide +kernel
theorem dX11_has_35 : decode cX11_has 35 = .ok (.ireturn, 1) := by decide +kernel
def f_O_has_8 (a : Nat) (v : Int) (hp : gH) : Nat → Nat → Int → Int → Option (Int)
  | 0, _, _, _ => none
  | n + 1, x2, x3, x4 =>
     (if xw x4 < xw x3 then (Option.bind (gaN 0 hp x2 x4) fun q1 =>
      (if xw q1 = xw v then some 1
      else f_O_has_8 a v hp n x2 x3 (x4 + 1)))
      else some 0)
set_option maxRecDepth 1000000 in
set_option maxHeartbeats 4000000 in
theorem t_O_has_8 {P : gG → Prop} {d : Nat} {m : xM} {hp : gH} {r : Int} (hd9 : 1 ≤ d) (C : ∀ Γ, P Γ → gX Γ lay_X RX11 cX11_has 6 d hp) (a : Nat) (v : Int) (hR : ∀ Γ, P Γ → gRz Γ lay_X cX11_has r m hp) : ∀ (n : Nat) (x2 : Nat) (x3 : Int) (x4 : Int), f_O_has_8 a v hp n x2 x3 x4 = some r → gJ P lay_X 6 8 [(1, .inl v), (2, .inr (.inr (some x2))), (3, .inl x3), (4, .inl x4)] [] m hp hp := by
  intro n
  induction n with
  | zero => intro _ _ _ h; cases h
  | succ n ih =>
    intro x2 x3 x4 h
    rw [f_O_has_8] at h
    refine g_iload C dX11_has_8 rfl ?_
    refine g_iload_n C dX11_has_10 rfl ?_
    refine g_icmp_ge C 34 dX11_has_11 (by decide) h (fun h => ?_) (fun h => ?_)
    · refine g_iconst C dX11_has_34 ?_
      exact g_zreturn hR (by decide) dX11_has_35 (by cases h; exact ⟨rfl, rfl, rfl⟩)
    · refine g_aload_n C dX11_has_14 rfl ?_
      refine g_iload C dX11_has_15 rfl ?_
      obtain ⟨q1, hq1, h⟩ := x_bind h
      refine g_iaload C dX11_has_17 hq1 ?_
      refine g_istore C dX11_has_18 (by decide) ?_
      refine g_iload C dX11_has_20 rfl ?_
      refine g_iload_n C dX11_has_22 rfl ?_
      refine g_icmp_ne C 28 dX11_has_23 (by decide) h (fun h => ?_) (fun h => ?_)
      · refine g_iinc C dX11_has_28 (by decide) rfl ?_
        refine g_goto C 8 dX11_has_31 (by decide) ?_
        refine g_loc [(1, .inl v), (2, .inr (.inr (some x2))), (3, .inl x3), (4, .inl (x4 + 1))] ⟨rfl, rfl, rfl, rfl, trivial⟩ ?_
        exact ih _ _ _ h
      · refine g_iconst C dX11_has_26 ?_
        exact g_zreturn hR (by decide) dX11_has_27 (by cases h; exact ⟨rfl, rfl, rfl⟩)
def f_O_has (a : Nat) (v : Int) (hp : gH) : Option (Int) :=
     (Option.bind (glc hp a) fun q0 =>
      f_O_has_8 a v hp fu a q0 0)
set_option maxRecDepth 1000000 in
set_option maxHeartbeats 4000000 in
theorem t_O_has {P : gG → Prop} {d : Nat} {m : xM} {hp : gH} {r : Int} (hd9 : 1 ≤ d) (C : ∀ Γ, P Γ → gX Γ lay_X RX11 cX11_has 6 d hp) (a : Nat) (v : Int) (hR : ∀ Γ, P Γ → gRz Γ lay_X cX11_has r m hp) (h : f_O_has a v hp = some r) : gJ P lay_X 6 0 [(0, .inr (.inr (some a))), (1, .inl v)] [] m hp hp := by
  unfold f_O_has at h
  refine g_aload_n C dX11_has_0 rfl ?_
  refine g_astore_n C dX11_has_1 (by decide) ?_
  refine g_aload_n C dX11_has_2 rfl ?_
  obtain ⟨q0, hq0, h⟩ := x_bind h
  refine g_lenC C dX11_has_3 hq0 ?_
  refine g_istore_n C dX11_has_4 (by decide) ?_
  refine g_iconst C dX11_has_5 ?_
  refine g_istore C dX11_has_6 (by decide) ?_
  refine g_loc [(1, .inl v), (2, .inr (.inr (some a))), (3, .inl q0), (4, .inl 0)] ⟨rfl, rfl, rfl, rfl, trivial⟩ ?_
  exact t_O_has_8 hd9 C _ _ hR fu _ _ _ h
theorem c_O_has {a : Nat} {v : Int} (m : xM) {r : Int} {hp : gH} (h : f_O_has a v hp = some r) (l : Launch) : gMet l yX11_has cX11_has 6 (some .boolean) 1 lay_X [.inr (.inr (some a)), .inl v] m hp (some (.inl r)) m hp :=
  gMet_z (by decide +kernel) (Nat.le_of_ble_eq_true rfl) (fun P C hR => t_O_has (Nat.le_refl _) C _ _ hR h)
/-! ===== yX11_used ===== -/
theorem xy_X11_with : xY yX11_with cX11_with 4 (some (.array .int)) 2 := ⟨(xin_38 _ (List.mem_of_getElem? (i := 11) rfl)), (xin_33 _ (List.mem_of_getElem? (i := 5) rfl)), by decide, by decide, by decide +kernel⟩
theorem xt_X11_with : Cond.static yX11_with ∈ wsL_law := (xin_38 _ (List.mem_of_getElem? (i := 10) rfl))
theorem dX11_used_0 : decode cX11_used 0 = .ok (.iconst 1, 1) := by decide +kernel
theorem dX11_used_1 : decode cX11_used 1 = .ok (.newarray .int, 2) := by decide +kernel
theorem dX11_used_3 : decode cX11_used 3 = .ok (.dup, 1) := by decide +kernel
theorem dX11_used_4 : decode cX11_used 4 = .ok (.iconst 0, 1) := by decide +kernel
theorem dX11_used_5 : decode cX11_used 5 = .ok (.iload_n 1, 1) := by decide +kernel
theorem dX11_used_6 : decode cX11_used 6 = .ok (.iastore, 1) := by decide +kernel
theorem dX11_used_7 : decode cX11_used 7 = .ok (.astore_n 2, 1) := by decide +kernel
theorem dX11_used_8 : decode cX11_used 8 = .ok (.aload_n 0, 1) := by decide +kernel
theorem dX11_used_9 : decode cX11_used 9 = .ok (.astore_n 3, 1) := by decide +kernel
theorem dX11_used_10 : decode cX11_used 10 = .ok (.aload_n 3, 1) := by decide +kernel
theorem dX11_used_11 : decode cX11_used 11 = .ok (.arraylength, 1) := by decide +kernel
theorem dX11_used_12 : decode cX11_used 12 = .ok (.istore 4, 2) := by decide +kernel
theorem dX11_used_14 : decode cX11_used 14 = .ok (.iconst 0, 1) := by decide +kernel
theorem dX11_used_15 : decode cX11_used 15 = .ok (.istore 5, 2) := by decide +kernel
theorem dX11_used_17 : decode cX11_used 17 = .ok (.iload 5, 2) := by decide +kernel
theorem dX11_used_19 : decode cX11_used 19 = .ok (.iload 4, 2) := by decide +kernel
theorem dX11_used_21 : decode cX11_used 21 = .ok (.if_icmp .ge 35, 3) := by decide +kernel
theorem dX11_used_24 : decode cX11_used 24 = .ok (.aload_n 3, 1) := by decide +kernel
theorem dX11_used_25 : decode cX11_used 25 = .ok (.iload 5, 2) := by decide +kernel
theorem dX11_used_27 : decode cX11_used 27 = .ok (.iaload, 1) := by decide +kernel
theorem dX11_used_28 : decode cX11_used 28 = .ok (.istore 6, 2) := by decide +kernel
theorem dX11_used_30 : decode cX11_used 30 = .ok (.iload 6, 2) := by decide +kernel
theorem dX11_used_32 : decode cX11_used 32 = .ok (.iload_n 1, 1) := by decide +kernel
theorem dX11_used_33 : decode cX11_used 33 = .ok (.if_icmp .eq 17, 3) := by decide +kernel
theorem dX11_used_36 : decode cX11_used 36 = .ok (.aload_n 2, 1) := by decide +kernel
theorem dX11_used_37 : decode cX11_used 37 = .ok (.arraylength, 1) := by decide +kernel
theorem dX11_used_38 : decode cX11_used 38 = .ok (.bipush 8, 2) := by decide +kernel
theorem dX11_used_40 : decode cX11_used 40 = .ok (.if_icmp .ge 10, 3) := by decide +kernel
theorem dX11_used_43 : decode cX11_used 43 = .ok (.aload_n 2, 1) := by decide +kernel
theorem dX11_used_44 : decode cX11_used 44 = .ok (.iload 6, 2) := by decide +kernel
theorem dX11_used_46 : decode cX11_used 46 = .ok (.invokestatic 117, 3) := by decide +kernel
theorem dX11_used_49 : decode cX11_used 49 = .ok (.astore_n 2, 1) := by decide +kernel
theorem dX11_used_50 : decode cX11_used 50 = .ok (.iinc 5 1, 3) := by decide +kernel
theorem dX11_used_53 : decode cX11_used 53 = .ok (.goto (-36), 3) := by decide +kernel
theorem dX11_used_56 : decode cX11_used 56 = .ok (.aload_n 2, 1) := by decide +kernel
theorem dX11_used_57 : decode cX11_used 57 = .ok (.areturn, 1) := by decide +kernel
def f_O_used_56 (a : Nat) (v : Int) (x2 : Nat) (hp : gH) : Option (Nat × gH) :=
     some (x2, hp)
set_option maxRecDepth 1000000 in
set_option maxHeartbeats 4000000 in
theorem t_O_used_56 {P : gG → Prop} {d : Nat} {m : xM} {r : Nat} {h9 : gH} (hd9 : 2 ≤ d) (C : ∀ Γ, P Γ → gX Γ lay_X RX11 cX11_used 7 d h9) (a : Nat) (v : Int) (hR : ∀ Γ, P Γ → gRa Γ lay_X cX11_used r m h9) (x2 : Nat) (hp : gH) (h : f_O_used_56 a v x2 hp = some (r, h9)) : gJ P lay_X 7 56 [(2, .inr (.inr (some x2)))] [] m hp h9 := by
  unfold f_O_used_56 at h
  refine g_aload_n C dX11_used_56 rfl ?_
  exact g_areturn hR dX11_used_57 (by cases h; exact ⟨rfl, rfl, rfl⟩)
def f_O_used_50 (a : Nat) (v : Int) (k17 : Nat → Nat → Int → Int → gH → Option (Nat × gH)) (x2 : Nat) (x3 : Nat) (x4 : Int) (x5 : Int) (hp : gH) : Option (Nat × gH) :=
     k17 x2 x3 x4 (x5 + 1) hp
set_option maxRecDepth 1000000 in
set_option maxHeartbeats 4000000 in
theorem t_O_used_50 {P : gG → Prop} {d : Nat} {m : xM} {r : Nat} {h9 : gH} (hd9 : 2 ≤ d) (C : ∀ Γ, P Γ → gX Γ lay_X RX11 cX11_used 7 d h9) (a : Nat) (v : Int) (hR : ∀ Γ, P Γ → gRa Γ lay_X cX11_used r m h9) {k17 : Nat → Nat → Int → Int → gH → Option (Nat × gH)} (hk17 : ∀ (x2 : Nat) (x3 : Nat) (x4 : Int) (x5 : Int) (hp : gH), k17 x2 x3 x4 x5 hp = some (r, h9) → gJ P lay_X 7 17 [(1, .inl v), (2, .inr (.inr (some x2))), (3, .inr (.inr (some x3))), (4, .inl x4), (5, .inl x5)] [] m hp h9) (x2 : Nat) (x3 : Nat) (x4 : Int) (x5 : Int) (hp : gH) (h : f_O_used_50 a v k17 x2 x3 x4 x5 hp = some (r, h9)) : gJ P lay_X 7 50 [(1, .inl v), (2, .inr (.inr (some x2))), (3, .inr (.inr (some x3))), (4, .inl x4), (5, .inl x5)] [] m hp h9 := by
  unfold f_O_used_50 at h
  refine g_iinc C dX11_used_50 (by decide) rfl ?_
  refine g_goto C 17 dX11_used_53 (by decide) ?_
  refine g_loc [(1, .inl v), (2, .inr (.inr (some x2))), (3, .inr (.inr (some x3))), (4, .inl x4), (5, .inl (x5 + 1))] ⟨rfl, rfl, rfl, rfl, rfl, trivial⟩ ?_
  exact hk17 _ _ _ _ _ h
def f_O_used_17 (a : Nat) (v : Int) : Nat → Nat → Nat → Int → Int → gH → Option (Nat × gH)
  | 0, _, _, _, _, _ => none
  | n + 1, x2, x3, x4, x5, hp =>
     (if xw x5 < xw x4 then (Option.bind (gaN 0 hp x3 x5) fun q3 =>
      (if xw q3 = xw v then f_O_used_50 a v (f_O_used_17 a v n) x2 x3 x4 x5 hp
      else (Option.bind (glc hp x2) fun q4 =>
      (if xw q4 < xw 8 then (Option.bind (f_O_with x2 q3 hp) fun q5 =>
      f_O_used_50 a v (f_O_used_17 a v n) q5.1 x3 x4 x5 q5.2)
      else f_O_used_50 a v (f_O_used_17 a v n) x2 x3 x4 x5 hp))))
      else f_O_used_56 a v x2 hp)
set_option maxRecDepth 1000000 in
set_option maxHeartbeats 4000000 in
theorem t_O_used_17 {P : gG → Prop} {d : Nat} {m : xM} {r : Nat} {h9 : gH} (hd9 : 2 ≤ d) (C : ∀ Γ, P Γ → gX Γ lay_X RX11 cX11_used 7 d h9) (a : Nat) (v : Int) (hR : ∀ Γ, P Γ → gRa Γ lay_X cX11_used r m h9) : ∀ (n : Nat) (x2 : Nat) (x3 : Nat) (x4 : Int) (x5 : Int) (hp : gH), f_O_used_17 a v n x2 x3 x4 x5 hp = some (r, h9) → gJ P lay_X 7 17 [(1, .inl v), (2, .inr (.inr (some x2))), (3, .inr (.inr (some x3))), (4, .inl x4), (5, .inl x5)] [] m hp h9 := by
  intro n
  induction n with
  | zero => intro _ _ _ _ _ h; cases h
  | succ n ih =>
    intro x2 x3 x4 x5 hp h
    rw [f_O_used_17] at h
    refine g_iload C dX11_used_17 rfl ?_
    refine g_iload C dX11_used_19 rfl ?_
    refine g_icmp_ge C 56 dX11_used_21 (by decide) h (fun h => ?_) (fun h => ?_)
    · refine g_loc [(2, .inr (.inr (some x2)))] ⟨rfl, trivial⟩ ?_
      exact t_O_used_56 hd9 C _ _ hR _ _ h
    · refine g_aload_n C dX11_used_24 rfl ?_
      refine g_iload C dX11_used_25 rfl ?_
      obtain ⟨q3, hq3, h⟩ := x_bind h
      refine g_iaload C dX11_used_27 hq3 ?_
      refine g_istore C dX11_used_28 (by decide) ?_
      refine g_iload C dX11_used_30 rfl ?_
      refine g_iload_n C dX11_used_32 rfl ?_
      refine g_icmp_eq C 50 dX11_used_33 (by decide) h (fun h => ?_) (fun h => ?_)
      · refine g_loc [(1, .inl v), (2, .inr (.inr (some x2))), (3, .inr (.inr (some x3))), (4, .inl x4), (5, .inl x5)] ⟨rfl, rfl, rfl, rfl, rfl, trivial⟩ ?_
        exact t_O_used_50 hd9 C _ _ hR ih _ _ _ _ _ h
      · refine g_aload_n C dX11_used_36 rfl ?_
        obtain ⟨q4, hq4, h⟩ := x_bind h
        refine g_lenC C dX11_used_37 hq4 ?_
        refine g_bipush C dX11_used_38 (by decide) ?_
        refine g_icmp_ge C 50 dX11_used_40 (by decide) h (fun h => ?_) (fun h => ?_)
        · refine g_loc [(1, .inl v), (2, .inr (.inr (some x2))), (3, .inr (.inr (some x3))), (4, .inl x4), (5, .inl x5)] ⟨rfl, rfl, rfl, rfl, rfl, trivial⟩ ?_
          exact t_O_used_50 hd9 C _ _ hR ih _ _ _ _ _ h
        · refine g_aload_n C dX11_used_43 rfl ?_
          refine g_iload C dX11_used_44 rfl ?_
          obtain ⟨q5, hq5, h⟩ := x_bind h
          refine g_callS C dX11_used_46 (xin_38 _ (List.mem_of_getElem? (i := 9) rfl)) xy_X11_with xt_X11_with (by omega) (by decide) (av := [.inr (.inr (some x2)), .inl q3]) rfl (Nat.le_of_ble_eq_true rfl) (le_O_with hq5) (c_O_with _ hq5) rfl ?_
          refine g_astore_n C dX11_used_49 (by decide) ?_
          refine g_loc [(1, .inl v), (2, .inr (.inr (some q5.1))), (3, .inr (.inr (some x3))), (4, .inl x4), (5, .inl x5)] ⟨rfl, rfl, rfl, rfl, rfl, trivial⟩ ?_
          exact t_O_used_50 hd9 C _ _ hR ih _ _ _ _ _ h
def f_O_used (a : Nat) (v : Int) (hp : gH) : Option (Nat × gH) :=
     (Option.bind (gNw 0 hp 1) fun q0 =>
      (Option.bind (gsN 0 q0.2 q0.1 0 v) fun q1 =>
      (Option.bind (glc q1 a) fun q2 =>
      f_O_used_17 a v fu q0.1 a q2 0 q1)))
set_option maxRecDepth 1000000 in
set_option maxHeartbeats 4000000 in
theorem t_O_used {P : gG → Prop} {d : Nat} {m : xM} {r : Nat} {h9 : gH} (hd9 : 2 ≤ d) (C : ∀ Γ, P Γ → gX Γ lay_X RX11 cX11_used 7 d h9) (a : Nat) (v : Int) (hR : ∀ Γ, P Γ → gRa Γ lay_X cX11_used r m h9) (hp : gH) (h : f_O_used a v hp = some (r, h9)) : gJ P lay_X 7 0 [(0, .inr (.inr (some a))), (1, .inl v)] [] m hp h9 := by
  unfold f_O_used at h
  refine g_iconst C dX11_used_0 ?_
  obtain ⟨q0, hq0, h⟩ := x_bind h
  refine g_newi C dX11_used_1 (xin_1 _ (List.mem_of_getElem? (i := 3) rfl)) hq0 ?_
  refine g_dup C dX11_used_3 rfl ?_
  refine g_iconst C dX11_used_4 ?_
  refine g_iload_n C dX11_used_5 rfl ?_
  obtain ⟨q1, hq1, h⟩ := x_bind h
  refine g_iastore C dX11_used_6 hq1 ?_
  refine g_astore_n C dX11_used_7 (by decide) ?_
  refine g_aload_n C dX11_used_8 rfl ?_
  refine g_astore_n C dX11_used_9 (by decide) ?_
  refine g_aload_n C dX11_used_10 rfl ?_
  obtain ⟨q2, hq2, h⟩ := x_bind h
  refine g_lenC C dX11_used_11 hq2 ?_
  refine g_istore C dX11_used_12 (by decide) ?_
  refine g_iconst C dX11_used_14 ?_
  refine g_istore C dX11_used_15 (by decide) ?_
  refine g_loc [(1, .inl v), (2, .inr (.inr (some q0.1))), (3, .inr (.inr (some a))), (4, .inl q2), (5, .inl 0)] ⟨rfl, rfl, rfl, rfl, rfl, trivial⟩ ?_
  exact t_O_used_17 hd9 C _ _ hR fu _ _ _ _ _ h
theorem c_O_used {a : Nat} {v : Int} (m : xM) {r : Nat} {hp h9 : gH} (h : f_O_used a v hp = some (r, h9)) (l : Launch) : gMet l yX11_used cX11_used 7 (some (.array .int)) 2 lay_X [.inr (.inr (some a)), .inl v] m hp (some (.inr (.inr (some r)))) m h9 :=
  gMet_a (by first | exact Or.inl ⟨_, rfl⟩ | exact Or.inr ⟨_, rfl⟩) (by decide +kernel) (Nat.le_of_ble_eq_true rfl) (fun P C hR => t_O_used (Nat.le_refl _) C _ _ hR hp h)
theorem le_O_used {a : Nat} {v : Int} {r : Nat} {hp h9 : gH} (h : f_O_used a v hp = some (r, h9)) : gle hp h9 :=
  (t_O_used (P := fun _ => False) (m := fun _ _ => 0) (Nat.le_refl _) (fun _ q => q.elim) _ _ (fun _ q => q.elim) hp h).1
/-! ===== yX11_cost ===== -/
theorem fF_X11_62 : xF RX11 62 12 27 (.array .boolean) false := ⟨RX11, TX11, 31, tyX11, rfl, by decide, (xin_34 _ (List.mem_of_getElem? (i := 3) rfl)), rfl, inlX11, tyX11_ok, nmX11, rfl, rfl⟩
theorem fF_X11_40 : xF RX11 40 12 20 (.array (.array .int)) false := ⟨RX11, TX11, 31, tyX11, rfl, by decide, (xin_33 _ (List.mem_of_getElem? (i := 19) rfl)), rfl, inlX11, tyX11_ok, nmX11, rfl, rfl⟩
theorem xy_X11_has : xY yX11_has cX11_has 6 (some .boolean) 2 := ⟨(xin_39 _ (List.mem_of_getElem? (i := 13) rfl)), (xin_33 _ (List.mem_of_getElem? (i := 5) rfl)), by decide, by decide, by decide +kernel⟩
theorem xt_X11_has : Cond.static yX11_has ∈ wsL_law := (xin_39 _ (List.mem_of_getElem? (i := 12) rfl))
theorem xy_X11_used : xY yX11_used cX11_used 7 (some (.array .int)) 2 := ⟨(xin_38 _ (List.mem_of_getElem? (i := 8) rfl)), (xin_33 _ (List.mem_of_getElem? (i := 5) rfl)), by decide, by decide, by decide +kernel⟩
theorem xt_X11_used : Cond.static yX11_used ∈ wsL_law := (xin_38 _ (List.mem_of_getElem? (i := 7) rfl))
theorem dX11_cost_0 : decode cX11_cost 0 = .ok (.aload_n 0, 1) := by decide +kernel
theorem dX11_cost_1 : decode cX11_cost 1 = .ok (.getfield 62, 3) := by decide +kernel
theorem dX11_cost_4 : decode cX11_cost 4 = .ok (.iload_n 1, 1) := by decide +kernel
theorem dX11_cost_5 : decode cX11_cost 5 = .ok (.baload, 1) := by decide +kernel
theorem dX11_cost_6 : decode cX11_cost 6 = .ok (.ifCond .eq 7, 3) := by decide +kernel
theorem dX11_cost_9 : decode cX11_cost 9 = .ok (.iconst 5, 1) := by decide +kernel
theorem dX11_cost_10 : decode cX11_cost 10 = .ok (.goto 4, 3) := by decide +kernel
theorem dX11_cost_13 : decode cX11_cost 13 = .ok (.iconst 4, 1) := by decide +kernel
theorem dX11_cost_14 : decode cX11_cost 14 = .ok (.istore_n 3, 1) := by decide +kernel
theorem dX11_cost_15 : decode cX11_cost 15 = .ok (.aload_n 0, 1) := by decide +kernel
theorem dX11_cost_16 : decode cX11_cost 16 = .ok (.getfield 62, 3) := by decide +kernel
theorem dX11_cost_19 : decode cX11_cost 19 = .ok (.iload_n 1, 1) := by decide +kernel
theorem dX11_cost_20 : decode cX11_cost 20 = .ok (.baload, 1) := by decide +kernel
theorem dX11_cost_21 : decode cX11_cost 21 = .ok (.ifCond .eq 9, 3) := by decide +kernel
theorem dX11_cost_24 : decode cX11_cost 24 = .ok (.iconst 0, 1) := by decide +kernel
theorem dX11_cost_25 : decode cX11_cost 25 = .ok (.newarray .int, 2) := by decide +kernel
theorem dX11_cost_27 : decode cX11_cost 27 = .ok (.goto 9, 3) := by decide +kernel
theorem dX11_cost_30 : decode cX11_cost 30 = .ok (.aload_n 0, 1) := by decide +kernel
theorem dX11_cost_31 : decode cX11_cost 31 = .ok (.getfield 40, 3) := by decide +kernel
theorem dX11_cost_34 : decode cX11_cost 34 = .ok (.iload_n 1, 1) := by decide +kernel
theorem dX11_cost_35 : decode cX11_cost 35 = .ok (.aaload, 1) := by decide +kernel
theorem dX11_cost_36 : decode cX11_cost 36 = .ok (.astore 4, 2) := by decide +kernel
theorem dX11_cost_38 : decode cX11_cost 38 = .ok (.aload_n 2, 1) := by decide +kernel
theorem dX11_cost_39 : decode cX11_cost 39 = .ok (.astore 5, 2) := by decide +kernel
theorem dX11_cost_41 : decode cX11_cost 41 = .ok (.aload 5, 2) := by decide +kernel
theorem dX11_cost_43 : decode cX11_cost 43 = .ok (.arraylength, 1) := by decide +kernel
theorem dX11_cost_44 : decode cX11_cost 44 = .ok (.istore 6, 2) := by decide +kernel
theorem dX11_cost_46 : decode cX11_cost 46 = .ok (.iconst 0, 1) := by decide +kernel
theorem dX11_cost_47 : decode cX11_cost 47 = .ok (.istore 7, 2) := by decide +kernel
theorem dX11_cost_49 : decode cX11_cost 49 = .ok (.iload 7, 2) := by decide +kernel
theorem dX11_cost_51 : decode cX11_cost 51 = .ok (.iload 6, 2) := by decide +kernel
theorem dX11_cost_53 : decode cX11_cost 53 = .ok (.if_icmp .ge 43, 3) := by decide +kernel
theorem dX11_cost_56 : decode cX11_cost 56 = .ok (.aload 5, 2) := by decide +kernel
theorem dX11_cost_58 : decode cX11_cost 58 = .ok (.iload 7, 2) := by decide +kernel
theorem dX11_cost_60 : decode cX11_cost 60 = .ok (.iaload, 1) := by decide +kernel
theorem dX11_cost_61 : decode cX11_cost 61 = .ok (.istore 8, 2) := by decide +kernel
theorem dX11_cost_63 : decode cX11_cost 63 = .ok (.iload_n 3, 1) := by decide +kernel
theorem dX11_cost_64 : decode cX11_cost 64 = .ok (.aload 4, 2) := by decide +kernel
theorem dX11_cost_66 : decode cX11_cost 66 = .ok (.iload 8, 2) := by decide +kernel
theorem dX11_cost_68 : decode cX11_cost 68 = .ok (.invokestatic 121, 3) := by decide +kernel
theorem dX11_cost_71 : decode cX11_cost 71 = .ok (.ifCond .eq 7, 3) := by decide +kernel
theorem dX11_cost_74 : decode cX11_cost 74 = .ok (.iconst 1, 1) := by decide +kernel
theorem dX11_cost_75 : decode cX11_cost 75 = .ok (.goto 4, 3) := by decide +kernel
theorem dX11_cost_78 : decode cX11_cost 78 = .ok (.iconst 3, 1) := by decide +kernel
theorem dX11_cost_79 : decode cX11_cost 79 = .ok (.iadd, 1) := by decide +kernel
theorem dX11_cost_80 : decode cX11_cost 80 = .ok (.istore_n 3, 1) := by decide +kernel
theorem dX11_cost_81 : decode cX11_cost 81 = .ok (.aload 4, 2) := by decide +kernel
theorem dX11_cost_83 : decode cX11_cost 83 = .ok (.iload 8, 2) := by decide +kernel
theorem dX11_cost_85 : decode cX11_cost 85 = .ok (.invokestatic 125, 3) := by decide +kernel
theorem dX11_cost_88 : decode cX11_cost 88 = .ok (.astore 4, 2) := by decide +kernel
theorem dX11_cost_90 : decode cX11_cost 90 = .ok (.iinc 7 1, 3) := by decide +kernel
theorem dX11_cost_93 : decode cX11_cost 93 = .ok (.goto (-44), 3) := by decide +kernel
theorem dX11_cost_96 : decode cX11_cost 96 = .ok (.iload_n 3, 1) := by decide +kernel
theorem dX11_cost_97 : decode cX11_cost 97 = .ok (.ireturn, 1) := by decide +kernel
def f_O_cost_79 (o : Nat) (e : Int) (a : Nat) (k49 : Int → Nat → Nat → Int → Int → gH → Option (Int × gH)) (x4 : Nat) (x5 : Nat) (x6 : Int) (x7 : Int) (x8 : Int) (s0 : Int) (s1 : Int) (hp : gH) : Option (Int × gH) :=
     (Option.bind (f_O_used x4 x8 hp) fun q9 =>
      k49 (s1 + s0) q9.1 x5 x6 (x7 + 1) q9.2)
set_option maxRecDepth 1000000 in
set_option maxHeartbeats 4000000 in
theorem t_O_cost_79 {P : gG → Prop} {d : Nat} {m : xM} {r : Int} {h9 : gH} (hd9 : 3 ≤ d) (C : ∀ Γ, P Γ → gX Γ lay_X RX11 cX11_cost 9 d h9) (o : Nat) (e : Int) (a : Nat) (hR : ∀ Γ, P Γ → gRi Γ lay_X cX11_cost r m h9) {k49 : Int → Nat → Nat → Int → Int → gH → Option (Int × gH)} (hk49 : ∀ (x3 : Int) (x4 : Nat) (x5 : Nat) (x6 : Int) (x7 : Int) (hp : gH), k49 x3 x4 x5 x6 x7 hp = some (r, h9) → gJ P lay_X 9 49 [(3, .inl x3), (4, .inr (.inr (some x4))), (5, .inr (.inr (some x5))), (6, .inl x6), (7, .inl x7)] [] m hp h9) (x4 : Nat) (x5 : Nat) (x6 : Int) (x7 : Int) (x8 : Int) (s0 : Int) (s1 : Int) (hp : gH) (h : f_O_cost_79 o e a k49 x4 x5 x6 x7 x8 s0 s1 hp = some (r, h9)) : gJ P lay_X 9 79 [(4, .inr (.inr (some x4))), (5, .inr (.inr (some x5))), (6, .inl x6), (7, .inl x7), (8, .inl x8)] [.inl s0, .inl s1] m hp h9 := by
  unfold f_O_cost_79 at h
  refine g_iadd C dX11_cost_79 ?_
  refine g_istore_n C dX11_cost_80 (by decide) ?_
  refine g_aload C dX11_cost_81 rfl ?_
  refine g_iload C dX11_cost_83 rfl ?_
  obtain ⟨q9, hq9, h⟩ := x_bind h
  refine g_callS C dX11_cost_85 (xin_38 _ (List.mem_of_getElem? (i := 6) rfl)) xy_X11_used xt_X11_used (by omega) (by decide) (av := [.inr (.inr (some x4)), .inl x8]) rfl (Nat.le_of_ble_eq_true rfl) (le_O_used hq9) (c_O_used _ hq9) rfl ?_
  refine g_astore C dX11_cost_88 (by decide) ?_
  refine g_iinc C dX11_cost_90 (by decide) rfl ?_
  refine g_goto C 49 dX11_cost_93 (by decide) ?_
  refine g_loc [(3, .inl (s1 + s0)), (4, .inr (.inr (some q9.1))), (5, .inr (.inr (some x5))), (6, .inl x6), (7, .inl (x7 + 1))] ⟨rfl, rfl, rfl, rfl, rfl, trivial⟩ ?_
  exact hk49 _ _ _ _ _ _ h
def f_O_cost_49 (o : Nat) (e : Int) (a : Nat) : Nat → Int → Nat → Nat → Int → Int → gH → Option (Int × gH)
  | 0, _, _, _, _, _, _ => none
  | n + 1, x3, x4, x5, x6, x7, hp =>
     (if xw x7 < xw x6 then (Option.bind (gaN 0 hp x5 x7) fun q7 =>
      (Option.bind (f_O_has x4 q7 hp) fun q8 =>
      (if xw q8 = 0 then f_O_cost_79 o e a (f_O_cost_49 o e a n) x4 x5 x6 x7 q7 3 x3 hp
      else f_O_cost_79 o e a (f_O_cost_49 o e a n) x4 x5 x6 x7 q7 1 x3 hp)))
      else some (x3, hp))
set_option maxRecDepth 1000000 in
set_option maxHeartbeats 4000000 in
theorem t_O_cost_49 {P : gG → Prop} {d : Nat} {m : xM} {r : Int} {h9 : gH} (hd9 : 3 ≤ d) (C : ∀ Γ, P Γ → gX Γ lay_X RX11 cX11_cost 9 d h9) (o : Nat) (e : Int) (a : Nat) (hR : ∀ Γ, P Γ → gRi Γ lay_X cX11_cost r m h9) : ∀ (n : Nat) (x3 : Int) (x4 : Nat) (x5 : Nat) (x6 : Int) (x7 : Int) (hp : gH), f_O_cost_49 o e a n x3 x4 x5 x6 x7 hp = some (r, h9) → gJ P lay_X 9 49 [(3, .inl x3), (4, .inr (.inr (some x4))), (5, .inr (.inr (some x5))), (6, .inl x6), (7, .inl x7)] [] m hp h9 := by
  intro n
  induction n with
  | zero => intro _ _ _ _ _ _ h; cases h
  | succ n ih =>
    intro x3 x4 x5 x6 x7 hp h
    rw [f_O_cost_49] at h
    refine g_iload C dX11_cost_49 rfl ?_
    refine g_iload C dX11_cost_51 rfl ?_
    refine g_icmp_ge C 96 dX11_cost_53 (by decide) h (fun h => ?_) (fun h => ?_)
    · refine g_iload_n C dX11_cost_96 rfl ?_
      exact g_ireturn hR dX11_cost_97 (by cases h; exact ⟨rfl, rfl, rfl⟩)
    · refine g_aload C dX11_cost_56 rfl ?_
      refine g_iload C dX11_cost_58 rfl ?_
      obtain ⟨q7, hq7, h⟩ := x_bind h
      refine g_iaload C dX11_cost_60 hq7 ?_
      refine g_istore C dX11_cost_61 (by decide) ?_
      refine g_iload_n C dX11_cost_63 rfl ?_
      refine g_aload C dX11_cost_64 rfl ?_
      refine g_iload C dX11_cost_66 rfl ?_
      obtain ⟨q8, hq8, h⟩ := x_bind h
      refine g_callS C dX11_cost_68 (xin_39 _ (List.mem_of_getElem? (i := 11) rfl)) xy_X11_has xt_X11_has (by omega) (by decide) (av := [.inr (.inr (some x4)), .inl q7]) rfl (Nat.le_of_ble_eq_true rfl) gle.rf (c_O_has _ hq8) rfl ?_
      refine g_if_eq C 78 dX11_cost_71 (by decide) h (fun h => ?_) (fun h => ?_)
      · refine g_iconst C dX11_cost_78 ?_
        refine g_loc [(4, .inr (.inr (some x4))), (5, .inr (.inr (some x5))), (6, .inl x6), (7, .inl x7), (8, .inl q7)] ⟨rfl, rfl, rfl, rfl, rfl, trivial⟩ ?_
        exact t_O_cost_79 hd9 C _ _ _ hR ih _ _ _ _ _ _ _ _ h
      · refine g_iconst C dX11_cost_74 ?_
        refine g_goto C 79 dX11_cost_75 (by decide) ?_
        refine g_loc [(4, .inr (.inr (some x4))), (5, .inr (.inr (some x5))), (6, .inl x6), (7, .inl x7), (8, .inl q7)] ⟨rfl, rfl, rfl, rfl, rfl, trivial⟩ ?_
        exact t_O_cost_79 hd9 C _ _ _ hR ih _ _ _ _ _ _ _ _ h
def f_O_cost_36 (o : Nat) (e : Int) (a : Nat) (x3 : Int) (s0 : Nat) (hp : gH) : Option (Int × gH) :=
     (Option.bind (glc hp a) fun q6 =>
      f_O_cost_49 o e a fu x3 s0 a q6 0 hp)
set_option maxRecDepth 1000000 in
set_option maxHeartbeats 4000000 in
theorem t_O_cost_36 {P : gG → Prop} {d : Nat} {m : xM} {r : Int} {h9 : gH} (hd9 : 3 ≤ d) (C : ∀ Γ, P Γ → gX Γ lay_X RX11 cX11_cost 9 d h9) (o : Nat) (e : Int) (a : Nat) (hR : ∀ Γ, P Γ → gRi Γ lay_X cX11_cost r m h9) (x3 : Int) (s0 : Nat) (hp : gH) (h : f_O_cost_36 o e a x3 s0 hp = some (r, h9)) : gJ P lay_X 9 36 [(2, .inr (.inr (some a))), (3, .inl x3)] [.inr (.inr (some s0))] m hp h9 := by
  unfold f_O_cost_36 at h
  refine g_astore C dX11_cost_36 (by decide) ?_
  refine g_aload_n C dX11_cost_38 rfl ?_
  refine g_astore C dX11_cost_39 (by decide) ?_
  refine g_aload C dX11_cost_41 rfl ?_
  obtain ⟨q6, hq6, h⟩ := x_bind h
  refine g_lenC C dX11_cost_43 hq6 ?_
  refine g_istore C dX11_cost_44 (by decide) ?_
  refine g_iconst C dX11_cost_46 ?_
  refine g_istore C dX11_cost_47 (by decide) ?_
  refine g_loc [(3, .inl x3), (4, .inr (.inr (some s0))), (5, .inr (.inr (some a))), (6, .inl q6), (7, .inl 0)] ⟨rfl, rfl, rfl, rfl, rfl, trivial⟩ ?_
  exact t_O_cost_49 hd9 C _ _ _ hR fu _ _ _ _ _ _ h
def f_O_cost_14 (o : Nat) (e : Int) (a : Nat) (s0 : Int) (hp : gH) : Option (Int × gH) :=
     (Option.bind (gfK hp o 27) fun q2 =>
      (Option.bind (gaN 3 hp q2 e) fun q3 =>
      (if xw q3 = 0 then (Option.bind (gfK hp o 20) fun q4 =>
      (Option.bind (gaK 4 hp q4 e) fun q5 =>
      f_O_cost_36 o e a s0 q5 hp))
      else (Option.bind (gNw 0 hp 0) fun q10 =>
      f_O_cost_36 o e a s0 q10.1 q10.2))))
set_option maxRecDepth 1000000 in
set_option maxHeartbeats 4000000 in
theorem t_O_cost_14 {P : gG → Prop} {d : Nat} {m : xM} {r : Int} {h9 : gH} (hd9 : 3 ≤ d) (C : ∀ Γ, P Γ → gX Γ lay_X RX11 cX11_cost 9 d h9) (o : Nat) (e : Int) (a : Nat) (hR : ∀ Γ, P Γ → gRi Γ lay_X cX11_cost r m h9) (s0 : Int) (hp : gH) (h : f_O_cost_14 o e a s0 hp = some (r, h9)) : gJ P lay_X 9 14 [(0, .inr (.inr (some o))), (1, .inl e), (2, .inr (.inr (some a)))] [.inl s0] m hp h9 := by
  unfold f_O_cost_14 at h
  refine g_istore_n C dX11_cost_14 (by decide) ?_
  refine g_aload_n C dX11_cost_15 rfl ?_
  obtain ⟨q2, hq2, h⟩ := x_bind h
  refine g_getK C dX11_cost_16 fF_X11_62 hq2 ?_
  refine g_iload_n C dX11_cost_19 rfl ?_
  obtain ⟨q3, hq3, h⟩ := x_bind h
  refine g_baload C dX11_cost_20 hq3 ?_
  refine g_if_eq C 30 dX11_cost_21 (by decide) h (fun h => ?_) (fun h => ?_)
  · refine g_aload_n C dX11_cost_30 rfl ?_
    obtain ⟨q4, hq4, h⟩ := x_bind h
    refine g_getK C dX11_cost_31 fF_X11_40 hq4 ?_
    refine g_iload_n C dX11_cost_34 rfl ?_
    obtain ⟨q5, hq5, h⟩ := x_bind h
    refine g_aaloadK4 C dX11_cost_35 hq5 ?_
    refine g_loc [(2, .inr (.inr (some a))), (3, .inl s0)] ⟨rfl, rfl, trivial⟩ ?_
    exact t_O_cost_36 hd9 C _ _ _ hR _ _ _ h
  · refine g_iconst C dX11_cost_24 ?_
    obtain ⟨q10, hq10, h⟩ := x_bind h
    refine g_newi C dX11_cost_25 (xin_1 _ (List.mem_of_getElem? (i := 3) rfl)) hq10 ?_
    refine g_goto C 36 dX11_cost_27 (by decide) ?_
    refine g_loc [(2, .inr (.inr (some a))), (3, .inl s0)] ⟨rfl, rfl, trivial⟩ ?_
    exact t_O_cost_36 hd9 C _ _ _ hR _ _ _ h
def f_O_cost (o : Nat) (e : Int) (a : Nat) (hp : gH) : Option (Int × gH) :=
     (Option.bind (gfK hp o 27) fun q0 =>
      (Option.bind (gaN 3 hp q0 e) fun q1 =>
      (if xw q1 = 0 then f_O_cost_14 o e a 4 hp
      else f_O_cost_14 o e a 5 hp)))
set_option maxRecDepth 1000000 in
set_option maxHeartbeats 4000000 in
theorem t_O_cost {P : gG → Prop} {d : Nat} {m : xM} {r : Int} {h9 : gH} (hd9 : 3 ≤ d) (C : ∀ Γ, P Γ → gX Γ lay_X RX11 cX11_cost 9 d h9) (o : Nat) (e : Int) (a : Nat) (hR : ∀ Γ, P Γ → gRi Γ lay_X cX11_cost r m h9) (hp : gH) (h : f_O_cost o e a hp = some (r, h9)) : gJ P lay_X 9 0 [(0, .inr (.inr (some o))), (1, .inl e), (2, .inr (.inr (some a)))] [] m hp h9 := by
  unfold f_O_cost at h
  refine g_aload_n C dX11_cost_0 rfl ?_
  obtain ⟨q0, hq0, h⟩ := x_bind h
  refine g_getK C dX11_cost_1 fF_X11_62 hq0 ?_
  refine g_iload_n C dX11_cost_4 rfl ?_
  obtain ⟨q1, hq1, h⟩ := x_bind h
  refine g_baload C dX11_cost_5 hq1 ?_
  refine g_if_eq C 13 dX11_cost_6 (by decide) h (fun h => ?_) (fun h => ?_)
  · refine g_iconst C dX11_cost_13 ?_
    refine g_loc [(0, .inr (.inr (some o))), (1, .inl e), (2, .inr (.inr (some a)))] ⟨rfl, rfl, rfl, trivial⟩ ?_
    exact t_O_cost_14 hd9 C _ _ _ hR _ _ h
  · refine g_iconst C dX11_cost_9 ?_
    refine g_goto C 14 dX11_cost_10 (by decide) ?_
    refine g_loc [(0, .inr (.inr (some o))), (1, .inl e), (2, .inr (.inr (some a)))] ⟨rfl, rfl, rfl, trivial⟩ ?_
    exact t_O_cost_14 hd9 C _ _ _ hR _ _ h
theorem c_O_cost {o : Nat} {e : Int} {a : Nat} (m : xM) {r : Int} {hp h9 : gH} (h : f_O_cost o e a hp = some (r, h9)) (l : Launch) : gMet l yX11_cost cX11_cost 9 (some .int) 3 lay_X [.inr (.inr (some o)), .inl e, .inr (.inr (some a))] m hp (some (.inl r)) m h9 :=
  gMet_i (by decide +kernel) (Nat.le_of_ble_eq_true rfl) (fun P C hR => t_O_cost (Nat.le_refl _) C _ _ _ hR hp h)
theorem le_O_cost {o : Nat} {e : Int} {a : Nat} {r : Int} {hp h9 : gH} (h : f_O_cost o e a hp = some (r, h9)) : gle hp h9 :=
  (t_O_cost (P := fun _ => False) (m := fun _ _ => 0) (Nat.le_refl _) (fun _ q => q.elim) _ _ _ (fun _ q => q.elim) hp h).1
/-! ===== yX11_bytes ===== -/
theorem xy_X11_part : xY yX11_part cX11_part 5 (some (.array .int)) 3 := ⟨(xin_39 _ (List.mem_of_getElem? (i := 2) rfl)), (xin_33 _ (List.mem_of_getElem? (i := 5) rfl)), by decide, by decide, by decide +kernel⟩
theorem xt_X11_part : Cond.static yX11_part ∈ wsL_law := (xin_39 _ (List.mem_of_getElem? (i := 1) rfl))
theorem dX11_bytes_0 : decode cX11_bytes 0 = .ok (.aload_n 0, 1) := by decide +kernel
theorem dX11_bytes_1 : decode cX11_bytes 1 = .ok (.iconst 3, 1) := by decide +kernel
theorem dX11_bytes_2 : decode cX11_bytes 2 = .ok (.aload_n 0, 1) := by decide +kernel
theorem dX11_bytes_3 : decode cX11_bytes 3 = .ok (.arraylength, 1) := by decide +kernel
theorem dX11_bytes_4 : decode cX11_bytes 4 = .ok (.invokestatic 128, 3) := by decide +kernel
theorem dX11_bytes_7 : decode cX11_bytes 7 = .ok (.areturn, 1) := by decide +kernel
def f_O_bytes (a : Nat) (hp : gH) : Option (Nat × gH) :=
     (Option.bind (glc hp a) fun q0 =>
      (Option.bind (f_O_part a 3 q0 hp) fun q1 =>
      some (q1.1, q1.2)))
set_option maxRecDepth 1000000 in
set_option maxHeartbeats 4000000 in
theorem t_O_bytes {P : gG → Prop} {d : Nat} {m : xM} {r : Nat} {h9 : gH} (hd9 : 2 ≤ d) (C : ∀ Γ, P Γ → gX Γ lay_X RX11 cX11_bytes 1 d h9) (a : Nat) (hR : ∀ Γ, P Γ → gRa Γ lay_X cX11_bytes r m h9) (hp : gH) (h : f_O_bytes a hp = some (r, h9)) : gJ P lay_X 1 0 [(0, .inr (.inr (some a)))] [] m hp h9 := by
  unfold f_O_bytes at h
  refine g_aload_n C dX11_bytes_0 rfl ?_
  refine g_iconst C dX11_bytes_1 ?_
  refine g_aload_n C dX11_bytes_2 rfl ?_
  obtain ⟨q0, hq0, h⟩ := x_bind h
  refine g_lenC C dX11_bytes_3 hq0 ?_
  obtain ⟨q1, hq1, h⟩ := x_bind h
  refine g_callS C dX11_bytes_4 (xin_39 _ (List.mem_of_getElem? (i := 0) rfl)) xy_X11_part xt_X11_part (by omega) (by decide) (av := [.inr (.inr (some a)), .inl 3, .inl q0]) rfl (Nat.le_of_ble_eq_true rfl) (le_O_part hq1) (c_O_part _ hq1) rfl ?_
  exact g_areturn hR dX11_bytes_7 (by cases h; exact ⟨rfl, rfl, rfl⟩)
theorem c_O_bytes {a : Nat} (m : xM) {r : Nat} {hp h9 : gH} (h : f_O_bytes a hp = some (r, h9)) (l : Launch) : gMet l yX11_bytes cX11_bytes 1 (some (.array .int)) 2 lay_X [.inr (.inr (some a))] m hp (some (.inr (.inr (some r)))) m h9 :=
  gMet_a (by first | exact Or.inl ⟨_, rfl⟩ | exact Or.inr ⟨_, rfl⟩) (by decide +kernel) (Nat.le_of_ble_eq_true rfl) (fun P C hR => t_O_bytes (Nat.le_refl _) C _ hR hp h)
theorem le_O_bytes {a : Nat} {r : Nat} {hp h9 : gH} (h : f_O_bytes a hp = some (r, h9)) : gle hp h9 :=
  (t_O_bytes (P := fun _ => False) (m := fun _ _ => 0) (Nat.le_refl _) (fun _ q => q.elim) _ (fun _ q => q.elim) hp h).1
/-! ===== yX11_more ===== -/
theorem dX11_more_0 : decode cX11_more 0 = .ok (.aload_n 0, 1) := by decide +kernel
theorem dX11_more_1 : decode cX11_more 1 = .ok (.arraylength, 1) := by decide +kernel
theorem dX11_more_2 : decode cX11_more 2 = .ok (.iconst 1, 1) := by decide +kernel
theorem dX11_more_3 : decode cX11_more 3 = .ok (.iadd, 1) := by decide +kernel
theorem dX11_more_4 : decode cX11_more 4 = .ok (.anewarray 70, 3) := by decide +kernel
theorem dX11_more_7 : decode cX11_more 7 = .ok (.astore_n 2, 1) := by decide +kernel
theorem dX11_more_8 : decode cX11_more 8 = .ok (.iconst 0, 1) := by decide +kernel
theorem dX11_more_9 : decode cX11_more 9 = .ok (.istore_n 3, 1) := by decide +kernel
theorem dX11_more_10 : decode cX11_more 10 = .ok (.iload_n 3, 1) := by decide +kernel
theorem dX11_more_11 : decode cX11_more 11 = .ok (.aload_n 0, 1) := by decide +kernel
theorem dX11_more_12 : decode cX11_more 12 = .ok (.arraylength, 1) := by decide +kernel
theorem dX11_more_13 : decode cX11_more 13 = .ok (.if_icmp .ge 15, 3) := by decide +kernel
theorem dX11_more_16 : decode cX11_more 16 = .ok (.aload_n 2, 1) := by decide +kernel
theorem dX11_more_17 : decode cX11_more 17 = .ok (.iload_n 3, 1) := by decide +kernel
theorem dX11_more_18 : decode cX11_more 18 = .ok (.aload_n 0, 1) := by decide +kernel
theorem dX11_more_19 : decode cX11_more 19 = .ok (.iload_n 3, 1) := by decide +kernel
theorem dX11_more_20 : decode cX11_more 20 = .ok (.aaload, 1) := by decide +kernel
theorem dX11_more_21 : decode cX11_more 21 = .ok (.aastore, 1) := by decide +kernel
theorem dX11_more_22 : decode cX11_more 22 = .ok (.iinc 3 1, 3) := by decide +kernel
theorem dX11_more_25 : decode cX11_more 25 = .ok (.goto (-15), 3) := by decide +kernel
theorem dX11_more_28 : decode cX11_more 28 = .ok (.aload_n 2, 1) := by decide +kernel
theorem dX11_more_29 : decode cX11_more 29 = .ok (.aload_n 0, 1) := by decide +kernel
theorem dX11_more_30 : decode cX11_more 30 = .ok (.arraylength, 1) := by decide +kernel
theorem dX11_more_31 : decode cX11_more 31 = .ok (.aload_n 1, 1) := by decide +kernel
theorem dX11_more_32 : decode cX11_more 32 = .ok (.aastore, 1) := by decide +kernel
theorem dX11_more_33 : decode cX11_more 33 = .ok (.aload_n 2, 1) := by decide +kernel
theorem dX11_more_34 : decode cX11_more 34 = .ok (.areturn, 1) := by decide +kernel
def f_O_more_28 (a : Nat) (f : Nat) (x2 : Nat) (hp : gH) : Option (Nat × gH) :=
     (Option.bind (glc hp a) fun q3 =>
      (Option.bind (gsQ 4 hp x2 q3 (some f)) fun q4 =>
      some (x2, q4)))
set_option maxRecDepth 1000000 in
set_option maxHeartbeats 4000000 in
theorem t_O_more_28 {P : gG → Prop} {d : Nat} {m : xM} {r : Nat} {h9 : gH} (hd9 : 1 ≤ d) (C : ∀ Γ, P Γ → gX Γ lay_X RX11 cX11_more 4 d h9) (a : Nat) (f : Nat) (hR : ∀ Γ, P Γ → gRa Γ lay_X cX11_more r m h9) (x2 : Nat) (hp : gH) (h : f_O_more_28 a f x2 hp = some (r, h9)) : gJ P lay_X 4 28 [(0, .inr (.inr (some a))), (1, .inr (.inr (some f))), (2, .inr (.inr (some x2)))] [] m hp h9 := by
  unfold f_O_more_28 at h
  refine g_aload_n C dX11_more_28 rfl ?_
  refine g_aload_n C dX11_more_29 rfl ?_
  obtain ⟨q3, hq3, h⟩ := x_bind h
  refine g_lenC C dX11_more_30 hq3 ?_
  refine g_aload_n C dX11_more_31 rfl ?_
  obtain ⟨q4, hq4, h⟩ := x_bind h
  refine g_aastore4 C dX11_more_32 hq4 ?_
  refine g_aload_n C dX11_more_33 rfl ?_
  exact g_areturn hR dX11_more_34 (by cases h; exact ⟨rfl, rfl, rfl⟩)
def f_O_more_10 (a : Nat) (f : Nat) : Nat → Nat → Int → gH → Option (Nat × gH)
  | 0, _, _, _ => none
  | n + 1, x2, x3, hp =>
     (Option.bind (glc hp a) fun q2 =>
      (if xw x3 < xw q2 then (Option.bind (gaK 4 hp a x3) fun q5 =>
      (Option.bind (gsQ 4 hp x2 x3 (some q5)) fun q6 =>
      f_O_more_10 a f n x2 (x3 + 1) q6))
      else f_O_more_28 a f x2 hp))
set_option maxRecDepth 1000000 in
set_option maxHeartbeats 4000000 in
theorem t_O_more_10 {P : gG → Prop} {d : Nat} {m : xM} {r : Nat} {h9 : gH} (hd9 : 1 ≤ d) (C : ∀ Γ, P Γ → gX Γ lay_X RX11 cX11_more 4 d h9) (a : Nat) (f : Nat) (hR : ∀ Γ, P Γ → gRa Γ lay_X cX11_more r m h9) : ∀ (n : Nat) (x2 : Nat) (x3 : Int) (hp : gH), f_O_more_10 a f n x2 x3 hp = some (r, h9) → gJ P lay_X 4 10 [(0, .inr (.inr (some a))), (1, .inr (.inr (some f))), (2, .inr (.inr (some x2))), (3, .inl x3)] [] m hp h9 := by
  intro n
  induction n with
  | zero => intro _ _ _ h; cases h
  | succ n ih =>
    intro x2 x3 hp h
    rw [f_O_more_10] at h
    refine g_iload_n C dX11_more_10 rfl ?_
    refine g_aload_n C dX11_more_11 rfl ?_
    obtain ⟨q2, hq2, h⟩ := x_bind h
    refine g_lenC C dX11_more_12 hq2 ?_
    refine g_icmp_ge C 28 dX11_more_13 (by decide) h (fun h => ?_) (fun h => ?_)
    · refine g_loc [(0, .inr (.inr (some a))), (1, .inr (.inr (some f))), (2, .inr (.inr (some x2)))] ⟨rfl, rfl, rfl, trivial⟩ ?_
      exact t_O_more_28 hd9 C _ _ hR _ _ h
    · refine g_aload_n C dX11_more_16 rfl ?_
      refine g_iload_n C dX11_more_17 rfl ?_
      refine g_aload_n C dX11_more_18 rfl ?_
      refine g_iload_n C dX11_more_19 rfl ?_
      obtain ⟨q5, hq5, h⟩ := x_bind h
      refine g_aaloadK4 C dX11_more_20 hq5 ?_
      obtain ⟨q6, hq6, h⟩ := x_bind h
      refine g_aastore4 C dX11_more_21 hq6 ?_
      refine g_iinc C dX11_more_22 (by decide) rfl ?_
      refine g_goto C 10 dX11_more_25 (by decide) ?_
      refine g_loc [(0, .inr (.inr (some a))), (1, .inr (.inr (some f))), (2, .inr (.inr (some x2))), (3, .inl (x3 + 1))] ⟨rfl, rfl, rfl, rfl, trivial⟩ ?_
      exact ih _ _ _ h
def f_O_more (a : Nat) (f : Nat) (hp : gH) : Option (Nat × gH) :=
     (Option.bind (glc hp a) fun q0 =>
      (Option.bind (gNq 4 hp (q0 + 1)) fun q1 =>
      f_O_more_10 a f fu q1.1 0 q1.2))
set_option maxRecDepth 1000000 in
set_option maxHeartbeats 4000000 in
theorem t_O_more {P : gG → Prop} {d : Nat} {m : xM} {r : Nat} {h9 : gH} (hd9 : 1 ≤ d) (C : ∀ Γ, P Γ → gX Γ lay_X RX11 cX11_more 4 d h9) (a : Nat) (f : Nat) (hR : ∀ Γ, P Γ → gRa Γ lay_X cX11_more r m h9) (hp : gH) (h : f_O_more a f hp = some (r, h9)) : gJ P lay_X 4 0 [(0, .inr (.inr (some a))), (1, .inr (.inr (some f)))] [] m hp h9 := by
  unfold f_O_more at h
  refine g_aload_n C dX11_more_0 rfl ?_
  obtain ⟨q0, hq0, h⟩ := x_bind h
  refine g_lenC C dX11_more_1 hq0 ?_
  refine g_iconst C dX11_more_2 ?_
  refine g_iadd C dX11_more_3 ?_
  obtain ⟨q1, hq1, h⟩ := x_bind h
  refine g_newQ C dX11_more_4 (xin_34 _ (List.mem_of_getElem? (i := 5) rfl)) hq1 ?_
  refine g_astore_n C dX11_more_7 (by decide) ?_
  refine g_iconst C dX11_more_8 ?_
  refine g_istore_n C dX11_more_9 (by decide) ?_
  refine g_loc [(0, .inr (.inr (some a))), (1, .inr (.inr (some f))), (2, .inr (.inr (some q1.1))), (3, .inl 0)] ⟨rfl, rfl, rfl, rfl, trivial⟩ ?_
  exact t_O_more_10 hd9 C _ _ hR fu _ _ _ h
theorem c_O_more {a : Nat} {f : Nat} (m : xM) {r : Nat} {hp h9 : gH} (h : f_O_more a f hp = some (r, h9)) (l : Launch) : gMet l yX11_more cX11_more 4 (some (.array (.array .int))) 1 lay_X [.inr (.inr (some a)), .inr (.inr (some f))] m hp (some (.inr (.inr (some r)))) m h9 :=
  gMet_a (by first | exact Or.inl ⟨_, rfl⟩ | exact Or.inr ⟨_, rfl⟩) (by decide +kernel) (Nat.le_of_ble_eq_true rfl) (fun P C hR => t_O_more (Nat.le_refl _) C _ _ hR hp h)
theorem le_O_more {a : Nat} {f : Nat} {r : Nat} {hp h9 : gH} (h : f_O_more a f hp = some (r, h9)) : gle hp h9 :=
  (t_O_more (P := fun _ => False) (m := fun _ _ => 0) (Nat.le_refl _) (fun _ q => q.elim) _ _ (fun _ q => q.elim) hp h).1
/-! ===== yX11_forget ===== -/
theorem fF_X11_67 : xF RX11 67 12 28 (.array (.array (.array .int))) false := ⟨RX11, TX11, 31, tyX11, rfl, by decide, (xin_34 _ (List.mem_of_getElem? (i := 4) rfl)), rfl, inlX11, tyX11_ok, nmX11, rfl, rfl⟩
theorem xy_X11_more : xY yX11_more cX11_more 4 (some (.array (.array .int))) 2 := ⟨(xin_37 _ (List.mem_of_getElem? (i := 13) rfl)), (xin_33 _ (List.mem_of_getElem? (i := 5) rfl)), by decide, by decide, by decide +kernel⟩
theorem xt_X11_more : Cond.static yX11_more ∈ wsL_law := (xin_37 _ (List.mem_of_getElem? (i := 12) rfl))
theorem dX11_forget_0 : decode cX11_forget 0 = .ok (.iconst 0, 1) := by decide +kernel
theorem dX11_forget_1 : decode cX11_forget 1 = .ok (.anewarray 70, 3) := by decide +kernel
theorem dX11_forget_4 : decode cX11_forget 4 = .ok (.astore_n 3, 1) := by decide +kernel
theorem dX11_forget_5 : decode cX11_forget 5 = .ok (.aload_n 0, 1) := by decide +kernel
theorem dX11_forget_6 : decode cX11_forget 6 = .ok (.getfield 67, 3) := by decide +kernel
theorem dX11_forget_9 : decode cX11_forget 9 = .ok (.iload_n 1, 1) := by decide +kernel
theorem dX11_forget_10 : decode cX11_forget 10 = .ok (.aaload, 1) := by decide +kernel
theorem dX11_forget_11 : decode cX11_forget 11 = .ok (.astore 4, 2) := by decide +kernel
theorem dX11_forget_13 : decode cX11_forget 13 = .ok (.aload 4, 2) := by decide +kernel
theorem dX11_forget_15 : decode cX11_forget 15 = .ok (.arraylength, 1) := by decide +kernel
theorem dX11_forget_16 : decode cX11_forget 16 = .ok (.istore 5, 2) := by decide +kernel
theorem dX11_forget_18 : decode cX11_forget 18 = .ok (.iconst 0, 1) := by decide +kernel
theorem dX11_forget_19 : decode cX11_forget 19 = .ok (.istore 6, 2) := by decide +kernel
theorem dX11_forget_21 : decode cX11_forget 21 = .ok (.iload 6, 2) := by decide +kernel
theorem dX11_forget_23 : decode cX11_forget 23 = .ok (.iload 5, 2) := by decide +kernel
theorem dX11_forget_25 : decode cX11_forget 25 = .ok (.if_icmp .ge 31, 3) := by decide +kernel
theorem dX11_forget_28 : decode cX11_forget 28 = .ok (.aload 4, 2) := by decide +kernel
theorem dX11_forget_30 : decode cX11_forget 30 = .ok (.iload 6, 2) := by decide +kernel
theorem dX11_forget_32 : decode cX11_forget 32 = .ok (.aaload, 1) := by decide +kernel
theorem dX11_forget_33 : decode cX11_forget 33 = .ok (.astore 7, 2) := by decide +kernel
theorem dX11_forget_35 : decode cX11_forget 35 = .ok (.aload 7, 2) := by decide +kernel
theorem dX11_forget_37 : decode cX11_forget 37 = .ok (.iconst 0, 1) := by decide +kernel
theorem dX11_forget_38 : decode cX11_forget 38 = .ok (.iaload, 1) := by decide +kernel
theorem dX11_forget_39 : decode cX11_forget 39 = .ok (.iload_n 2, 1) := by decide +kernel
theorem dX11_forget_40 : decode cX11_forget 40 = .ok (.if_icmp .eq 10, 3) := by decide +kernel
theorem dX11_forget_43 : decode cX11_forget 43 = .ok (.aload_n 3, 1) := by decide +kernel
theorem dX11_forget_44 : decode cX11_forget 44 = .ok (.aload 7, 2) := by decide +kernel
theorem dX11_forget_46 : decode cX11_forget 46 = .ok (.invokestatic 132, 3) := by decide +kernel
theorem dX11_forget_49 : decode cX11_forget 49 = .ok (.astore_n 3, 1) := by decide +kernel
theorem dX11_forget_50 : decode cX11_forget 50 = .ok (.iinc 6 1, 3) := by decide +kernel
theorem dX11_forget_53 : decode cX11_forget 53 = .ok (.goto (-32), 3) := by decide +kernel
theorem dX11_forget_56 : decode cX11_forget 56 = .ok (.aload_n 0, 1) := by decide +kernel
theorem dX11_forget_57 : decode cX11_forget 57 = .ok (.getfield 67, 3) := by decide +kernel
theorem dX11_forget_60 : decode cX11_forget 60 = .ok (.iload_n 1, 1) := by decide +kernel
theorem dX11_forget_61 : decode cX11_forget 61 = .ok (.aload_n 3, 1) := by decide +kernel
theorem dX11_forget_62 : decode cX11_forget 62 = .ok (.aastore, 1) := by decide +kernel
theorem dX11_forget_63 : decode cX11_forget 63 = .ok (.return_, 1) := by decide +kernel
def f_O_forget_56 (o : Nat) (e : Int) (n0 : Int) (x3 : Nat) (hp : gH) : Option (gH) :=
     (Option.bind (gfK hp o 28) fun q4 =>
      (Option.bind (gsQ 5 hp q4 e (some x3)) fun q5 =>
      some q5))
set_option maxRecDepth 1000000 in
set_option maxHeartbeats 4000000 in
theorem t_O_forget_56 {P : gG → Prop} {d : Nat} {m : xM} {h9 : gH} (hd9 : 2 ≤ d) (C : ∀ Γ, P Γ → gX Γ lay_X RX11 cX11_forget 8 d h9) (o : Nat) (e : Int) (n0 : Int) (hR : ∀ Γ, P Γ → gRv Γ lay_X cX11_forget m h9) (x3 : Nat) (hp : gH) (h : f_O_forget_56 o e n0 x3 hp = some h9) : gJ P lay_X 8 56 [(0, .inr (.inr (some o))), (1, .inl e), (3, .inr (.inr (some x3)))] [] m hp h9 := by
  unfold f_O_forget_56 at h
  refine g_aload_n C dX11_forget_56 rfl ?_
  obtain ⟨q4, hq4, h⟩ := x_bind h
  refine g_getK C dX11_forget_57 fF_X11_67 hq4 ?_
  refine g_iload_n C dX11_forget_60 rfl ?_
  refine g_aload_n C dX11_forget_61 rfl ?_
  obtain ⟨q5, hq5, h⟩ := x_bind h
  refine g_aastore5 C dX11_forget_62 hq5 ?_
  exact g_return hR dX11_forget_63 (by cases h; exact ⟨rfl, rfl⟩)
def f_O_forget_50 (o : Nat) (e : Int) (n0 : Int) (k21 : Nat → Nat → Int → Int → gH → Option (gH)) (x3 : Nat) (x4 : Nat) (x5 : Int) (x6 : Int) (hp : gH) : Option (gH) :=
     k21 x3 x4 x5 (x6 + 1) hp
set_option maxRecDepth 1000000 in
set_option maxHeartbeats 4000000 in
theorem t_O_forget_50 {P : gG → Prop} {d : Nat} {m : xM} {h9 : gH} (hd9 : 2 ≤ d) (C : ∀ Γ, P Γ → gX Γ lay_X RX11 cX11_forget 8 d h9) (o : Nat) (e : Int) (n0 : Int) (hR : ∀ Γ, P Γ → gRv Γ lay_X cX11_forget m h9) {k21 : Nat → Nat → Int → Int → gH → Option (gH)} (hk21 : ∀ (x3 : Nat) (x4 : Nat) (x5 : Int) (x6 : Int) (hp : gH), k21 x3 x4 x5 x6 hp = some h9 → gJ P lay_X 8 21 [(0, .inr (.inr (some o))), (1, .inl e), (2, .inl n0), (3, .inr (.inr (some x3))), (4, .inr (.inr (some x4))), (5, .inl x5), (6, .inl x6)] [] m hp h9) (x3 : Nat) (x4 : Nat) (x5 : Int) (x6 : Int) (hp : gH) (h : f_O_forget_50 o e n0 k21 x3 x4 x5 x6 hp = some h9) : gJ P lay_X 8 50 [(0, .inr (.inr (some o))), (1, .inl e), (2, .inl n0), (3, .inr (.inr (some x3))), (4, .inr (.inr (some x4))), (5, .inl x5), (6, .inl x6)] [] m hp h9 := by
  unfold f_O_forget_50 at h
  refine g_iinc C dX11_forget_50 (by decide) rfl ?_
  refine g_goto C 21 dX11_forget_53 (by decide) ?_
  refine g_loc [(0, .inr (.inr (some o))), (1, .inl e), (2, .inl n0), (3, .inr (.inr (some x3))), (4, .inr (.inr (some x4))), (5, .inl x5), (6, .inl (x6 + 1))] ⟨rfl, rfl, rfl, rfl, rfl, rfl, rfl, trivial⟩ ?_
  exact hk21 _ _ _ _ _ h
def f_O_forget_21 (o : Nat) (e : Int) (n0 : Int) : Nat → Nat → Nat → Int → Int → gH → Option (gH)
  | 0, _, _, _, _, _ => none
  | n + 1, x3, x4, x5, x6, hp =>
     (if xw x6 < xw x5 then (Option.bind (gaK 4 hp x4 x6) fun q6 =>
      (Option.bind (gaN 0 hp q6 0) fun q7 =>
      (if xw q7 = xw n0 then f_O_forget_50 o e n0 (f_O_forget_21 o e n0 n) x3 x4 x5 x6 hp
      else (Option.bind (f_O_more x3 q6 hp) fun q8 =>
      f_O_forget_50 o e n0 (f_O_forget_21 o e n0 n) q8.1 x4 x5 x6 q8.2))))
      else f_O_forget_56 o e n0 x3 hp)
set_option maxRecDepth 1000000 in
set_option maxHeartbeats 4000000 in
theorem t_O_forget_21 {P : gG → Prop} {d : Nat} {m : xM} {h9 : gH} (hd9 : 2 ≤ d) (C : ∀ Γ, P Γ → gX Γ lay_X RX11 cX11_forget 8 d h9) (o : Nat) (e : Int) (n0 : Int) (hR : ∀ Γ, P Γ → gRv Γ lay_X cX11_forget m h9) : ∀ (n : Nat) (x3 : Nat) (x4 : Nat) (x5 : Int) (x6 : Int) (hp : gH), f_O_forget_21 o e n0 n x3 x4 x5 x6 hp = some h9 → gJ P lay_X 8 21 [(0, .inr (.inr (some o))), (1, .inl e), (2, .inl n0), (3, .inr (.inr (some x3))), (4, .inr (.inr (some x4))), (5, .inl x5), (6, .inl x6)] [] m hp h9 := by
  intro n
  induction n with
  | zero => intro _ _ _ _ _ h; cases h
  | succ n ih =>
    intro x3 x4 x5 x6 hp h
    rw [f_O_forget_21] at h
    refine g_iload C dX11_forget_21 rfl ?_
    refine g_iload C dX11_forget_23 rfl ?_
    refine g_icmp_ge C 56 dX11_forget_25 (by decide) h (fun h => ?_) (fun h => ?_)
    · refine g_loc [(0, .inr (.inr (some o))), (1, .inl e), (3, .inr (.inr (some x3)))] ⟨rfl, rfl, rfl, trivial⟩ ?_
      exact t_O_forget_56 hd9 C _ _ _ hR _ _ h
    · refine g_aload C dX11_forget_28 rfl ?_
      refine g_iload C dX11_forget_30 rfl ?_
      obtain ⟨q6, hq6, h⟩ := x_bind h
      refine g_aaloadK4 C dX11_forget_32 hq6 ?_
      refine g_astore C dX11_forget_33 (by decide) ?_
      refine g_aload C dX11_forget_35 rfl ?_
      refine g_iconst C dX11_forget_37 ?_
      obtain ⟨q7, hq7, h⟩ := x_bind h
      refine g_iaload C dX11_forget_38 hq7 ?_
      refine g_iload_n C dX11_forget_39 rfl ?_
      refine g_icmp_eq C 50 dX11_forget_40 (by decide) h (fun h => ?_) (fun h => ?_)
      · refine g_loc [(0, .inr (.inr (some o))), (1, .inl e), (2, .inl n0), (3, .inr (.inr (some x3))), (4, .inr (.inr (some x4))), (5, .inl x5), (6, .inl x6)] ⟨rfl, rfl, rfl, rfl, rfl, rfl, rfl, trivial⟩ ?_
        exact t_O_forget_50 hd9 C _ _ _ hR ih _ _ _ _ _ h
      · refine g_aload_n C dX11_forget_43 rfl ?_
        refine g_aload C dX11_forget_44 rfl ?_
        obtain ⟨q8, hq8, h⟩ := x_bind h
        refine g_callS C dX11_forget_46 (xin_37 _ (List.mem_of_getElem? (i := 11) rfl)) xy_X11_more xt_X11_more (by omega) (by decide) (av := [.inr (.inr (some x3)), .inr (.inr (some q6))]) rfl (Nat.le_of_ble_eq_true rfl) (le_O_more hq8) (c_O_more _ hq8) rfl ?_
        refine g_astore_n C dX11_forget_49 (by decide) ?_
        refine g_loc [(0, .inr (.inr (some o))), (1, .inl e), (2, .inl n0), (3, .inr (.inr (some q8.1))), (4, .inr (.inr (some x4))), (5, .inl x5), (6, .inl x6)] ⟨rfl, rfl, rfl, rfl, rfl, rfl, rfl, trivial⟩ ?_
        exact t_O_forget_50 hd9 C _ _ _ hR ih _ _ _ _ _ h
def f_O_forget (o : Nat) (e : Int) (n0 : Int) (hp : gH) : Option (gH) :=
     (Option.bind (gNq 4 hp 0) fun q0 =>
      (Option.bind (gfK q0.2 o 28) fun q1 =>
      (Option.bind (gaK 5 q0.2 q1 e) fun q2 =>
      (Option.bind (glc q0.2 q2) fun q3 =>
      f_O_forget_21 o e n0 fu q0.1 q2 q3 0 q0.2))))
set_option maxRecDepth 1000000 in
set_option maxHeartbeats 4000000 in
theorem t_O_forget {P : gG → Prop} {d : Nat} {m : xM} {h9 : gH} (hd9 : 2 ≤ d) (C : ∀ Γ, P Γ → gX Γ lay_X RX11 cX11_forget 8 d h9) (o : Nat) (e : Int) (n0 : Int) (hR : ∀ Γ, P Γ → gRv Γ lay_X cX11_forget m h9) (hp : gH) (h : f_O_forget o e n0 hp = some h9) : gJ P lay_X 8 0 [(0, .inr (.inr (some o))), (1, .inl e), (2, .inl n0)] [] m hp h9 := by
  unfold f_O_forget at h
  refine g_iconst C dX11_forget_0 ?_
  obtain ⟨q0, hq0, h⟩ := x_bind h
  refine g_newQ C dX11_forget_1 (xin_34 _ (List.mem_of_getElem? (i := 5) rfl)) hq0 ?_
  refine g_astore_n C dX11_forget_4 (by decide) ?_
  refine g_aload_n C dX11_forget_5 rfl ?_
  obtain ⟨q1, hq1, h⟩ := x_bind h
  refine g_getK C dX11_forget_6 fF_X11_67 hq1 ?_
  refine g_iload_n C dX11_forget_9 rfl ?_
  obtain ⟨q2, hq2, h⟩ := x_bind h
  refine g_aaloadK5 C dX11_forget_10 hq2 ?_
  refine g_astore C dX11_forget_11 (by decide) ?_
  refine g_aload C dX11_forget_13 rfl ?_
  obtain ⟨q3, hq3, h⟩ := x_bind h
  refine g_lenC C dX11_forget_15 hq3 ?_
  refine g_istore C dX11_forget_16 (by decide) ?_
  refine g_iconst C dX11_forget_18 ?_
  refine g_istore C dX11_forget_19 (by decide) ?_
  refine g_loc [(0, .inr (.inr (some o))), (1, .inl e), (2, .inl n0), (3, .inr (.inr (some q0.1))), (4, .inr (.inr (some q2))), (5, .inl q3), (6, .inl 0)] ⟨rfl, rfl, rfl, rfl, rfl, rfl, rfl, trivial⟩ ?_
  exact t_O_forget_21 hd9 C _ _ _ hR fu _ _ _ _ _ h
theorem c_O_forget {o : Nat} {e : Int} {n0 : Int} (m : xM) {hp h9 : gH} (h : f_O_forget o e n0 hp = some h9) (l : Launch) : gMet l yX11_forget cX11_forget 8 none 2 lay_X [.inr (.inr (some o)), .inl e, .inl n0] m hp none m h9 :=
  gMet_v (by decide +kernel) (Nat.le_of_ble_eq_true rfl) (fun P C hR => t_O_forget (Nat.le_refl _) C _ _ _ hR hp h)
theorem le_O_forget {o : Nat} {e : Int} {n0 : Int} {hp h9 : gH} (h : f_O_forget o e n0 hp = some h9) : gle hp h9 :=
  (t_O_forget (P := fun _ => False) (m := fun _ _ => 0) (Nat.le_refl _) (fun _ q => q.elim) _ _ _ (fun _ q => q.elim) hp h).1

/-! ===== yX11_tell ===== -/
theorem fF_X11_105 : xF RX11 105 12 10 .int false := ⟨RX11, TX11, 31, tyX11, rfl, by decide, (xin_36 _ (List.mem_of_getElem? (i := 23) rfl)), rfl, inlX11, tyX11_ok, nmX11, rfl, rfl⟩
theorem fF_X11_74 : xF RX11 74 12 30 (.array (.array .int)) false := ⟨RX11, TX11, 31, tyX11, rfl, by decide, (xin_34 _ (List.mem_of_getElem? (i := 7) rfl)), rfl, inlX11, tyX11_ok, nmX11, rfl, rfl⟩
theorem fF_X11_78 : xF RX11 78 12 0 .int false := ⟨RX11, TX11, 31, tyX11, rfl, by decide, (xin_36 _ (List.mem_of_getElem? (i := 9) rfl)), rfl, inlX11, tyX11_ok, nmX11, rfl, rfl⟩
theorem fF_X11_81 : xF RX11 81 12 1 .int false := ⟨RX11, TX11, 31, tyX11, rfl, by decide, (xin_36 _ (List.mem_of_getElem? (i := 4) rfl)), rfl, inlX11, tyX11_ok, nmX11, rfl, rfl⟩
theorem fF_X11_84 : xF RX11 84 12 3 .int false := ⟨RX11, TX11, 31, tyX11, rfl, by decide, (xin_37 _ (List.mem_of_getElem? (i := 0) rfl)), rfl, inlX11, tyX11_ok, nmX11, rfl, rfl⟩
theorem dX11_tell_0 : decode cX11_tell 0 = .ok (.aload_n 0, 1) := by decide +kernel
theorem dX11_tell_1 : decode cX11_tell 1 = .ok (.getfield 105, 3) := by decide +kernel
theorem dX11_tell_4 : decode cX11_tell 4 = .ok (.bipush 60, 2) := by decide +kernel
theorem dX11_tell_6 : decode cX11_tell 6 = .ok (.if_icmp .ne 41, 3) := by decide +kernel
theorem dX11_tell_9 : decode cX11_tell 9 = .ok (.iconst 1, 1) := by decide +kernel
theorem dX11_tell_10 : decode cX11_tell 10 = .ok (.istore_n 3, 1) := by decide +kernel
theorem dX11_tell_11 : decode cX11_tell 11 = .ok (.iload_n 3, 1) := by decide +kernel
theorem dX11_tell_12 : decode cX11_tell 12 = .ok (.bipush 60, 2) := by decide +kernel
theorem dX11_tell_14 : decode cX11_tell 14 = .ok (.if_icmp .ge 23, 3) := by decide +kernel
theorem dX11_tell_17 : decode cX11_tell 17 = .ok (.aload_n 0, 1) := by decide +kernel
theorem dX11_tell_18 : decode cX11_tell 18 = .ok (.getfield 74, 3) := by decide +kernel
theorem dX11_tell_21 : decode cX11_tell 21 = .ok (.iload_n 3, 1) := by decide +kernel
theorem dX11_tell_22 : decode cX11_tell 22 = .ok (.iconst 1, 1) := by decide +kernel
theorem dX11_tell_23 : decode cX11_tell 23 = .ok (.isub, 1) := by decide +kernel
theorem dX11_tell_24 : decode cX11_tell 24 = .ok (.aload_n 0, 1) := by decide +kernel
theorem dX11_tell_25 : decode cX11_tell 25 = .ok (.getfield 74, 3) := by decide +kernel
theorem dX11_tell_28 : decode cX11_tell 28 = .ok (.iload_n 3, 1) := by decide +kernel
theorem dX11_tell_29 : decode cX11_tell 29 = .ok (.aaload, 1) := by decide +kernel
theorem dX11_tell_30 : decode cX11_tell 30 = .ok (.aastore, 1) := by decide +kernel
theorem dX11_tell_31 : decode cX11_tell 31 = .ok (.iinc 3 1, 3) := by decide +kernel
theorem dX11_tell_34 : decode cX11_tell 34 = .ok (.goto (-23), 3) := by decide +kernel
theorem dX11_tell_37 : decode cX11_tell 37 = .ok (.aload_n 0, 1) := by decide +kernel
theorem dX11_tell_38 : decode cX11_tell 38 = .ok (.dup, 1) := by decide +kernel
theorem dX11_tell_39 : decode cX11_tell 39 = .ok (.getfield 105, 3) := by decide +kernel
theorem dX11_tell_42 : decode cX11_tell 42 = .ok (.iconst 1, 1) := by decide +kernel
theorem dX11_tell_43 : decode cX11_tell 43 = .ok (.isub, 1) := by decide +kernel
theorem dX11_tell_44 : decode cX11_tell 44 = .ok (.putfield 105, 3) := by decide +kernel
theorem dX11_tell_47 : decode cX11_tell 47 = .ok (.aload_n 0, 1) := by decide +kernel
theorem dX11_tell_48 : decode cX11_tell 48 = .ok (.getfield 74, 3) := by decide +kernel
theorem dX11_tell_51 : decode cX11_tell 51 = .ok (.aload_n 0, 1) := by decide +kernel
theorem dX11_tell_52 : decode cX11_tell 52 = .ok (.dup, 1) := by decide +kernel
theorem dX11_tell_53 : decode cX11_tell 53 = .ok (.getfield 105, 3) := by decide +kernel
theorem dX11_tell_56 : decode cX11_tell 56 = .ok (.dup_x1, 1) := by decide +kernel
theorem dX11_tell_57 : decode cX11_tell 57 = .ok (.iconst 1, 1) := by decide +kernel
theorem dX11_tell_58 : decode cX11_tell 58 = .ok (.iadd, 1) := by decide +kernel
theorem dX11_tell_59 : decode cX11_tell 59 = .ok (.putfield 105, 3) := by decide +kernel
theorem dX11_tell_62 : decode cX11_tell 62 = .ok (.iconst 4, 1) := by decide +kernel
theorem dX11_tell_63 : decode cX11_tell 63 = .ok (.newarray .int, 2) := by decide +kernel
theorem dX11_tell_65 : decode cX11_tell 65 = .ok (.dup, 1) := by decide +kernel
theorem dX11_tell_66 : decode cX11_tell 66 = .ok (.iconst 0, 1) := by decide +kernel
theorem dX11_tell_67 : decode cX11_tell 67 = .ok (.aload_n 0, 1) := by decide +kernel
theorem dX11_tell_68 : decode cX11_tell 68 = .ok (.getfield 78, 3) := by decide +kernel
theorem dX11_tell_71 : decode cX11_tell 71 = .ok (.iastore, 1) := by decide +kernel
theorem dX11_tell_72 : decode cX11_tell 72 = .ok (.dup, 1) := by decide +kernel
theorem dX11_tell_73 : decode cX11_tell 73 = .ok (.iconst 1, 1) := by decide +kernel
theorem dX11_tell_74 : decode cX11_tell 74 = .ok (.iload_n 1, 1) := by decide +kernel
theorem dX11_tell_75 : decode cX11_tell 75 = .ok (.iastore, 1) := by decide +kernel
theorem dX11_tell_76 : decode cX11_tell 76 = .ok (.dup, 1) := by decide +kernel
theorem dX11_tell_77 : decode cX11_tell 77 = .ok (.iconst 2, 1) := by decide +kernel
theorem dX11_tell_78 : decode cX11_tell 78 = .ok (.iload_n 2, 1) := by decide +kernel
theorem dX11_tell_79 : decode cX11_tell 79 = .ok (.iastore, 1) := by decide +kernel
theorem dX11_tell_80 : decode cX11_tell 80 = .ok (.dup, 1) := by decide +kernel
theorem dX11_tell_81 : decode cX11_tell 81 = .ok (.iconst 3, 1) := by decide +kernel
theorem dX11_tell_82 : decode cX11_tell 82 = .ok (.aload_n 0, 1) := by decide +kernel
theorem dX11_tell_83 : decode cX11_tell 83 = .ok (.getfield 81, 3) := by decide +kernel
theorem dX11_tell_86 : decode cX11_tell 86 = .ok (.iconst 2, 1) := by decide +kernel
theorem dX11_tell_87 : decode cX11_tell 87 = .ok (.if_icmp .ne 10, 3) := by decide +kernel
theorem dX11_tell_90 : decode cX11_tell 90 = .ok (.aload_n 0, 1) := by decide +kernel
theorem dX11_tell_91 : decode cX11_tell 91 = .ok (.getfield 84, 3) := by decide +kernel
theorem dX11_tell_94 : decode cX11_tell 94 = .ok (.goto 4, 3) := by decide +kernel
theorem dX11_tell_97 : decode cX11_tell 97 = .ok (.iconst (-1), 1) := by decide +kernel
theorem dX11_tell_98 : decode cX11_tell 98 = .ok (.iastore, 1) := by decide +kernel
theorem dX11_tell_99 : decode cX11_tell 99 = .ok (.aastore, 1) := by decide +kernel
theorem dX11_tell_100 : decode cX11_tell 100 = .ok (.return_, 1) := by decide +kernel
def f_O_tell_98 (o : Nat) (k : Int) (e : Int) (s0 : Int) (s1 : Int) (s2 : Nat) (s3 : Nat) (s4 : Int) (s5 : Nat) (hp : gH) : Option (gH) :=
     (Option.bind (gsN 0 hp s2 s1 s0) fun q10 =>
      (Option.bind (gsQ 4 q10 s5 s4 (some s3)) fun q11 =>
      some q11))
set_option maxRecDepth 1000000 in
set_option maxHeartbeats 4000000 in
theorem t_O_tell_98 {P : gG → Prop} {d : Nat} {m : xM} {h9 : gH} (hd9 : 1 ≤ d) (C : ∀ Γ, P Γ → gX Γ lay_X RX11 cX11_tell 4 d h9) (o : Nat) (k : Int) (e : Int) (hR : ∀ Γ, P Γ → gRv Γ lay_X cX11_tell m h9) (s0 : Int) (s1 : Int) (s2 : Nat) (s3 : Nat) (s4 : Int) (s5 : Nat) (hp : gH) (h : f_O_tell_98 o k e s0 s1 s2 s3 s4 s5 hp = some h9) : gJ P lay_X 4 98 [] [.inl s0, .inl s1, .inr (.inr (some s2)), .inr (.inr (some s3)), .inl s4, .inr (.inr (some s5))] m hp h9 := by
  unfold f_O_tell_98 at h
  obtain ⟨q10, hq10, h⟩ := x_bind h
  refine g_iastore C dX11_tell_98 hq10 ?_
  obtain ⟨q11, hq11, h⟩ := x_bind h
  refine g_aastore4 C dX11_tell_99 hq11 ?_
  exact g_return hR dX11_tell_100 (by cases h; exact ⟨rfl, rfl⟩)
def f_O_tell_47 (o : Nat) (k : Int) (e : Int) (hp : gH) : Option (gH) :=
     (Option.bind (gfK hp o 30) fun q1 =>
      (Option.bind (gfI hp o 10) fun q2 =>
      (Option.bind (gpt hp o 10 (.inl (q2 + 1))) fun q3 =>
      (Option.bind (gNw 0 q3 4) fun q4 =>
      (Option.bind (gfI q4.2 o 0) fun q5 =>
      (Option.bind (gsN 0 q4.2 q4.1 0 q5) fun q6 =>
      (Option.bind (gsN 0 q6 q4.1 1 k) fun q7 =>
      (Option.bind (gsN 0 q7 q4.1 2 e) fun q8 =>
      (Option.bind (gfI q8 o 1) fun q9 =>
      (if xw q9 = xw 2 then (Option.bind (gfI q8 o 3) fun q12 =>
      f_O_tell_98 o k e q12 3 q4.1 q4.1 q2 q1 q8)
      else f_O_tell_98 o k e (-1) 3 q4.1 q4.1 q2 q1 q8))))))))))
set_option maxRecDepth 1000000 in
set_option maxHeartbeats 4000000 in
theorem t_O_tell_47 {P : gG → Prop} {d : Nat} {m : xM} {h9 : gH} (hd9 : 1 ≤ d) (C : ∀ Γ, P Γ → gX Γ lay_X RX11 cX11_tell 4 d h9) (o : Nat) (k : Int) (e : Int) (hR : ∀ Γ, P Γ → gRv Γ lay_X cX11_tell m h9) (hp : gH) (h : f_O_tell_47 o k e hp = some h9) : gJ P lay_X 4 47 [(0, .inr (.inr (some o))), (1, .inl k), (2, .inl e)] [] m hp h9 := by
  unfold f_O_tell_47 at h
  refine g_aload_n C dX11_tell_47 rfl ?_
  obtain ⟨q1, hq1, h⟩ := x_bind h
  refine g_getK C dX11_tell_48 fF_X11_74 hq1 ?_
  refine g_aload_n C dX11_tell_51 rfl ?_
  refine g_dup C dX11_tell_52 rfl ?_
  obtain ⟨q2, hq2, h⟩ := x_bind h
  refine g_getI C dX11_tell_53 fF_X11_105 hq2 ?_
  refine g_dup_x1 C dX11_tell_56 rfl rfl ?_
  refine g_iconst C dX11_tell_57 ?_
  refine g_iadd C dX11_tell_58 ?_
  obtain ⟨q3, hq3, h⟩ := x_bind h
  refine g_putI C dX11_tell_59 fF_X11_105 hq3 ?_
  refine g_iconst C dX11_tell_62 ?_
  obtain ⟨q4, hq4, h⟩ := x_bind h
  refine g_newi C dX11_tell_63 (xin_1 _ (List.mem_of_getElem? (i := 3) rfl)) hq4 ?_
  refine g_dup C dX11_tell_65 rfl ?_
  refine g_iconst C dX11_tell_66 ?_
  refine g_aload_n C dX11_tell_67 rfl ?_
  obtain ⟨q5, hq5, h⟩ := x_bind h
  refine g_getI C dX11_tell_68 fF_X11_78 hq5 ?_
  obtain ⟨q6, hq6, h⟩ := x_bind h
  refine g_iastore C dX11_tell_71 hq6 ?_
  refine g_dup C dX11_tell_72 rfl ?_
  refine g_iconst C dX11_tell_73 ?_
  refine g_iload_n C dX11_tell_74 rfl ?_
  obtain ⟨q7, hq7, h⟩ := x_bind h
  refine g_iastore C dX11_tell_75 hq7 ?_
  refine g_dup C dX11_tell_76 rfl ?_
  refine g_iconst C dX11_tell_77 ?_
  refine g_iload_n C dX11_tell_78 rfl ?_
  obtain ⟨q8, hq8, h⟩ := x_bind h
  refine g_iastore C dX11_tell_79 hq8 ?_
  refine g_dup C dX11_tell_80 rfl ?_
  refine g_iconst C dX11_tell_81 ?_
  refine g_aload_n C dX11_tell_82 rfl ?_
  obtain ⟨q9, hq9, h⟩ := x_bind h
  refine g_getI C dX11_tell_83 fF_X11_81 hq9 ?_
  refine g_iconst C dX11_tell_86 ?_
  refine g_icmp_ne C 97 dX11_tell_87 (by decide) h (fun h => ?_) (fun h => ?_)
  · refine g_iconst C dX11_tell_97 ?_
    refine g_loc [] trivial ?_
    exact t_O_tell_98 hd9 C _ _ _ hR _ _ _ _ _ _ _ h
  · refine g_aload_n C dX11_tell_90 rfl ?_
    obtain ⟨q12, hq12, h⟩ := x_bind h
    refine g_getI C dX11_tell_91 fF_X11_84 hq12 ?_
    refine g_goto C 98 dX11_tell_94 (by decide) ?_
    refine g_loc [] trivial ?_
    exact t_O_tell_98 hd9 C _ _ _ hR _ _ _ _ _ _ _ h
def f_O_tell_37 (o : Nat) (k : Int) (e : Int) (hp : gH) : Option (gH) :=
     (Option.bind (gfI hp o 10) fun q13 =>
      (Option.bind (gpt hp o 10 (.inl (q13 - 1))) fun q14 =>
      f_O_tell_47 o k e q14))
set_option maxRecDepth 1000000 in
set_option maxHeartbeats 4000000 in
theorem t_O_tell_37 {P : gG → Prop} {d : Nat} {m : xM} {h9 : gH} (hd9 : 1 ≤ d) (C : ∀ Γ, P Γ → gX Γ lay_X RX11 cX11_tell 4 d h9) (o : Nat) (k : Int) (e : Int) (hR : ∀ Γ, P Γ → gRv Γ lay_X cX11_tell m h9) (hp : gH) (h : f_O_tell_37 o k e hp = some h9) : gJ P lay_X 4 37 [(0, .inr (.inr (some o))), (1, .inl k), (2, .inl e)] [] m hp h9 := by
  unfold f_O_tell_37 at h
  refine g_aload_n C dX11_tell_37 rfl ?_
  refine g_dup C dX11_tell_38 rfl ?_
  obtain ⟨q13, hq13, h⟩ := x_bind h
  refine g_getI C dX11_tell_39 fF_X11_105 hq13 ?_
  refine g_iconst C dX11_tell_42 ?_
  refine g_isub C dX11_tell_43 ?_
  obtain ⟨q14, hq14, h⟩ := x_bind h
  refine g_putI C dX11_tell_44 fF_X11_105 hq14 ?_
  refine g_loc [(0, .inr (.inr (some o))), (1, .inl k), (2, .inl e)] ⟨rfl, rfl, rfl, trivial⟩ ?_
  exact t_O_tell_47 hd9 C _ _ _ hR _ h
def f_O_tell_11 (o : Nat) (k : Int) (e : Int) : Nat → Int → gH → Option (gH)
  | 0, _, _ => none
  | n + 1, x3, hp =>
     (if xw x3 < xw 60 then (Option.bind (gfK hp o 30) fun q15 =>
      (Option.bind (gfK hp o 30) fun q16 =>
      (Option.bind (gaK 4 hp q16 x3) fun q17 =>
      (Option.bind (gsQ 4 hp q15 (x3 - 1) (some q17)) fun q18 =>
      f_O_tell_11 o k e n (x3 + 1) q18))))
      else f_O_tell_37 o k e hp)
set_option maxRecDepth 1000000 in
set_option maxHeartbeats 4000000 in
theorem t_O_tell_11 {P : gG → Prop} {d : Nat} {m : xM} {h9 : gH} (hd9 : 1 ≤ d) (C : ∀ Γ, P Γ → gX Γ lay_X RX11 cX11_tell 4 d h9) (o : Nat) (k : Int) (e : Int) (hR : ∀ Γ, P Γ → gRv Γ lay_X cX11_tell m h9) : ∀ (n : Nat) (x3 : Int) (hp : gH), f_O_tell_11 o k e n x3 hp = some h9 → gJ P lay_X 4 11 [(0, .inr (.inr (some o))), (1, .inl k), (2, .inl e), (3, .inl x3)] [] m hp h9 := by
  intro n
  induction n with
  | zero => intro _ _ h; cases h
  | succ n ih =>
    intro x3 hp h
    rw [f_O_tell_11] at h
    refine g_iload_n C dX11_tell_11 rfl ?_
    refine g_bipush C dX11_tell_12 (by decide) ?_
    refine g_icmp_ge C 37 dX11_tell_14 (by decide) h (fun h => ?_) (fun h => ?_)
    · refine g_loc [(0, .inr (.inr (some o))), (1, .inl k), (2, .inl e)] ⟨rfl, rfl, rfl, trivial⟩ ?_
      exact t_O_tell_37 hd9 C _ _ _ hR _ h
    · refine g_aload_n C dX11_tell_17 rfl ?_
      obtain ⟨q15, hq15, h⟩ := x_bind h
      refine g_getK C dX11_tell_18 fF_X11_74 hq15 ?_
      refine g_iload_n C dX11_tell_21 rfl ?_
      refine g_iconst C dX11_tell_22 ?_
      refine g_isub C dX11_tell_23 ?_
      refine g_aload_n C dX11_tell_24 rfl ?_
      obtain ⟨q16, hq16, h⟩ := x_bind h
      refine g_getK C dX11_tell_25 fF_X11_74 hq16 ?_
      refine g_iload_n C dX11_tell_28 rfl ?_
      obtain ⟨q17, hq17, h⟩ := x_bind h
      refine g_aaloadK4 C dX11_tell_29 hq17 ?_
      obtain ⟨q18, hq18, h⟩ := x_bind h
      refine g_aastore4 C dX11_tell_30 hq18 ?_
      refine g_iinc C dX11_tell_31 (by decide) rfl ?_
      refine g_goto C 11 dX11_tell_34 (by decide) ?_
      refine g_loc [(0, .inr (.inr (some o))), (1, .inl k), (2, .inl e), (3, .inl (x3 + 1))] ⟨rfl, rfl, rfl, rfl, trivial⟩ ?_
      exact ih _ _ h
def f_O_tell (o : Nat) (k : Int) (e : Int) (hp : gH) : Option (gH) :=
     (Option.bind (gfI hp o 10) fun q0 =>
      (if xw q0 = xw 60 then f_O_tell_11 o k e fu 1 hp
      else f_O_tell_47 o k e hp))
set_option maxRecDepth 1000000 in
set_option maxHeartbeats 4000000 in
theorem t_O_tell {P : gG → Prop} {d : Nat} {m : xM} {h9 : gH} (hd9 : 1 ≤ d) (C : ∀ Γ, P Γ → gX Γ lay_X RX11 cX11_tell 4 d h9) (o : Nat) (k : Int) (e : Int) (hR : ∀ Γ, P Γ → gRv Γ lay_X cX11_tell m h9) (hp : gH) (h : f_O_tell o k e hp = some h9) : gJ P lay_X 4 0 [(0, .inr (.inr (some o))), (1, .inl k), (2, .inl e)] [] m hp h9 := by
  unfold f_O_tell at h
  refine g_aload_n C dX11_tell_0 rfl ?_
  obtain ⟨q0, hq0, h⟩ := x_bind h
  refine g_getI C dX11_tell_1 fF_X11_105 hq0 ?_
  refine g_bipush C dX11_tell_4 (by decide) ?_
  refine g_icmp_ne C 47 dX11_tell_6 (by decide) h (fun h => ?_) (fun h => ?_)
  · refine g_loc [(0, .inr (.inr (some o))), (1, .inl k), (2, .inl e)] ⟨rfl, rfl, rfl, trivial⟩ ?_
    exact t_O_tell_47 hd9 C _ _ _ hR _ h
  · refine g_iconst C dX11_tell_9 ?_
    refine g_istore_n C dX11_tell_10 (by decide) ?_
    refine g_loc [(0, .inr (.inr (some o))), (1, .inl k), (2, .inl e), (3, .inl 1)] ⟨rfl, rfl, rfl, rfl, trivial⟩ ?_
    exact t_O_tell_11 hd9 C _ _ _ hR fu _ _ h
theorem c_O_tell {o : Nat} {k : Int} {e : Int} (m : xM) {hp h9 : gH} (h : f_O_tell o k e hp = some h9) (l : Launch) : gMet l yX11_tell cX11_tell 4 none 1 lay_X [.inr (.inr (some o)), .inl k, .inl e] m hp none m h9 :=
  gMet_v (by decide +kernel) (Nat.le_of_ble_eq_true rfl) (fun P C hR => t_O_tell (Nat.le_refl _) C _ _ _ hR hp h)
theorem le_O_tell {o : Nat} {k : Int} {e : Int} {hp h9 : gH} (h : f_O_tell o k e hp = some h9) : gle hp h9 :=
  (t_O_tell (P := fun _ => False) (m := fun _ _ => 0) (Nat.le_refl _) (fun _ q => q.elim) _ _ _ (fun _ q => q.elim) hp h).1
/-! ===== yX11_launch ===== -/
theorem xy_X11_cost : xY yX11_cost cX11_cost 9 (some .int) 2 := ⟨(xin_39 _ (List.mem_of_getElem? (i := 10) rfl)), (xin_33 _ (List.mem_of_getElem? (i := 5) rfl)), by decide, by decide, by decide +kernel⟩
theorem xi_X11_cost : Cond.instanceMethod yX11_cost ∈ wsL_law := (xin_39 _ (List.mem_of_getElem? (i := 8) rfl))
theorem xs_X11_cost : Cond.selects yX11_cost.cls yX11_cost yX11_cost ∈ wsL_law := (xin_39 _ (List.mem_of_getElem? (i := 9) rfl))
theorem fF_X11_55 : xF RX11 55 12 25 (.array .int) false := ⟨RX11, TX11, 31, tyX11, rfl, by decide, (xin_34 _ (List.mem_of_getElem? (i := 0) rfl)), rfl, inlX11, tyX11_ok, nmX11, rfl, rfl⟩
theorem fF_X11_23 : xF RX11 23 12 15 (.array .int) false := ⟨RX11, TX11, 31, tyX11, rfl, by decide, (xin_33 _ (List.mem_of_getElem? (i := 13) rfl)), rfl, inlX11, tyX11_ok, nmX11, rfl, rfl⟩
theorem fF_X11_29 : xF RX11 29 12 17 (.array .int) false := ⟨RX11, TX11, 31, tyX11, rfl, by decide, (xin_33 _ (List.mem_of_getElem? (i := 15) rfl)), rfl, inlX11, tyX11_ok, nmX11, rfl, rfl⟩
theorem fF_X11_7 : xF RX11 7 12 2 .int false := ⟨RX11, TX11, 31, tyX11, rfl, by decide, (xin_33 _ (List.mem_of_getElem? (i := 9) rfl)), rfl, inlX11, tyX11_ok, nmX11, rfl, rfl⟩
theorem fF_X11_26 : xF RX11 26 12 16 (.array .int) false := ⟨RX11, TX11, 31, tyX11, rfl, by decide, (xin_33 _ (List.mem_of_getElem? (i := 14) rfl)), rfl, inlX11, tyX11_ok, nmX11, rfl, rfl⟩
theorem fF_X11_71 : xF RX11 71 12 29 (.array (.array .int)) false := ⟨RX11, TX11, 31, tyX11, rfl, by decide, (xin_34 _ (List.mem_of_getElem? (i := 6) rfl)), rfl, inlX11, tyX11_ok, nmX11, rfl, rfl⟩
theorem fF_X11_108 : xF RX11 108 12 11 .int false := ⟨RX11, TX11, 31, tyX11, rfl, by decide, (xin_36 _ (List.mem_of_getElem? (i := 18) rfl)), rfl, inlX11, tyX11_ok, nmX11, rfl, rfl⟩
theorem dX11_launch_0 : decode cX11_launch 0 = .ok (.aload_n 0, 1) := by decide +kernel
theorem dX11_launch_1 : decode cX11_launch 1 = .ok (.iload_n 1, 1) := by decide +kernel
theorem dX11_launch_2 : decode cX11_launch 2 = .ok (.aload_n 3, 1) := by decide +kernel
theorem dX11_launch_3 : decode cX11_launch 3 = .ok (.invokevirtual 136, 3) := by decide +kernel
theorem dX11_launch_6 : decode cX11_launch 6 = .ok (.istore 4, 2) := by decide +kernel
theorem dX11_launch_8 : decode cX11_launch 8 = .ok (.aload_n 0, 1) := by decide +kernel
theorem dX11_launch_9 : decode cX11_launch 9 = .ok (.getfield 55, 3) := by decide +kernel
theorem dX11_launch_12 : decode cX11_launch 12 = .ok (.iload_n 1, 1) := by decide +kernel
theorem dX11_launch_13 : decode cX11_launch 13 = .ok (.iaload, 1) := by decide +kernel
theorem dX11_launch_14 : decode cX11_launch 14 = .ok (.iload 4, 2) := by decide +kernel
theorem dX11_launch_16 : decode cX11_launch 16 = .ok (.if_icmp .ge 5, 3) := by decide +kernel
theorem dX11_launch_19 : decode cX11_launch 19 = .ok (.iconst 0, 1) := by decide +kernel
theorem dX11_launch_20 : decode cX11_launch 20 = .ok (.ireturn, 1) := by decide +kernel
theorem dX11_launch_21 : decode cX11_launch 21 = .ok (.aload_n 0, 1) := by decide +kernel
theorem dX11_launch_22 : decode cX11_launch 22 = .ok (.getfield 62, 3) := by decide +kernel
theorem dX11_launch_25 : decode cX11_launch 25 = .ok (.iload_n 1, 1) := by decide +kernel
theorem dX11_launch_26 : decode cX11_launch 26 = .ok (.baload, 1) := by decide +kernel
theorem dX11_launch_27 : decode cX11_launch 27 = .ok (.ifCond .eq 12, 3) := by decide +kernel
theorem dX11_launch_30 : decode cX11_launch 30 = .ok (.aload_n 0, 1) := by decide +kernel
theorem dX11_launch_31 : decode cX11_launch 31 = .ok (.getfield 40, 3) := by decide +kernel
theorem dX11_launch_34 : decode cX11_launch 34 = .ok (.iload_n 1, 1) := by decide +kernel
theorem dX11_launch_35 : decode cX11_launch 35 = .ok (.iconst 0, 1) := by decide +kernel
theorem dX11_launch_36 : decode cX11_launch 36 = .ok (.newarray .int, 2) := by decide +kernel
theorem dX11_launch_38 : decode cX11_launch 38 = .ok (.aastore, 1) := by decide +kernel
theorem dX11_launch_39 : decode cX11_launch 39 = .ok (.aload_n 3, 1) := by decide +kernel
theorem dX11_launch_40 : decode cX11_launch 40 = .ok (.astore 5, 2) := by decide +kernel
theorem dX11_launch_42 : decode cX11_launch 42 = .ok (.aload 5, 2) := by decide +kernel
theorem dX11_launch_44 : decode cX11_launch 44 = .ok (.arraylength, 1) := by decide +kernel
theorem dX11_launch_45 : decode cX11_launch 45 = .ok (.istore 6, 2) := by decide +kernel
theorem dX11_launch_47 : decode cX11_launch 47 = .ok (.iconst 0, 1) := by decide +kernel
theorem dX11_launch_48 : decode cX11_launch 48 = .ok (.istore 7, 2) := by decide +kernel
theorem dX11_launch_50 : decode cX11_launch 50 = .ok (.iload 7, 2) := by decide +kernel
theorem dX11_launch_52 : decode cX11_launch 52 = .ok (.iload 6, 2) := by decide +kernel
theorem dX11_launch_54 : decode cX11_launch 54 = .ok (.if_icmp .ge 33, 3) := by decide +kernel
theorem dX11_launch_57 : decode cX11_launch 57 = .ok (.aload 5, 2) := by decide +kernel
theorem dX11_launch_59 : decode cX11_launch 59 = .ok (.iload 7, 2) := by decide +kernel
theorem dX11_launch_61 : decode cX11_launch 61 = .ok (.iaload, 1) := by decide +kernel
theorem dX11_launch_62 : decode cX11_launch 62 = .ok (.istore 8, 2) := by decide +kernel
theorem dX11_launch_64 : decode cX11_launch 64 = .ok (.aload_n 0, 1) := by decide +kernel
theorem dX11_launch_65 : decode cX11_launch 65 = .ok (.getfield 40, 3) := by decide +kernel
theorem dX11_launch_68 : decode cX11_launch 68 = .ok (.iload_n 1, 1) := by decide +kernel
theorem dX11_launch_69 : decode cX11_launch 69 = .ok (.aload_n 0, 1) := by decide +kernel
theorem dX11_launch_70 : decode cX11_launch 70 = .ok (.getfield 40, 3) := by decide +kernel
theorem dX11_launch_73 : decode cX11_launch 73 = .ok (.iload_n 1, 1) := by decide +kernel
theorem dX11_launch_74 : decode cX11_launch 74 = .ok (.aaload, 1) := by decide +kernel
theorem dX11_launch_75 : decode cX11_launch 75 = .ok (.iload 8, 2) := by decide +kernel
theorem dX11_launch_77 : decode cX11_launch 77 = .ok (.invokestatic 125, 3) := by decide +kernel
theorem dX11_launch_80 : decode cX11_launch 80 = .ok (.aastore, 1) := by decide +kernel
theorem dX11_launch_81 : decode cX11_launch 81 = .ok (.iinc 7 1, 3) := by decide +kernel
theorem dX11_launch_84 : decode cX11_launch 84 = .ok (.goto (-34), 3) := by decide +kernel
theorem dX11_launch_87 : decode cX11_launch 87 = .ok (.aload_n 0, 1) := by decide +kernel
theorem dX11_launch_88 : decode cX11_launch 88 = .ok (.getfield 55, 3) := by decide +kernel
theorem dX11_launch_91 : decode cX11_launch 91 = .ok (.iload_n 1, 1) := by decide +kernel
theorem dX11_launch_92 : decode cX11_launch 92 = .ok (.dup2, 1) := by decide +kernel
theorem dX11_launch_93 : decode cX11_launch 93 = .ok (.iaload, 1) := by decide +kernel
theorem dX11_launch_94 : decode cX11_launch 94 = .ok (.iload 4, 2) := by decide +kernel
theorem dX11_launch_96 : decode cX11_launch 96 = .ok (.isub, 1) := by decide +kernel
theorem dX11_launch_97 : decode cX11_launch 97 = .ok (.iastore, 1) := by decide +kernel
theorem dX11_launch_98 : decode cX11_launch 98 = .ok (.aload_n 0, 1) := by decide +kernel
theorem dX11_launch_99 : decode cX11_launch 99 = .ok (.getfield 23, 3) := by decide +kernel
theorem dX11_launch_102 : decode cX11_launch 102 = .ok (.aload_n 0, 1) := by decide +kernel
theorem dX11_launch_103 : decode cX11_launch 103 = .ok (.getfield 29, 3) := by decide +kernel
theorem dX11_launch_106 : decode cX11_launch 106 = .ok (.iconst 0, 1) := by decide +kernel
theorem dX11_launch_107 : decode cX11_launch 107 = .ok (.iaload, 1) := by decide +kernel
theorem dX11_launch_108 : decode cX11_launch 108 = .ok (.aload_n 0, 1) := by decide +kernel
theorem dX11_launch_109 : decode cX11_launch 109 = .ok (.getfield 23, 3) := by decide +kernel
theorem dX11_launch_112 : decode cX11_launch 112 = .ok (.arraylength, 1) := by decide +kernel
theorem dX11_launch_113 : decode cX11_launch 113 = .ok (.irem, 1) := by decide +kernel
theorem dX11_launch_114 : decode cX11_launch 114 = .ok (.iaload, 1) := by decide +kernel
theorem dX11_launch_115 : decode cX11_launch 115 = .ok (.aload_n 0, 1) := by decide +kernel
theorem dX11_launch_116 : decode cX11_launch 116 = .ok (.getfield 84, 3) := by decide +kernel
theorem dX11_launch_119 : decode cX11_launch 119 = .ok (.iadd, 1) := by decide +kernel
theorem dX11_launch_120 : decode cX11_launch 120 = .ok (.aload_n 0, 1) := by decide +kernel
theorem dX11_launch_121 : decode cX11_launch 121 = .ok (.getfield 7, 3) := by decide +kernel
theorem dX11_launch_124 : decode cX11_launch 124 = .ok (.if_icmp .le 7, 3) := by decide +kernel
theorem dX11_launch_127 : decode cX11_launch 127 = .ok (.iconst 1, 1) := by decide +kernel
theorem dX11_launch_128 : decode cX11_launch 128 = .ok (.goto 4, 3) := by decide +kernel
theorem dX11_launch_131 : decode cX11_launch 131 = .ok (.iconst 0, 1) := by decide +kernel
theorem dX11_launch_132 : decode cX11_launch 132 = .ok (.istore 5, 2) := by decide +kernel
theorem dX11_launch_134 : decode cX11_launch 134 = .ok (.bipush 6, 2) := by decide +kernel
theorem dX11_launch_136 : decode cX11_launch 136 = .ok (.newarray .int, 2) := by decide +kernel
theorem dX11_launch_138 : decode cX11_launch 138 = .ok (.dup, 1) := by decide +kernel
theorem dX11_launch_139 : decode cX11_launch 139 = .ok (.iconst 0, 1) := by decide +kernel
theorem dX11_launch_140 : decode cX11_launch 140 = .ok (.aload_n 0, 1) := by decide +kernel
theorem dX11_launch_141 : decode cX11_launch 141 = .ok (.getfield 78, 3) := by decide +kernel
theorem dX11_launch_144 : decode cX11_launch 144 = .ok (.aload_n 0, 1) := by decide +kernel
theorem dX11_launch_145 : decode cX11_launch 145 = .ok (.getfield 26, 3) := by decide +kernel
theorem dX11_launch_148 : decode cX11_launch 148 = .ok (.iconst 3, 1) := by decide +kernel
theorem dX11_launch_149 : decode cX11_launch 149 = .ok (.iaload, 1) := by decide +kernel
theorem dX11_launch_150 : decode cX11_launch 150 = .ok (.iadd, 1) := by decide +kernel
theorem dX11_launch_151 : decode cX11_launch 151 = .ok (.iastore, 1) := by decide +kernel
theorem dX11_launch_152 : decode cX11_launch 152 = .ok (.dup, 1) := by decide +kernel
theorem dX11_launch_153 : decode cX11_launch 153 = .ok (.iconst 1, 1) := by decide +kernel
theorem dX11_launch_154 : decode cX11_launch 154 = .ok (.iconst 0, 1) := by decide +kernel
theorem dX11_launch_155 : decode cX11_launch 155 = .ok (.iastore, 1) := by decide +kernel
theorem dX11_launch_156 : decode cX11_launch 156 = .ok (.dup, 1) := by decide +kernel
theorem dX11_launch_157 : decode cX11_launch 157 = .ok (.iconst 2, 1) := by decide +kernel
theorem dX11_launch_158 : decode cX11_launch 158 = .ok (.iconst 1, 1) := by decide +kernel
theorem dX11_launch_159 : decode cX11_launch 159 = .ok (.iload_n 1, 1) := by decide +kernel
theorem dX11_launch_160 : decode cX11_launch 160 = .ok (.isub, 1) := by decide +kernel
theorem dX11_launch_161 : decode cX11_launch 161 = .ok (.iastore, 1) := by decide +kernel
theorem dX11_launch_162 : decode cX11_launch 162 = .ok (.dup, 1) := by decide +kernel
theorem dX11_launch_163 : decode cX11_launch 163 = .ok (.iconst 3, 1) := by decide +kernel
theorem dX11_launch_164 : decode cX11_launch 164 = .ok (.iload_n 2, 1) := by decide +kernel
theorem dX11_launch_165 : decode cX11_launch 165 = .ok (.iastore, 1) := by decide +kernel
theorem dX11_launch_166 : decode cX11_launch 166 = .ok (.dup, 1) := by decide +kernel
theorem dX11_launch_167 : decode cX11_launch 167 = .ok (.iconst 4, 1) := by decide +kernel
theorem dX11_launch_168 : decode cX11_launch 168 = .ok (.iload 5, 2) := by decide +kernel
theorem dX11_launch_170 : decode cX11_launch 170 = .ok (.iastore, 1) := by decide +kernel
theorem dX11_launch_171 : decode cX11_launch 171 = .ok (.dup, 1) := by decide +kernel
theorem dX11_launch_172 : decode cX11_launch 172 = .ok (.iconst 5, 1) := by decide +kernel
theorem dX11_launch_173 : decode cX11_launch 173 = .ok (.aload_n 0, 1) := by decide +kernel
theorem dX11_launch_174 : decode cX11_launch 174 = .ok (.getfield 62, 3) := by decide +kernel
theorem dX11_launch_177 : decode cX11_launch 177 = .ok (.iload_n 1, 1) := by decide +kernel
theorem dX11_launch_178 : decode cX11_launch 178 = .ok (.baload, 1) := by decide +kernel
theorem dX11_launch_179 : decode cX11_launch 179 = .ok (.ifCond .eq 7, 3) := by decide +kernel
theorem dX11_launch_182 : decode cX11_launch 182 = .ok (.iconst 1, 1) := by decide +kernel
theorem dX11_launch_183 : decode cX11_launch 183 = .ok (.goto 4, 3) := by decide +kernel
theorem dX11_launch_186 : decode cX11_launch 186 = .ok (.iconst 0, 1) := by decide +kernel
theorem dX11_launch_187 : decode cX11_launch 187 = .ok (.iastore, 1) := by decide +kernel
theorem dX11_launch_188 : decode cX11_launch 188 = .ok (.astore 6, 2) := by decide +kernel
theorem dX11_launch_190 : decode cX11_launch 190 = .ok (.aload_n 3, 1) := by decide +kernel
theorem dX11_launch_191 : decode cX11_launch 191 = .ok (.astore 7, 2) := by decide +kernel
theorem dX11_launch_193 : decode cX11_launch 193 = .ok (.aload 7, 2) := by decide +kernel
theorem dX11_launch_195 : decode cX11_launch 195 = .ok (.arraylength, 1) := by decide +kernel
theorem dX11_launch_196 : decode cX11_launch 196 = .ok (.istore 8, 2) := by decide +kernel
theorem dX11_launch_198 : decode cX11_launch 198 = .ok (.iconst 0, 1) := by decide +kernel
theorem dX11_launch_199 : decode cX11_launch 199 = .ok (.istore 9, 2) := by decide +kernel
theorem dX11_launch_201 : decode cX11_launch 201 = .ok (.iload 9, 2) := by decide +kernel
theorem dX11_launch_203 : decode cX11_launch 203 = .ok (.iload 8, 2) := by decide +kernel
theorem dX11_launch_205 : decode cX11_launch 205 = .ok (.if_icmp .ge 25, 3) := by decide +kernel
theorem dX11_launch_208 : decode cX11_launch 208 = .ok (.aload 7, 2) := by decide +kernel
theorem dX11_launch_210 : decode cX11_launch 210 = .ok (.iload 9, 2) := by decide +kernel
theorem dX11_launch_212 : decode cX11_launch 212 = .ok (.iaload, 1) := by decide +kernel
theorem dX11_launch_213 : decode cX11_launch 213 = .ok (.istore 10, 2) := by decide +kernel
theorem dX11_launch_215 : decode cX11_launch 215 = .ok (.aload 6, 2) := by decide +kernel
theorem dX11_launch_217 : decode cX11_launch 217 = .ok (.iload 10, 2) := by decide +kernel
theorem dX11_launch_219 : decode cX11_launch 219 = .ok (.invokestatic 117, 3) := by decide +kernel
theorem dX11_launch_222 : decode cX11_launch 222 = .ok (.astore 6, 2) := by decide +kernel
theorem dX11_launch_224 : decode cX11_launch 224 = .ok (.iinc 9 1, 3) := by decide +kernel
theorem dX11_launch_227 : decode cX11_launch 227 = .ok (.goto (-26), 3) := by decide +kernel
theorem dX11_launch_230 : decode cX11_launch 230 = .ok (.aload_n 0, 1) := by decide +kernel
theorem dX11_launch_231 : decode cX11_launch 231 = .ok (.getfield 71, 3) := by decide +kernel
theorem dX11_launch_234 : decode cX11_launch 234 = .ok (.aload_n 0, 1) := by decide +kernel
theorem dX11_launch_235 : decode cX11_launch 235 = .ok (.dup, 1) := by decide +kernel
theorem dX11_launch_236 : decode cX11_launch 236 = .ok (.getfield 108, 3) := by decide +kernel
theorem dX11_launch_239 : decode cX11_launch 239 = .ok (.dup_x1, 1) := by decide +kernel
theorem dX11_launch_240 : decode cX11_launch 240 = .ok (.iconst 1, 1) := by decide +kernel
theorem dX11_launch_241 : decode cX11_launch 241 = .ok (.iadd, 1) := by decide +kernel
theorem dX11_launch_242 : decode cX11_launch 242 = .ok (.putfield 108, 3) := by decide +kernel
theorem dX11_launch_245 : decode cX11_launch 245 = .ok (.aload 6, 2) := by decide +kernel
theorem dX11_launch_247 : decode cX11_launch 247 = .ok (.aastore, 1) := by decide +kernel
theorem dX11_launch_248 : decode cX11_launch 248 = .ok (.aload_n 0, 1) := by decide +kernel
theorem dX11_launch_249 : decode cX11_launch 249 = .ok (.getfield 62, 3) := by decide +kernel
theorem dX11_launch_252 : decode cX11_launch 252 = .ok (.iload_n 1, 1) := by decide +kernel
theorem dX11_launch_253 : decode cX11_launch 253 = .ok (.iconst 0, 1) := by decide +kernel
theorem dX11_launch_254 : decode cX11_launch 254 = .ok (.bastore, 1) := by decide +kernel
theorem dX11_launch_255 : decode cX11_launch 255 = .ok (.aload_n 0, 1) := by decide +kernel
theorem dX11_launch_256 : decode cX11_launch 256 = .ok (.getfield 29, 3) := by decide +kernel
theorem dX11_launch_259 : decode cX11_launch 259 = .ok (.iconst 0, 1) := by decide +kernel
theorem dX11_launch_260 : decode cX11_launch 260 = .ok (.dup2, 1) := by decide +kernel
theorem dX11_launch_261 : decode cX11_launch 261 = .ok (.iaload, 1) := by decide +kernel
theorem dX11_launch_262 : decode cX11_launch 262 = .ok (.iconst 1, 1) := by decide +kernel
theorem dX11_launch_263 : decode cX11_launch 263 = .ok (.iadd, 1) := by decide +kernel
theorem dX11_launch_264 : decode cX11_launch 264 = .ok (.iastore, 1) := by decide +kernel
theorem dX11_launch_265 : decode cX11_launch 265 = .ok (.aload_n 0, 1) := by decide +kernel
theorem dX11_launch_266 : decode cX11_launch 266 = .ok (.getfield 29, 3) := by decide +kernel
theorem dX11_launch_269 : decode cX11_launch 269 = .ok (.iconst 1, 1) := by decide +kernel
theorem dX11_launch_270 : decode cX11_launch 270 = .ok (.dup2, 1) := by decide +kernel
theorem dX11_launch_271 : decode cX11_launch 271 = .ok (.iaload, 1) := by decide +kernel
theorem dX11_launch_272 : decode cX11_launch 272 = .ok (.iload 5, 2) := by decide +kernel
theorem dX11_launch_274 : decode cX11_launch 274 = .ok (.iadd, 1) := by decide +kernel
theorem dX11_launch_275 : decode cX11_launch 275 = .ok (.iastore, 1) := by decide +kernel
theorem dX11_launch_276 : decode cX11_launch 276 = .ok (.aload_n 0, 1) := by decide +kernel
theorem dX11_launch_277 : decode cX11_launch 277 = .ok (.getfield 29, 3) := by decide +kernel
theorem dX11_launch_280 : decode cX11_launch 280 = .ok (.bipush 9, 2) := by decide +kernel
theorem dX11_launch_282 : decode cX11_launch 282 = .ok (.dup2, 1) := by decide +kernel
theorem dX11_launch_283 : decode cX11_launch 283 = .ok (.iaload, 1) := by decide +kernel
theorem dX11_launch_284 : decode cX11_launch 284 = .ok (.iload 4, 2) := by decide +kernel
theorem dX11_launch_286 : decode cX11_launch 286 = .ok (.iadd, 1) := by decide +kernel
theorem dX11_launch_287 : decode cX11_launch 287 = .ok (.iastore, 1) := by decide +kernel
theorem dX11_launch_288 : decode cX11_launch 288 = .ok (.iconst 1, 1) := by decide +kernel
theorem dX11_launch_289 : decode cX11_launch 289 = .ok (.ireturn, 1) := by decide +kernel
def f_O_launch_230 (o : Nat) (e : Int) (n0 : Int) (a : Nat) (x4 : Int) (x5 : Int) (x6 : Nat) (hp : gH) : Option (Int × gH) :=
     (Option.bind (gfK hp o 29) fun q31 =>
      (Option.bind (gfI hp o 11) fun q32 =>
      (Option.bind (gpt hp o 11 (.inl (q32 + 1))) fun q33 =>
      (Option.bind (gsQ 4 q33 q31 q32 (some x6)) fun q34 =>
      (Option.bind (gfK q34 o 27) fun q35 =>
      (Option.bind (gsN 3 q34 q35 e 0) fun q36 =>
      (Option.bind (gfK q36 o 17) fun q37 =>
      (Option.bind (gaN 0 q36 q37 0) fun q38 =>
      (Option.bind (gsN 0 q36 q37 0 (q38 + 1)) fun q39 =>
      (Option.bind (gfK q39 o 17) fun q40 =>
      (Option.bind (gaN 0 q39 q40 1) fun q41 =>
      (Option.bind (gsN 0 q39 q40 1 (q41 + x5)) fun q42 =>
      (Option.bind (gfK q42 o 17) fun q43 =>
      (Option.bind (gaN 0 q42 q43 9) fun q44 =>
      (Option.bind (gsN 0 q42 q43 9 (q44 + x4)) fun q45 =>
      some (1, q45))))))))))))))))
set_option maxRecDepth 1000000 in
set_option maxHeartbeats 4000000 in
theorem t_O_launch_230 {P : gG → Prop} {d : Nat} {m : xM} {r : Int} {h9 : gH} (hd9 : 4 ≤ d) (C : ∀ Γ, P Γ → gX Γ lay_X RX11 cX11_launch 11 d h9) (o : Nat) (e : Int) (n0 : Int) (a : Nat) (hR : ∀ Γ, P Γ → gRz Γ lay_X cX11_launch r m h9) (x4 : Int) (x5 : Int) (x6 : Nat) (hp : gH) (h : f_O_launch_230 o e n0 a x4 x5 x6 hp = some (r, h9)) : gJ P lay_X 11 230 [(0, .inr (.inr (some o))), (1, .inl e), (4, .inl x4), (5, .inl x5), (6, .inr (.inr (some x6)))] [] m hp h9 := by
  unfold f_O_launch_230 at h
  refine g_aload_n C dX11_launch_230 rfl ?_
  obtain ⟨q31, hq31, h⟩ := x_bind h
  refine g_getK C dX11_launch_231 fF_X11_71 hq31 ?_
  refine g_aload_n C dX11_launch_234 rfl ?_
  refine g_dup C dX11_launch_235 rfl ?_
  obtain ⟨q32, hq32, h⟩ := x_bind h
  refine g_getI C dX11_launch_236 fF_X11_108 hq32 ?_
  refine g_dup_x1 C dX11_launch_239 rfl rfl ?_
  refine g_iconst C dX11_launch_240 ?_
  refine g_iadd C dX11_launch_241 ?_
  obtain ⟨q33, hq33, h⟩ := x_bind h
  refine g_putI C dX11_launch_242 fF_X11_108 hq33 ?_
  refine g_aload C dX11_launch_245 rfl ?_
  obtain ⟨q34, hq34, h⟩ := x_bind h
  refine g_aastore4 C dX11_launch_247 hq34 ?_
  refine g_aload_n C dX11_launch_248 rfl ?_
  obtain ⟨q35, hq35, h⟩ := x_bind h
  refine g_getK C dX11_launch_249 fF_X11_62 hq35 ?_
  refine g_iload_n C dX11_launch_252 rfl ?_
  refine g_iconst C dX11_launch_253 ?_
  obtain ⟨q36, hq36, h⟩ := x_bind h
  refine g_bastore C dX11_launch_254 (by decide) hq36 ?_
  refine g_aload_n C dX11_launch_255 rfl ?_
  obtain ⟨q37, hq37, h⟩ := x_bind h
  refine g_getK C dX11_launch_256 fF_X11_29 hq37 ?_
  refine g_iconst C dX11_launch_259 ?_
  refine g_dup2 C dX11_launch_260 rfl rfl ?_
  obtain ⟨q38, hq38, h⟩ := x_bind h
  refine g_iaload C dX11_launch_261 hq38 ?_
  refine g_iconst C dX11_launch_262 ?_
  refine g_iadd C dX11_launch_263 ?_
  obtain ⟨q39, hq39, h⟩ := x_bind h
  refine g_iastore C dX11_launch_264 hq39 ?_
  refine g_aload_n C dX11_launch_265 rfl ?_
  obtain ⟨q40, hq40, h⟩ := x_bind h
  refine g_getK C dX11_launch_266 fF_X11_29 hq40 ?_
  refine g_iconst C dX11_launch_269 ?_
  refine g_dup2 C dX11_launch_270 rfl rfl ?_
  obtain ⟨q41, hq41, h⟩ := x_bind h
  refine g_iaload C dX11_launch_271 hq41 ?_
  refine g_iload C dX11_launch_272 rfl ?_
  refine g_iadd C dX11_launch_274 ?_
  obtain ⟨q42, hq42, h⟩ := x_bind h
  refine g_iastore C dX11_launch_275 hq42 ?_
  refine g_aload_n C dX11_launch_276 rfl ?_
  obtain ⟨q43, hq43, h⟩ := x_bind h
  refine g_getK C dX11_launch_277 fF_X11_29 hq43 ?_
  refine g_bipush C dX11_launch_280 (by decide) ?_
  refine g_dup2 C dX11_launch_282 rfl rfl ?_
  obtain ⟨q44, hq44, h⟩ := x_bind h
  refine g_iaload C dX11_launch_283 hq44 ?_
  refine g_iload C dX11_launch_284 rfl ?_
  refine g_iadd C dX11_launch_286 ?_
  obtain ⟨q45, hq45, h⟩ := x_bind h
  refine g_iastore C dX11_launch_287 hq45 ?_
  refine g_iconst C dX11_launch_288 ?_
  exact g_zreturn hR (by decide) dX11_launch_289 (by cases h; exact ⟨rfl, rfl, rfl⟩)
def f_O_launch_201 (o : Nat) (e : Int) (n0 : Int) (a : Nat) : Nat → Int → Int → Nat → Nat → Int → Int → gH → Option (Int × gH)
  | 0, _, _, _, _, _, _, _ => none
  | n + 1, x4, x5, x6, x7, x8, x9, hp =>
     (if xw x9 < xw x8 then (Option.bind (gaN 0 hp x7 x9) fun q46 =>
      (Option.bind (f_O_with x6 q46 hp) fun q47 =>
      f_O_launch_201 o e n0 a n x4 x5 q47.1 x7 x8 (x9 + 1) q47.2))
      else f_O_launch_230 o e n0 a x4 x5 x6 hp)
set_option maxRecDepth 1000000 in
set_option maxHeartbeats 4000000 in
theorem t_O_launch_201 {P : gG → Prop} {d : Nat} {m : xM} {r : Int} {h9 : gH} (hd9 : 4 ≤ d) (C : ∀ Γ, P Γ → gX Γ lay_X RX11 cX11_launch 11 d h9) (o : Nat) (e : Int) (n0 : Int) (a : Nat) (hR : ∀ Γ, P Γ → gRz Γ lay_X cX11_launch r m h9) : ∀ (n : Nat) (x4 : Int) (x5 : Int) (x6 : Nat) (x7 : Nat) (x8 : Int) (x9 : Int) (hp : gH), f_O_launch_201 o e n0 a n x4 x5 x6 x7 x8 x9 hp = some (r, h9) → gJ P lay_X 11 201 [(0, .inr (.inr (some o))), (1, .inl e), (4, .inl x4), (5, .inl x5), (6, .inr (.inr (some x6))), (7, .inr (.inr (some x7))), (8, .inl x8), (9, .inl x9)] [] m hp h9 := by
  intro n
  induction n with
  | zero => intro _ _ _ _ _ _ _ h; cases h
  | succ n ih =>
    intro x4 x5 x6 x7 x8 x9 hp h
    rw [f_O_launch_201] at h
    refine g_iload C dX11_launch_201 rfl ?_
    refine g_iload C dX11_launch_203 rfl ?_
    refine g_icmp_ge C 230 dX11_launch_205 (by decide) h (fun h => ?_) (fun h => ?_)
    · refine g_loc [(0, .inr (.inr (some o))), (1, .inl e), (4, .inl x4), (5, .inl x5), (6, .inr (.inr (some x6)))] ⟨rfl, rfl, rfl, rfl, rfl, trivial⟩ ?_
      exact t_O_launch_230 hd9 C _ _ _ _ hR _ _ _ _ h
    · refine g_aload C dX11_launch_208 rfl ?_
      refine g_iload C dX11_launch_210 rfl ?_
      obtain ⟨q46, hq46, h⟩ := x_bind h
      refine g_iaload C dX11_launch_212 hq46 ?_
      refine g_istore C dX11_launch_213 (by decide) ?_
      refine g_aload C dX11_launch_215 rfl ?_
      refine g_iload C dX11_launch_217 rfl ?_
      obtain ⟨q47, hq47, h⟩ := x_bind h
      refine g_callS C dX11_launch_219 (xin_38 _ (List.mem_of_getElem? (i := 9) rfl)) xy_X11_with xt_X11_with (by omega) (by decide) (av := [.inr (.inr (some x6)), .inl q46]) rfl (Nat.le_of_ble_eq_true rfl) (le_O_with hq47) (c_O_with _ hq47) rfl ?_
      refine g_astore C dX11_launch_222 (by decide) ?_
      refine g_iinc C dX11_launch_224 (by decide) rfl ?_
      refine g_goto C 201 dX11_launch_227 (by decide) ?_
      refine g_loc [(0, .inr (.inr (some o))), (1, .inl e), (4, .inl x4), (5, .inl x5), (6, .inr (.inr (some q47.1))), (7, .inr (.inr (some x7))), (8, .inl x8), (9, .inl (x9 + 1))] ⟨rfl, rfl, rfl, rfl, rfl, rfl, rfl, rfl, trivial⟩ ?_
      exact ih _ _ _ _ _ _ _ h
def f_O_launch_187 (o : Nat) (e : Int) (n0 : Int) (a : Nat) (x4 : Int) (x5 : Int) (s0 : Int) (s1 : Int) (s2 : Nat) (s3 : Nat) (hp : gH) : Option (Int × gH) :=
     (Option.bind (gsN 0 hp s2 s1 s0) fun q29 =>
      (Option.bind (glc q29 a) fun q30 =>
      f_O_launch_201 o e n0 a fu x4 x5 s3 a q30 0 q29))
set_option maxRecDepth 1000000 in
set_option maxHeartbeats 4000000 in
theorem t_O_launch_187 {P : gG → Prop} {d : Nat} {m : xM} {r : Int} {h9 : gH} (hd9 : 4 ≤ d) (C : ∀ Γ, P Γ → gX Γ lay_X RX11 cX11_launch 11 d h9) (o : Nat) (e : Int) (n0 : Int) (a : Nat) (hR : ∀ Γ, P Γ → gRz Γ lay_X cX11_launch r m h9) (x4 : Int) (x5 : Int) (s0 : Int) (s1 : Int) (s2 : Nat) (s3 : Nat) (hp : gH) (h : f_O_launch_187 o e n0 a x4 x5 s0 s1 s2 s3 hp = some (r, h9)) : gJ P lay_X 11 187 [(0, .inr (.inr (some o))), (1, .inl e), (3, .inr (.inr (some a))), (4, .inl x4), (5, .inl x5)] [.inl s0, .inl s1, .inr (.inr (some s2)), .inr (.inr (some s3))] m hp h9 := by
  unfold f_O_launch_187 at h
  obtain ⟨q29, hq29, h⟩ := x_bind h
  refine g_iastore C dX11_launch_187 hq29 ?_
  refine g_astore C dX11_launch_188 (by decide) ?_
  refine g_aload_n C dX11_launch_190 rfl ?_
  refine g_astore C dX11_launch_191 (by decide) ?_
  refine g_aload C dX11_launch_193 rfl ?_
  obtain ⟨q30, hq30, h⟩ := x_bind h
  refine g_lenC C dX11_launch_195 hq30 ?_
  refine g_istore C dX11_launch_196 (by decide) ?_
  refine g_iconst C dX11_launch_198 ?_
  refine g_istore C dX11_launch_199 (by decide) ?_
  refine g_loc [(0, .inr (.inr (some o))), (1, .inl e), (4, .inl x4), (5, .inl x5), (6, .inr (.inr (some s3))), (7, .inr (.inr (some a))), (8, .inl q30), (9, .inl 0)] ⟨rfl, rfl, rfl, rfl, rfl, rfl, rfl, rfl, trivial⟩ ?_
  exact t_O_launch_201 hd9 C _ _ _ _ hR fu _ _ _ _ _ _ _ h
def f_O_launch_132 (o : Nat) (e : Int) (n0 : Int) (a : Nat) (x4 : Int) (s0 : Int) (hp : gH) : Option (Int × gH) :=
     (Option.bind (gNw 0 hp 6) fun q18 =>
      (Option.bind (gfI q18.2 o 0) fun q19 =>
      (Option.bind (gfK q18.2 o 16) fun q20 =>
      (Option.bind (gaN 0 q18.2 q20 3) fun q21 =>
      (Option.bind (gsN 0 q18.2 q18.1 0 (q19 + q21)) fun q22 =>
      (Option.bind (gsN 0 q22 q18.1 1 0) fun q23 =>
      (Option.bind (gsN 0 q23 q18.1 2 (1 - e)) fun q24 =>
      (Option.bind (gsN 0 q24 q18.1 3 n0) fun q25 =>
      (Option.bind (gsN 0 q25 q18.1 4 s0) fun q26 =>
      (Option.bind (gfK q26 o 27) fun q27 =>
      (Option.bind (gaN 3 q26 q27 e) fun q28 =>
      (if xw q28 = 0 then f_O_launch_187 o e n0 a x4 s0 0 5 q18.1 q18.1 q26
      else f_O_launch_187 o e n0 a x4 s0 1 5 q18.1 q18.1 q26))))))))))))
set_option maxRecDepth 1000000 in
set_option maxHeartbeats 4000000 in
theorem t_O_launch_132 {P : gG → Prop} {d : Nat} {m : xM} {r : Int} {h9 : gH} (hd9 : 4 ≤ d) (C : ∀ Γ, P Γ → gX Γ lay_X RX11 cX11_launch 11 d h9) (o : Nat) (e : Int) (n0 : Int) (a : Nat) (hR : ∀ Γ, P Γ → gRz Γ lay_X cX11_launch r m h9) (x4 : Int) (s0 : Int) (hp : gH) (h : f_O_launch_132 o e n0 a x4 s0 hp = some (r, h9)) : gJ P lay_X 11 132 [(0, .inr (.inr (some o))), (1, .inl e), (2, .inl n0), (3, .inr (.inr (some a))), (4, .inl x4)] [.inl s0] m hp h9 := by
  unfold f_O_launch_132 at h
  refine g_istore C dX11_launch_132 (by decide) ?_
  refine g_bipush C dX11_launch_134 (by decide) ?_
  obtain ⟨q18, hq18, h⟩ := x_bind h
  refine g_newi C dX11_launch_136 (xin_1 _ (List.mem_of_getElem? (i := 3) rfl)) hq18 ?_
  refine g_dup C dX11_launch_138 rfl ?_
  refine g_iconst C dX11_launch_139 ?_
  refine g_aload_n C dX11_launch_140 rfl ?_
  obtain ⟨q19, hq19, h⟩ := x_bind h
  refine g_getI C dX11_launch_141 fF_X11_78 hq19 ?_
  refine g_aload_n C dX11_launch_144 rfl ?_
  obtain ⟨q20, hq20, h⟩ := x_bind h
  refine g_getK C dX11_launch_145 fF_X11_26 hq20 ?_
  refine g_iconst C dX11_launch_148 ?_
  obtain ⟨q21, hq21, h⟩ := x_bind h
  refine g_iaload C dX11_launch_149 hq21 ?_
  refine g_iadd C dX11_launch_150 ?_
  obtain ⟨q22, hq22, h⟩ := x_bind h
  refine g_iastore C dX11_launch_151 hq22 ?_
  refine g_dup C dX11_launch_152 rfl ?_
  refine g_iconst C dX11_launch_153 ?_
  refine g_iconst C dX11_launch_154 ?_
  obtain ⟨q23, hq23, h⟩ := x_bind h
  refine g_iastore C dX11_launch_155 hq23 ?_
  refine g_dup C dX11_launch_156 rfl ?_
  refine g_iconst C dX11_launch_157 ?_
  refine g_iconst C dX11_launch_158 ?_
  refine g_iload_n C dX11_launch_159 rfl ?_
  refine g_isub C dX11_launch_160 ?_
  obtain ⟨q24, hq24, h⟩ := x_bind h
  refine g_iastore C dX11_launch_161 hq24 ?_
  refine g_dup C dX11_launch_162 rfl ?_
  refine g_iconst C dX11_launch_163 ?_
  refine g_iload_n C dX11_launch_164 rfl ?_
  obtain ⟨q25, hq25, h⟩ := x_bind h
  refine g_iastore C dX11_launch_165 hq25 ?_
  refine g_dup C dX11_launch_166 rfl ?_
  refine g_iconst C dX11_launch_167 ?_
  refine g_iload C dX11_launch_168 rfl ?_
  obtain ⟨q26, hq26, h⟩ := x_bind h
  refine g_iastore C dX11_launch_170 hq26 ?_
  refine g_dup C dX11_launch_171 rfl ?_
  refine g_iconst C dX11_launch_172 ?_
  refine g_aload_n C dX11_launch_173 rfl ?_
  obtain ⟨q27, hq27, h⟩ := x_bind h
  refine g_getK C dX11_launch_174 fF_X11_62 hq27 ?_
  refine g_iload_n C dX11_launch_177 rfl ?_
  obtain ⟨q28, hq28, h⟩ := x_bind h
  refine g_baload C dX11_launch_178 hq28 ?_
  refine g_if_eq C 186 dX11_launch_179 (by decide) h (fun h => ?_) (fun h => ?_)
  · refine g_iconst C dX11_launch_186 ?_
    refine g_loc [(0, .inr (.inr (some o))), (1, .inl e), (3, .inr (.inr (some a))), (4, .inl x4), (5, .inl s0)] ⟨rfl, rfl, rfl, rfl, rfl, trivial⟩ ?_
    exact t_O_launch_187 hd9 C _ _ _ _ hR _ _ _ _ _ _ _ h
  · refine g_iconst C dX11_launch_182 ?_
    refine g_goto C 187 dX11_launch_183 (by decide) ?_
    refine g_loc [(0, .inr (.inr (some o))), (1, .inl e), (3, .inr (.inr (some a))), (4, .inl x4), (5, .inl s0)] ⟨rfl, rfl, rfl, rfl, rfl, trivial⟩ ?_
    exact t_O_launch_187 hd9 C _ _ _ _ hR _ _ _ _ _ _ _ h
def f_O_launch_87 (o : Nat) (e : Int) (n0 : Int) (a : Nat) (x4 : Int) (hp : gH) : Option (Int × gH) :=
     (Option.bind (gfK hp o 25) fun q7 =>
      (Option.bind (gaN 0 hp q7 e) fun q8 =>
      (Option.bind (gsN 0 hp q7 e (q8 - x4)) fun q9 =>
      (Option.bind (gfK q9 o 15) fun q10 =>
      (Option.bind (gfK q9 o 17) fun q11 =>
      (Option.bind (gaN 0 q9 q11 0) fun q12 =>
      (Option.bind (gfK q9 o 15) fun q13 =>
      (Option.bind (glc q9 q13) fun q14 =>
      (if xw q14 = 0 then none
      else (Option.bind (gaN 0 q9 q10 (xirem q12 q14)) fun q15 =>
      (Option.bind (gfI q9 o 3) fun q16 =>
      (Option.bind (gfI q9 o 2) fun q17 =>
      (if xw q17 < xw (q15 + q16) then f_O_launch_132 o e n0 a x4 1 q9
      else f_O_launch_132 o e n0 a x4 0 q9)))))))))))))
set_option maxRecDepth 1000000 in
set_option maxHeartbeats 4000000 in
theorem t_O_launch_87 {P : gG → Prop} {d : Nat} {m : xM} {r : Int} {h9 : gH} (hd9 : 4 ≤ d) (C : ∀ Γ, P Γ → gX Γ lay_X RX11 cX11_launch 11 d h9) (o : Nat) (e : Int) (n0 : Int) (a : Nat) (hR : ∀ Γ, P Γ → gRz Γ lay_X cX11_launch r m h9) (x4 : Int) (hp : gH) (h : f_O_launch_87 o e n0 a x4 hp = some (r, h9)) : gJ P lay_X 11 87 [(0, .inr (.inr (some o))), (1, .inl e), (2, .inl n0), (3, .inr (.inr (some a))), (4, .inl x4)] [] m hp h9 := by
  unfold f_O_launch_87 at h
  refine g_aload_n C dX11_launch_87 rfl ?_
  obtain ⟨q7, hq7, h⟩ := x_bind h
  refine g_getK C dX11_launch_88 fF_X11_55 hq7 ?_
  refine g_iload_n C dX11_launch_91 rfl ?_
  refine g_dup2 C dX11_launch_92 rfl rfl ?_
  obtain ⟨q8, hq8, h⟩ := x_bind h
  refine g_iaload C dX11_launch_93 hq8 ?_
  refine g_iload C dX11_launch_94 rfl ?_
  refine g_isub C dX11_launch_96 ?_
  obtain ⟨q9, hq9, h⟩ := x_bind h
  refine g_iastore C dX11_launch_97 hq9 ?_
  refine g_aload_n C dX11_launch_98 rfl ?_
  obtain ⟨q10, hq10, h⟩ := x_bind h
  refine g_getK C dX11_launch_99 fF_X11_23 hq10 ?_
  refine g_aload_n C dX11_launch_102 rfl ?_
  obtain ⟨q11, hq11, h⟩ := x_bind h
  refine g_getK C dX11_launch_103 fF_X11_29 hq11 ?_
  refine g_iconst C dX11_launch_106 ?_
  obtain ⟨q12, hq12, h⟩ := x_bind h
  refine g_iaload C dX11_launch_107 hq12 ?_
  refine g_aload_n C dX11_launch_108 rfl ?_
  obtain ⟨q13, hq13, h⟩ := x_bind h
  refine g_getK C dX11_launch_109 fF_X11_23 hq13 ?_
  obtain ⟨q14, hq14, h⟩ := x_bind h
  refine g_lenC C dX11_launch_112 hq14 ?_
  refine g_irem C dX11_launch_113 h (fun h9 h => ?_)
  obtain ⟨q15, hq15, h⟩ := x_bind h
  refine g_iaload C dX11_launch_114 hq15 ?_
  refine g_aload_n C dX11_launch_115 rfl ?_
  obtain ⟨q16, hq16, h⟩ := x_bind h
  refine g_getI C dX11_launch_116 fF_X11_84 hq16 ?_
  refine g_iadd C dX11_launch_119 ?_
  refine g_aload_n C dX11_launch_120 rfl ?_
  obtain ⟨q17, hq17, h⟩ := x_bind h
  refine g_getI C dX11_launch_121 fF_X11_7 hq17 ?_
  refine g_icmp_le C 131 dX11_launch_124 (by decide) h (fun h => ?_) (fun h => ?_)
  · refine g_iconst C dX11_launch_131 ?_
    refine g_loc [(0, .inr (.inr (some o))), (1, .inl e), (2, .inl n0), (3, .inr (.inr (some a))), (4, .inl x4)] ⟨rfl, rfl, rfl, rfl, rfl, trivial⟩ ?_
    exact t_O_launch_132 hd9 C _ _ _ _ hR _ _ _ h
  · refine g_iconst C dX11_launch_127 ?_
    refine g_goto C 132 dX11_launch_128 (by decide) ?_
    refine g_loc [(0, .inr (.inr (some o))), (1, .inl e), (2, .inl n0), (3, .inr (.inr (some a))), (4, .inl x4)] ⟨rfl, rfl, rfl, rfl, rfl, trivial⟩ ?_
    exact t_O_launch_132 hd9 C _ _ _ _ hR _ _ _ h
def f_O_launch_50 (o : Nat) (e : Int) (n0 : Int) (a : Nat) : Nat → Int → Nat → Int → Int → gH → Option (Int × gH)
  | 0, _, _, _, _, _ => none
  | n + 1, x4, x5, x6, x7, hp =>
     (if xw x7 < xw x6 then (Option.bind (gaN 0 hp x5 x7) fun q48 =>
      (Option.bind (gfK hp o 20) fun q49 =>
      (Option.bind (gfK hp o 20) fun q50 =>
      (Option.bind (gaK 4 hp q50 e) fun q51 =>
      (Option.bind (f_O_used q51 q48 hp) fun q52 =>
      (Option.bind (gsQ 4 q52.2 q49 e (some q52.1)) fun q53 =>
      f_O_launch_50 o e n0 a n x4 x5 x6 (x7 + 1) q53))))))
      else f_O_launch_87 o e n0 a x4 hp)
set_option maxRecDepth 1000000 in
set_option maxHeartbeats 4000000 in
theorem t_O_launch_50 {P : gG → Prop} {d : Nat} {m : xM} {r : Int} {h9 : gH} (hd9 : 4 ≤ d) (C : ∀ Γ, P Γ → gX Γ lay_X RX11 cX11_launch 11 d h9) (o : Nat) (e : Int) (n0 : Int) (a : Nat) (hR : ∀ Γ, P Γ → gRz Γ lay_X cX11_launch r m h9) : ∀ (n : Nat) (x4 : Int) (x5 : Nat) (x6 : Int) (x7 : Int) (hp : gH), f_O_launch_50 o e n0 a n x4 x5 x6 x7 hp = some (r, h9) → gJ P lay_X 11 50 [(0, .inr (.inr (some o))), (1, .inl e), (2, .inl n0), (3, .inr (.inr (some a))), (4, .inl x4), (5, .inr (.inr (some x5))), (6, .inl x6), (7, .inl x7)] [] m hp h9 := by
  intro n
  induction n with
  | zero => intro _ _ _ _ _ h; cases h
  | succ n ih =>
    intro x4 x5 x6 x7 hp h
    rw [f_O_launch_50] at h
    refine g_iload C dX11_launch_50 rfl ?_
    refine g_iload C dX11_launch_52 rfl ?_
    refine g_icmp_ge C 87 dX11_launch_54 (by decide) h (fun h => ?_) (fun h => ?_)
    · refine g_loc [(0, .inr (.inr (some o))), (1, .inl e), (2, .inl n0), (3, .inr (.inr (some a))), (4, .inl x4)] ⟨rfl, rfl, rfl, rfl, rfl, trivial⟩ ?_
      exact t_O_launch_87 hd9 C _ _ _ _ hR _ _ h
    · refine g_aload C dX11_launch_57 rfl ?_
      refine g_iload C dX11_launch_59 rfl ?_
      obtain ⟨q48, hq48, h⟩ := x_bind h
      refine g_iaload C dX11_launch_61 hq48 ?_
      refine g_istore C dX11_launch_62 (by decide) ?_
      refine g_aload_n C dX11_launch_64 rfl ?_
      obtain ⟨q49, hq49, h⟩ := x_bind h
      refine g_getK C dX11_launch_65 fF_X11_40 hq49 ?_
      refine g_iload_n C dX11_launch_68 rfl ?_
      refine g_aload_n C dX11_launch_69 rfl ?_
      obtain ⟨q50, hq50, h⟩ := x_bind h
      refine g_getK C dX11_launch_70 fF_X11_40 hq50 ?_
      refine g_iload_n C dX11_launch_73 rfl ?_
      obtain ⟨q51, hq51, h⟩ := x_bind h
      refine g_aaloadK4 C dX11_launch_74 hq51 ?_
      refine g_iload C dX11_launch_75 rfl ?_
      obtain ⟨q52, hq52, h⟩ := x_bind h
      refine g_callS C dX11_launch_77 (xin_38 _ (List.mem_of_getElem? (i := 6) rfl)) xy_X11_used xt_X11_used (by omega) (by decide) (av := [.inr (.inr (some q51)), .inl q48]) rfl (Nat.le_of_ble_eq_true rfl) (le_O_used hq52) (c_O_used _ hq52) rfl ?_
      obtain ⟨q53, hq53, h⟩ := x_bind h
      refine g_aastore4 C dX11_launch_80 hq53 ?_
      refine g_iinc C dX11_launch_81 (by decide) rfl ?_
      refine g_goto C 50 dX11_launch_84 (by decide) ?_
      refine g_loc [(0, .inr (.inr (some o))), (1, .inl e), (2, .inl n0), (3, .inr (.inr (some a))), (4, .inl x4), (5, .inr (.inr (some x5))), (6, .inl x6), (7, .inl (x7 + 1))] ⟨rfl, rfl, rfl, rfl, rfl, rfl, rfl, rfl, trivial⟩ ?_
      exact ih _ _ _ _ _ h
def f_O_launch_39 (o : Nat) (e : Int) (n0 : Int) (a : Nat) (x4 : Int) (hp : gH) : Option (Int × gH) :=
     (Option.bind (glc hp a) fun q6 =>
      f_O_launch_50 o e n0 a fu x4 a q6 0 hp)
set_option maxRecDepth 1000000 in
set_option maxHeartbeats 4000000 in
theorem t_O_launch_39 {P : gG → Prop} {d : Nat} {m : xM} {r : Int} {h9 : gH} (hd9 : 4 ≤ d) (C : ∀ Γ, P Γ → gX Γ lay_X RX11 cX11_launch 11 d h9) (o : Nat) (e : Int) (n0 : Int) (a : Nat) (hR : ∀ Γ, P Γ → gRz Γ lay_X cX11_launch r m h9) (x4 : Int) (hp : gH) (h : f_O_launch_39 o e n0 a x4 hp = some (r, h9)) : gJ P lay_X 11 39 [(0, .inr (.inr (some o))), (1, .inl e), (2, .inl n0), (3, .inr (.inr (some a))), (4, .inl x4)] [] m hp h9 := by
  unfold f_O_launch_39 at h
  refine g_aload_n C dX11_launch_39 rfl ?_
  refine g_astore C dX11_launch_40 (by decide) ?_
  refine g_aload C dX11_launch_42 rfl ?_
  obtain ⟨q6, hq6, h⟩ := x_bind h
  refine g_lenC C dX11_launch_44 hq6 ?_
  refine g_istore C dX11_launch_45 (by decide) ?_
  refine g_iconst C dX11_launch_47 ?_
  refine g_istore C dX11_launch_48 (by decide) ?_
  refine g_loc [(0, .inr (.inr (some o))), (1, .inl e), (2, .inl n0), (3, .inr (.inr (some a))), (4, .inl x4), (5, .inr (.inr (some a))), (6, .inl q6), (7, .inl 0)] ⟨rfl, rfl, rfl, rfl, rfl, rfl, rfl, rfl, trivial⟩ ?_
  exact t_O_launch_50 hd9 C _ _ _ _ hR fu _ _ _ _ _ h
def f_O_launch (o : Nat) (e : Int) (n0 : Int) (a : Nat) (hp : gH) : Option (Int × gH) :=
     (Option.bind (f_O_cost o e a hp) fun q0 =>
      (if gob hp o = true then (Option.bind (gfK q0.2 o 25) fun q2 =>
      (Option.bind (gaN 0 q0.2 q2 e) fun q3 =>
      (if xw q3 < xw q0.1 then some (0, q0.2)
      else (Option.bind (gfK q0.2 o 27) fun q4 =>
      (Option.bind (gaN 3 q0.2 q4 e) fun q5 =>
      (if xw q5 = 0 then f_O_launch_39 o e n0 a q0.1 q0.2
      else (Option.bind (gfK q0.2 o 20) fun q54 =>
      (Option.bind (gNw 0 q0.2 0) fun q55 =>
      (Option.bind (gsQ 4 q55.2 q54 e (some q55.1)) fun q56 =>
      f_O_launch_39 o e n0 a q0.1 q56)))))))))
      else none))
set_option maxRecDepth 1000000 in
set_option maxHeartbeats 4000000 in
theorem t_O_launch {P : gG → Prop} {d : Nat} {m : xM} {r : Int} {h9 : gH} (hd9 : 4 ≤ d) (C : ∀ Γ, P Γ → gX Γ lay_X RX11 cX11_launch 11 d h9) (o : Nat) (e : Int) (n0 : Int) (a : Nat) (hR : ∀ Γ, P Γ → gRz Γ lay_X cX11_launch r m h9) (hp : gH) (h : f_O_launch o e n0 a hp = some (r, h9)) : gJ P lay_X 11 0 [(0, .inr (.inr (some o))), (1, .inl e), (2, .inl n0), (3, .inr (.inr (some a)))] [] m hp h9 := by
  unfold f_O_launch at h
  refine g_aload_n C dX11_launch_0 rfl ?_
  refine g_iload_n C dX11_launch_1 rfl ?_
  refine g_aload_n C dX11_launch_2 rfl ?_
  obtain ⟨q0, hq0, h⟩ := x_bind h
  obtain ⟨fo2, h⟩ := x_some1 h
  obtain ⟨_, hfo2⟩ := gob_some fo2
  refine g_callV C dX11_launch_3 (xin_39 _ (List.mem_of_getElem? (i := 7) rfl)) xy_X11_cost xi_X11_cost xs_X11_cost hfo2 ⟨_, _, rfl⟩ (by omega) (by decide) (av := [.inl e, .inr (.inr (some a))]) rfl (Nat.le_of_ble_eq_true rfl) (le_O_cost hq0) (c_O_cost _ hq0) rfl ?_
  refine g_istore C dX11_launch_6 (by decide) ?_
  refine g_aload_n C dX11_launch_8 rfl ?_
  obtain ⟨q2, hq2, h⟩ := x_bind h
  refine g_getK C dX11_launch_9 fF_X11_55 hq2 ?_
  refine g_iload_n C dX11_launch_12 rfl ?_
  obtain ⟨q3, hq3, h⟩ := x_bind h
  refine g_iaload C dX11_launch_13 hq3 ?_
  refine g_iload C dX11_launch_14 rfl ?_
  refine g_icmp_ge C 21 dX11_launch_16 (by decide) h (fun h => ?_) (fun h => ?_)
  · refine g_aload_n C dX11_launch_21 rfl ?_
    obtain ⟨q4, hq4, h⟩ := x_bind h
    refine g_getK C dX11_launch_22 fF_X11_62 hq4 ?_
    refine g_iload_n C dX11_launch_25 rfl ?_
    obtain ⟨q5, hq5, h⟩ := x_bind h
    refine g_baload C dX11_launch_26 hq5 ?_
    refine g_if_eq C 39 dX11_launch_27 (by decide) h (fun h => ?_) (fun h => ?_)
    · refine g_loc [(0, .inr (.inr (some o))), (1, .inl e), (2, .inl n0), (3, .inr (.inr (some a))), (4, .inl q0.1)] ⟨rfl, rfl, rfl, rfl, rfl, trivial⟩ ?_
      exact t_O_launch_39 hd9 C _ _ _ _ hR _ _ h
    · refine g_aload_n C dX11_launch_30 rfl ?_
      obtain ⟨q54, hq54, h⟩ := x_bind h
      refine g_getK C dX11_launch_31 fF_X11_40 hq54 ?_
      refine g_iload_n C dX11_launch_34 rfl ?_
      refine g_iconst C dX11_launch_35 ?_
      obtain ⟨q55, hq55, h⟩ := x_bind h
      refine g_newi C dX11_launch_36 (xin_1 _ (List.mem_of_getElem? (i := 3) rfl)) hq55 ?_
      obtain ⟨q56, hq56, h⟩ := x_bind h
      refine g_aastore4 C dX11_launch_38 hq56 ?_
      refine g_loc [(0, .inr (.inr (some o))), (1, .inl e), (2, .inl n0), (3, .inr (.inr (some a))), (4, .inl q0.1)] ⟨rfl, rfl, rfl, rfl, rfl, trivial⟩ ?_
      exact t_O_launch_39 hd9 C _ _ _ _ hR _ _ h
  · refine g_iconst C dX11_launch_19 ?_
    exact g_zreturn hR (by decide) dX11_launch_20 (by cases h; exact ⟨rfl, rfl, rfl⟩)
theorem c_O_launch {o : Nat} {e : Int} {n0 : Int} {a : Nat} (m : xM) {r : Int} {hp h9 : gH} (h : f_O_launch o e n0 a hp = some (r, h9)) (l : Launch) : gMet l yX11_launch cX11_launch 11 (some .boolean) 4 lay_X [.inr (.inr (some o)), .inl e, .inl n0, .inr (.inr (some a))] m hp (some (.inl r)) m h9 :=
  gMet_z (by decide +kernel) (Nat.le_of_ble_eq_true rfl) (fun P C hR => t_O_launch (Nat.le_refl _) C _ _ _ _ hR hp h)
theorem le_O_launch {o : Nat} {e : Int} {n0 : Int} {a : Nat} {r : Int} {hp h9 : gH} (h : f_O_launch o e n0 a hp = some (r, h9)) : gle hp h9 :=
  (t_O_launch (P := fun _ => False) (m := fun _ _ => 0) (Nat.le_refl _) (fun _ q => q.elim) _ _ _ _ (fun _ q => q.elim) hp h).1
/-! ===== yX11_land ===== -/
theorem fF_X11_49 : xF RX11 49 12 23 (.array .int) false := ⟨RX11, TX11, 31, tyX11, rfl, by decide, (xin_33 _ (List.mem_of_getElem? (i := 22) rfl)), rfl, inlX11, tyX11_ok, nmX11, rfl, rfl⟩
theorem fF_X11_43 : xF RX11 43 12 21 (.array (.array .int)) false := ⟨RX11, TX11, 31, tyX11, rfl, by decide, (xin_33 _ (List.mem_of_getElem? (i := 20) rfl)), rfl, inlX11, tyX11_ok, nmX11, rfl, rfl⟩
theorem fF_X11_37 : xF RX11 37 12 19 (.array (.array .int)) false := ⟨RX11, TX11, 31, tyX11, rfl, by decide, (xin_33 _ (List.mem_of_getElem? (i := 18) rfl)), rfl, inlX11, tyX11_ok, nmX11, rfl, rfl⟩
theorem fF_X11_52 : xF RX11 52 12 24 (.array .int) false := ⟨RX11, TX11, 31, tyX11, rfl, by decide, (xin_33 _ (List.mem_of_getElem? (i := 23) rfl)), rfl, inlX11, tyX11_ok, nmX11, rfl, rfl⟩
theorem xy_X11_tell : xY yX11_tell cX11_tell 4 none 2 := ⟨(xin_36 _ (List.mem_of_getElem? (i := 22) rfl)), (xin_33 _ (List.mem_of_getElem? (i := 5) rfl)), by decide, by decide, by decide +kernel⟩
theorem xi_X11_tell : Cond.instanceMethod yX11_tell ∈ wsL_law := (xin_36 _ (List.mem_of_getElem? (i := 20) rfl))
theorem xs_X11_tell : Cond.selects yX11_tell.cls yX11_tell yX11_tell ∈ wsL_law := (xin_36 _ (List.mem_of_getElem? (i := 21) rfl))
theorem xy_X11_forget : xY yX11_forget cX11_forget 8 none 2 := ⟨(xin_38 _ (List.mem_of_getElem? (i := 5) rfl)), (xin_33 _ (List.mem_of_getElem? (i := 5) rfl)), by decide, by decide, by decide +kernel⟩
theorem xi_X11_forget : Cond.instanceMethod yX11_forget ∈ wsL_law := (xin_38 _ (List.mem_of_getElem? (i := 3) rfl))
theorem xs_X11_forget : Cond.selects yX11_forget.cls yX11_forget yX11_forget ∈ wsL_law := (xin_38 _ (List.mem_of_getElem? (i := 4) rfl))
theorem fF_X11_99 : xF RX11 99 12 8 .int false := ⟨RX11, TX11, 31, tyX11, rfl, by decide, (xin_37 _ (List.mem_of_getElem? (i := 5) rfl)), rfl, inlX11, tyX11_ok, nmX11, rfl, rfl⟩
theorem fF_X11_102 : xF RX11 102 12 9 .int false := ⟨RX11, TX11, 31, tyX11, rfl, by decide, (xin_37 _ (List.mem_of_getElem? (i := 6) rfl)), rfl, inlX11, tyX11_ok, nmX11, rfl, rfl⟩
theorem dX11_land_0 : decode cX11_land 0 = .ok (.aload_n 1, 1) := by decide +kernel
theorem dX11_land_1 : decode cX11_land 1 = .ok (.iconst 2, 1) := by decide +kernel
theorem dX11_land_2 : decode cX11_land 2 = .ok (.iaload, 1) := by decide +kernel
theorem dX11_land_3 : decode cX11_land 3 = .ok (.istore_n 2, 1) := by decide +kernel
theorem dX11_land_4 : decode cX11_land 4 = .ok (.aload_n 1, 1) := by decide +kernel
theorem dX11_land_5 : decode cX11_land 5 = .ok (.iconst 1, 1) := by decide +kernel
theorem dX11_land_6 : decode cX11_land 6 = .ok (.iaload, 1) := by decide +kernel
theorem dX11_land_7 : decode cX11_land 7 = .ok (.iconst 1, 1) := by decide +kernel
theorem dX11_land_8 : decode cX11_land 8 = .ok (.if_icmp .ne 27, 3) := by decide +kernel
theorem dX11_land_11 : decode cX11_land 11 = .ok (.aload_n 0, 1) := by decide +kernel
theorem dX11_land_12 : decode cX11_land 12 = .ok (.iload_n 2, 1) := by decide +kernel
theorem dX11_land_13 : decode cX11_land 13 = .ok (.aload_n 1, 1) := by decide +kernel
theorem dX11_land_14 : decode cX11_land 14 = .ok (.iconst 3, 1) := by decide +kernel
theorem dX11_land_15 : decode cX11_land 15 = .ok (.iaload, 1) := by decide +kernel
theorem dX11_land_16 : decode cX11_land 16 = .ok (.invokevirtual 140, 3) := by decide +kernel
theorem dX11_land_19 : decode cX11_land 19 = .ok (.aload_n 0, 1) := by decide +kernel
theorem dX11_land_20 : decode cX11_land 20 = .ok (.iconst 0, 1) := by decide +kernel
theorem dX11_land_21 : decode cX11_land 21 = .ok (.putfield 99, 3) := by decide +kernel
theorem dX11_land_24 : decode cX11_land 24 = .ok (.aload_n 0, 1) := by decide +kernel
theorem dX11_land_25 : decode cX11_land 25 = .ok (.dup, 1) := by decide +kernel
theorem dX11_land_26 : decode cX11_land 26 = .ok (.getfield 102, 3) := by decide +kernel
theorem dX11_land_29 : decode cX11_land 29 = .ok (.iconst 1, 1) := by decide +kernel
theorem dX11_land_30 : decode cX11_land 30 = .ok (.iadd, 1) := by decide +kernel
theorem dX11_land_31 : decode cX11_land 31 = .ok (.putfield 102, 3) := by decide +kernel
theorem dX11_land_34 : decode cX11_land 34 = .ok (.return_, 1) := by decide +kernel
theorem dX11_land_35 : decode cX11_land 35 = .ok (.aload_n 1, 1) := by decide +kernel
theorem dX11_land_36 : decode cX11_land 36 = .ok (.iconst 4, 1) := by decide +kernel
theorem dX11_land_37 : decode cX11_land 37 = .ok (.iaload, 1) := by decide +kernel
theorem dX11_land_38 : decode cX11_land 38 = .ok (.iconst 1, 1) := by decide +kernel
theorem dX11_land_39 : decode cX11_land 39 = .ok (.if_icmp .eq 15, 3) := by decide +kernel
theorem dX11_land_42 : decode cX11_land 42 = .ok (.aload_n 1, 1) := by decide +kernel
theorem dX11_land_43 : decode cX11_land 43 = .ok (.iconst 3, 1) := by decide +kernel
theorem dX11_land_44 : decode cX11_land 44 = .ok (.iaload, 1) := by decide +kernel
theorem dX11_land_45 : decode cX11_land 45 = .ok (.aload_n 0, 1) := by decide +kernel
theorem dX11_land_46 : decode cX11_land 46 = .ok (.getfield 49, 3) := by decide +kernel
theorem dX11_land_49 : decode cX11_land 49 = .ok (.iload_n 2, 1) := by decide +kernel
theorem dX11_land_50 : decode cX11_land 50 = .ok (.iaload, 1) := by decide +kernel
theorem dX11_land_51 : decode cX11_land 51 = .ok (.if_icmp .eq 14, 3) := by decide +kernel
theorem dX11_land_54 : decode cX11_land 54 = .ok (.aload_n 0, 1) := by decide +kernel
theorem dX11_land_55 : decode cX11_land 55 = .ok (.getfield 29, 3) := by decide +kernel
theorem dX11_land_58 : decode cX11_land 58 = .ok (.iconst 2, 1) := by decide +kernel
theorem dX11_land_59 : decode cX11_land 59 = .ok (.dup2, 1) := by decide +kernel
theorem dX11_land_60 : decode cX11_land 60 = .ok (.iaload, 1) := by decide +kernel
theorem dX11_land_61 : decode cX11_land 61 = .ok (.iconst 1, 1) := by decide +kernel
theorem dX11_land_62 : decode cX11_land 62 = .ok (.iadd, 1) := by decide +kernel
theorem dX11_land_63 : decode cX11_land 63 = .ok (.iastore, 1) := by decide +kernel
theorem dX11_land_64 : decode cX11_land 64 = .ok (.return_, 1) := by decide +kernel
theorem dX11_land_65 : decode cX11_land 65 = .ok (.aload_n 1, 1) := by decide +kernel
theorem dX11_land_66 : decode cX11_land 66 = .ok (.iconst 5, 1) := by decide +kernel
theorem dX11_land_67 : decode cX11_land 67 = .ok (.iaload, 1) := by decide +kernel
theorem dX11_land_68 : decode cX11_land 68 = .ok (.iconst 1, 1) := by decide +kernel
theorem dX11_land_69 : decode cX11_land 69 = .ok (.if_icmp .ne 19, 3) := by decide +kernel
theorem dX11_land_72 : decode cX11_land 72 = .ok (.aload_n 0, 1) := by decide +kernel
theorem dX11_land_73 : decode cX11_land 73 = .ok (.getfield 43, 3) := by decide +kernel
theorem dX11_land_76 : decode cX11_land 76 = .ok (.iload_n 2, 1) := by decide +kernel
theorem dX11_land_77 : decode cX11_land 77 = .ok (.iconst 0, 1) := by decide +kernel
theorem dX11_land_78 : decode cX11_land 78 = .ok (.newarray .int, 2) := by decide +kernel
theorem dX11_land_80 : decode cX11_land 80 = .ok (.aastore, 1) := by decide +kernel
theorem dX11_land_81 : decode cX11_land 81 = .ok (.aload_n 0, 1) := by decide +kernel
theorem dX11_land_82 : decode cX11_land 82 = .ok (.bipush 7, 2) := by decide +kernel
theorem dX11_land_84 : decode cX11_land 84 = .ok (.iload_n 2, 1) := by decide +kernel
theorem dX11_land_85 : decode cX11_land 85 = .ok (.invokevirtual 144, 3) := by decide +kernel
theorem dX11_land_88 : decode cX11_land 88 = .ok (.bipush 6, 2) := by decide +kernel
theorem dX11_land_90 : decode cX11_land 90 = .ok (.istore_n 3, 1) := by decide +kernel
theorem dX11_land_91 : decode cX11_land 91 = .ok (.iload_n 3, 1) := by decide +kernel
theorem dX11_land_92 : decode cX11_land 92 = .ok (.aload_n 1, 1) := by decide +kernel
theorem dX11_land_93 : decode cX11_land 93 = .ok (.arraylength, 1) := by decide +kernel
theorem dX11_land_94 : decode cX11_land 94 = .ok (.if_icmp .ge 79, 3) := by decide +kernel
theorem dX11_land_97 : decode cX11_land 97 = .ok (.aload_n 0, 1) := by decide +kernel
theorem dX11_land_98 : decode cX11_land 98 = .ok (.getfield 43, 3) := by decide +kernel
theorem dX11_land_101 : decode cX11_land 101 = .ok (.iload_n 2, 1) := by decide +kernel
theorem dX11_land_102 : decode cX11_land 102 = .ok (.aload_n 0, 1) := by decide +kernel
theorem dX11_land_103 : decode cX11_land 103 = .ok (.getfield 43, 3) := by decide +kernel
theorem dX11_land_106 : decode cX11_land 106 = .ok (.iload_n 2, 1) := by decide +kernel
theorem dX11_land_107 : decode cX11_land 107 = .ok (.aaload, 1) := by decide +kernel
theorem dX11_land_108 : decode cX11_land 108 = .ok (.aload_n 1, 1) := by decide +kernel
theorem dX11_land_109 : decode cX11_land 109 = .ok (.iload_n 3, 1) := by decide +kernel
theorem dX11_land_110 : decode cX11_land 110 = .ok (.iaload, 1) := by decide +kernel
theorem dX11_land_111 : decode cX11_land 111 = .ok (.invokestatic 125, 3) := by decide +kernel
theorem dX11_land_114 : decode cX11_land 114 = .ok (.aastore, 1) := by decide +kernel
theorem dX11_land_115 : decode cX11_land 115 = .ok (.aload_n 0, 1) := by decide +kernel
theorem dX11_land_116 : decode cX11_land 116 = .ok (.getfield 37, 3) := by decide +kernel
theorem dX11_land_119 : decode cX11_land 119 = .ok (.iload_n 2, 1) := by decide +kernel
theorem dX11_land_120 : decode cX11_land 120 = .ok (.aaload, 1) := by decide +kernel
theorem dX11_land_121 : decode cX11_land 121 = .ok (.arraylength, 1) := by decide +kernel
theorem dX11_land_122 : decode cX11_land 122 = .ok (.sipush 400, 3) := by decide +kernel
theorem dX11_land_125 : decode cX11_land 125 = .ok (.if_icmp .ge 21, 3) := by decide +kernel
theorem dX11_land_128 : decode cX11_land 128 = .ok (.aload_n 0, 1) := by decide +kernel
theorem dX11_land_129 : decode cX11_land 129 = .ok (.getfield 37, 3) := by decide +kernel
theorem dX11_land_132 : decode cX11_land 132 = .ok (.iload_n 2, 1) := by decide +kernel
theorem dX11_land_133 : decode cX11_land 133 = .ok (.aload_n 0, 1) := by decide +kernel
theorem dX11_land_134 : decode cX11_land 134 = .ok (.getfield 37, 3) := by decide +kernel
theorem dX11_land_137 : decode cX11_land 137 = .ok (.iload_n 2, 1) := by decide +kernel
theorem dX11_land_138 : decode cX11_land 138 = .ok (.aaload, 1) := by decide +kernel
theorem dX11_land_139 : decode cX11_land 139 = .ok (.aload_n 1, 1) := by decide +kernel
theorem dX11_land_140 : decode cX11_land 140 = .ok (.iload_n 3, 1) := by decide +kernel
theorem dX11_land_141 : decode cX11_land 141 = .ok (.iaload, 1) := by decide +kernel
theorem dX11_land_142 : decode cX11_land 142 = .ok (.invokestatic 117, 3) := by decide +kernel
theorem dX11_land_145 : decode cX11_land 145 = .ok (.aastore, 1) := by decide +kernel
theorem dX11_land_146 : decode cX11_land 146 = .ok (.aload_n 0, 1) := by decide +kernel
theorem dX11_land_147 : decode cX11_land 147 = .ok (.getfield 52, 3) := by decide +kernel
theorem dX11_land_150 : decode cX11_land 150 = .ok (.iload_n 2, 1) := by decide +kernel
theorem dX11_land_151 : decode cX11_land 151 = .ok (.dup2, 1) := by decide +kernel
theorem dX11_land_152 : decode cX11_land 152 = .ok (.iaload, 1) := by decide +kernel
theorem dX11_land_153 : decode cX11_land 153 = .ok (.iconst 1, 1) := by decide +kernel
theorem dX11_land_154 : decode cX11_land 154 = .ok (.iadd, 1) := by decide +kernel
theorem dX11_land_155 : decode cX11_land 155 = .ok (.iastore, 1) := by decide +kernel
theorem dX11_land_156 : decode cX11_land 156 = .ok (.aload_n 0, 1) := by decide +kernel
theorem dX11_land_157 : decode cX11_land 157 = .ok (.getfield 29, 3) := by decide +kernel
theorem dX11_land_160 : decode cX11_land 160 = .ok (.bipush 10, 2) := by decide +kernel
theorem dX11_land_162 : decode cX11_land 162 = .ok (.dup2, 1) := by decide +kernel
theorem dX11_land_163 : decode cX11_land 163 = .ok (.iaload, 1) := by decide +kernel
theorem dX11_land_164 : decode cX11_land 164 = .ok (.iconst 1, 1) := by decide +kernel
theorem dX11_land_165 : decode cX11_land 165 = .ok (.iadd, 1) := by decide +kernel
theorem dX11_land_166 : decode cX11_land 166 = .ok (.iastore, 1) := by decide +kernel
theorem dX11_land_167 : decode cX11_land 167 = .ok (.iinc 3 1, 3) := by decide +kernel
theorem dX11_land_170 : decode cX11_land 170 = .ok (.goto (-79), 3) := by decide +kernel
theorem dX11_land_173 : decode cX11_land 173 = .ok (.aload_n 0, 1) := by decide +kernel
theorem dX11_land_174 : decode cX11_land 174 = .ok (.getfield 49, 3) := by decide +kernel
theorem dX11_land_177 : decode cX11_land 177 = .ok (.iload_n 2, 1) := by decide +kernel
theorem dX11_land_178 : decode cX11_land 178 = .ok (.dup2, 1) := by decide +kernel
theorem dX11_land_179 : decode cX11_land 179 = .ok (.iaload, 1) := by decide +kernel
theorem dX11_land_180 : decode cX11_land 180 = .ok (.iconst 1, 1) := by decide +kernel
theorem dX11_land_181 : decode cX11_land 181 = .ok (.iadd, 1) := by decide +kernel
theorem dX11_land_182 : decode cX11_land 182 = .ok (.iastore, 1) := by decide +kernel
theorem dX11_land_183 : decode cX11_land 183 = .ok (.aload_n 0, 1) := by decide +kernel
theorem dX11_land_184 : decode cX11_land 184 = .ok (.getfield 71, 3) := by decide +kernel
theorem dX11_land_187 : decode cX11_land 187 = .ok (.aload_n 0, 1) := by decide +kernel
theorem dX11_land_188 : decode cX11_land 188 = .ok (.dup, 1) := by decide +kernel
theorem dX11_land_189 : decode cX11_land 189 = .ok (.getfield 108, 3) := by decide +kernel
theorem dX11_land_192 : decode cX11_land 192 = .ok (.dup_x1, 1) := by decide +kernel
theorem dX11_land_193 : decode cX11_land 193 = .ok (.iconst 1, 1) := by decide +kernel
theorem dX11_land_194 : decode cX11_land 194 = .ok (.iadd, 1) := by decide +kernel
theorem dX11_land_195 : decode cX11_land 195 = .ok (.putfield 108, 3) := by decide +kernel
theorem dX11_land_198 : decode cX11_land 198 = .ok (.iconst 4, 1) := by decide +kernel
theorem dX11_land_199 : decode cX11_land 199 = .ok (.newarray .int, 2) := by decide +kernel
theorem dX11_land_201 : decode cX11_land 201 = .ok (.dup, 1) := by decide +kernel
theorem dX11_land_202 : decode cX11_land 202 = .ok (.iconst 0, 1) := by decide +kernel
theorem dX11_land_203 : decode cX11_land 203 = .ok (.aload_n 0, 1) := by decide +kernel
theorem dX11_land_204 : decode cX11_land 204 = .ok (.getfield 78, 3) := by decide +kernel
theorem dX11_land_207 : decode cX11_land 207 = .ok (.aload_n 0, 1) := by decide +kernel
theorem dX11_land_208 : decode cX11_land 208 = .ok (.getfield 26, 3) := by decide +kernel
theorem dX11_land_211 : decode cX11_land 211 = .ok (.iconst 3, 1) := by decide +kernel
theorem dX11_land_212 : decode cX11_land 212 = .ok (.iaload, 1) := by decide +kernel
theorem dX11_land_213 : decode cX11_land 213 = .ok (.iadd, 1) := by decide +kernel
theorem dX11_land_214 : decode cX11_land 214 = .ok (.iastore, 1) := by decide +kernel
theorem dX11_land_215 : decode cX11_land 215 = .ok (.dup, 1) := by decide +kernel
theorem dX11_land_216 : decode cX11_land 216 = .ok (.iconst 1, 1) := by decide +kernel
theorem dX11_land_217 : decode cX11_land 217 = .ok (.iconst 1, 1) := by decide +kernel
theorem dX11_land_218 : decode cX11_land 218 = .ok (.iastore, 1) := by decide +kernel
theorem dX11_land_219 : decode cX11_land 219 = .ok (.dup, 1) := by decide +kernel
theorem dX11_land_220 : decode cX11_land 220 = .ok (.iconst 2, 1) := by decide +kernel
theorem dX11_land_221 : decode cX11_land 221 = .ok (.iconst 1, 1) := by decide +kernel
theorem dX11_land_222 : decode cX11_land 222 = .ok (.iload_n 2, 1) := by decide +kernel
theorem dX11_land_223 : decode cX11_land 223 = .ok (.isub, 1) := by decide +kernel
theorem dX11_land_224 : decode cX11_land 224 = .ok (.iastore, 1) := by decide +kernel
theorem dX11_land_225 : decode cX11_land 225 = .ok (.dup, 1) := by decide +kernel
theorem dX11_land_226 : decode cX11_land 226 = .ok (.iconst 3, 1) := by decide +kernel
theorem dX11_land_227 : decode cX11_land 227 = .ok (.aload_n 1, 1) := by decide +kernel
theorem dX11_land_228 : decode cX11_land 228 = .ok (.iconst 3, 1) := by decide +kernel
theorem dX11_land_229 : decode cX11_land 229 = .ok (.iaload, 1) := by decide +kernel
theorem dX11_land_230 : decode cX11_land 230 = .ok (.iastore, 1) := by decide +kernel
theorem dX11_land_231 : decode cX11_land 231 = .ok (.aastore, 1) := by decide +kernel
theorem dX11_land_232 : decode cX11_land 232 = .ok (.return_, 1) := by decide +kernel
def f_O_land_54 (o : Nat) (a : Nat) (hp : gH) : Option (gH) :=
     (Option.bind (gfK hp o 17) fun q3 =>
      (Option.bind (gaN 0 hp q3 2) fun q4 =>
      (Option.bind (gsN 0 hp q3 2 (q4 + 1)) fun q5 =>
      some q5)))
set_option maxRecDepth 1000000 in
set_option maxHeartbeats 4000000 in
theorem t_O_land_54 {P : gG → Prop} {d : Nat} {m : xM} {h9 : gH} (hd9 : 3 ≤ d) (C : ∀ Γ, P Γ → gX Γ lay_X RX11 cX11_land 4 d h9) (o : Nat) (a : Nat) (hR : ∀ Γ, P Γ → gRv Γ lay_X cX11_land m h9) (hp : gH) (h : f_O_land_54 o a hp = some h9) : gJ P lay_X 4 54 [(0, .inr (.inr (some o)))] [] m hp h9 := by
  unfold f_O_land_54 at h
  refine g_aload_n C dX11_land_54 rfl ?_
  obtain ⟨q3, hq3, h⟩ := x_bind h
  refine g_getK C dX11_land_55 fF_X11_29 hq3 ?_
  refine g_iconst C dX11_land_58 ?_
  refine g_dup2 C dX11_land_59 rfl rfl ?_
  obtain ⟨q4, hq4, h⟩ := x_bind h
  refine g_iaload C dX11_land_60 hq4 ?_
  refine g_iconst C dX11_land_61 ?_
  refine g_iadd C dX11_land_62 ?_
  obtain ⟨q5, hq5, h⟩ := x_bind h
  refine g_iastore C dX11_land_63 hq5 ?_
  exact g_return hR dX11_land_64 (by cases h; exact ⟨rfl, rfl⟩)
def f_O_land_173 (o : Nat) (a : Nat) (x2 : Int) (hp : gH) : Option (gH) :=
     (Option.bind (gfK hp o 23) fun q11 =>
      (Option.bind (gaN 0 hp q11 x2) fun q12 =>
      (Option.bind (gsN 0 hp q11 x2 (q12 + 1)) fun q13 =>
      (Option.bind (gfK q13 o 29) fun q14 =>
      (Option.bind (gfI q13 o 11) fun q15 =>
      (Option.bind (gpt q13 o 11 (.inl (q15 + 1))) fun q16 =>
      (Option.bind (gNw 0 q16 4) fun q17 =>
      (Option.bind (gfI q17.2 o 0) fun q18 =>
      (Option.bind (gfK q17.2 o 16) fun q19 =>
      (Option.bind (gaN 0 q17.2 q19 3) fun q20 =>
      (Option.bind (gsN 0 q17.2 q17.1 0 (q18 + q20)) fun q21 =>
      (Option.bind (gsN 0 q21 q17.1 1 1) fun q22 =>
      (Option.bind (gsN 0 q22 q17.1 2 (1 - x2)) fun q23 =>
      (Option.bind (gaN 0 q23 a 3) fun q24 =>
      (Option.bind (gsN 0 q23 q17.1 3 q24) fun q25 =>
      (Option.bind (gsQ 4 q25 q14 q15 (some q17.1)) fun q26 =>
      some q26))))))))))))))))
set_option maxRecDepth 1000000 in
set_option maxHeartbeats 4000000 in
theorem t_O_land_173 {P : gG → Prop} {d : Nat} {m : xM} {h9 : gH} (hd9 : 3 ≤ d) (C : ∀ Γ, P Γ → gX Γ lay_X RX11 cX11_land 4 d h9) (o : Nat) (a : Nat) (hR : ∀ Γ, P Γ → gRv Γ lay_X cX11_land m h9) (x2 : Int) (hp : gH) (h : f_O_land_173 o a x2 hp = some h9) : gJ P lay_X 4 173 [(0, .inr (.inr (some o))), (1, .inr (.inr (some a))), (2, .inl x2)] [] m hp h9 := by
  unfold f_O_land_173 at h
  refine g_aload_n C dX11_land_173 rfl ?_
  obtain ⟨q11, hq11, h⟩ := x_bind h
  refine g_getK C dX11_land_174 fF_X11_49 hq11 ?_
  refine g_iload_n C dX11_land_177 rfl ?_
  refine g_dup2 C dX11_land_178 rfl rfl ?_
  obtain ⟨q12, hq12, h⟩ := x_bind h
  refine g_iaload C dX11_land_179 hq12 ?_
  refine g_iconst C dX11_land_180 ?_
  refine g_iadd C dX11_land_181 ?_
  obtain ⟨q13, hq13, h⟩ := x_bind h
  refine g_iastore C dX11_land_182 hq13 ?_
  refine g_aload_n C dX11_land_183 rfl ?_
  obtain ⟨q14, hq14, h⟩ := x_bind h
  refine g_getK C dX11_land_184 fF_X11_71 hq14 ?_
  refine g_aload_n C dX11_land_187 rfl ?_
  refine g_dup C dX11_land_188 rfl ?_
  obtain ⟨q15, hq15, h⟩ := x_bind h
  refine g_getI C dX11_land_189 fF_X11_108 hq15 ?_
  refine g_dup_x1 C dX11_land_192 rfl rfl ?_
  refine g_iconst C dX11_land_193 ?_
  refine g_iadd C dX11_land_194 ?_
  obtain ⟨q16, hq16, h⟩ := x_bind h
  refine g_putI C dX11_land_195 fF_X11_108 hq16 ?_
  refine g_iconst C dX11_land_198 ?_
  obtain ⟨q17, hq17, h⟩ := x_bind h
  refine g_newi C dX11_land_199 (xin_1 _ (List.mem_of_getElem? (i := 3) rfl)) hq17 ?_
  refine g_dup C dX11_land_201 rfl ?_
  refine g_iconst C dX11_land_202 ?_
  refine g_aload_n C dX11_land_203 rfl ?_
  obtain ⟨q18, hq18, h⟩ := x_bind h
  refine g_getI C dX11_land_204 fF_X11_78 hq18 ?_
  refine g_aload_n C dX11_land_207 rfl ?_
  obtain ⟨q19, hq19, h⟩ := x_bind h
  refine g_getK C dX11_land_208 fF_X11_26 hq19 ?_
  refine g_iconst C dX11_land_211 ?_
  obtain ⟨q20, hq20, h⟩ := x_bind h
  refine g_iaload C dX11_land_212 hq20 ?_
  refine g_iadd C dX11_land_213 ?_
  obtain ⟨q21, hq21, h⟩ := x_bind h
  refine g_iastore C dX11_land_214 hq21 ?_
  refine g_dup C dX11_land_215 rfl ?_
  refine g_iconst C dX11_land_216 ?_
  refine g_iconst C dX11_land_217 ?_
  obtain ⟨q22, hq22, h⟩ := x_bind h
  refine g_iastore C dX11_land_218 hq22 ?_
  refine g_dup C dX11_land_219 rfl ?_
  refine g_iconst C dX11_land_220 ?_
  refine g_iconst C dX11_land_221 ?_
  refine g_iload_n C dX11_land_222 rfl ?_
  refine g_isub C dX11_land_223 ?_
  obtain ⟨q23, hq23, h⟩ := x_bind h
  refine g_iastore C dX11_land_224 hq23 ?_
  refine g_dup C dX11_land_225 rfl ?_
  refine g_iconst C dX11_land_226 ?_
  refine g_aload_n C dX11_land_227 rfl ?_
  refine g_iconst C dX11_land_228 ?_
  obtain ⟨q24, hq24, h⟩ := x_bind h
  refine g_iaload C dX11_land_229 hq24 ?_
  obtain ⟨q25, hq25, h⟩ := x_bind h
  refine g_iastore C dX11_land_230 hq25 ?_
  obtain ⟨q26, hq26, h⟩ := x_bind h
  refine g_aastore4 C dX11_land_231 hq26 ?_
  exact g_return hR dX11_land_232 (by cases h; exact ⟨rfl, rfl⟩)
def f_O_land_146 (o : Nat) (a : Nat) (k91 : Int → Int → gH → Option (gH)) (x2 : Int) (x3 : Int) (hp : gH) : Option (gH) :=
     (Option.bind (gfK hp o 24) fun q36 =>
      (Option.bind (gaN 0 hp q36 x2) fun q37 =>
      (Option.bind (gsN 0 hp q36 x2 (q37 + 1)) fun q38 =>
      (Option.bind (gfK q38 o 17) fun q39 =>
      (Option.bind (gaN 0 q38 q39 10) fun q40 =>
      (Option.bind (gsN 0 q38 q39 10 (q40 + 1)) fun q41 =>
      k91 x2 (x3 + 1) q41))))))
set_option maxRecDepth 1000000 in
set_option maxHeartbeats 4000000 in
theorem t_O_land_146 {P : gG → Prop} {d : Nat} {m : xM} {h9 : gH} (hd9 : 3 ≤ d) (C : ∀ Γ, P Γ → gX Γ lay_X RX11 cX11_land 4 d h9) (o : Nat) (a : Nat) (hR : ∀ Γ, P Γ → gRv Γ lay_X cX11_land m h9) {k91 : Int → Int → gH → Option (gH)} (hk91 : ∀ (x2 : Int) (x3 : Int) (hp : gH), k91 x2 x3 hp = some h9 → gJ P lay_X 4 91 [(0, .inr (.inr (some o))), (1, .inr (.inr (some a))), (2, .inl x2), (3, .inl x3)] [] m hp h9) (x2 : Int) (x3 : Int) (hp : gH) (h : f_O_land_146 o a k91 x2 x3 hp = some h9) : gJ P lay_X 4 146 [(0, .inr (.inr (some o))), (1, .inr (.inr (some a))), (2, .inl x2), (3, .inl x3)] [] m hp h9 := by
  unfold f_O_land_146 at h
  refine g_aload_n C dX11_land_146 rfl ?_
  obtain ⟨q36, hq36, h⟩ := x_bind h
  refine g_getK C dX11_land_147 fF_X11_52 hq36 ?_
  refine g_iload_n C dX11_land_150 rfl ?_
  refine g_dup2 C dX11_land_151 rfl rfl ?_
  obtain ⟨q37, hq37, h⟩ := x_bind h
  refine g_iaload C dX11_land_152 hq37 ?_
  refine g_iconst C dX11_land_153 ?_
  refine g_iadd C dX11_land_154 ?_
  obtain ⟨q38, hq38, h⟩ := x_bind h
  refine g_iastore C dX11_land_155 hq38 ?_
  refine g_aload_n C dX11_land_156 rfl ?_
  obtain ⟨q39, hq39, h⟩ := x_bind h
  refine g_getK C dX11_land_157 fF_X11_29 hq39 ?_
  refine g_bipush C dX11_land_160 (by decide) ?_
  refine g_dup2 C dX11_land_162 rfl rfl ?_
  obtain ⟨q40, hq40, h⟩ := x_bind h
  refine g_iaload C dX11_land_163 hq40 ?_
  refine g_iconst C dX11_land_164 ?_
  refine g_iadd C dX11_land_165 ?_
  obtain ⟨q41, hq41, h⟩ := x_bind h
  refine g_iastore C dX11_land_166 hq41 ?_
  refine g_iinc C dX11_land_167 (by decide) rfl ?_
  refine g_goto C 91 dX11_land_170 (by decide) ?_
  refine g_loc [(0, .inr (.inr (some o))), (1, .inr (.inr (some a))), (2, .inl x2), (3, .inl (x3 + 1))] ⟨rfl, rfl, rfl, rfl, trivial⟩ ?_
  exact hk91 _ _ _ h
def f_O_land_91 (o : Nat) (a : Nat) : Nat → Int → Int → gH → Option (gH)
  | 0, _, _, _ => none
  | n + 1, x2, x3, hp =>
     (Option.bind (glc hp a) fun q10 =>
      (if xw x3 < xw q10 then (Option.bind (gfK hp o 21) fun q27 =>
      (Option.bind (gfK hp o 21) fun q28 =>
      (Option.bind (gaK 4 hp q28 x2) fun q29 =>
      (Option.bind (gaN 0 hp a x3) fun q30 =>
      (Option.bind (f_O_used q29 q30 hp) fun q31 =>
      (Option.bind (gsQ 4 q31.2 q27 x2 (some q31.1)) fun q32 =>
      (Option.bind (gfK q32 o 19) fun q33 =>
      (Option.bind (gaK 4 q32 q33 x2) fun q34 =>
      (Option.bind (glc q32 q34) fun q35 =>
      (if xw q35 < xw 400 then (Option.bind (gfK q32 o 19) fun q42 =>
      (Option.bind (gfK q32 o 19) fun q43 =>
      (Option.bind (gaK 4 q32 q43 x2) fun q44 =>
      (Option.bind (gaN 0 q32 a x3) fun q45 =>
      (Option.bind (f_O_with q44 q45 q32) fun q46 =>
      (Option.bind (gsQ 4 q46.2 q42 x2 (some q46.1)) fun q47 =>
      f_O_land_146 o a (f_O_land_91 o a n) x2 x3 q47))))))
      else f_O_land_146 o a (f_O_land_91 o a n) x2 x3 q32))))))))))
      else f_O_land_173 o a x2 hp))
set_option maxRecDepth 1000000 in
set_option maxHeartbeats 4000000 in
theorem t_O_land_91 {P : gG → Prop} {d : Nat} {m : xM} {h9 : gH} (hd9 : 3 ≤ d) (C : ∀ Γ, P Γ → gX Γ lay_X RX11 cX11_land 4 d h9) (o : Nat) (a : Nat) (hR : ∀ Γ, P Γ → gRv Γ lay_X cX11_land m h9) : ∀ (n : Nat) (x2 : Int) (x3 : Int) (hp : gH), f_O_land_91 o a n x2 x3 hp = some h9 → gJ P lay_X 4 91 [(0, .inr (.inr (some o))), (1, .inr (.inr (some a))), (2, .inl x2), (3, .inl x3)] [] m hp h9 := by
  intro n
  induction n with
  | zero => intro _ _ _ h; cases h
  | succ n ih =>
    intro x2 x3 hp h
    rw [f_O_land_91] at h
    refine g_iload_n C dX11_land_91 rfl ?_
    refine g_aload_n C dX11_land_92 rfl ?_
    obtain ⟨q10, hq10, h⟩ := x_bind h
    refine g_lenC C dX11_land_93 hq10 ?_
    refine g_icmp_ge C 173 dX11_land_94 (by decide) h (fun h => ?_) (fun h => ?_)
    · refine g_loc [(0, .inr (.inr (some o))), (1, .inr (.inr (some a))), (2, .inl x2)] ⟨rfl, rfl, rfl, trivial⟩ ?_
      exact t_O_land_173 hd9 C _ _ hR _ _ h
    · refine g_aload_n C dX11_land_97 rfl ?_
      obtain ⟨q27, hq27, h⟩ := x_bind h
      refine g_getK C dX11_land_98 fF_X11_43 hq27 ?_
      refine g_iload_n C dX11_land_101 rfl ?_
      refine g_aload_n C dX11_land_102 rfl ?_
      obtain ⟨q28, hq28, h⟩ := x_bind h
      refine g_getK C dX11_land_103 fF_X11_43 hq28 ?_
      refine g_iload_n C dX11_land_106 rfl ?_
      obtain ⟨q29, hq29, h⟩ := x_bind h
      refine g_aaloadK4 C dX11_land_107 hq29 ?_
      refine g_aload_n C dX11_land_108 rfl ?_
      refine g_iload_n C dX11_land_109 rfl ?_
      obtain ⟨q30, hq30, h⟩ := x_bind h
      refine g_iaload C dX11_land_110 hq30 ?_
      obtain ⟨q31, hq31, h⟩ := x_bind h
      refine g_callS C dX11_land_111 (xin_38 _ (List.mem_of_getElem? (i := 6) rfl)) xy_X11_used xt_X11_used (by omega) (by decide) (av := [.inr (.inr (some q29)), .inl q30]) rfl (Nat.le_of_ble_eq_true rfl) (le_O_used hq31) (c_O_used _ hq31) rfl ?_
      obtain ⟨q32, hq32, h⟩ := x_bind h
      refine g_aastore4 C dX11_land_114 hq32 ?_
      refine g_aload_n C dX11_land_115 rfl ?_
      obtain ⟨q33, hq33, h⟩ := x_bind h
      refine g_getK C dX11_land_116 fF_X11_37 hq33 ?_
      refine g_iload_n C dX11_land_119 rfl ?_
      obtain ⟨q34, hq34, h⟩ := x_bind h
      refine g_aaloadK4 C dX11_land_120 hq34 ?_
      obtain ⟨q35, hq35, h⟩ := x_bind h
      refine g_lenC C dX11_land_121 hq35 ?_
      refine g_sipush C dX11_land_122 (by decide) ?_
      refine g_icmp_ge C 146 dX11_land_125 (by decide) h (fun h => ?_) (fun h => ?_)
      · refine g_loc [(0, .inr (.inr (some o))), (1, .inr (.inr (some a))), (2, .inl x2), (3, .inl x3)] ⟨rfl, rfl, rfl, rfl, trivial⟩ ?_
        exact t_O_land_146 hd9 C _ _ hR ih _ _ _ h
      · refine g_aload_n C dX11_land_128 rfl ?_
        obtain ⟨q42, hq42, h⟩ := x_bind h
        refine g_getK C dX11_land_129 fF_X11_37 hq42 ?_
        refine g_iload_n C dX11_land_132 rfl ?_
        refine g_aload_n C dX11_land_133 rfl ?_
        obtain ⟨q43, hq43, h⟩ := x_bind h
        refine g_getK C dX11_land_134 fF_X11_37 hq43 ?_
        refine g_iload_n C dX11_land_137 rfl ?_
        obtain ⟨q44, hq44, h⟩ := x_bind h
        refine g_aaloadK4 C dX11_land_138 hq44 ?_
        refine g_aload_n C dX11_land_139 rfl ?_
        refine g_iload_n C dX11_land_140 rfl ?_
        obtain ⟨q45, hq45, h⟩ := x_bind h
        refine g_iaload C dX11_land_141 hq45 ?_
        obtain ⟨q46, hq46, h⟩ := x_bind h
        refine g_callS C dX11_land_142 (xin_38 _ (List.mem_of_getElem? (i := 9) rfl)) xy_X11_with xt_X11_with (by omega) (by decide) (av := [.inr (.inr (some q44)), .inl q45]) rfl (Nat.le_of_ble_eq_true rfl) (le_O_with hq46) (c_O_with _ hq46) rfl ?_
        obtain ⟨q47, hq47, h⟩ := x_bind h
        refine g_aastore4 C dX11_land_145 hq47 ?_
        refine g_loc [(0, .inr (.inr (some o))), (1, .inr (.inr (some a))), (2, .inl x2), (3, .inl x3)] ⟨rfl, rfl, rfl, rfl, trivial⟩ ?_
        exact t_O_land_146 hd9 C _ _ hR ih _ _ _ h
def f_O_land_88 (o : Nat) (a : Nat) (x2 : Int) (hp : gH) : Option (gH) :=
     f_O_land_91 o a fu x2 6 hp
set_option maxRecDepth 1000000 in
set_option maxHeartbeats 4000000 in
theorem t_O_land_88 {P : gG → Prop} {d : Nat} {m : xM} {h9 : gH} (hd9 : 3 ≤ d) (C : ∀ Γ, P Γ → gX Γ lay_X RX11 cX11_land 4 d h9) (o : Nat) (a : Nat) (hR : ∀ Γ, P Γ → gRv Γ lay_X cX11_land m h9) (x2 : Int) (hp : gH) (h : f_O_land_88 o a x2 hp = some h9) : gJ P lay_X 4 88 [(0, .inr (.inr (some o))), (1, .inr (.inr (some a))), (2, .inl x2)] [] m hp h9 := by
  unfold f_O_land_88 at h
  refine g_bipush C dX11_land_88 (by decide) ?_
  refine g_istore_n C dX11_land_90 (by decide) ?_
  refine g_loc [(0, .inr (.inr (some o))), (1, .inr (.inr (some a))), (2, .inl x2), (3, .inl 6)] ⟨rfl, rfl, rfl, rfl, trivial⟩ ?_
  exact t_O_land_91 hd9 C _ _ hR fu _ _ _ h
def f_O_land (o : Nat) (a : Nat) (hp : gH) : Option (gH) :=
     (Option.bind (gaN 0 hp a 2) fun q0 =>
      (Option.bind (gaN 0 hp a 1) fun q1 =>
      (if xw q1 = xw 1 then (Option.bind (gaN 0 hp a 3) fun q53 =>
      (Option.bind (f_O_forget o q0 q53 hp) fun q54 =>
      (if gob hp o = true then (Option.bind (gpt q54 o 8 (.inl 0)) fun q56 =>
      (Option.bind (gfI q56 o 9) fun q57 =>
      (Option.bind (gpt q56 o 9 (.inl (q57 + 1))) fun q58 =>
      some q58)))
      else none)))
      else (Option.bind (gaN 0 hp a 4) fun q2 =>
      (if xw q2 = xw 1 then f_O_land_54 o a hp
      else (Option.bind (gaN 0 hp a 3) fun q6 =>
      (Option.bind (gfK hp o 23) fun q7 =>
      (Option.bind (gaN 0 hp q7 q0) fun q8 =>
      (if xw q6 = xw q8 then (Option.bind (gaN 0 hp a 5) fun q9 =>
      (if xw q9 = xw 1 then (Option.bind (gfK hp o 21) fun q48 =>
      (Option.bind (gNw 0 hp 0) fun q49 =>
      (Option.bind (gsQ 4 q49.2 q48 q0 (some q49.1)) fun q50 =>
      (Option.bind (f_O_tell o 7 q0 q50) fun q51 =>
      (if gob q50 o = true then f_O_land_88 o a q0 q51
      else none)))))
      else f_O_land_88 o a q0 hp))
      else f_O_land_54 o a hp)))))))))
set_option maxRecDepth 1000000 in
set_option maxHeartbeats 4000000 in
theorem t_O_land {P : gG → Prop} {d : Nat} {m : xM} {h9 : gH} (hd9 : 3 ≤ d) (C : ∀ Γ, P Γ → gX Γ lay_X RX11 cX11_land 4 d h9) (o : Nat) (a : Nat) (hR : ∀ Γ, P Γ → gRv Γ lay_X cX11_land m h9) (hp : gH) (h : f_O_land o a hp = some h9) : gJ P lay_X 4 0 [(0, .inr (.inr (some o))), (1, .inr (.inr (some a)))] [] m hp h9 := by
  unfold f_O_land at h
  refine g_aload_n C dX11_land_0 rfl ?_
  refine g_iconst C dX11_land_1 ?_
  obtain ⟨q0, hq0, h⟩ := x_bind h
  refine g_iaload C dX11_land_2 hq0 ?_
  refine g_istore_n C dX11_land_3 (by decide) ?_
  refine g_aload_n C dX11_land_4 rfl ?_
  refine g_iconst C dX11_land_5 ?_
  obtain ⟨q1, hq1, h⟩ := x_bind h
  refine g_iaload C dX11_land_6 hq1 ?_
  refine g_iconst C dX11_land_7 ?_
  refine g_icmp_ne C 35 dX11_land_8 (by decide) h (fun h => ?_) (fun h => ?_)
  · refine g_aload_n C dX11_land_35 rfl ?_
    refine g_iconst C dX11_land_36 ?_
    obtain ⟨q2, hq2, h⟩ := x_bind h
    refine g_iaload C dX11_land_37 hq2 ?_
    refine g_iconst C dX11_land_38 ?_
    refine g_icmp_eq C 54 dX11_land_39 (by decide) h (fun h => ?_) (fun h => ?_)
    · refine g_loc [(0, .inr (.inr (some o)))] ⟨rfl, trivial⟩ ?_
      exact t_O_land_54 hd9 C _ _ hR _ h
    · refine g_aload_n C dX11_land_42 rfl ?_
      refine g_iconst C dX11_land_43 ?_
      obtain ⟨q6, hq6, h⟩ := x_bind h
      refine g_iaload C dX11_land_44 hq6 ?_
      refine g_aload_n C dX11_land_45 rfl ?_
      obtain ⟨q7, hq7, h⟩ := x_bind h
      refine g_getK C dX11_land_46 fF_X11_49 hq7 ?_
      refine g_iload_n C dX11_land_49 rfl ?_
      obtain ⟨q8, hq8, h⟩ := x_bind h
      refine g_iaload C dX11_land_50 hq8 ?_
      refine g_icmp_eq C 65 dX11_land_51 (by decide) h (fun h => ?_) (fun h => ?_)
      · refine g_aload_n C dX11_land_65 rfl ?_
        refine g_iconst C dX11_land_66 ?_
        obtain ⟨q9, hq9, h⟩ := x_bind h
        refine g_iaload C dX11_land_67 hq9 ?_
        refine g_iconst C dX11_land_68 ?_
        refine g_icmp_ne C 88 dX11_land_69 (by decide) h (fun h => ?_) (fun h => ?_)
        · refine g_loc [(0, .inr (.inr (some o))), (1, .inr (.inr (some a))), (2, .inl q0)] ⟨rfl, rfl, rfl, trivial⟩ ?_
          exact t_O_land_88 hd9 C _ _ hR _ _ h
        · refine g_aload_n C dX11_land_72 rfl ?_
          obtain ⟨q48, hq48, h⟩ := x_bind h
          refine g_getK C dX11_land_73 fF_X11_43 hq48 ?_
          refine g_iload_n C dX11_land_76 rfl ?_
          refine g_iconst C dX11_land_77 ?_
          obtain ⟨q49, hq49, h⟩ := x_bind h
          refine g_newi C dX11_land_78 (xin_1 _ (List.mem_of_getElem? (i := 3) rfl)) hq49 ?_
          obtain ⟨q50, hq50, h⟩ := x_bind h
          refine g_aastore4 C dX11_land_80 hq50 ?_
          refine g_aload_n C dX11_land_81 rfl ?_
          refine g_bipush C dX11_land_82 (by decide) ?_
          refine g_iload_n C dX11_land_84 rfl ?_
          obtain ⟨q51, hq51, h⟩ := x_bind h
          obtain ⟨fo53, h⟩ := x_some1 h
          obtain ⟨_, hfo53⟩ := gob_some fo53
          refine g_callV C dX11_land_85 (xin_36 _ (List.mem_of_getElem? (i := 19) rfl)) xy_X11_tell xi_X11_tell xs_X11_tell hfo53 ⟨_, _, rfl⟩ (by omega) (by decide) (av := [.inl 7, .inl q0]) rfl (Nat.le_of_ble_eq_true rfl) (le_O_tell hq51) (c_O_tell _ hq51) rfl ?_
          refine g_loc [(0, .inr (.inr (some o))), (1, .inr (.inr (some a))), (2, .inl q0)] ⟨rfl, rfl, rfl, trivial⟩ ?_
          exact t_O_land_88 hd9 C _ _ hR _ _ h
      · refine g_loc [(0, .inr (.inr (some o)))] ⟨rfl, trivial⟩ ?_
        exact t_O_land_54 hd9 C _ _ hR _ h
  · refine g_aload_n C dX11_land_11 rfl ?_
    refine g_iload_n C dX11_land_12 rfl ?_
    refine g_aload_n C dX11_land_13 rfl ?_
    refine g_iconst C dX11_land_14 ?_
    obtain ⟨q53, hq53, h⟩ := x_bind h
    refine g_iaload C dX11_land_15 hq53 ?_
    obtain ⟨q54, hq54, h⟩ := x_bind h
    obtain ⟨fo56, h⟩ := x_some1 h
    obtain ⟨_, hfo56⟩ := gob_some fo56
    refine g_callV C dX11_land_16 (xin_38 _ (List.mem_of_getElem? (i := 2) rfl)) xy_X11_forget xi_X11_forget xs_X11_forget hfo56 ⟨_, _, rfl⟩ (by omega) (by decide) (av := [.inl q0, .inl q53]) rfl (Nat.le_of_ble_eq_true rfl) (le_O_forget hq54) (c_O_forget _ hq54) rfl ?_
    refine g_aload_n C dX11_land_19 rfl ?_
    refine g_iconst C dX11_land_20 ?_
    obtain ⟨q56, hq56, h⟩ := x_bind h
    refine g_putI C dX11_land_21 fF_X11_99 hq56 ?_
    refine g_aload_n C dX11_land_24 rfl ?_
    refine g_dup C dX11_land_25 rfl ?_
    obtain ⟨q57, hq57, h⟩ := x_bind h
    refine g_getI C dX11_land_26 fF_X11_102 hq57 ?_
    refine g_iconst C dX11_land_29 ?_
    refine g_iadd C dX11_land_30 ?_
    obtain ⟨q58, hq58, h⟩ := x_bind h
    refine g_putI C dX11_land_31 fF_X11_102 hq58 ?_
    exact g_return hR dX11_land_34 (by cases h; exact ⟨rfl, rfl⟩)
theorem c_O_land {o : Nat} {a : Nat} (m : xM) {hp h9 : gH} (h : f_O_land o a hp = some h9) (l : Launch) : gMet l yX11_land cX11_land 4 none 3 lay_X [.inr (.inr (some o)), .inr (.inr (some a))] m hp none m h9 :=
  gMet_v (by decide +kernel) (Nat.le_of_ble_eq_true rfl) (fun P C hR => t_O_land (Nat.le_refl _) C _ _ hR hp h)
theorem le_O_land {o : Nat} {a : Nat} {hp h9 : gH} (h : f_O_land o a hp = some h9) : gle hp h9 :=
  (t_O_land (P := fun _ => False) (m := fun _ _ => 0) (Nat.le_refl _) (fun _ q => q.elim) _ _ (fun _ q => q.elim) hp h).1

/-! ===== yX11_arrivals ===== -/
theorem xy_X11_land : xY yX11_land cX11_land 4 none 1 := ⟨(xin_38 _ (List.mem_of_getElem? (i := 1) rfl)), (xin_33 _ (List.mem_of_getElem? (i := 5) rfl)), by decide, by decide, by decide +kernel⟩
theorem xi_X11_land : Cond.instanceMethod yX11_land ∈ wsL_law := (xin_37 _ (List.mem_of_getElem? (i := 23) rfl))
theorem xs_X11_land : Cond.selects yX11_land.cls yX11_land yX11_land ∈ wsL_law := (xin_38 _ (List.mem_of_getElem? (i := 0) rfl))
theorem dX11_arrivals_0 : decode cX11_arrivals 0 = .ok (.aload_n 0, 1) := by decide +kernel
theorem dX11_arrivals_1 : decode cX11_arrivals 1 = .ok (.getfield 71, 3) := by decide +kernel
theorem dX11_arrivals_4 : decode cX11_arrivals 4 = .ok (.astore_n 1, 1) := by decide +kernel
theorem dX11_arrivals_5 : decode cX11_arrivals 5 = .ok (.aload_n 0, 1) := by decide +kernel
theorem dX11_arrivals_6 : decode cX11_arrivals 6 = .ok (.getfield 108, 3) := by decide +kernel
theorem dX11_arrivals_9 : decode cX11_arrivals 9 = .ok (.istore_n 2, 1) := by decide +kernel
theorem dX11_arrivals_10 : decode cX11_arrivals 10 = .ok (.aload_n 0, 1) := by decide +kernel
theorem dX11_arrivals_11 : decode cX11_arrivals 11 = .ok (.sipush 200, 3) := by decide +kernel
theorem dX11_arrivals_14 : decode cX11_arrivals 14 = .ok (.anewarray 70, 3) := by decide +kernel
theorem dX11_arrivals_17 : decode cX11_arrivals 17 = .ok (.putfield 71, 3) := by decide +kernel
theorem dX11_arrivals_20 : decode cX11_arrivals 20 = .ok (.aload_n 0, 1) := by decide +kernel
theorem dX11_arrivals_21 : decode cX11_arrivals 21 = .ok (.iconst 0, 1) := by decide +kernel
theorem dX11_arrivals_22 : decode cX11_arrivals 22 = .ok (.putfield 108, 3) := by decide +kernel
theorem dX11_arrivals_25 : decode cX11_arrivals 25 = .ok (.iconst 0, 1) := by decide +kernel
theorem dX11_arrivals_26 : decode cX11_arrivals 26 = .ok (.istore_n 3, 1) := by decide +kernel
theorem dX11_arrivals_27 : decode cX11_arrivals 27 = .ok (.iload_n 3, 1) := by decide +kernel
theorem dX11_arrivals_28 : decode cX11_arrivals 28 = .ok (.iload_n 2, 1) := by decide +kernel
theorem dX11_arrivals_29 : decode cX11_arrivals 29 = .ok (.if_icmp .ge 40, 3) := by decide +kernel
theorem dX11_arrivals_32 : decode cX11_arrivals 32 = .ok (.aload_n 1, 1) := by decide +kernel
theorem dX11_arrivals_33 : decode cX11_arrivals 33 = .ok (.iload_n 3, 1) := by decide +kernel
theorem dX11_arrivals_34 : decode cX11_arrivals 34 = .ok (.aaload, 1) := by decide +kernel
theorem dX11_arrivals_35 : decode cX11_arrivals 35 = .ok (.iconst 0, 1) := by decide +kernel
theorem dX11_arrivals_36 : decode cX11_arrivals 36 = .ok (.iaload, 1) := by decide +kernel
theorem dX11_arrivals_37 : decode cX11_arrivals 37 = .ok (.aload_n 0, 1) := by decide +kernel
theorem dX11_arrivals_38 : decode cX11_arrivals 38 = .ok (.getfield 78, 3) := by decide +kernel
theorem dX11_arrivals_41 : decode cX11_arrivals 41 = .ok (.if_icmp .eq 22, 3) := by decide +kernel
theorem dX11_arrivals_44 : decode cX11_arrivals 44 = .ok (.aload_n 0, 1) := by decide +kernel
theorem dX11_arrivals_45 : decode cX11_arrivals 45 = .ok (.getfield 71, 3) := by decide +kernel
theorem dX11_arrivals_48 : decode cX11_arrivals 48 = .ok (.aload_n 0, 1) := by decide +kernel
theorem dX11_arrivals_49 : decode cX11_arrivals 49 = .ok (.dup, 1) := by decide +kernel
theorem dX11_arrivals_50 : decode cX11_arrivals 50 = .ok (.getfield 108, 3) := by decide +kernel
theorem dX11_arrivals_53 : decode cX11_arrivals 53 = .ok (.dup_x1, 1) := by decide +kernel
theorem dX11_arrivals_54 : decode cX11_arrivals 54 = .ok (.iconst 1, 1) := by decide +kernel
theorem dX11_arrivals_55 : decode cX11_arrivals 55 = .ok (.iadd, 1) := by decide +kernel
theorem dX11_arrivals_56 : decode cX11_arrivals 56 = .ok (.putfield 108, 3) := by decide +kernel
theorem dX11_arrivals_59 : decode cX11_arrivals 59 = .ok (.aload_n 1, 1) := by decide +kernel
theorem dX11_arrivals_60 : decode cX11_arrivals 60 = .ok (.iload_n 3, 1) := by decide +kernel
theorem dX11_arrivals_61 : decode cX11_arrivals 61 = .ok (.aaload, 1) := by decide +kernel
theorem dX11_arrivals_62 : decode cX11_arrivals 62 = .ok (.aastore, 1) := by decide +kernel
theorem dX11_arrivals_63 : decode cX11_arrivals 63 = .ok (.iinc 3 1, 3) := by decide +kernel
theorem dX11_arrivals_66 : decode cX11_arrivals 66 = .ok (.goto (-39), 3) := by decide +kernel
theorem dX11_arrivals_69 : decode cX11_arrivals 69 = .ok (.iconst 0, 1) := by decide +kernel
theorem dX11_arrivals_70 : decode cX11_arrivals 70 = .ok (.istore_n 3, 1) := by decide +kernel
theorem dX11_arrivals_71 : decode cX11_arrivals 71 = .ok (.iload_n 3, 1) := by decide +kernel
theorem dX11_arrivals_72 : decode cX11_arrivals 72 = .ok (.iload_n 2, 1) := by decide +kernel
theorem dX11_arrivals_73 : decode cX11_arrivals 73 = .ok (.if_icmp .ge 28, 3) := by decide +kernel
theorem dX11_arrivals_76 : decode cX11_arrivals 76 = .ok (.aload_n 1, 1) := by decide +kernel
theorem dX11_arrivals_77 : decode cX11_arrivals 77 = .ok (.iload_n 3, 1) := by decide +kernel
theorem dX11_arrivals_78 : decode cX11_arrivals 78 = .ok (.aaload, 1) := by decide +kernel
theorem dX11_arrivals_79 : decode cX11_arrivals 79 = .ok (.iconst 0, 1) := by decide +kernel
theorem dX11_arrivals_80 : decode cX11_arrivals 80 = .ok (.iaload, 1) := by decide +kernel
theorem dX11_arrivals_81 : decode cX11_arrivals 81 = .ok (.aload_n 0, 1) := by decide +kernel
theorem dX11_arrivals_82 : decode cX11_arrivals 82 = .ok (.getfield 78, 3) := by decide +kernel
theorem dX11_arrivals_85 : decode cX11_arrivals 85 = .ok (.if_icmp .ne 10, 3) := by decide +kernel
theorem dX11_arrivals_88 : decode cX11_arrivals 88 = .ok (.aload_n 0, 1) := by decide +kernel
theorem dX11_arrivals_89 : decode cX11_arrivals 89 = .ok (.aload_n 1, 1) := by decide +kernel
theorem dX11_arrivals_90 : decode cX11_arrivals 90 = .ok (.iload_n 3, 1) := by decide +kernel
theorem dX11_arrivals_91 : decode cX11_arrivals 91 = .ok (.aaload, 1) := by decide +kernel
theorem dX11_arrivals_92 : decode cX11_arrivals 92 = .ok (.invokevirtual 147, 3) := by decide +kernel
theorem dX11_arrivals_95 : decode cX11_arrivals 95 = .ok (.iinc 3 1, 3) := by decide +kernel
theorem dX11_arrivals_98 : decode cX11_arrivals 98 = .ok (.goto (-27), 3) := by decide +kernel
theorem dX11_arrivals_101 : decode cX11_arrivals 101 = .ok (.return_, 1) := by decide +kernel
def f_O_arrivals_95 (o : Nat) (k71 : Nat → Int → Int → gH → Option (gH)) (x1 : Nat) (x2 : Int) (x3 : Int) (hp : gH) : Option (gH) :=
     k71 x1 x2 (x3 + 1) hp
set_option maxRecDepth 1000000 in
set_option maxHeartbeats 4000000 in
theorem t_O_arrivals_95 {P : gG → Prop} {d : Nat} {m : xM} {h9 : gH} (hd9 : 4 ≤ d) (C : ∀ Γ, P Γ → gX Γ lay_X RX11 cX11_arrivals 4 d h9) (o : Nat) (hR : ∀ Γ, P Γ → gRv Γ lay_X cX11_arrivals m h9) {k71 : Nat → Int → Int → gH → Option (gH)} (hk71 : ∀ (x1 : Nat) (x2 : Int) (x3 : Int) (hp : gH), k71 x1 x2 x3 hp = some h9 → gJ P lay_X 4 71 [(0, .inr (.inr (some o))), (1, .inr (.inr (some x1))), (2, .inl x2), (3, .inl x3)] [] m hp h9) (x1 : Nat) (x2 : Int) (x3 : Int) (hp : gH) (h : f_O_arrivals_95 o k71 x1 x2 x3 hp = some h9) : gJ P lay_X 4 95 [(0, .inr (.inr (some o))), (1, .inr (.inr (some x1))), (2, .inl x2), (3, .inl x3)] [] m hp h9 := by
  unfold f_O_arrivals_95 at h
  refine g_iinc C dX11_arrivals_95 (by decide) rfl ?_
  refine g_goto C 71 dX11_arrivals_98 (by decide) ?_
  refine g_loc [(0, .inr (.inr (some o))), (1, .inr (.inr (some x1))), (2, .inl x2), (3, .inl (x3 + 1))] ⟨rfl, rfl, rfl, rfl, trivial⟩ ?_
  exact hk71 _ _ _ _ h
def f_O_arrivals_71 (o : Nat) : Nat → Nat → Int → Int → gH → Option (gH)
  | 0, _, _, _, _ => none
  | n + 1, x1, x2, x3, hp =>
     (if xw x3 < xw x2 then (Option.bind (gaK 4 hp x1 x3) fun q5 =>
      (Option.bind (gaN 0 hp q5 0) fun q6 =>
      (Option.bind (gfI hp o 0) fun q7 =>
      (if xw q6 = xw q7 then (Option.bind (gaK 4 hp x1 x3) fun q8 =>
      (Option.bind (f_O_land o q8 hp) fun q9 =>
      (if gob hp o = true then f_O_arrivals_95 o (f_O_arrivals_71 o n) x1 x2 x3 q9
      else none)))
      else f_O_arrivals_95 o (f_O_arrivals_71 o n) x1 x2 x3 hp))))
      else some hp)
set_option maxRecDepth 1000000 in
set_option maxHeartbeats 4000000 in
theorem t_O_arrivals_71 {P : gG → Prop} {d : Nat} {m : xM} {h9 : gH} (hd9 : 4 ≤ d) (C : ∀ Γ, P Γ → gX Γ lay_X RX11 cX11_arrivals 4 d h9) (o : Nat) (hR : ∀ Γ, P Γ → gRv Γ lay_X cX11_arrivals m h9) : ∀ (n : Nat) (x1 : Nat) (x2 : Int) (x3 : Int) (hp : gH), f_O_arrivals_71 o n x1 x2 x3 hp = some h9 → gJ P lay_X 4 71 [(0, .inr (.inr (some o))), (1, .inr (.inr (some x1))), (2, .inl x2), (3, .inl x3)] [] m hp h9 := by
  intro n
  induction n with
  | zero => intro _ _ _ _ h; cases h
  | succ n ih =>
    intro x1 x2 x3 hp h
    rw [f_O_arrivals_71] at h
    refine g_iload_n C dX11_arrivals_71 rfl ?_
    refine g_iload_n C dX11_arrivals_72 rfl ?_
    refine g_icmp_ge C 101 dX11_arrivals_73 (by decide) h (fun h => ?_) (fun h => ?_)
    · exact g_return hR dX11_arrivals_101 (by cases h; exact ⟨rfl, rfl⟩)
    · refine g_aload_n C dX11_arrivals_76 rfl ?_
      refine g_iload_n C dX11_arrivals_77 rfl ?_
      obtain ⟨q5, hq5, h⟩ := x_bind h
      refine g_aaloadK4 C dX11_arrivals_78 hq5 ?_
      refine g_iconst C dX11_arrivals_79 ?_
      obtain ⟨q6, hq6, h⟩ := x_bind h
      refine g_iaload C dX11_arrivals_80 hq6 ?_
      refine g_aload_n C dX11_arrivals_81 rfl ?_
      obtain ⟨q7, hq7, h⟩ := x_bind h
      refine g_getI C dX11_arrivals_82 fF_X11_78 hq7 ?_
      refine g_icmp_ne C 95 dX11_arrivals_85 (by decide) h (fun h => ?_) (fun h => ?_)
      · refine g_loc [(0, .inr (.inr (some o))), (1, .inr (.inr (some x1))), (2, .inl x2), (3, .inl x3)] ⟨rfl, rfl, rfl, rfl, trivial⟩ ?_
        exact t_O_arrivals_95 hd9 C _ hR ih _ _ _ _ h
      · refine g_aload_n C dX11_arrivals_88 rfl ?_
        refine g_aload_n C dX11_arrivals_89 rfl ?_
        refine g_iload_n C dX11_arrivals_90 rfl ?_
        obtain ⟨q8, hq8, h⟩ := x_bind h
        refine g_aaloadK4 C dX11_arrivals_91 hq8 ?_
        obtain ⟨q9, hq9, h⟩ := x_bind h
        obtain ⟨fo11, h⟩ := x_some1 h
        obtain ⟨_, hfo11⟩ := gob_some fo11
        refine g_callV C dX11_arrivals_92 (xin_37 _ (List.mem_of_getElem? (i := 22) rfl)) xy_X11_land xi_X11_land xs_X11_land hfo11 ⟨_, _, rfl⟩ (by omega) (by decide) (av := [.inr (.inr (some q8))]) rfl (Nat.le_of_ble_eq_true rfl) (le_O_land hq9) (c_O_land _ hq9) rfl ?_
        refine g_loc [(0, .inr (.inr (some o))), (1, .inr (.inr (some x1))), (2, .inl x2), (3, .inl x3)] ⟨rfl, rfl, rfl, rfl, trivial⟩ ?_
        exact t_O_arrivals_95 hd9 C _ hR ih _ _ _ _ h
def f_O_arrivals_69 (o : Nat) (x1 : Nat) (x2 : Int) (hp : gH) : Option (gH) :=
     f_O_arrivals_71 o fu x1 x2 0 hp
set_option maxRecDepth 1000000 in
set_option maxHeartbeats 4000000 in
theorem t_O_arrivals_69 {P : gG → Prop} {d : Nat} {m : xM} {h9 : gH} (hd9 : 4 ≤ d) (C : ∀ Γ, P Γ → gX Γ lay_X RX11 cX11_arrivals 4 d h9) (o : Nat) (hR : ∀ Γ, P Γ → gRv Γ lay_X cX11_arrivals m h9) (x1 : Nat) (x2 : Int) (hp : gH) (h : f_O_arrivals_69 o x1 x2 hp = some h9) : gJ P lay_X 4 69 [(0, .inr (.inr (some o))), (1, .inr (.inr (some x1))), (2, .inl x2)] [] m hp h9 := by
  unfold f_O_arrivals_69 at h
  refine g_iconst C dX11_arrivals_69 ?_
  refine g_istore_n C dX11_arrivals_70 (by decide) ?_
  refine g_loc [(0, .inr (.inr (some o))), (1, .inr (.inr (some x1))), (2, .inl x2), (3, .inl 0)] ⟨rfl, rfl, rfl, rfl, trivial⟩ ?_
  exact t_O_arrivals_71 hd9 C _ hR fu _ _ _ _ h
def f_O_arrivals_63 (o : Nat) (k27 : Nat → Int → Int → gH → Option (gH)) (x1 : Nat) (x2 : Int) (x3 : Int) (hp : gH) : Option (gH) :=
     k27 x1 x2 (x3 + 1) hp
set_option maxRecDepth 1000000 in
set_option maxHeartbeats 4000000 in
theorem t_O_arrivals_63 {P : gG → Prop} {d : Nat} {m : xM} {h9 : gH} (hd9 : 4 ≤ d) (C : ∀ Γ, P Γ → gX Γ lay_X RX11 cX11_arrivals 4 d h9) (o : Nat) (hR : ∀ Γ, P Γ → gRv Γ lay_X cX11_arrivals m h9) {k27 : Nat → Int → Int → gH → Option (gH)} (hk27 : ∀ (x1 : Nat) (x2 : Int) (x3 : Int) (hp : gH), k27 x1 x2 x3 hp = some h9 → gJ P lay_X 4 27 [(0, .inr (.inr (some o))), (1, .inr (.inr (some x1))), (2, .inl x2), (3, .inl x3)] [] m hp h9) (x1 : Nat) (x2 : Int) (x3 : Int) (hp : gH) (h : f_O_arrivals_63 o k27 x1 x2 x3 hp = some h9) : gJ P lay_X 4 63 [(0, .inr (.inr (some o))), (1, .inr (.inr (some x1))), (2, .inl x2), (3, .inl x3)] [] m hp h9 := by
  unfold f_O_arrivals_63 at h
  refine g_iinc C dX11_arrivals_63 (by decide) rfl ?_
  refine g_goto C 27 dX11_arrivals_66 (by decide) ?_
  refine g_loc [(0, .inr (.inr (some o))), (1, .inr (.inr (some x1))), (2, .inl x2), (3, .inl (x3 + 1))] ⟨rfl, rfl, rfl, rfl, trivial⟩ ?_
  exact hk27 _ _ _ _ h
def f_O_arrivals_27 (o : Nat) : Nat → Nat → Int → Int → gH → Option (gH)
  | 0, _, _, _, _ => none
  | n + 1, x1, x2, x3, hp =>
     (if xw x3 < xw x2 then (Option.bind (gaK 4 hp x1 x3) fun q11 =>
      (Option.bind (gaN 0 hp q11 0) fun q12 =>
      (Option.bind (gfI hp o 0) fun q13 =>
      (if xw q12 = xw q13 then f_O_arrivals_63 o (f_O_arrivals_27 o n) x1 x2 x3 hp
      else (Option.bind (gfK hp o 29) fun q14 =>
      (Option.bind (gfI hp o 11) fun q15 =>
      (Option.bind (gpt hp o 11 (.inl (q15 + 1))) fun q16 =>
      (Option.bind (gaK 4 q16 x1 x3) fun q17 =>
      (Option.bind (gsQ 4 q16 q14 q15 (some q17)) fun q18 =>
      f_O_arrivals_63 o (f_O_arrivals_27 o n) x1 x2 x3 q18)))))))))
      else f_O_arrivals_69 o x1 x2 hp)
set_option maxRecDepth 1000000 in
set_option maxHeartbeats 4000000 in
theorem t_O_arrivals_27 {P : gG → Prop} {d : Nat} {m : xM} {h9 : gH} (hd9 : 4 ≤ d) (C : ∀ Γ, P Γ → gX Γ lay_X RX11 cX11_arrivals 4 d h9) (o : Nat) (hR : ∀ Γ, P Γ → gRv Γ lay_X cX11_arrivals m h9) : ∀ (n : Nat) (x1 : Nat) (x2 : Int) (x3 : Int) (hp : gH), f_O_arrivals_27 o n x1 x2 x3 hp = some h9 → gJ P lay_X 4 27 [(0, .inr (.inr (some o))), (1, .inr (.inr (some x1))), (2, .inl x2), (3, .inl x3)] [] m hp h9 := by
  intro n
  induction n with
  | zero => intro _ _ _ _ h; cases h
  | succ n ih =>
    intro x1 x2 x3 hp h
    rw [f_O_arrivals_27] at h
    refine g_iload_n C dX11_arrivals_27 rfl ?_
    refine g_iload_n C dX11_arrivals_28 rfl ?_
    refine g_icmp_ge C 69 dX11_arrivals_29 (by decide) h (fun h => ?_) (fun h => ?_)
    · refine g_loc [(0, .inr (.inr (some o))), (1, .inr (.inr (some x1))), (2, .inl x2)] ⟨rfl, rfl, rfl, trivial⟩ ?_
      exact t_O_arrivals_69 hd9 C _ hR _ _ _ h
    · refine g_aload_n C dX11_arrivals_32 rfl ?_
      refine g_iload_n C dX11_arrivals_33 rfl ?_
      obtain ⟨q11, hq11, h⟩ := x_bind h
      refine g_aaloadK4 C dX11_arrivals_34 hq11 ?_
      refine g_iconst C dX11_arrivals_35 ?_
      obtain ⟨q12, hq12, h⟩ := x_bind h
      refine g_iaload C dX11_arrivals_36 hq12 ?_
      refine g_aload_n C dX11_arrivals_37 rfl ?_
      obtain ⟨q13, hq13, h⟩ := x_bind h
      refine g_getI C dX11_arrivals_38 fF_X11_78 hq13 ?_
      refine g_icmp_eq C 63 dX11_arrivals_41 (by decide) h (fun h => ?_) (fun h => ?_)
      · refine g_loc [(0, .inr (.inr (some o))), (1, .inr (.inr (some x1))), (2, .inl x2), (3, .inl x3)] ⟨rfl, rfl, rfl, rfl, trivial⟩ ?_
        exact t_O_arrivals_63 hd9 C _ hR ih _ _ _ _ h
      · refine g_aload_n C dX11_arrivals_44 rfl ?_
        obtain ⟨q14, hq14, h⟩ := x_bind h
        refine g_getK C dX11_arrivals_45 fF_X11_71 hq14 ?_
        refine g_aload_n C dX11_arrivals_48 rfl ?_
        refine g_dup C dX11_arrivals_49 rfl ?_
        obtain ⟨q15, hq15, h⟩ := x_bind h
        refine g_getI C dX11_arrivals_50 fF_X11_108 hq15 ?_
        refine g_dup_x1 C dX11_arrivals_53 rfl rfl ?_
        refine g_iconst C dX11_arrivals_54 ?_
        refine g_iadd C dX11_arrivals_55 ?_
        obtain ⟨q16, hq16, h⟩ := x_bind h
        refine g_putI C dX11_arrivals_56 fF_X11_108 hq16 ?_
        refine g_aload_n C dX11_arrivals_59 rfl ?_
        refine g_iload_n C dX11_arrivals_60 rfl ?_
        obtain ⟨q17, hq17, h⟩ := x_bind h
        refine g_aaloadK4 C dX11_arrivals_61 hq17 ?_
        obtain ⟨q18, hq18, h⟩ := x_bind h
        refine g_aastore4 C dX11_arrivals_62 hq18 ?_
        refine g_loc [(0, .inr (.inr (some o))), (1, .inr (.inr (some x1))), (2, .inl x2), (3, .inl x3)] ⟨rfl, rfl, rfl, rfl, trivial⟩ ?_
        exact t_O_arrivals_63 hd9 C _ hR ih _ _ _ _ h
def f_O_arrivals (o : Nat) (hp : gH) : Option (gH) :=
     (Option.bind (gfK hp o 29) fun q0 =>
      (Option.bind (gfI hp o 11) fun q1 =>
      (Option.bind (gNq 4 hp 200) fun q2 =>
      (Option.bind (gpt q2.2 o 29 (.inr (.inr (some q2.1)))) fun q3 =>
      (Option.bind (gpt q3 o 11 (.inl 0)) fun q4 =>
      f_O_arrivals_27 o fu q0 q1 0 q4)))))
set_option maxRecDepth 1000000 in
set_option maxHeartbeats 4000000 in
theorem t_O_arrivals {P : gG → Prop} {d : Nat} {m : xM} {h9 : gH} (hd9 : 4 ≤ d) (C : ∀ Γ, P Γ → gX Γ lay_X RX11 cX11_arrivals 4 d h9) (o : Nat) (hR : ∀ Γ, P Γ → gRv Γ lay_X cX11_arrivals m h9) (hp : gH) (h : f_O_arrivals o hp = some h9) : gJ P lay_X 4 0 [(0, .inr (.inr (some o)))] [] m hp h9 := by
  unfold f_O_arrivals at h
  refine g_aload_n C dX11_arrivals_0 rfl ?_
  obtain ⟨q0, hq0, h⟩ := x_bind h
  refine g_getK C dX11_arrivals_1 fF_X11_71 hq0 ?_
  refine g_astore_n C dX11_arrivals_4 (by decide) ?_
  refine g_aload_n C dX11_arrivals_5 rfl ?_
  obtain ⟨q1, hq1, h⟩ := x_bind h
  refine g_getI C dX11_arrivals_6 fF_X11_108 hq1 ?_
  refine g_istore_n C dX11_arrivals_9 (by decide) ?_
  refine g_aload_n C dX11_arrivals_10 rfl ?_
  refine g_sipush C dX11_arrivals_11 (by decide) ?_
  obtain ⟨q2, hq2, h⟩ := x_bind h
  refine g_newQ C dX11_arrivals_14 (xin_34 _ (List.mem_of_getElem? (i := 5) rfl)) hq2 ?_
  obtain ⟨q3, hq3, h⟩ := x_bind h
  refine g_putR C dX11_arrivals_17 fF_X11_71 hq3 ?_
  refine g_aload_n C dX11_arrivals_20 rfl ?_
  refine g_iconst C dX11_arrivals_21 ?_
  obtain ⟨q4, hq4, h⟩ := x_bind h
  refine g_putI C dX11_arrivals_22 fF_X11_108 hq4 ?_
  refine g_iconst C dX11_arrivals_25 ?_
  refine g_istore_n C dX11_arrivals_26 (by decide) ?_
  refine g_loc [(0, .inr (.inr (some o))), (1, .inr (.inr (some q0))), (2, .inl q1), (3, .inl 0)] ⟨rfl, rfl, rfl, rfl, trivial⟩ ?_
  exact t_O_arrivals_27 hd9 C _ hR fu _ _ _ _ h
theorem c_O_arrivals {o : Nat} (m : xM) {hp h9 : gH} (h : f_O_arrivals o hp = some h9) (l : Launch) : gMet l yX11_arrivals cX11_arrivals 4 none 4 lay_X [.inr (.inr (some o))] m hp none m h9 :=
  gMet_v (by decide +kernel) (Nat.le_of_ble_eq_true rfl) (fun P C hR => t_O_arrivals (Nat.le_refl _) C _ hR hp h)
theorem le_O_arrivals {o : Nat} {hp h9 : gH} (h : f_O_arrivals o hp = some h9) : gle hp h9 :=
  (t_O_arrivals (P := fun _ => False) (m := fun _ _ => 0) (Nat.le_refl _) (fun _ q => q.elim) _ (fun _ q => q.elim) hp h).1
/-! ===== yX11_hang ===== -/
theorem fF_X11_34 : xF RX11 34 12 18 (.array (.array .int)) false := ⟨RX11, TX11, 31, tyX11, rfl, by decide, (xin_33 _ (List.mem_of_getElem? (i := 17) rfl)), rfl, inlX11, tyX11_ok, nmX11, rfl, rfl⟩
theorem dX11_hang_0 : decode cX11_hang 0 = .ok (.aload_n 0, 1) := by decide +kernel
theorem dX11_hang_1 : decode cX11_hang 1 = .ok (.iconst 0, 1) := by decide +kernel
theorem dX11_hang_2 : decode cX11_hang 2 = .ok (.putfield 81, 3) := by decide +kernel
theorem dX11_hang_5 : decode cX11_hang 5 = .ok (.aload_n 0, 1) := by decide +kernel
theorem dX11_hang_6 : decode cX11_hang 6 = .ok (.iconst 0, 1) := by decide +kernel
theorem dX11_hang_7 : decode cX11_hang 7 = .ok (.putfield 108, 3) := by decide +kernel
theorem dX11_hang_10 : decode cX11_hang 10 = .ok (.iconst 0, 1) := by decide +kernel
theorem dX11_hang_11 : decode cX11_hang 11 = .ok (.istore_n 1, 1) := by decide +kernel
theorem dX11_hang_12 : decode cX11_hang 12 = .ok (.iload_n 1, 1) := by decide +kernel
theorem dX11_hang_13 : decode cX11_hang 13 = .ok (.iconst 2, 1) := by decide +kernel
theorem dX11_hang_14 : decode cX11_hang 14 = .ok (.if_icmp .ge 28, 3) := by decide +kernel
theorem dX11_hang_17 : decode cX11_hang 17 = .ok (.aload_n 0, 1) := by decide +kernel
theorem dX11_hang_18 : decode cX11_hang 18 = .ok (.getfield 34, 3) := by decide +kernel
theorem dX11_hang_21 : decode cX11_hang 21 = .ok (.iload_n 1, 1) := by decide +kernel
theorem dX11_hang_22 : decode cX11_hang 22 = .ok (.iconst 0, 1) := by decide +kernel
theorem dX11_hang_23 : decode cX11_hang 23 = .ok (.newarray .int, 2) := by decide +kernel
theorem dX11_hang_25 : decode cX11_hang 25 = .ok (.aastore, 1) := by decide +kernel
theorem dX11_hang_26 : decode cX11_hang 26 = .ok (.aload_n 0, 1) := by decide +kernel
theorem dX11_hang_27 : decode cX11_hang 27 = .ok (.getfield 67, 3) := by decide +kernel
theorem dX11_hang_30 : decode cX11_hang 30 = .ok (.iload_n 1, 1) := by decide +kernel
theorem dX11_hang_31 : decode cX11_hang 31 = .ok (.iconst 0, 1) := by decide +kernel
theorem dX11_hang_32 : decode cX11_hang 32 = .ok (.anewarray 70, 3) := by decide +kernel
theorem dX11_hang_35 : decode cX11_hang 35 = .ok (.aastore, 1) := by decide +kernel
theorem dX11_hang_36 : decode cX11_hang 36 = .ok (.iinc 1 1, 3) := by decide +kernel
theorem dX11_hang_39 : decode cX11_hang 39 = .ok (.goto (-27), 3) := by decide +kernel
theorem dX11_hang_42 : decode cX11_hang 42 = .ok (.aload_n 0, 1) := by decide +kernel
theorem dX11_hang_43 : decode cX11_hang 43 = .ok (.getfield 29, 3) := by decide +kernel
theorem dX11_hang_46 : decode cX11_hang 46 = .ok (.bipush 7, 2) := by decide +kernel
theorem dX11_hang_48 : decode cX11_hang 48 = .ok (.dup2, 1) := by decide +kernel
theorem dX11_hang_49 : decode cX11_hang 49 = .ok (.iaload, 1) := by decide +kernel
theorem dX11_hang_50 : decode cX11_hang 50 = .ok (.iconst 1, 1) := by decide +kernel
theorem dX11_hang_51 : decode cX11_hang 51 = .ok (.iadd, 1) := by decide +kernel
theorem dX11_hang_52 : decode cX11_hang 52 = .ok (.iastore, 1) := by decide +kernel
theorem dX11_hang_53 : decode cX11_hang 53 = .ok (.aload_n 0, 1) := by decide +kernel
theorem dX11_hang_54 : decode cX11_hang 54 = .ok (.iconst 5, 1) := by decide +kernel
theorem dX11_hang_55 : decode cX11_hang 55 = .ok (.iconst (-1), 1) := by decide +kernel
theorem dX11_hang_56 : decode cX11_hang 56 = .ok (.invokevirtual 144, 3) := by decide +kernel
theorem dX11_hang_59 : decode cX11_hang 59 = .ok (.return_, 1) := by decide +kernel
def f_O_hang_42 (o : Nat) (hp : gH) : Option (gH) :=
     (Option.bind (gfK hp o 17) fun q2 =>
      (Option.bind (gaN 0 hp q2 7) fun q3 =>
      (Option.bind (gsN 0 hp q2 7 (q3 + 1)) fun q4 =>
      (Option.bind (f_O_tell o 5 (-1) q4) fun q5 =>
      (if gob q4 o = true then some q5
      else none)))))
set_option maxRecDepth 1000000 in
set_option maxHeartbeats 4000000 in
theorem t_O_hang_42 {P : gG → Prop} {d : Nat} {m : xM} {h9 : gH} (hd9 : 2 ≤ d) (C : ∀ Γ, P Γ → gX Γ lay_X RX11 cX11_hang 2 d h9) (o : Nat) (hR : ∀ Γ, P Γ → gRv Γ lay_X cX11_hang m h9) (hp : gH) (h : f_O_hang_42 o hp = some h9) : gJ P lay_X 2 42 [(0, .inr (.inr (some o)))] [] m hp h9 := by
  unfold f_O_hang_42 at h
  refine g_aload_n C dX11_hang_42 rfl ?_
  obtain ⟨q2, hq2, h⟩ := x_bind h
  refine g_getK C dX11_hang_43 fF_X11_29 hq2 ?_
  refine g_bipush C dX11_hang_46 (by decide) ?_
  refine g_dup2 C dX11_hang_48 rfl rfl ?_
  obtain ⟨q3, hq3, h⟩ := x_bind h
  refine g_iaload C dX11_hang_49 hq3 ?_
  refine g_iconst C dX11_hang_50 ?_
  refine g_iadd C dX11_hang_51 ?_
  obtain ⟨q4, hq4, h⟩ := x_bind h
  refine g_iastore C dX11_hang_52 hq4 ?_
  refine g_aload_n C dX11_hang_53 rfl ?_
  refine g_iconst C dX11_hang_54 ?_
  refine g_iconst C dX11_hang_55 ?_
  obtain ⟨q5, hq5, h⟩ := x_bind h
  obtain ⟨fo7, h⟩ := x_some1 h
  obtain ⟨_, hfo7⟩ := gob_some fo7
  refine g_callV C dX11_hang_56 (xin_36 _ (List.mem_of_getElem? (i := 19) rfl)) xy_X11_tell xi_X11_tell xs_X11_tell hfo7 ⟨_, _, rfl⟩ (by omega) (by decide) (av := [.inl 5, .inl (-1)]) rfl (Nat.le_of_ble_eq_true rfl) (le_O_tell hq5) (c_O_tell _ hq5) rfl ?_
  exact g_return hR dX11_hang_59 (by cases h; exact ⟨rfl, rfl⟩)
def f_O_hang_12 (o : Nat) : Nat → Int → gH → Option (gH)
  | 0, _, _ => none
  | n + 1, x1, hp =>
     (if xw x1 < xw 2 then (Option.bind (gfK hp o 18) fun q7 =>
      (Option.bind (gNw 0 hp 0) fun q8 =>
      (Option.bind (gsQ 4 q8.2 q7 x1 (some q8.1)) fun q9 =>
      (Option.bind (gfK q9 o 28) fun q10 =>
      (Option.bind (gNq 4 q9 0) fun q11 =>
      (Option.bind (gsQ 5 q11.2 q10 x1 (some q11.1)) fun q12 =>
      f_O_hang_12 o n (x1 + 1) q12))))))
      else f_O_hang_42 o hp)
set_option maxRecDepth 1000000 in
set_option maxHeartbeats 4000000 in
theorem t_O_hang_12 {P : gG → Prop} {d : Nat} {m : xM} {h9 : gH} (hd9 : 2 ≤ d) (C : ∀ Γ, P Γ → gX Γ lay_X RX11 cX11_hang 2 d h9) (o : Nat) (hR : ∀ Γ, P Γ → gRv Γ lay_X cX11_hang m h9) : ∀ (n : Nat) (x1 : Int) (hp : gH), f_O_hang_12 o n x1 hp = some h9 → gJ P lay_X 2 12 [(0, .inr (.inr (some o))), (1, .inl x1)] [] m hp h9 := by
  intro n
  induction n with
  | zero => intro _ _ h; cases h
  | succ n ih =>
    intro x1 hp h
    rw [f_O_hang_12] at h
    refine g_iload_n C dX11_hang_12 rfl ?_
    refine g_iconst C dX11_hang_13 ?_
    refine g_icmp_ge C 42 dX11_hang_14 (by decide) h (fun h => ?_) (fun h => ?_)
    · refine g_loc [(0, .inr (.inr (some o)))] ⟨rfl, trivial⟩ ?_
      exact t_O_hang_42 hd9 C _ hR _ h
    · refine g_aload_n C dX11_hang_17 rfl ?_
      obtain ⟨q7, hq7, h⟩ := x_bind h
      refine g_getK C dX11_hang_18 fF_X11_34 hq7 ?_
      refine g_iload_n C dX11_hang_21 rfl ?_
      refine g_iconst C dX11_hang_22 ?_
      obtain ⟨q8, hq8, h⟩ := x_bind h
      refine g_newi C dX11_hang_23 (xin_1 _ (List.mem_of_getElem? (i := 3) rfl)) hq8 ?_
      obtain ⟨q9, hq9, h⟩ := x_bind h
      refine g_aastore4 C dX11_hang_25 hq9 ?_
      refine g_aload_n C dX11_hang_26 rfl ?_
      obtain ⟨q10, hq10, h⟩ := x_bind h
      refine g_getK C dX11_hang_27 fF_X11_67 hq10 ?_
      refine g_iload_n C dX11_hang_30 rfl ?_
      refine g_iconst C dX11_hang_31 ?_
      obtain ⟨q11, hq11, h⟩ := x_bind h
      refine g_newQ C dX11_hang_32 (xin_34 _ (List.mem_of_getElem? (i := 5) rfl)) hq11 ?_
      obtain ⟨q12, hq12, h⟩ := x_bind h
      refine g_aastore5 C dX11_hang_35 hq12 ?_
      refine g_iinc C dX11_hang_36 (by decide) rfl ?_
      refine g_goto C 12 dX11_hang_39 (by decide) ?_
      refine g_loc [(0, .inr (.inr (some o))), (1, .inl (x1 + 1))] ⟨rfl, rfl, trivial⟩ ?_
      exact ih _ _ h
def f_O_hang (o : Nat) (hp : gH) : Option (gH) :=
     (Option.bind (gpt hp o 1 (.inl 0)) fun q0 =>
      (Option.bind (gpt q0 o 11 (.inl 0)) fun q1 =>
      f_O_hang_12 o fu 0 q1))
set_option maxRecDepth 1000000 in
set_option maxHeartbeats 4000000 in
theorem t_O_hang {P : gG → Prop} {d : Nat} {m : xM} {h9 : gH} (hd9 : 2 ≤ d) (C : ∀ Γ, P Γ → gX Γ lay_X RX11 cX11_hang 2 d h9) (o : Nat) (hR : ∀ Γ, P Γ → gRv Γ lay_X cX11_hang m h9) (hp : gH) (h : f_O_hang o hp = some h9) : gJ P lay_X 2 0 [(0, .inr (.inr (some o)))] [] m hp h9 := by
  unfold f_O_hang at h
  refine g_aload_n C dX11_hang_0 rfl ?_
  refine g_iconst C dX11_hang_1 ?_
  obtain ⟨q0, hq0, h⟩ := x_bind h
  refine g_putI C dX11_hang_2 fF_X11_81 hq0 ?_
  refine g_aload_n C dX11_hang_5 rfl ?_
  refine g_iconst C dX11_hang_6 ?_
  obtain ⟨q1, hq1, h⟩ := x_bind h
  refine g_putI C dX11_hang_7 fF_X11_108 hq1 ?_
  refine g_iconst C dX11_hang_10 ?_
  refine g_istore_n C dX11_hang_11 (by decide) ?_
  refine g_loc [(0, .inr (.inr (some o))), (1, .inl 0)] ⟨rfl, rfl, trivial⟩ ?_
  exact t_O_hang_12 hd9 C _ hR fu _ _ h
theorem c_O_hang {o : Nat} (m : xM) {hp h9 : gH} (h : f_O_hang o hp = some h9) (l : Launch) : gMet l yX11_hang cX11_hang 2 none 2 lay_X [.inr (.inr (some o))] m hp none m h9 :=
  gMet_v (by decide +kernel) (Nat.le_of_ble_eq_true rfl) (fun P C hR => t_O_hang (Nat.le_refl _) C _ hR hp h)
theorem le_O_hang {o : Nat} {hp h9 : gH} (h : f_O_hang o hp = some h9) : gle hp h9 :=
  (t_O_hang (P := fun _ => False) (m := fun _ _ => 0) (Nat.le_refl _) (fun _ q => q.elim) _ (fun _ q => q.elim) hp h).1
/-! ===== yX11_rateFor ===== -/
theorem fF_X11_17 : xF RX11 17 12 13 (.array .int) false := ⟨RX11, TX11, 31, tyX11, rfl, by decide, (xin_33 _ (List.mem_of_getElem? (i := 11) rfl)), rfl, inlX11, tyX11_ok, nmX11, rfl, rfl⟩
theorem dX11_rateFor_0 : decode cX11_rateFor 0 = .ok (.iconst (-1), 1) := by decide +kernel
theorem dX11_rateFor_1 : decode cX11_rateFor 1 = .ok (.istore_n 2, 1) := by decide +kernel
theorem dX11_rateFor_2 : decode cX11_rateFor 2 = .ok (.iconst 0, 1) := by decide +kernel
theorem dX11_rateFor_3 : decode cX11_rateFor 3 = .ok (.istore_n 3, 1) := by decide +kernel
theorem dX11_rateFor_4 : decode cX11_rateFor 4 = .ok (.iload_n 3, 1) := by decide +kernel
theorem dX11_rateFor_5 : decode cX11_rateFor 5 = .ok (.aload_n 0, 1) := by decide +kernel
theorem dX11_rateFor_6 : decode cX11_rateFor 6 = .ok (.getfield 17, 3) := by decide +kernel
theorem dX11_rateFor_9 : decode cX11_rateFor 9 = .ok (.arraylength, 1) := by decide +kernel
theorem dX11_rateFor_10 : decode cX11_rateFor 10 = .ok (.if_icmp .ge 21, 3) := by decide +kernel
theorem dX11_rateFor_13 : decode cX11_rateFor 13 = .ok (.aload_n 0, 1) := by decide +kernel
theorem dX11_rateFor_14 : decode cX11_rateFor 14 = .ok (.getfield 17, 3) := by decide +kernel
theorem dX11_rateFor_17 : decode cX11_rateFor 17 = .ok (.iload_n 3, 1) := by decide +kernel
theorem dX11_rateFor_18 : decode cX11_rateFor 18 = .ok (.iaload, 1) := by decide +kernel
theorem dX11_rateFor_19 : decode cX11_rateFor 19 = .ok (.iload_n 1, 1) := by decide +kernel
theorem dX11_rateFor_20 : decode cX11_rateFor 20 = .ok (.if_icmp .gt 5, 3) := by decide +kernel
theorem dX11_rateFor_23 : decode cX11_rateFor 23 = .ok (.iload_n 3, 1) := by decide +kernel
theorem dX11_rateFor_24 : decode cX11_rateFor 24 = .ok (.istore_n 2, 1) := by decide +kernel
theorem dX11_rateFor_25 : decode cX11_rateFor 25 = .ok (.iinc 3 1, 3) := by decide +kernel
theorem dX11_rateFor_28 : decode cX11_rateFor 28 = .ok (.goto (-24), 3) := by decide +kernel
theorem dX11_rateFor_31 : decode cX11_rateFor 31 = .ok (.iload_n 2, 1) := by decide +kernel
theorem dX11_rateFor_32 : decode cX11_rateFor 32 = .ok (.ireturn, 1) := by decide +kernel
def f_O_rateFor_25 (o : Nat) (q : Int) (hp : gH) (k4 : Int → Int → Option (Int)) (x2 : Int) (x3 : Int) : Option (Int) :=
     k4 x2 (x3 + 1)
set_option maxRecDepth 1000000 in
set_option maxHeartbeats 4000000 in
theorem t_O_rateFor_25 {P : gG → Prop} {d : Nat} {m : xM} {hp : gH} {r : Int} (hd9 : 1 ≤ d) (C : ∀ Γ, P Γ → gX Γ lay_X RX11 cX11_rateFor 4 d hp) (o : Nat) (q : Int) (hR : ∀ Γ, P Γ → gRi Γ lay_X cX11_rateFor r m hp) {k4 : Int → Int → Option (Int)} (hk4 : ∀ (x2 : Int) (x3 : Int), k4 x2 x3 = some r → gJ P lay_X 4 4 [(0, .inr (.inr (some o))), (1, .inl q), (2, .inl x2), (3, .inl x3)] [] m hp hp) (x2 : Int) (x3 : Int) (h : f_O_rateFor_25 o q hp k4 x2 x3 = some r) : gJ P lay_X 4 25 [(0, .inr (.inr (some o))), (1, .inl q), (2, .inl x2), (3, .inl x3)] [] m hp hp := by
  unfold f_O_rateFor_25 at h
  refine g_iinc C dX11_rateFor_25 (by decide) rfl ?_
  refine g_goto C 4 dX11_rateFor_28 (by decide) ?_
  refine g_loc [(0, .inr (.inr (some o))), (1, .inl q), (2, .inl x2), (3, .inl (x3 + 1))] ⟨rfl, rfl, rfl, rfl, trivial⟩ ?_
  exact hk4 _ _ h
def f_O_rateFor_4 (o : Nat) (q : Int) (hp : gH) : Nat → Int → Int → Option (Int)
  | 0, _, _ => none
  | n + 1, x2, x3 =>
     (Option.bind (gfK hp o 13) fun q0 =>
      (Option.bind (glc hp q0) fun q1 =>
      (if xw x3 < xw q1 then (Option.bind (gfK hp o 13) fun q2 =>
      (Option.bind (gaN 0 hp q2 x3) fun q3 =>
      (if xw q < xw q3 then f_O_rateFor_25 o q hp (f_O_rateFor_4 o q hp n) x2 x3
      else f_O_rateFor_25 o q hp (f_O_rateFor_4 o q hp n) x3 x3)))
      else some x2)))
set_option maxRecDepth 1000000 in
set_option maxHeartbeats 4000000 in
theorem t_O_rateFor_4 {P : gG → Prop} {d : Nat} {m : xM} {hp : gH} {r : Int} (hd9 : 1 ≤ d) (C : ∀ Γ, P Γ → gX Γ lay_X RX11 cX11_rateFor 4 d hp) (o : Nat) (q : Int) (hR : ∀ Γ, P Γ → gRi Γ lay_X cX11_rateFor r m hp) : ∀ (n : Nat) (x2 : Int) (x3 : Int), f_O_rateFor_4 o q hp n x2 x3 = some r → gJ P lay_X 4 4 [(0, .inr (.inr (some o))), (1, .inl q), (2, .inl x2), (3, .inl x3)] [] m hp hp := by
  intro n
  induction n with
  | zero => intro _ _ h; cases h
  | succ n ih =>
    intro x2 x3 h
    rw [f_O_rateFor_4] at h
    refine g_iload_n C dX11_rateFor_4 rfl ?_
    refine g_aload_n C dX11_rateFor_5 rfl ?_
    obtain ⟨q0, hq0, h⟩ := x_bind h
    refine g_getK C dX11_rateFor_6 fF_X11_17 hq0 ?_
    obtain ⟨q1, hq1, h⟩ := x_bind h
    refine g_lenC C dX11_rateFor_9 hq1 ?_
    refine g_icmp_ge C 31 dX11_rateFor_10 (by decide) h (fun h => ?_) (fun h => ?_)
    · refine g_iload_n C dX11_rateFor_31 rfl ?_
      exact g_ireturn hR dX11_rateFor_32 (by cases h; exact ⟨rfl, rfl, rfl⟩)
    · refine g_aload_n C dX11_rateFor_13 rfl ?_
      obtain ⟨q2, hq2, h⟩ := x_bind h
      refine g_getK C dX11_rateFor_14 fF_X11_17 hq2 ?_
      refine g_iload_n C dX11_rateFor_17 rfl ?_
      obtain ⟨q3, hq3, h⟩ := x_bind h
      refine g_iaload C dX11_rateFor_18 hq3 ?_
      refine g_iload_n C dX11_rateFor_19 rfl ?_
      refine g_icmp_gt C 25 dX11_rateFor_20 (by decide) h (fun h => ?_) (fun h => ?_)
      · refine g_loc [(0, .inr (.inr (some o))), (1, .inl q), (2, .inl x2), (3, .inl x3)] ⟨rfl, rfl, rfl, rfl, trivial⟩ ?_
        exact t_O_rateFor_25 hd9 C _ _ hR ih _ _ h
      · refine g_iload_n C dX11_rateFor_23 rfl ?_
        refine g_istore_n C dX11_rateFor_24 (by decide) ?_
        refine g_loc [(0, .inr (.inr (some o))), (1, .inl q), (2, .inl x3), (3, .inl x3)] ⟨rfl, rfl, rfl, rfl, trivial⟩ ?_
        exact t_O_rateFor_25 hd9 C _ _ hR ih _ _ h
def f_O_rateFor (o : Nat) (q : Int) (hp : gH) : Option (Int) :=
     f_O_rateFor_4 o q hp fu (-1) 0
set_option maxRecDepth 1000000 in
set_option maxHeartbeats 4000000 in
theorem t_O_rateFor {P : gG → Prop} {d : Nat} {m : xM} {hp : gH} {r : Int} (hd9 : 1 ≤ d) (C : ∀ Γ, P Γ → gX Γ lay_X RX11 cX11_rateFor 4 d hp) (o : Nat) (q : Int) (hR : ∀ Γ, P Γ → gRi Γ lay_X cX11_rateFor r m hp) (h : f_O_rateFor o q hp = some r) : gJ P lay_X 4 0 [(0, .inr (.inr (some o))), (1, .inl q)] [] m hp hp := by
  unfold f_O_rateFor at h
  refine g_iconst C dX11_rateFor_0 ?_
  refine g_istore_n C dX11_rateFor_1 (by decide) ?_
  refine g_iconst C dX11_rateFor_2 ?_
  refine g_istore_n C dX11_rateFor_3 (by decide) ?_
  refine g_loc [(0, .inr (.inr (some o))), (1, .inl q), (2, .inl (-1)), (3, .inl 0)] ⟨rfl, rfl, rfl, rfl, trivial⟩ ?_
  exact t_O_rateFor_4 hd9 C _ _ hR fu _ _ h
theorem c_O_rateFor {o : Nat} {q : Int} (m : xM) {r : Int} {hp : gH} (h : f_O_rateFor o q hp = some r) (l : Launch) : gMet l yX11_rateFor cX11_rateFor 4 (some .int) 1 lay_X [.inr (.inr (some o)), .inl q] m hp (some (.inl r)) m hp :=
  gMet_i (by decide +kernel) (Nat.le_of_ble_eq_true rfl) (fun P C hR => t_O_rateFor (Nat.le_refl _) C _ _ hR h)
/-! ===== yX11_online ===== -/
theorem xy_X11_rateFor : xY yX11_rateFor cX11_rateFor 4 (some .int) 1 := ⟨(xin_37 _ (List.mem_of_getElem? (i := 10) rfl)), (xin_33 _ (List.mem_of_getElem? (i := 5) rfl)), by decide, by decide, by decide +kernel⟩
theorem xi_X11_rateFor : Cond.instanceMethod yX11_rateFor ∈ wsL_law := (xin_37 _ (List.mem_of_getElem? (i := 8) rfl))
theorem xs_X11_rateFor : Cond.selects yX11_rateFor.cls yX11_rateFor yX11_rateFor ∈ wsL_law := (xin_37 _ (List.mem_of_getElem? (i := 9) rfl))
theorem fF_X11_58 : xF RX11 58 12 26 (.array .boolean) false := ⟨RX11, TX11, 31, tyX11, rfl, by decide, (xin_34 _ (List.mem_of_getElem? (i := 2) rfl)), rfl, inlX11, tyX11_ok, nmX11, rfl, rfl⟩
theorem xy_X11_hang : xY yX11_hang cX11_hang 2 none 0 := ⟨(xin_36 _ (List.mem_of_getElem? (i := 17) rfl)), (xin_33 _ (List.mem_of_getElem? (i := 5) rfl)), by decide, by decide, by decide +kernel⟩
theorem xi_X11_hang : Cond.instanceMethod yX11_hang ∈ wsL_law := (xin_36 _ (List.mem_of_getElem? (i := 15) rfl))
theorem xs_X11_hang : Cond.selects yX11_hang.cls yX11_hang yX11_hang ∈ wsL_law := (xin_36 _ (List.mem_of_getElem? (i := 16) rfl))
theorem dX11_online_0 : decode cX11_online 0 = .ok (.aload_n 0, 1) := by decide +kernel
theorem dX11_online_1 : decode cX11_online 1 = .ok (.aload_n 0, 1) := by decide +kernel
theorem dX11_online_2 : decode cX11_online 2 = .ok (.getfield 7, 3) := by decide +kernel
theorem dX11_online_5 : decode cX11_online 5 = .ok (.invokevirtual 151, 3) := by decide +kernel
theorem dX11_online_8 : decode cX11_online 8 = .ok (.istore_n 1, 1) := by decide +kernel
theorem dX11_online_9 : decode cX11_online 9 = .ok (.iload_n 1, 1) := by decide +kernel
theorem dX11_online_10 : decode cX11_online 10 = .ok (.ifCond .ge 8, 3) := by decide +kernel
theorem dX11_online_13 : decode cX11_online 13 = .ok (.aload_n 0, 1) := by decide +kernel
theorem dX11_online_14 : decode cX11_online 14 = .ok (.invokevirtual 155, 3) := by decide +kernel
theorem dX11_online_17 : decode cX11_online 17 = .ok (.return_, 1) := by decide +kernel
theorem dX11_online_18 : decode cX11_online 18 = .ok (.aload_n 0, 1) := by decide +kernel
theorem dX11_online_19 : decode cX11_online 19 = .ok (.iconst 2, 1) := by decide +kernel
theorem dX11_online_20 : decode cX11_online 20 = .ok (.putfield 81, 3) := by decide +kernel
theorem dX11_online_23 : decode cX11_online 23 = .ok (.aload_n 0, 1) := by decide +kernel
theorem dX11_online_24 : decode cX11_online 24 = .ok (.iload_n 1, 1) := by decide +kernel
theorem dX11_online_25 : decode cX11_online 25 = .ok (.putfield 84, 3) := by decide +kernel
theorem dX11_online_28 : decode cX11_online 28 = .ok (.aload_n 0, 1) := by decide +kernel
theorem dX11_online_29 : decode cX11_online 29 = .ok (.iconst 0, 1) := by decide +kernel
theorem dX11_online_30 : decode cX11_online 30 = .ok (.putfield 99, 3) := by decide +kernel
theorem dX11_online_33 : decode cX11_online 33 = .ok (.aload_n 0, 1) := by decide +kernel
theorem dX11_online_34 : decode cX11_online 34 = .ok (.iconst 0, 1) := by decide +kernel
theorem dX11_online_35 : decode cX11_online 35 = .ok (.putfield 102, 3) := by decide +kernel
theorem dX11_online_38 : decode cX11_online 38 = .ok (.aload_n 0, 1) := by decide +kernel
theorem dX11_online_39 : decode cX11_online 39 = .ok (.iconst 0, 1) := by decide +kernel
theorem dX11_online_40 : decode cX11_online 40 = .ok (.putfield 108, 3) := by decide +kernel
theorem dX11_online_43 : decode cX11_online 43 = .ok (.iconst 0, 1) := by decide +kernel
theorem dX11_online_44 : decode cX11_online 44 = .ok (.istore_n 2, 1) := by decide +kernel
theorem dX11_online_45 : decode cX11_online 45 = .ok (.iload_n 2, 1) := by decide +kernel
theorem dX11_online_46 : decode cX11_online 46 = .ok (.iconst 2, 1) := by decide +kernel
theorem dX11_online_47 : decode cX11_online 47 = .ok (.if_icmp .ge 136, 3) := by decide +kernel
theorem dX11_online_50 : decode cX11_online 50 = .ok (.iconst 0, 1) := by decide +kernel
theorem dX11_online_51 : decode cX11_online 51 = .ok (.anewarray 70, 3) := by decide +kernel
theorem dX11_online_54 : decode cX11_online 54 = .ok (.astore_n 3, 1) := by decide +kernel
theorem dX11_online_55 : decode cX11_online 55 = .ok (.aload_n 0, 1) := by decide +kernel
theorem dX11_online_56 : decode cX11_online 56 = .ok (.getfield 67, 3) := by decide +kernel
theorem dX11_online_59 : decode cX11_online 59 = .ok (.iload_n 2, 1) := by decide +kernel
theorem dX11_online_60 : decode cX11_online 60 = .ok (.aaload, 1) := by decide +kernel
theorem dX11_online_61 : decode cX11_online 61 = .ok (.astore 4, 2) := by decide +kernel
theorem dX11_online_63 : decode cX11_online 63 = .ok (.aload 4, 2) := by decide +kernel
theorem dX11_online_65 : decode cX11_online 65 = .ok (.arraylength, 1) := by decide +kernel
theorem dX11_online_66 : decode cX11_online 66 = .ok (.istore 5, 2) := by decide +kernel
theorem dX11_online_68 : decode cX11_online 68 = .ok (.iconst 0, 1) := by decide +kernel
theorem dX11_online_69 : decode cX11_online 69 = .ok (.istore 6, 2) := by decide +kernel
theorem dX11_online_71 : decode cX11_online 71 = .ok (.iload 6, 2) := by decide +kernel
theorem dX11_online_73 : decode cX11_online 73 = .ok (.iload 5, 2) := by decide +kernel
theorem dX11_online_75 : decode cX11_online 75 = .ok (.if_icmp .ge 38, 3) := by decide +kernel
theorem dX11_online_78 : decode cX11_online 78 = .ok (.aload 4, 2) := by decide +kernel
theorem dX11_online_80 : decode cX11_online 80 = .ok (.iload 6, 2) := by decide +kernel
theorem dX11_online_82 : decode cX11_online 82 = .ok (.aaload, 1) := by decide +kernel
theorem dX11_online_83 : decode cX11_online 83 = .ok (.astore 7, 2) := by decide +kernel
theorem dX11_online_85 : decode cX11_online 85 = .ok (.aload 7, 2) := by decide +kernel
theorem dX11_online_87 : decode cX11_online 87 = .ok (.iconst 0, 1) := by decide +kernel
theorem dX11_online_88 : decode cX11_online 88 = .ok (.iaload, 1) := by decide +kernel
theorem dX11_online_89 : decode cX11_online 89 = .ok (.aload_n 0, 1) := by decide +kernel
theorem dX11_online_90 : decode cX11_online 90 = .ok (.getfield 49, 3) := by decide +kernel
theorem dX11_online_93 : decode cX11_online 93 = .ok (.iconst 1, 1) := by decide +kernel
theorem dX11_online_94 : decode cX11_online 94 = .ok (.iload_n 2, 1) := by decide +kernel
theorem dX11_online_95 : decode cX11_online 95 = .ok (.isub, 1) := by decide +kernel
theorem dX11_online_96 : decode cX11_online 96 = .ok (.iaload, 1) := by decide +kernel
theorem dX11_online_97 : decode cX11_online 97 = .ok (.if_icmp .lt 10, 3) := by decide +kernel
theorem dX11_online_100 : decode cX11_online 100 = .ok (.aload_n 3, 1) := by decide +kernel
theorem dX11_online_101 : decode cX11_online 101 = .ok (.aload 7, 2) := by decide +kernel
theorem dX11_online_103 : decode cX11_online 103 = .ok (.invokestatic 132, 3) := by decide +kernel
theorem dX11_online_106 : decode cX11_online 106 = .ok (.astore_n 3, 1) := by decide +kernel
theorem dX11_online_107 : decode cX11_online 107 = .ok (.iinc 6 1, 3) := by decide +kernel
theorem dX11_online_110 : decode cX11_online 110 = .ok (.goto (-39), 3) := by decide +kernel
theorem dX11_online_113 : decode cX11_online 113 = .ok (.aload_n 3, 1) := by decide +kernel
theorem dX11_online_114 : decode cX11_online 114 = .ok (.astore 4, 2) := by decide +kernel
theorem dX11_online_116 : decode cX11_online 116 = .ok (.aload 4, 2) := by decide +kernel
theorem dX11_online_118 : decode cX11_online 118 = .ok (.arraylength, 1) := by decide +kernel
theorem dX11_online_119 : decode cX11_online 119 = .ok (.istore 5, 2) := by decide +kernel
theorem dX11_online_121 : decode cX11_online 121 = .ok (.iconst 0, 1) := by decide +kernel
theorem dX11_online_122 : decode cX11_online 122 = .ok (.istore 6, 2) := by decide +kernel
theorem dX11_online_124 : decode cX11_online 124 = .ok (.iload 6, 2) := by decide +kernel
theorem dX11_online_126 : decode cX11_online 126 = .ok (.iload 5, 2) := by decide +kernel
theorem dX11_online_128 : decode cX11_online 128 = .ok (.if_icmp .ge 21, 3) := by decide +kernel
theorem dX11_online_131 : decode cX11_online 131 = .ok (.aload 4, 2) := by decide +kernel
theorem dX11_online_133 : decode cX11_online 133 = .ok (.iload 6, 2) := by decide +kernel
theorem dX11_online_135 : decode cX11_online 135 = .ok (.aaload, 1) := by decide +kernel
theorem dX11_online_136 : decode cX11_online 136 = .ok (.astore 7, 2) := by decide +kernel
theorem dX11_online_138 : decode cX11_online 138 = .ok (.aload 7, 2) := by decide +kernel
theorem dX11_online_140 : decode cX11_online 140 = .ok (.iconst 2, 1) := by decide +kernel
theorem dX11_online_141 : decode cX11_online 141 = .ok (.iconst 1, 1) := by decide +kernel
theorem dX11_online_142 : decode cX11_online 142 = .ok (.iastore, 1) := by decide +kernel
theorem dX11_online_143 : decode cX11_online 143 = .ok (.iinc 6 1, 3) := by decide +kernel
theorem dX11_online_146 : decode cX11_online 146 = .ok (.goto (-22), 3) := by decide +kernel
theorem dX11_online_149 : decode cX11_online 149 = .ok (.aload_n 0, 1) := by decide +kernel
theorem dX11_online_150 : decode cX11_online 150 = .ok (.getfield 67, 3) := by decide +kernel
theorem dX11_online_153 : decode cX11_online 153 = .ok (.iload_n 2, 1) := by decide +kernel
theorem dX11_online_154 : decode cX11_online 154 = .ok (.aload_n 3, 1) := by decide +kernel
theorem dX11_online_155 : decode cX11_online 155 = .ok (.aastore, 1) := by decide +kernel
theorem dX11_online_156 : decode cX11_online 156 = .ok (.aload_n 0, 1) := by decide +kernel
theorem dX11_online_157 : decode cX11_online 157 = .ok (.getfield 55, 3) := by decide +kernel
theorem dX11_online_160 : decode cX11_online 160 = .ok (.iload_n 2, 1) := by decide +kernel
theorem dX11_online_161 : decode cX11_online 161 = .ok (.iconst 0, 1) := by decide +kernel
theorem dX11_online_162 : decode cX11_online 162 = .ok (.iastore, 1) := by decide +kernel
theorem dX11_online_163 : decode cX11_online 163 = .ok (.aload_n 0, 1) := by decide +kernel
theorem dX11_online_164 : decode cX11_online 164 = .ok (.getfield 58, 3) := by decide +kernel
theorem dX11_online_167 : decode cX11_online 167 = .ok (.iload_n 2, 1) := by decide +kernel
theorem dX11_online_168 : decode cX11_online 168 = .ok (.iconst 0, 1) := by decide +kernel
theorem dX11_online_169 : decode cX11_online 169 = .ok (.bastore, 1) := by decide +kernel
theorem dX11_online_170 : decode cX11_online 170 = .ok (.aload_n 0, 1) := by decide +kernel
theorem dX11_online_171 : decode cX11_online 171 = .ok (.getfield 62, 3) := by decide +kernel
theorem dX11_online_174 : decode cX11_online 174 = .ok (.iload_n 2, 1) := by decide +kernel
theorem dX11_online_175 : decode cX11_online 175 = .ok (.iconst 1, 1) := by decide +kernel
theorem dX11_online_176 : decode cX11_online 176 = .ok (.bastore, 1) := by decide +kernel
theorem dX11_online_177 : decode cX11_online 177 = .ok (.iinc 2 1, 3) := by decide +kernel
theorem dX11_online_180 : decode cX11_online 180 = .ok (.goto (-135), 3) := by decide +kernel
theorem dX11_online_183 : decode cX11_online 183 = .ok (.aload_n 0, 1) := by decide +kernel
theorem dX11_online_184 : decode cX11_online 184 = .ok (.getfield 29, 3) := by decide +kernel
theorem dX11_online_187 : decode cX11_online 187 = .ok (.bipush 8, 2) := by decide +kernel
theorem dX11_online_189 : decode cX11_online 189 = .ok (.dup2, 1) := by decide +kernel
theorem dX11_online_190 : decode cX11_online 190 = .ok (.iaload, 1) := by decide +kernel
theorem dX11_online_191 : decode cX11_online 191 = .ok (.iconst 1, 1) := by decide +kernel
theorem dX11_online_192 : decode cX11_online 192 = .ok (.iadd, 1) := by decide +kernel
theorem dX11_online_193 : decode cX11_online 193 = .ok (.iastore, 1) := by decide +kernel
theorem dX11_online_194 : decode cX11_online 194 = .ok (.aload_n 0, 1) := by decide +kernel
theorem dX11_online_195 : decode cX11_online 195 = .ok (.iconst 1, 1) := by decide +kernel
theorem dX11_online_196 : decode cX11_online 196 = .ok (.iconst (-1), 1) := by decide +kernel
theorem dX11_online_197 : decode cX11_online 197 = .ok (.invokevirtual 144, 3) := by decide +kernel
theorem dX11_online_200 : decode cX11_online 200 = .ok (.return_, 1) := by decide +kernel
def f_O_online_183 (o : Nat) (hp : gH) : Option (gH) :=
     (Option.bind (gfK hp o 17) fun q8 =>
      (Option.bind (gaN 0 hp q8 8) fun q9 =>
      (Option.bind (gsN 0 hp q8 8 (q9 + 1)) fun q10 =>
      (Option.bind (f_O_tell o 1 (-1) q10) fun q11 =>
      (if gob q10 o = true then some q11
      else none)))))
set_option maxRecDepth 1000000 in
set_option maxHeartbeats 4000000 in
theorem t_O_online_183 {P : gG → Prop} {d : Nat} {m : xM} {h9 : gH} (hd9 : 3 ≤ d) (C : ∀ Γ, P Γ → gX Γ lay_X RX11 cX11_online 8 d h9) (o : Nat) (hR : ∀ Γ, P Γ → gRv Γ lay_X cX11_online m h9) (hp : gH) (h : f_O_online_183 o hp = some h9) : gJ P lay_X 8 183 [(0, .inr (.inr (some o)))] [] m hp h9 := by
  unfold f_O_online_183 at h
  refine g_aload_n C dX11_online_183 rfl ?_
  obtain ⟨q8, hq8, h⟩ := x_bind h
  refine g_getK C dX11_online_184 fF_X11_29 hq8 ?_
  refine g_bipush C dX11_online_187 (by decide) ?_
  refine g_dup2 C dX11_online_189 rfl rfl ?_
  obtain ⟨q9, hq9, h⟩ := x_bind h
  refine g_iaload C dX11_online_190 hq9 ?_
  refine g_iconst C dX11_online_191 ?_
  refine g_iadd C dX11_online_192 ?_
  obtain ⟨q10, hq10, h⟩ := x_bind h
  refine g_iastore C dX11_online_193 hq10 ?_
  refine g_aload_n C dX11_online_194 rfl ?_
  refine g_iconst C dX11_online_195 ?_
  refine g_iconst C dX11_online_196 ?_
  obtain ⟨q11, hq11, h⟩ := x_bind h
  obtain ⟨fo13, h⟩ := x_some1 h
  obtain ⟨_, hfo13⟩ := gob_some fo13
  refine g_callV C dX11_online_197 (xin_36 _ (List.mem_of_getElem? (i := 19) rfl)) xy_X11_tell xi_X11_tell xs_X11_tell hfo13 ⟨_, _, rfl⟩ (by omega) (by decide) (av := [.inl 1, .inl (-1)]) rfl (Nat.le_of_ble_eq_true rfl) (le_O_tell hq11) (c_O_tell _ hq11) rfl ?_
  exact g_return hR dX11_online_200 (by cases h; exact ⟨rfl, rfl⟩)
def f_O_online_149 (o : Nat) (k45 : Int → gH → Option (gH)) (x2 : Int) (x3 : Nat) (hp : gH) : Option (gH) :=
     (Option.bind (gfK hp o 28) fun q18 =>
      (Option.bind (gsQ 5 hp q18 x2 (some x3)) fun q19 =>
      (Option.bind (gfK q19 o 25) fun q20 =>
      (Option.bind (gsN 0 q19 q20 x2 0) fun q21 =>
      (Option.bind (gfK q21 o 26) fun q22 =>
      (Option.bind (gsN 3 q21 q22 x2 0) fun q23 =>
      (Option.bind (gfK q23 o 27) fun q24 =>
      (Option.bind (gsN 3 q23 q24 x2 1) fun q25 =>
      k45 (x2 + 1) q25))))))))
set_option maxRecDepth 1000000 in
set_option maxHeartbeats 4000000 in
theorem t_O_online_149 {P : gG → Prop} {d : Nat} {m : xM} {h9 : gH} (hd9 : 3 ≤ d) (C : ∀ Γ, P Γ → gX Γ lay_X RX11 cX11_online 8 d h9) (o : Nat) (hR : ∀ Γ, P Γ → gRv Γ lay_X cX11_online m h9) {k45 : Int → gH → Option (gH)} (hk45 : ∀ (x2 : Int) (hp : gH), k45 x2 hp = some h9 → gJ P lay_X 8 45 [(0, .inr (.inr (some o))), (2, .inl x2)] [] m hp h9) (x2 : Int) (x3 : Nat) (hp : gH) (h : f_O_online_149 o k45 x2 x3 hp = some h9) : gJ P lay_X 8 149 [(0, .inr (.inr (some o))), (2, .inl x2), (3, .inr (.inr (some x3)))] [] m hp h9 := by
  unfold f_O_online_149 at h
  refine g_aload_n C dX11_online_149 rfl ?_
  obtain ⟨q18, hq18, h⟩ := x_bind h
  refine g_getK C dX11_online_150 fF_X11_67 hq18 ?_
  refine g_iload_n C dX11_online_153 rfl ?_
  refine g_aload_n C dX11_online_154 rfl ?_
  obtain ⟨q19, hq19, h⟩ := x_bind h
  refine g_aastore5 C dX11_online_155 hq19 ?_
  refine g_aload_n C dX11_online_156 rfl ?_
  obtain ⟨q20, hq20, h⟩ := x_bind h
  refine g_getK C dX11_online_157 fF_X11_55 hq20 ?_
  refine g_iload_n C dX11_online_160 rfl ?_
  refine g_iconst C dX11_online_161 ?_
  obtain ⟨q21, hq21, h⟩ := x_bind h
  refine g_iastore C dX11_online_162 hq21 ?_
  refine g_aload_n C dX11_online_163 rfl ?_
  obtain ⟨q22, hq22, h⟩ := x_bind h
  refine g_getK C dX11_online_164 fF_X11_58 hq22 ?_
  refine g_iload_n C dX11_online_167 rfl ?_
  refine g_iconst C dX11_online_168 ?_
  obtain ⟨q23, hq23, h⟩ := x_bind h
  refine g_bastore C dX11_online_169 (by decide) hq23 ?_
  refine g_aload_n C dX11_online_170 rfl ?_
  obtain ⟨q24, hq24, h⟩ := x_bind h
  refine g_getK C dX11_online_171 fF_X11_62 hq24 ?_
  refine g_iload_n C dX11_online_174 rfl ?_
  refine g_iconst C dX11_online_175 ?_
  obtain ⟨q25, hq25, h⟩ := x_bind h
  refine g_bastore C dX11_online_176 (by decide) hq25 ?_
  refine g_iinc C dX11_online_177 (by decide) rfl ?_
  refine g_goto C 45 dX11_online_180 (by decide) ?_
  refine g_loc [(0, .inr (.inr (some o))), (2, .inl (x2 + 1))] ⟨rfl, rfl, trivial⟩ ?_
  exact hk45 _ _ h
def f_O_online_124 (o : Nat) (k45 : Int → gH → Option (gH)) : Nat → Int → Nat → Nat → Int → Int → gH → Option (gH)
  | 0, _, _, _, _, _, _ => none
  | n + 1, x2, x3, x4, x5, x6, hp =>
     (if xw x6 < xw x5 then (Option.bind (gaK 4 hp x4 x6) fun q26 =>
      (Option.bind (gsN 0 hp q26 2 1) fun q27 =>
      f_O_online_124 o k45 n x2 x3 x4 x5 (x6 + 1) q27))
      else f_O_online_149 o k45 x2 x3 hp)
set_option maxRecDepth 1000000 in
set_option maxHeartbeats 4000000 in
theorem t_O_online_124 {P : gG → Prop} {d : Nat} {m : xM} {h9 : gH} (hd9 : 3 ≤ d) (C : ∀ Γ, P Γ → gX Γ lay_X RX11 cX11_online 8 d h9) (o : Nat) (hR : ∀ Γ, P Γ → gRv Γ lay_X cX11_online m h9) {k45 : Int → gH → Option (gH)} (hk45 : ∀ (x2 : Int) (hp : gH), k45 x2 hp = some h9 → gJ P lay_X 8 45 [(0, .inr (.inr (some o))), (2, .inl x2)] [] m hp h9) : ∀ (n : Nat) (x2 : Int) (x3 : Nat) (x4 : Nat) (x5 : Int) (x6 : Int) (hp : gH), f_O_online_124 o k45 n x2 x3 x4 x5 x6 hp = some h9 → gJ P lay_X 8 124 [(0, .inr (.inr (some o))), (2, .inl x2), (3, .inr (.inr (some x3))), (4, .inr (.inr (some x4))), (5, .inl x5), (6, .inl x6)] [] m hp h9 := by
  intro n
  induction n with
  | zero => intro _ _ _ _ _ _ h; cases h
  | succ n ih =>
    intro x2 x3 x4 x5 x6 hp h
    rw [f_O_online_124] at h
    refine g_iload C dX11_online_124 rfl ?_
    refine g_iload C dX11_online_126 rfl ?_
    refine g_icmp_ge C 149 dX11_online_128 (by decide) h (fun h => ?_) (fun h => ?_)
    · refine g_loc [(0, .inr (.inr (some o))), (2, .inl x2), (3, .inr (.inr (some x3)))] ⟨rfl, rfl, rfl, trivial⟩ ?_
      exact t_O_online_149 hd9 C _ hR hk45 _ _ _ h
    · refine g_aload C dX11_online_131 rfl ?_
      refine g_iload C dX11_online_133 rfl ?_
      obtain ⟨q26, hq26, h⟩ := x_bind h
      refine g_aaloadK4 C dX11_online_135 hq26 ?_
      refine g_astore C dX11_online_136 (by decide) ?_
      refine g_aload C dX11_online_138 rfl ?_
      refine g_iconst C dX11_online_140 ?_
      refine g_iconst C dX11_online_141 ?_
      obtain ⟨q27, hq27, h⟩ := x_bind h
      refine g_iastore C dX11_online_142 hq27 ?_
      refine g_iinc C dX11_online_143 (by decide) rfl ?_
      refine g_goto C 124 dX11_online_146 (by decide) ?_
      refine g_loc [(0, .inr (.inr (some o))), (2, .inl x2), (3, .inr (.inr (some x3))), (4, .inr (.inr (some x4))), (5, .inl x5), (6, .inl (x6 + 1))] ⟨rfl, rfl, rfl, rfl, rfl, rfl, trivial⟩ ?_
      exact ih _ _ _ _ _ _ h
def f_O_online_113 (o : Nat) (k45 : Int → gH → Option (gH)) (x2 : Int) (x3 : Nat) (hp : gH) : Option (gH) :=
     (Option.bind (glc hp x3) fun q17 =>
      f_O_online_124 o k45 fu x2 x3 x3 q17 0 hp)
set_option maxRecDepth 1000000 in
set_option maxHeartbeats 4000000 in
theorem t_O_online_113 {P : gG → Prop} {d : Nat} {m : xM} {h9 : gH} (hd9 : 3 ≤ d) (C : ∀ Γ, P Γ → gX Γ lay_X RX11 cX11_online 8 d h9) (o : Nat) (hR : ∀ Γ, P Γ → gRv Γ lay_X cX11_online m h9) {k45 : Int → gH → Option (gH)} (hk45 : ∀ (x2 : Int) (hp : gH), k45 x2 hp = some h9 → gJ P lay_X 8 45 [(0, .inr (.inr (some o))), (2, .inl x2)] [] m hp h9) (x2 : Int) (x3 : Nat) (hp : gH) (h : f_O_online_113 o k45 x2 x3 hp = some h9) : gJ P lay_X 8 113 [(0, .inr (.inr (some o))), (2, .inl x2), (3, .inr (.inr (some x3)))] [] m hp h9 := by
  unfold f_O_online_113 at h
  refine g_aload_n C dX11_online_113 rfl ?_
  refine g_astore C dX11_online_114 (by decide) ?_
  refine g_aload C dX11_online_116 rfl ?_
  obtain ⟨q17, hq17, h⟩ := x_bind h
  refine g_lenC C dX11_online_118 hq17 ?_
  refine g_istore C dX11_online_119 (by decide) ?_
  refine g_iconst C dX11_online_121 ?_
  refine g_istore C dX11_online_122 (by decide) ?_
  refine g_loc [(0, .inr (.inr (some o))), (2, .inl x2), (3, .inr (.inr (some x3))), (4, .inr (.inr (some x3))), (5, .inl q17), (6, .inl 0)] ⟨rfl, rfl, rfl, rfl, rfl, rfl, trivial⟩ ?_
  exact t_O_online_124 hd9 C _ hR hk45 fu _ _ _ _ _ _ h
def f_O_online_107 (o : Nat) (k45 : Int → gH → Option (gH)) (k71 : Int → Nat → Nat → Int → Int → gH → Option (gH)) (x2 : Int) (x3 : Nat) (x4 : Nat) (x5 : Int) (x6 : Int) (hp : gH) : Option (gH) :=
     k71 x2 x3 x4 x5 (x6 + 1) hp
set_option maxRecDepth 1000000 in
set_option maxHeartbeats 4000000 in
theorem t_O_online_107 {P : gG → Prop} {d : Nat} {m : xM} {h9 : gH} (hd9 : 3 ≤ d) (C : ∀ Γ, P Γ → gX Γ lay_X RX11 cX11_online 8 d h9) (o : Nat) (hR : ∀ Γ, P Γ → gRv Γ lay_X cX11_online m h9) {k45 : Int → gH → Option (gH)} (hk45 : ∀ (x2 : Int) (hp : gH), k45 x2 hp = some h9 → gJ P lay_X 8 45 [(0, .inr (.inr (some o))), (2, .inl x2)] [] m hp h9) {k71 : Int → Nat → Nat → Int → Int → gH → Option (gH)} (hk71 : ∀ (x2 : Int) (x3 : Nat) (x4 : Nat) (x5 : Int) (x6 : Int) (hp : gH), k71 x2 x3 x4 x5 x6 hp = some h9 → gJ P lay_X 8 71 [(0, .inr (.inr (some o))), (2, .inl x2), (3, .inr (.inr (some x3))), (4, .inr (.inr (some x4))), (5, .inl x5), (6, .inl x6)] [] m hp h9) (x2 : Int) (x3 : Nat) (x4 : Nat) (x5 : Int) (x6 : Int) (hp : gH) (h : f_O_online_107 o k45 k71 x2 x3 x4 x5 x6 hp = some h9) : gJ P lay_X 8 107 [(0, .inr (.inr (some o))), (2, .inl x2), (3, .inr (.inr (some x3))), (4, .inr (.inr (some x4))), (5, .inl x5), (6, .inl x6)] [] m hp h9 := by
  unfold f_O_online_107 at h
  refine g_iinc C dX11_online_107 (by decide) rfl ?_
  refine g_goto C 71 dX11_online_110 (by decide) ?_
  refine g_loc [(0, .inr (.inr (some o))), (2, .inl x2), (3, .inr (.inr (some x3))), (4, .inr (.inr (some x4))), (5, .inl x5), (6, .inl (x6 + 1))] ⟨rfl, rfl, rfl, rfl, rfl, rfl, trivial⟩ ?_
  exact hk71 _ _ _ _ _ _ h
def f_O_online_71 (o : Nat) (k45 : Int → gH → Option (gH)) : Nat → Int → Nat → Nat → Int → Int → gH → Option (gH)
  | 0, _, _, _, _, _, _ => none
  | n + 1, x2, x3, x4, x5, x6, hp =>
     (if xw x6 < xw x5 then (Option.bind (gaK 4 hp x4 x6) fun q28 =>
      (Option.bind (gaN 0 hp q28 0) fun q29 =>
      (Option.bind (gfK hp o 23) fun q30 =>
      (Option.bind (gaN 0 hp q30 (1 - x2)) fun q31 =>
      (if xw q29 < xw q31 then f_O_online_107 o k45 (f_O_online_71 o k45 n) x2 x3 x4 x5 x6 hp
      else (Option.bind (f_O_more x3 q28 hp) fun q32 =>
      f_O_online_107 o k45 (f_O_online_71 o k45 n) x2 q32.1 x4 x5 x6 q32.2))))))
      else f_O_online_113 o k45 x2 x3 hp)
set_option maxRecDepth 1000000 in
set_option maxHeartbeats 4000000 in
theorem t_O_online_71 {P : gG → Prop} {d : Nat} {m : xM} {h9 : gH} (hd9 : 3 ≤ d) (C : ∀ Γ, P Γ → gX Γ lay_X RX11 cX11_online 8 d h9) (o : Nat) (hR : ∀ Γ, P Γ → gRv Γ lay_X cX11_online m h9) {k45 : Int → gH → Option (gH)} (hk45 : ∀ (x2 : Int) (hp : gH), k45 x2 hp = some h9 → gJ P lay_X 8 45 [(0, .inr (.inr (some o))), (2, .inl x2)] [] m hp h9) : ∀ (n : Nat) (x2 : Int) (x3 : Nat) (x4 : Nat) (x5 : Int) (x6 : Int) (hp : gH), f_O_online_71 o k45 n x2 x3 x4 x5 x6 hp = some h9 → gJ P lay_X 8 71 [(0, .inr (.inr (some o))), (2, .inl x2), (3, .inr (.inr (some x3))), (4, .inr (.inr (some x4))), (5, .inl x5), (6, .inl x6)] [] m hp h9 := by
  intro n
  induction n with
  | zero => intro _ _ _ _ _ _ h; cases h
  | succ n ih =>
    intro x2 x3 x4 x5 x6 hp h
    rw [f_O_online_71] at h
    refine g_iload C dX11_online_71 rfl ?_
    refine g_iload C dX11_online_73 rfl ?_
    refine g_icmp_ge C 113 dX11_online_75 (by decide) h (fun h => ?_) (fun h => ?_)
    · refine g_loc [(0, .inr (.inr (some o))), (2, .inl x2), (3, .inr (.inr (some x3)))] ⟨rfl, rfl, rfl, trivial⟩ ?_
      exact t_O_online_113 hd9 C _ hR hk45 _ _ _ h
    · refine g_aload C dX11_online_78 rfl ?_
      refine g_iload C dX11_online_80 rfl ?_
      obtain ⟨q28, hq28, h⟩ := x_bind h
      refine g_aaloadK4 C dX11_online_82 hq28 ?_
      refine g_astore C dX11_online_83 (by decide) ?_
      refine g_aload C dX11_online_85 rfl ?_
      refine g_iconst C dX11_online_87 ?_
      obtain ⟨q29, hq29, h⟩ := x_bind h
      refine g_iaload C dX11_online_88 hq29 ?_
      refine g_aload_n C dX11_online_89 rfl ?_
      obtain ⟨q30, hq30, h⟩ := x_bind h
      refine g_getK C dX11_online_90 fF_X11_49 hq30 ?_
      refine g_iconst C dX11_online_93 ?_
      refine g_iload_n C dX11_online_94 rfl ?_
      refine g_isub C dX11_online_95 ?_
      obtain ⟨q31, hq31, h⟩ := x_bind h
      refine g_iaload C dX11_online_96 hq31 ?_
      refine g_icmp_lt C 107 dX11_online_97 (by decide) h (fun h => ?_) (fun h => ?_)
      · refine g_loc [(0, .inr (.inr (some o))), (2, .inl x2), (3, .inr (.inr (some x3))), (4, .inr (.inr (some x4))), (5, .inl x5), (6, .inl x6)] ⟨rfl, rfl, rfl, rfl, rfl, rfl, trivial⟩ ?_
        exact t_O_online_107 hd9 C _ hR hk45 ih _ _ _ _ _ _ h
      · refine g_aload_n C dX11_online_100 rfl ?_
        refine g_aload C dX11_online_101 rfl ?_
        obtain ⟨q32, hq32, h⟩ := x_bind h
        refine g_callS C dX11_online_103 (xin_37 _ (List.mem_of_getElem? (i := 11) rfl)) xy_X11_more xt_X11_more (by omega) (by decide) (av := [.inr (.inr (some x3)), .inr (.inr (some q28))]) rfl (Nat.le_of_ble_eq_true rfl) (le_O_more hq32) (c_O_more _ hq32) rfl ?_
        refine g_astore_n C dX11_online_106 (by decide) ?_
        refine g_loc [(0, .inr (.inr (some o))), (2, .inl x2), (3, .inr (.inr (some q32.1))), (4, .inr (.inr (some x4))), (5, .inl x5), (6, .inl x6)] ⟨rfl, rfl, rfl, rfl, rfl, rfl, trivial⟩ ?_
        exact t_O_online_107 hd9 C _ hR hk45 ih _ _ _ _ _ _ h
def f_O_online_45 (o : Nat) : Nat → Int → gH → Option (gH)
  | 0, _, _ => none
  | n + 1, x2, hp =>
     (if xw x2 < xw 2 then (Option.bind (gNq 4 hp 0) fun q13 =>
      (Option.bind (gfK q13.2 o 28) fun q14 =>
      (Option.bind (gaK 5 q13.2 q14 x2) fun q15 =>
      (Option.bind (glc q13.2 q15) fun q16 =>
      f_O_online_71 o (f_O_online_45 o n) fu x2 q13.1 q15 q16 0 q13.2))))
      else f_O_online_183 o hp)
set_option maxRecDepth 1000000 in
set_option maxHeartbeats 4000000 in
theorem t_O_online_45 {P : gG → Prop} {d : Nat} {m : xM} {h9 : gH} (hd9 : 3 ≤ d) (C : ∀ Γ, P Γ → gX Γ lay_X RX11 cX11_online 8 d h9) (o : Nat) (hR : ∀ Γ, P Γ → gRv Γ lay_X cX11_online m h9) : ∀ (n : Nat) (x2 : Int) (hp : gH), f_O_online_45 o n x2 hp = some h9 → gJ P lay_X 8 45 [(0, .inr (.inr (some o))), (2, .inl x2)] [] m hp h9 := by
  intro n
  induction n with
  | zero => intro _ _ h; cases h
  | succ n ih =>
    intro x2 hp h
    rw [f_O_online_45] at h
    refine g_iload_n C dX11_online_45 rfl ?_
    refine g_iconst C dX11_online_46 ?_
    refine g_icmp_ge C 183 dX11_online_47 (by decide) h (fun h => ?_) (fun h => ?_)
    · refine g_loc [(0, .inr (.inr (some o)))] ⟨rfl, trivial⟩ ?_
      exact t_O_online_183 hd9 C _ hR _ h
    · refine g_iconst C dX11_online_50 ?_
      obtain ⟨q13, hq13, h⟩ := x_bind h
      refine g_newQ C dX11_online_51 (xin_34 _ (List.mem_of_getElem? (i := 5) rfl)) hq13 ?_
      refine g_astore_n C dX11_online_54 (by decide) ?_
      refine g_aload_n C dX11_online_55 rfl ?_
      obtain ⟨q14, hq14, h⟩ := x_bind h
      refine g_getK C dX11_online_56 fF_X11_67 hq14 ?_
      refine g_iload_n C dX11_online_59 rfl ?_
      obtain ⟨q15, hq15, h⟩ := x_bind h
      refine g_aaloadK5 C dX11_online_60 hq15 ?_
      refine g_astore C dX11_online_61 (by decide) ?_
      refine g_aload C dX11_online_63 rfl ?_
      obtain ⟨q16, hq16, h⟩ := x_bind h
      refine g_lenC C dX11_online_65 hq16 ?_
      refine g_istore C dX11_online_66 (by decide) ?_
      refine g_iconst C dX11_online_68 ?_
      refine g_istore C dX11_online_69 (by decide) ?_
      refine g_loc [(0, .inr (.inr (some o))), (2, .inl x2), (3, .inr (.inr (some q13.1))), (4, .inr (.inr (some q15))), (5, .inl q16), (6, .inl 0)] ⟨rfl, rfl, rfl, rfl, rfl, rfl, trivial⟩ ?_
      exact t_O_online_71 hd9 C _ hR ih fu _ _ _ _ _ _ h
def f_O_online (o : Nat) (hp : gH) : Option (gH) :=
     (Option.bind (gfI hp o 2) fun q0 =>
      (Option.bind (f_O_rateFor o q0 hp) fun q1 =>
      (if gob hp o = true then (if xw q1 < 0 then (Option.bind (f_O_hang o hp) fun q33 =>
      (if gob hp o = true then some q33
      else none))
      else (Option.bind (gpt hp o 1 (.inl 2)) fun q3 =>
      (Option.bind (gpt q3 o 3 (.inl q1)) fun q4 =>
      (Option.bind (gpt q4 o 8 (.inl 0)) fun q5 =>
      (Option.bind (gpt q5 o 9 (.inl 0)) fun q6 =>
      (Option.bind (gpt q6 o 11 (.inl 0)) fun q7 =>
      f_O_online_45 o fu 0 q7))))))
      else none)))
set_option maxRecDepth 1000000 in
set_option maxHeartbeats 4000000 in
theorem t_O_online {P : gG → Prop} {d : Nat} {m : xM} {h9 : gH} (hd9 : 3 ≤ d) (C : ∀ Γ, P Γ → gX Γ lay_X RX11 cX11_online 8 d h9) (o : Nat) (hR : ∀ Γ, P Γ → gRv Γ lay_X cX11_online m h9) (hp : gH) (h : f_O_online o hp = some h9) : gJ P lay_X 8 0 [(0, .inr (.inr (some o)))] [] m hp h9 := by
  unfold f_O_online at h
  refine g_aload_n C dX11_online_0 rfl ?_
  refine g_aload_n C dX11_online_1 rfl ?_
  obtain ⟨q0, hq0, h⟩ := x_bind h
  refine g_getI C dX11_online_2 fF_X11_7 hq0 ?_
  obtain ⟨q1, hq1, h⟩ := x_bind h
  obtain ⟨fo3, h⟩ := x_some1 h
  obtain ⟨_, hfo3⟩ := gob_some fo3
  refine g_callV C dX11_online_5 (xin_37 _ (List.mem_of_getElem? (i := 7) rfl)) xy_X11_rateFor xi_X11_rateFor xs_X11_rateFor hfo3 ⟨_, _, rfl⟩ (by omega) (by decide) (av := [.inl q0]) rfl (Nat.le_of_ble_eq_true rfl) gle.rf (c_O_rateFor _ hq1) rfl ?_
  refine g_istore_n C dX11_online_8 (by decide) ?_
  refine g_iload_n C dX11_online_9 rfl ?_
  refine g_if_ge C 18 dX11_online_10 (by decide) h (fun h => ?_) (fun h => ?_)
  · refine g_aload_n C dX11_online_18 rfl ?_
    refine g_iconst C dX11_online_19 ?_
    obtain ⟨q3, hq3, h⟩ := x_bind h
    refine g_putI C dX11_online_20 fF_X11_81 hq3 ?_
    refine g_aload_n C dX11_online_23 rfl ?_
    refine g_iload_n C dX11_online_24 rfl ?_
    obtain ⟨q4, hq4, h⟩ := x_bind h
    refine g_putI C dX11_online_25 fF_X11_84 hq4 ?_
    refine g_aload_n C dX11_online_28 rfl ?_
    refine g_iconst C dX11_online_29 ?_
    obtain ⟨q5, hq5, h⟩ := x_bind h
    refine g_putI C dX11_online_30 fF_X11_99 hq5 ?_
    refine g_aload_n C dX11_online_33 rfl ?_
    refine g_iconst C dX11_online_34 ?_
    obtain ⟨q6, hq6, h⟩ := x_bind h
    refine g_putI C dX11_online_35 fF_X11_102 hq6 ?_
    refine g_aload_n C dX11_online_38 rfl ?_
    refine g_iconst C dX11_online_39 ?_
    obtain ⟨q7, hq7, h⟩ := x_bind h
    refine g_putI C dX11_online_40 fF_X11_108 hq7 ?_
    refine g_iconst C dX11_online_43 ?_
    refine g_istore_n C dX11_online_44 (by decide) ?_
    refine g_loc [(0, .inr (.inr (some o))), (2, .inl 0)] ⟨rfl, rfl, trivial⟩ ?_
    exact t_O_online_45 hd9 C _ hR fu _ _ h
  · refine g_aload_n C dX11_online_13 rfl ?_
    obtain ⟨q33, hq33, h⟩ := x_bind h
    obtain ⟨fo35, h⟩ := x_some1 h
    obtain ⟨_, hfo35⟩ := gob_some fo35
    refine g_callV C dX11_online_14 (xin_36 _ (List.mem_of_getElem? (i := 14) rfl)) xy_X11_hang xi_X11_hang xs_X11_hang hfo35 ⟨_, _, rfl⟩ (by omega) (by decide) (av := []) rfl (Nat.le_of_ble_eq_true rfl) (le_O_hang hq33) (c_O_hang _ hq33) rfl ?_
    exact g_return hR dX11_online_17 (by cases h; exact ⟨rfl, rfl⟩)
theorem c_O_online {o : Nat} (m : xM) {hp h9 : gH} (h : f_O_online o hp = some h9) (l : Launch) : gMet l yX11_online cX11_online 8 none 3 lay_X [.inr (.inr (some o))] m hp none m h9 :=
  gMet_v (by decide +kernel) (Nat.le_of_ble_eq_true rfl) (fun P C hR => t_O_online (Nat.le_refl _) C _ hR hp h)
theorem le_O_online {o : Nat} {hp h9 : gH} (h : f_O_online o hp = some h9) : gle hp h9 :=
  (t_O_online (P := fun _ => False) (m := fun _ _ => 0) (Nat.le_refl _) (fun _ q => q.elim) _ (fun _ q => q.elim) hp h).1

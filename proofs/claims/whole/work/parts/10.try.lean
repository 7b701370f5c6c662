def lay_D : List xS := [.inl (2, [some 1, none]),
  .inr (0, 8, [])]
def lay_D2 : List xS := [.inl (2, [some 1, none]),
  .inr (0, 8, []),
  .inl (2, [some 3, none]),
  .inr (0, 8, [])]
/-! ===== the dictionaries ===== -/
theorem fF_X0_21 : xF RX0 21 2 1 .int false := ⟨RX0, TX0, 2, tyX0, rfl, by decide, (xin_34 _ (List.mem_of_getElem? (i := 2) rfl)), rfl, inlX0, tyX0_ok, nmX0, rfl, rfl⟩
theorem fF_X0_9 : xF RX0 9 2 0 (.array .int) true := ⟨RX0, TX0, 2, tyX0, rfl, by decide, (xin_5 _ (List.mem_of_getElem? (i := 14) rfl)), rfl, inlX0, tyX0_ok, nmX0, rfl, rfl⟩
theorem dX0_putInFront_0 : decode cX0_putInFront 0 = .ok (.iconst 0, 1) := by decide +kernel
theorem dX0_putInFront_1 : decode cX0_putInFront 1 = .ok (.istore_n 2, 1) := by decide +kernel
theorem dX0_putInFront_2 : decode cX0_putInFront 2 = .ok (.iload_n 2, 1) := by decide +kernel
theorem dX0_putInFront_3 : decode cX0_putInFront 3 = .ok (.aload_n 0, 1) := by decide +kernel
theorem dX0_putInFront_4 : decode cX0_putInFront 4 = .ok (.getfield 21, 3) := by decide +kernel
theorem dX0_putInFront_7 : decode cX0_putInFront 7 = .ok (.if_icmp .ge 25, 3) := by decide +kernel
theorem dX0_putInFront_10 : decode cX0_putInFront 10 = .ok (.iload_n 2, 1) := by decide +kernel
theorem dX0_putInFront_11 : decode cX0_putInFront 11 = .ok (.bipush 8, 2) := by decide +kernel
theorem dX0_putInFront_13 : decode cX0_putInFront 13 = .ok (.if_icmp .ge 19, 3) := by decide +kernel
theorem dX0_putInFront_16 : decode cX0_putInFront 16 = .ok (.aload_n 0, 1) := by decide +kernel
theorem dX0_putInFront_17 : decode cX0_putInFront 17 = .ok (.getfield 9, 3) := by decide +kernel
theorem dX0_putInFront_20 : decode cX0_putInFront 20 = .ok (.iload_n 2, 1) := by decide +kernel
theorem dX0_putInFront_21 : decode cX0_putInFront 21 = .ok (.iaload, 1) := by decide +kernel
theorem dX0_putInFront_22 : decode cX0_putInFront 22 = .ok (.iload_n 1, 1) := by decide +kernel
theorem dX0_putInFront_23 : decode cX0_putInFront 23 = .ok (.if_icmp .eq 9, 3) := by decide +kernel
theorem dX0_putInFront_26 : decode cX0_putInFront 26 = .ok (.iinc 2 1, 3) := by decide +kernel
theorem dX0_putInFront_29 : decode cX0_putInFront 29 = .ok (.goto (-27), 3) := by decide +kernel
theorem dX0_putInFront_32 : decode cX0_putInFront 32 = .ok (.iload_n 2, 1) := by decide +kernel
theorem dX0_putInFront_33 : decode cX0_putInFront 33 = .ok (.aload_n 0, 1) := by decide +kernel
theorem dX0_putInFront_34 : decode cX0_putInFront 34 = .ok (.getfield 21, 3) := by decide +kernel
theorem dX0_putInFront_37 : decode cX0_putInFront 37 = .ok (.if_icmp .ge 7, 3) := by decide +kernel
theorem dX0_putInFront_40 : decode cX0_putInFront 40 = .ok (.iconst 1, 1) := by decide +kernel
theorem dX0_putInFront_41 : decode cX0_putInFront 41 = .ok (.goto 4, 3) := by decide +kernel
theorem dX0_putInFront_44 : decode cX0_putInFront 44 = .ok (.iconst 0, 1) := by decide +kernel
theorem dX0_putInFront_45 : decode cX0_putInFront 45 = .ok (.istore_n 3, 1) := by decide +kernel
theorem dX0_putInFront_46 : decode cX0_putInFront 46 = .ok (.iload_n 3, 1) := by decide +kernel
theorem dX0_putInFront_47 : decode cX0_putInFront 47 = .ok (.ifCond .ne 22, 3) := by decide +kernel
theorem dX0_putInFront_50 : decode cX0_putInFront 50 = .ok (.aload_n 0, 1) := by decide +kernel
theorem dX0_putInFront_51 : decode cX0_putInFront 51 = .ok (.getfield 21, 3) := by decide +kernel
theorem dX0_putInFront_54 : decode cX0_putInFront 54 = .ok (.bipush 8, 2) := by decide +kernel
theorem dX0_putInFront_56 : decode cX0_putInFront 56 = .ok (.if_icmp .ge 13, 3) := by decide +kernel
theorem dX0_putInFront_59 : decode cX0_putInFront 59 = .ok (.aload_n 0, 1) := by decide +kernel
theorem dX0_putInFront_60 : decode cX0_putInFront 60 = .ok (.dup, 1) := by decide +kernel
theorem dX0_putInFront_61 : decode cX0_putInFront 61 = .ok (.getfield 21, 3) := by decide +kernel
theorem dX0_putInFront_64 : decode cX0_putInFront 64 = .ok (.iconst 1, 1) := by decide +kernel
theorem dX0_putInFront_65 : decode cX0_putInFront 65 = .ok (.iadd, 1) := by decide +kernel
theorem dX0_putInFront_66 : decode cX0_putInFront 66 = .ok (.putfield 21, 3) := by decide +kernel
theorem dX0_putInFront_69 : decode cX0_putInFront 69 = .ok (.iload_n 2, 1) := by decide +kernel
theorem dX0_putInFront_70 : decode cX0_putInFront 70 = .ok (.bipush 7, 2) := by decide +kernel
theorem dX0_putInFront_72 : decode cX0_putInFront 72 = .ok (.invokestatic 25, 3) := by decide +kernel
theorem dX0_putInFront_75 : decode cX0_putInFront 75 = .ok (.istore 4, 2) := by decide +kernel
theorem dX0_putInFront_77 : decode cX0_putInFront 77 = .ok (.iload 4, 2) := by decide +kernel
theorem dX0_putInFront_79 : decode cX0_putInFront 79 = .ok (.ifCond .le 25, 3) := by decide +kernel
theorem dX0_putInFront_82 : decode cX0_putInFront 82 = .ok (.aload_n 0, 1) := by decide +kernel
theorem dX0_putInFront_83 : decode cX0_putInFront 83 = .ok (.getfield 9, 3) := by decide +kernel
theorem dX0_putInFront_86 : decode cX0_putInFront 86 = .ok (.iload 4, 2) := by decide +kernel
theorem dX0_putInFront_88 : decode cX0_putInFront 88 = .ok (.aload_n 0, 1) := by decide +kernel
theorem dX0_putInFront_89 : decode cX0_putInFront 89 = .ok (.getfield 9, 3) := by decide +kernel
theorem dX0_putInFront_92 : decode cX0_putInFront 92 = .ok (.iload 4, 2) := by decide +kernel
theorem dX0_putInFront_94 : decode cX0_putInFront 94 = .ok (.iconst 1, 1) := by decide +kernel
theorem dX0_putInFront_95 : decode cX0_putInFront 95 = .ok (.isub, 1) := by decide +kernel
theorem dX0_putInFront_96 : decode cX0_putInFront 96 = .ok (.iaload, 1) := by decide +kernel
theorem dX0_putInFront_97 : decode cX0_putInFront 97 = .ok (.iastore, 1) := by decide +kernel
theorem dX0_putInFront_98 : decode cX0_putInFront 98 = .ok (.iinc 4 (-1), 3) := by decide +kernel
theorem dX0_putInFront_101 : decode cX0_putInFront 101 = .ok (.goto (-24), 3) := by decide +kernel
theorem dX0_putInFront_104 : decode cX0_putInFront 104 = .ok (.aload_n 0, 1) := by decide +kernel
theorem dX0_putInFront_105 : decode cX0_putInFront 105 = .ok (.getfield 9, 3) := by decide +kernel
theorem dX0_putInFront_108 : decode cX0_putInFront 108 = .ok (.iconst 0, 1) := by decide +kernel
theorem dX0_putInFront_109 : decode cX0_putInFront 109 = .ok (.iload_n 1, 1) := by decide +kernel
theorem dX0_putInFront_110 : decode cX0_putInFront 110 = .ok (.iastore, 1) := by decide +kernel
theorem dX0_putInFront_111 : decode cX0_putInFront 111 = .ok (.iload_n 3, 1) := by decide +kernel
theorem dX0_putInFront_112 : decode cX0_putInFront 112 = .ok (.ifCond .eq 7, 3) := by decide +kernel
theorem dX0_putInFront_115 : decode cX0_putInFront 115 = .ok (.iconst 1, 1) := by decide +kernel
theorem dX0_putInFront_116 : decode cX0_putInFront 116 = .ok (.goto 4, 3) := by decide +kernel
theorem dX0_putInFront_119 : decode cX0_putInFront 119 = .ok (.iconst 3, 1) := by decide +kernel
theorem dX0_putInFront_120 : decode cX0_putInFront 120 = .ok (.ireturn, 1) := by decide +kernel
def f_D_put_104 (v : Int) (x3 : Int) (m : xM) : Option (Int × xM) :=
     (if xib 0 8 then (if xw x3 = 0 then some (3, (xu m 1 0 v))
      else some (1, (xu m 1 0 v)))
      else none)
set_option maxRecDepth 20000 in
set_option maxHeartbeats 4000000 in
theorem t_D_put_104 {Γ : xG} {d : Nat} (hd9 : 1 ≤ d) (C : xC Γ lay_D RX0 cX0_putInFront 5 d) (v : Int) {r : Int} {m9 : xM} (hR : xRi Γ lay_D cX0_putInFront r m9) (x3 : Int) (m : xM) (h : f_D_put_104 v x3 m = some (r, m9)) : xW Γ lay_D 5 104 [(0, .inr (.inr (some 0))), (1, .inl v), (3, .inl x3)] [] m := by
  unfold f_D_put_104 at h
  refine x_aload_n C dX0_putInFront_104 rfl ?_
  refine x_getR C dX0_putInFront_105 fF_X0_9 rfl rfl ?_
  refine x_iconst C dX0_putInFront_108 ?_
  refine x_iload_n C dX0_putInFront_109 rfl ?_
  refine x_iastore C dX0_putInFront_110 rfl h (fun h => ?_)
  refine x_iload_n C dX0_putInFront_111 rfl ?_
  refine x_if_eq C 119 dX0_putInFront_112 (by decide) h (fun h => ?_) (fun h => ?_)
  · refine x_iconst C dX0_putInFront_119 ?_
    exact x_ireturn hR dX0_putInFront_120 h
  · refine x_iconst C dX0_putInFront_115 ?_
    refine x_goto C 120 dX0_putInFront_116 (by decide) ?_
    exact x_ireturn hR dX0_putInFront_120 h
def f_D_put_77 (v : Int) : Nat → Int → Int → xM → Option (Int × xM)
  | 0, _, _, _ => none
  | n + 1, x3, x4, m =>
     (if 0 < xw x4 then (if xib (x4 - 1) 8 then (if xib x4 8 then f_D_put_77 v n x3 (x4 + (-1)) (xu m 1 (xix x4) (m 1 (xix (x4 - 1))))
      else none)
      else none)
      else f_D_put_104 v x3 m)
set_option maxRecDepth 20000 in
set_option maxHeartbeats 4000000 in
theorem t_D_put_77 {Γ : xG} {d : Nat} (hd9 : 1 ≤ d) (C : xC Γ lay_D RX0 cX0_putInFront 5 d) (v : Int) {r : Int} {m9 : xM} (hR : xRi Γ lay_D cX0_putInFront r m9) : ∀ (n : Nat) (x3 : Int) (x4 : Int) (m : xM), f_D_put_77 v n x3 x4 m = some (r, m9) → xW Γ lay_D 5 77 [(0, .inr (.inr (some 0))), (1, .inl v), (3, .inl x3), (4, .inl x4)] [] m := by
  intro n
  induction n with
  | zero => intro _ _ _ h; cases h
  | succ n ih =>
    intro x3 x4 m h
    rw [f_D_put_77] at h
    refine x_iload C dX0_putInFront_77 rfl ?_
    refine x_if_le C 104 dX0_putInFront_79 (by decide) h (fun h => ?_) (fun h => ?_)
    · refine x_loc [(0, .inr (.inr (some 0))), (1, .inl v), (3, .inl x3)] ⟨rfl, rfl, rfl, trivial⟩ ?_
      exact t_D_put_104 hd9 C _ hR _ _ h
    · refine x_aload_n C dX0_putInFront_82 rfl ?_
      refine x_getR C dX0_putInFront_83 fF_X0_9 rfl rfl ?_
      refine x_iload C dX0_putInFront_86 rfl ?_
      refine x_aload_n C dX0_putInFront_88 rfl ?_
      refine x_getR C dX0_putInFront_89 fF_X0_9 rfl rfl ?_
      refine x_iload C dX0_putInFront_92 rfl ?_
      refine x_iconst C dX0_putInFront_94 ?_
      refine x_isub C dX0_putInFront_95 ?_
      refine x_iaload C dX0_putInFront_96 rfl h (fun h => ?_)
      refine x_iastore C dX0_putInFront_97 rfl h (fun h => ?_)
      refine x_iinc C dX0_putInFront_98 (by decide) rfl ?_
      refine x_goto C 77 dX0_putInFront_101 (by decide) ?_
      refine x_loc [(0, .inr (.inr (some 0))), (1, .inl v), (3, .inl x3), (4, .inl (x4 + (-1)))] ⟨rfl, rfl, rfl, rfl, trivial⟩ ?_
      exact ih _ _ _ h
def f_D_put_69 (v : Int) (x2 : Int) (x3 : Int) (m : xM) : Option (Int × xM) :=
     f_D_put_77 v fu x3 (if xw 7 < xw x2 then 7 else x2) m
set_option maxRecDepth 20000 in
set_option maxHeartbeats 4000000 in
theorem t_D_put_69 {Γ : xG} {d : Nat} (hd9 : 1 ≤ d) (C : xC Γ lay_D RX0 cX0_putInFront 5 d) (v : Int) {r : Int} {m9 : xM} (hR : xRi Γ lay_D cX0_putInFront r m9) (x2 : Int) (x3 : Int) (m : xM) (h : f_D_put_69 v x2 x3 m = some (r, m9)) : xW Γ lay_D 5 69 [(0, .inr (.inr (some 0))), (1, .inl v), (2, .inl x2), (3, .inl x3)] [] m := by
  unfold f_D_put_69 at h
  refine x_iload_n C dX0_putInFront_69 rfl ?_
  refine x_bipush C dX0_putInFront_70 (by decide) ?_
  refine x_min C dX0_putInFront_72 (xin_34 _ (List.mem_of_getElem? (i := 7) rfl)) gm_min_s gm_math gm_min_c (by omega) (Nat.le_of_ble_eq_true rfl) ?_
  refine x_istore C dX0_putInFront_75 (by decide) ?_
  refine x_loc [(0, .inr (.inr (some 0))), (1, .inl v), (3, .inl x3), (4, .inl (if xw 7 < xw x2 then 7 else x2))] ⟨rfl, rfl, rfl, rfl, trivial⟩ ?_
  exact t_D_put_77 hd9 C _ hR fu _ _ _ h
def f_D_put_45 (v : Int) (x2 : Int) (s0 : Int) (m : xM) : Option (Int × xM) :=
     (if xw s0 = 0 then (if xw (m 0 1) < xw 8 then f_D_put_69 v x2 s0 (xu m 0 1 ((m 0 1) + 1))
      else f_D_put_69 v x2 s0 m)
      else f_D_put_69 v x2 s0 m)
set_option maxRecDepth 20000 in
set_option maxHeartbeats 4000000 in
theorem t_D_put_45 {Γ : xG} {d : Nat} (hd9 : 1 ≤ d) (C : xC Γ lay_D RX0 cX0_putInFront 5 d) (v : Int) {r : Int} {m9 : xM} (hR : xRi Γ lay_D cX0_putInFront r m9) (x2 : Int) (s0 : Int) (m : xM) (h : f_D_put_45 v x2 s0 m = some (r, m9)) : xW Γ lay_D 5 45 [(0, .inr (.inr (some 0))), (1, .inl v), (2, .inl x2)] [.inl s0] m := by
  unfold f_D_put_45 at h
  refine x_istore_n C dX0_putInFront_45 (by decide) ?_
  refine x_iload_n C dX0_putInFront_46 rfl ?_
  refine x_if_ne C 69 dX0_putInFront_47 (by decide) h (fun h => ?_) (fun h => ?_)
  · refine x_loc [(0, .inr (.inr (some 0))), (1, .inl v), (2, .inl x2), (3, .inl s0)] ⟨rfl, rfl, rfl, rfl, trivial⟩ ?_
    exact t_D_put_69 hd9 C _ hR _ _ _ h
  · refine x_aload_n C dX0_putInFront_50 rfl ?_
    refine x_getI C dX0_putInFront_51 fF_X0_21 rfl rfl ?_
    refine x_bipush C dX0_putInFront_54 (by decide) ?_
    refine x_icmp_ge C 69 dX0_putInFront_56 (by decide) h (fun h => ?_) (fun h => ?_)
    · refine x_loc [(0, .inr (.inr (some 0))), (1, .inl v), (2, .inl x2), (3, .inl s0)] ⟨rfl, rfl, rfl, rfl, trivial⟩ ?_
      exact t_D_put_69 hd9 C _ hR _ _ _ h
    · refine x_aload_n C dX0_putInFront_59 rfl ?_
      refine x_dup C dX0_putInFront_60 rfl ?_
      refine x_getI C dX0_putInFront_61 fF_X0_21 rfl rfl ?_
      refine x_iconst C dX0_putInFront_64 ?_
      refine x_iadd C dX0_putInFront_65 ?_
      refine x_putI C dX0_putInFront_66 fF_X0_21 rfl rfl ?_
      refine x_loc [(0, .inr (.inr (some 0))), (1, .inl v), (2, .inl x2), (3, .inl s0)] ⟨rfl, rfl, rfl, rfl, trivial⟩ ?_
      exact t_D_put_69 hd9 C _ hR _ _ _ h
def f_D_put_32 (v : Int) (x2 : Int) (m : xM) : Option (Int × xM) :=
     (if xw x2 < xw (m 0 1) then f_D_put_45 v x2 1 m
      else f_D_put_45 v x2 0 m)
set_option maxRecDepth 20000 in
set_option maxHeartbeats 4000000 in
theorem t_D_put_32 {Γ : xG} {d : Nat} (hd9 : 1 ≤ d) (C : xC Γ lay_D RX0 cX0_putInFront 5 d) (v : Int) {r : Int} {m9 : xM} (hR : xRi Γ lay_D cX0_putInFront r m9) (x2 : Int) (m : xM) (h : f_D_put_32 v x2 m = some (r, m9)) : xW Γ lay_D 5 32 [(0, .inr (.inr (some 0))), (1, .inl v), (2, .inl x2)] [] m := by
  unfold f_D_put_32 at h
  refine x_iload_n C dX0_putInFront_32 rfl ?_
  refine x_aload_n C dX0_putInFront_33 rfl ?_
  refine x_getI C dX0_putInFront_34 fF_X0_21 rfl rfl ?_
  refine x_icmp_ge C 44 dX0_putInFront_37 (by decide) h (fun h => ?_) (fun h => ?_)
  · refine x_iconst C dX0_putInFront_44 ?_
    refine x_loc [(0, .inr (.inr (some 0))), (1, .inl v), (2, .inl x2)] ⟨rfl, rfl, rfl, trivial⟩ ?_
    exact t_D_put_45 hd9 C _ hR _ _ _ h
  · refine x_iconst C dX0_putInFront_40 ?_
    refine x_goto C 45 dX0_putInFront_41 (by decide) ?_
    refine x_loc [(0, .inr (.inr (some 0))), (1, .inl v), (2, .inl x2)] ⟨rfl, rfl, rfl, trivial⟩ ?_
    exact t_D_put_45 hd9 C _ hR _ _ _ h
def f_D_put_2 (v : Int) : Nat → Int → xM → Option (Int × xM)
  | 0, _, _ => none
  | n + 1, x2, m =>
     (if xw x2 < xw (m 0 1) then (if xw x2 < xw 8 then (if xib x2 8 then (if xw (m 1 (xix x2)) = xw v then f_D_put_32 v x2 m
      else f_D_put_2 v n (x2 + 1) m)
      else none)
      else f_D_put_32 v x2 m)
      else f_D_put_32 v x2 m)
set_option maxRecDepth 20000 in
set_option maxHeartbeats 4000000 in
theorem t_D_put_2 {Γ : xG} {d : Nat} (hd9 : 1 ≤ d) (C : xC Γ lay_D RX0 cX0_putInFront 5 d) (v : Int) {r : Int} {m9 : xM} (hR : xRi Γ lay_D cX0_putInFront r m9) : ∀ (n : Nat) (x2 : Int) (m : xM), f_D_put_2 v n x2 m = some (r, m9) → xW Γ lay_D 5 2 [(0, .inr (.inr (some 0))), (1, .inl v), (2, .inl x2)] [] m := by
  intro n
  induction n with
  | zero => intro _ _ h; cases h
  | succ n ih =>
    intro x2 m h
    rw [f_D_put_2] at h
    refine x_iload_n C dX0_putInFront_2 rfl ?_
    refine x_aload_n C dX0_putInFront_3 rfl ?_
    refine x_getI C dX0_putInFront_4 fF_X0_21 rfl rfl ?_
    refine x_icmp_ge C 32 dX0_putInFront_7 (by decide) h (fun h => ?_) (fun h => ?_)
    · refine x_loc [(0, .inr (.inr (some 0))), (1, .inl v), (2, .inl x2)] ⟨rfl, rfl, rfl, trivial⟩ ?_
      exact t_D_put_32 hd9 C _ hR _ _ h
    · refine x_iload_n C dX0_putInFront_10 rfl ?_
      refine x_bipush C dX0_putInFront_11 (by decide) ?_
      refine x_icmp_ge C 32 dX0_putInFront_13 (by decide) h (fun h => ?_) (fun h => ?_)
      · refine x_loc [(0, .inr (.inr (some 0))), (1, .inl v), (2, .inl x2)] ⟨rfl, rfl, rfl, trivial⟩ ?_
        exact t_D_put_32 hd9 C _ hR _ _ h
      · refine x_aload_n C dX0_putInFront_16 rfl ?_
        refine x_getR C dX0_putInFront_17 fF_X0_9 rfl rfl ?_
        refine x_iload_n C dX0_putInFront_20 rfl ?_
        refine x_iaload C dX0_putInFront_21 rfl h (fun h => ?_)
        refine x_iload_n C dX0_putInFront_22 rfl ?_
        refine x_icmp_eq C 32 dX0_putInFront_23 (by decide) h (fun h => ?_) (fun h => ?_)
        · refine x_loc [(0, .inr (.inr (some 0))), (1, .inl v), (2, .inl x2)] ⟨rfl, rfl, rfl, trivial⟩ ?_
          exact t_D_put_32 hd9 C _ hR _ _ h
        · refine x_iinc C dX0_putInFront_26 (by decide) rfl ?_
          refine x_goto C 2 dX0_putInFront_29 (by decide) ?_
          refine x_loc [(0, .inr (.inr (some 0))), (1, .inl v), (2, .inl (x2 + 1))] ⟨rfl, rfl, rfl, trivial⟩ ?_
          exact ih _ _ h
def f_D_put (v : Int) (m : xM) : Option (Int × xM) :=
     f_D_put_2 v fu 0 m
set_option maxRecDepth 20000 in
set_option maxHeartbeats 4000000 in
theorem t_D_put {Γ : xG} {d : Nat} (hd9 : 1 ≤ d) (C : xC Γ lay_D RX0 cX0_putInFront 5 d) (v : Int) {r : Int} {m9 : xM} (hR : xRi Γ lay_D cX0_putInFront r m9) (m : xM) (h : f_D_put v m = some (r, m9)) : xW Γ lay_D 5 0 [(0, .inr (.inr (some 0))), (1, .inl v)] [] m := by
  unfold f_D_put at h
  refine x_iconst C dX0_putInFront_0 ?_
  refine x_istore_n C dX0_putInFront_1 (by decide) ?_
  refine x_loc [(0, .inr (.inr (some 0))), (1, .inl v), (2, .inl 0)] ⟨rfl, rfl, rfl, trivial⟩ ?_
  exact t_D_put_2 hd9 C _ hR fu _ _ h
theorem c_D_put (l : Launch) (v : Int) (m : xM) (r : Int) (m9 : xM) (h : f_D_put v m = some (r, m9)) : xMet l yX0_putInFront cX0_putInFront 5 (some .int) 1 lay_D [.inr (.inr (some 0)), .inl v] m (some (.inl r)) m9 :=
  xMet_i (by decide) (Nat.le_of_ble_eq_true rfl) (fun Γ C hR _ => t_D_put (Nat.le_refl _) C v hR m h)
theorem dX0_copyFrom_0 : decode cX0_copyFrom 0 = .ok (.aload_n 1, 1) := by decide +kernel
theorem dX0_copyFrom_1 : decode cX0_copyFrom 1 = .ok (.getfield 9, 3) := by decide +kernel
theorem dX0_copyFrom_4 : decode cX0_copyFrom 4 = .ok (.iconst 0, 1) := by decide +kernel
theorem dX0_copyFrom_5 : decode cX0_copyFrom 5 = .ok (.aload_n 0, 1) := by decide +kernel
theorem dX0_copyFrom_6 : decode cX0_copyFrom 6 = .ok (.getfield 9, 3) := by decide +kernel
theorem dX0_copyFrom_9 : decode cX0_copyFrom 9 = .ok (.iconst 0, 1) := by decide +kernel
theorem dX0_copyFrom_10 : decode cX0_copyFrom 10 = .ok (.bipush 8, 2) := by decide +kernel
theorem dX0_copyFrom_12 : decode cX0_copyFrom 12 = .ok (.invokestatic 15, 3) := by decide +kernel
theorem dX0_copyFrom_15 : decode cX0_copyFrom 15 = .ok (.aload_n 0, 1) := by decide +kernel
theorem dX0_copyFrom_16 : decode cX0_copyFrom 16 = .ok (.aload_n 1, 1) := by decide +kernel
theorem dX0_copyFrom_17 : decode cX0_copyFrom 17 = .ok (.getfield 21, 3) := by decide +kernel
theorem dX0_copyFrom_20 : decode cX0_copyFrom 20 = .ok (.putfield 21, 3) := by decide +kernel
theorem dX0_copyFrom_23 : decode cX0_copyFrom 23 = .ok (.return_, 1) := by decide +kernel
def f_D_cp (m : xM) : Option (xM) :=
     (if xcb 0 0 8 8 8 then some (xu (xcp m 3 1 (0) (0) (8)) 0 1 ((xcp m 3 1 (0) (0) (8)) 2 1))
      else none)
set_option maxRecDepth 20000 in
set_option maxHeartbeats 4000000 in
theorem t_D_cp {Γ : xG} {d : Nat} (hd9 : 1 ≤ d) (C : xC Γ lay_D2 RX0 cX0_copyFrom 2 d) {m9 : xM} (hR : xRv Γ lay_D2 cX0_copyFrom m9) (m : xM) (h : f_D_cp m = some m9) : xW Γ lay_D2 2 0 [(0, .inr (.inr (some 0))), (1, .inr (.inr (some 2)))] [] m := by
  unfold f_D_cp at h
  refine x_aload_n C dX0_copyFrom_0 rfl ?_
  refine x_getR C dX0_copyFrom_1 fF_X0_9 rfl rfl ?_
  refine x_iconst C dX0_copyFrom_4 ?_
  refine x_aload_n C dX0_copyFrom_5 rfl ?_
  refine x_getR C dX0_copyFrom_6 fF_X0_9 rfl rfl ?_
  refine x_iconst C dX0_copyFrom_9 ?_
  refine x_bipush C dX0_copyFrom_10 (by decide) ?_
  refine x_copy C dX0_copyFrom_12 (xin_34 _ (List.mem_of_getElem? (i := 1) rfl)) gm_copy_n gm_copy_s gm_copy_i (by omega) (Nat.le_of_ble_eq_true rfl) rfl rfl h (fun h => ?_)
  refine x_aload_n C dX0_copyFrom_15 rfl ?_
  refine x_aload_n C dX0_copyFrom_16 rfl ?_
  refine x_getI C dX0_copyFrom_17 fF_X0_21 rfl rfl ?_
  refine x_putI C dX0_copyFrom_20 fF_X0_21 rfl rfl ?_
  exact x_returnV hR dX0_copyFrom_23 h
theorem c_D_cp (l : Launch) (m m9 : xM) (h : f_D_cp m = some m9) : xMet l yX0_copyFrom cX0_copyFrom 2 none 1 lay_D2 [.inr (.inr (some 0)), .inr (.inr (some 2))] m none m9 :=
  xMet_v (by decide) (Nat.le_of_ble_eq_true rfl) (fun Γ C hR _ => t_D_cp (Nat.le_refl _) C hR m h)

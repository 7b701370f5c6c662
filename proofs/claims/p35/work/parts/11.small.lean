/-! ===== dictionaries, frames, log, setup, wire, ends ===== -/
theorem dJ9_floorMod_7cf53_0 : decode cJ9_floorMod_7cf53 0 = .ok (.iload_n 0, 1) := by decide +kernel
theorem dJ9_floorMod_7cf53_1 : decode cJ9_floorMod_7cf53 1 = .ok (.iload_n 1, 1) := by decide +kernel
theorem dJ9_floorMod_7cf53_2 : decode cJ9_floorMod_7cf53 2 = .ok (.irem, 1) := by decide +kernel
theorem dJ9_floorMod_7cf53_3 : decode cJ9_floorMod_7cf53 3 = .ok (.istore_n 2, 1) := by decide +kernel
theorem dJ9_floorMod_7cf53_4 : decode cJ9_floorMod_7cf53 4 = .ok (.iload_n 0, 1) := by decide +kernel
theorem dJ9_floorMod_7cf53_5 : decode cJ9_floorMod_7cf53 5 = .ok (.iload_n 1, 1) := by decide +kernel
theorem dJ9_floorMod_7cf53_6 : decode cJ9_floorMod_7cf53 6 = .ok (.ixor, 1) := by decide +kernel
theorem dJ9_floorMod_7cf53_7 : decode cJ9_floorMod_7cf53 7 = .ok (.ifCond .ge 11, 3) := by decide +kernel
theorem dJ9_floorMod_7cf53_10 : decode cJ9_floorMod_7cf53 10 = .ok (.iload_n 2, 1) := by decide +kernel
theorem dJ9_floorMod_7cf53_11 : decode cJ9_floorMod_7cf53 11 = .ok (.ifCond .eq 7, 3) := by decide +kernel
theorem dJ9_floorMod_7cf53_14 : decode cJ9_floorMod_7cf53 14 = .ok (.iload_n 2, 1) := by decide +kernel
theorem dJ9_floorMod_7cf53_15 : decode cJ9_floorMod_7cf53 15 = .ok (.iload_n 1, 1) := by decide +kernel
theorem dJ9_floorMod_7cf53_16 : decode cJ9_floorMod_7cf53 16 = .ok (.iadd, 1) := by decide +kernel
theorem dJ9_floorMod_7cf53_17 : decode cJ9_floorMod_7cf53 17 = .ok (.ireturn, 1) := by decide +kernel
theorem dJ9_floorMod_7cf53_18 : decode cJ9_floorMod_7cf53 18 = .ok (.iload_n 2, 1) := by decide +kernel
theorem dJ9_floorMod_7cf53_19 : decode cJ9_floorMod_7cf53 19 = .ok (.ireturn, 1) := by decide +kernel
def f_floorMod (a : Int) (b : Int) (m : xM) : Option (Int) :=
     (if xw b = 0 then none
      else (if xw (xixor a b) < 0 then (if xw (xirem a b) = 0 then some (xirem a b)
      else some ((xirem a b) + b))
      else some (xirem a b)))
set_option maxRecDepth 1000000 in
set_option maxHeartbeats 4000000 in
theorem t_floorMod {Γ : xG} {d : Nat} (hd9 : 1 ≤ d) (C : xC Γ lay_0 RJ9 cJ9_floorMod_7cf53 3 d) (a : Int) (b : Int) {r : Int} {m : xM} (hR : xRi Γ lay_0 cJ9_floorMod_7cf53 r m) (h : f_floorMod a b m = some r) : xW Γ lay_0 3 0 [(0, .inl a), (1, .inl b)] [] m := by
  unfold f_floorMod at h
  refine x_iload_n C dJ9_floorMod_7cf53_0 rfl ?_
  refine x_iload_n C dJ9_floorMod_7cf53_1 rfl ?_
  refine x_irem C dJ9_floorMod_7cf53_2 h (fun h9 h => ?_)
  refine x_istore_n C dJ9_floorMod_7cf53_3 (by decide) ?_
  refine x_iload_n C dJ9_floorMod_7cf53_4 rfl ?_
  refine x_iload_n C dJ9_floorMod_7cf53_5 rfl ?_
  refine x_ixor C dJ9_floorMod_7cf53_6 ?_
  refine x_if_ge C 18 dJ9_floorMod_7cf53_7 (by decide) h (fun h => ?_) (fun h => ?_)
  · refine x_iload_n C dJ9_floorMod_7cf53_18 rfl ?_
    exact x_ireturnP hR dJ9_floorMod_7cf53_19 h
  · refine x_iload_n C dJ9_floorMod_7cf53_10 rfl ?_
    refine x_if_eq C 18 dJ9_floorMod_7cf53_11 (by decide) h (fun h => ?_) (fun h => ?_)
    · refine x_iload_n C dJ9_floorMod_7cf53_18 rfl ?_
      exact x_ireturnP hR dJ9_floorMod_7cf53_19 h
    · refine x_iload_n C dJ9_floorMod_7cf53_14 rfl ?_
      refine x_iload_n C dJ9_floorMod_7cf53_15 rfl ?_
      refine x_iadd C dJ9_floorMod_7cf53_16 ?_
      exact x_ireturnP hR dJ9_floorMod_7cf53_17 h
theorem c_floorMod (l : Launch) (a : Int) (b : Int) (m : xM) (r : Int) (h : f_floorMod a b m = some r) : xMet l yJ9_floorMod_7cf53 cJ9_floorMod_7cf53 3 (some .int) 1 lay_0 [.inl a, .inl b] m (some (.inl r)) m :=
  xMet_i (by decide +kernel) (Nat.le_of_ble_eq_true rfl) (fun Γ C hR hl9 => t_floorMod (Nat.le_refl _) C a b hR h)
theorem fF_X0_21 : xF RX0 21 1 1 .int false := ⟨RX0, TX0, 2, tyX0, rfl, by decide, (xin_19 _ (List.mem_of_getElem? (i := 5) rfl)), rfl, inlX0, tyX0_ok, nmX0, rfl, rfl⟩
theorem fF_X0_9 : xF RX0 9 1 0 (.array .int) true := ⟨RX0, TX0, 2, tyX0, rfl, by decide, (xin_5 _ (List.mem_of_getElem? (i := 11) rfl)), rfl, inlX0, tyX0_ok, nmX0, rfl, rfl⟩
theorem dX0_putInFront_0 : decode cX0_putInFront 0 = .ok (.iconst 0, 1) := by decide +kernel
theorem dX0_putInFront_1 : decode cX0_putInFront 1 = .ok (.istore_n 2, 1) := by decide +kernel
theorem dX0_putInFront_2 : decode cX0_putInFront 2 = .ok (.iload_n 2, 1) := by decide +kernel
theorem dX0_putInFront_3 : decode cX0_putInFront 3 = .ok (.aload_n 0, 1) := by decide +kernel
theorem dX0_putInFront_4 : decode cX0_putInFront 4 = .ok (.getfield 21, 3) := by decide +kernel
theorem dX0_putInFront_7 : decode cX0_putInFront 7 = .ok (.if_icmp .ge 25, 3) := by decide +kernel
theorem dX0_putInFront_10 : decode cX0_putInFront 10 = .ok (.iload_n 2, 1) := by decide +kernel
theorem dX0_putInFront_11 : decode cX0_putInFront 11 = .ok (.bipush 8, 2) := by decide +kernel
theorem dX0_putInFront_13 : decode cX0_putInFront 13 = .ok (.if_icmp .ge 19, 3) := by decide +kernel
theorem dX0_putInFront_16 : decode cX0_putInFront 16 = .ok (.aload_n 0, 1) := by decide +kernel
theorem dX0_putInFront_17 : decode cX0_putInFront 17 = .ok (.getfield 9, 3) := by decide +kernel
theorem dX0_putInFront_20 : decode cX0_putInFront 20 = .ok (.iload_n 2, 1) := by decide +kernel
theorem dX0_putInFront_21 : decode cX0_putInFront 21 = .ok (.iaload, 1) := by decide +kernel
theorem dX0_putInFront_22 : decode cX0_putInFront 22 = .ok (.iload_n 1, 1) := by decide +kernel
theorem dX0_putInFront_23 : decode cX0_putInFront 23 = .ok (.if_icmp .eq 9, 3) := by decide +kernel
theorem dX0_putInFront_26 : decode cX0_putInFront 26 = .ok (.iinc 2 1, 3) := by decide +kernel
theorem dX0_putInFront_29 : decode cX0_putInFront 29 = .ok (.goto (-27), 3) := by decide +kernel
theorem dX0_putInFront_32 : decode cX0_putInFront 32 = .ok (.iload_n 2, 1) := by decide +kernel
theorem dX0_putInFront_33 : decode cX0_putInFront 33 = .ok (.aload_n 0, 1) := by decide +kernel
theorem dX0_putInFront_34 : decode cX0_putInFront 34 = .ok (.getfield 21, 3) := by decide +kernel
theorem dX0_putInFront_37 : decode cX0_putInFront 37 = .ok (.if_icmp .ge 7, 3) := by decide +kernel
theorem dX0_putInFront_40 : decode cX0_putInFront 40 = .ok (.iconst 1, 1) := by decide +kernel
theorem dX0_putInFront_41 : decode cX0_putInFront 41 = .ok (.goto 4, 3) := by decide +kernel
theorem dX0_putInFront_44 : decode cX0_putInFront 44 = .ok (.iconst 0, 1) := by decide +kernel
theorem dX0_putInFront_45 : decode cX0_putInFront 45 = .ok (.istore_n 3, 1) := by decide +kernel
theorem dX0_putInFront_46 : decode cX0_putInFront 46 = .ok (.iload_n 3, 1) := by decide +kernel
theorem dX0_putInFront_47 : decode cX0_putInFront 47 = .ok (.ifCond .ne 22, 3) := by decide +kernel
theorem dX0_putInFront_50 : decode cX0_putInFront 50 = .ok (.aload_n 0, 1) := by decide +kernel
theorem dX0_putInFront_51 : decode cX0_putInFront 51 = .ok (.getfield 21, 3) := by decide +kernel
theorem dX0_putInFront_54 : decode cX0_putInFront 54 = .ok (.bipush 8, 2) := by decide +kernel
theorem dX0_putInFront_56 : decode cX0_putInFront 56 = .ok (.if_icmp .ge 13, 3) := by decide +kernel
theorem dX0_putInFront_59 : decode cX0_putInFront 59 = .ok (.aload_n 0, 1) := by decide +kernel
theorem dX0_putInFront_60 : decode cX0_putInFront 60 = .ok (.dup, 1) := by decide +kernel
theorem dX0_putInFront_61 : decode cX0_putInFront 61 = .ok (.getfield 21, 3) := by decide +kernel
theorem dX0_putInFront_64 : decode cX0_putInFront 64 = .ok (.iconst 1, 1) := by decide +kernel
theorem dX0_putInFront_65 : decode cX0_putInFront 65 = .ok (.iadd, 1) := by decide +kernel
theorem dX0_putInFront_66 : decode cX0_putInFront 66 = .ok (.putfield 21, 3) := by decide +kernel
theorem dX0_putInFront_69 : decode cX0_putInFront 69 = .ok (.iload_n 2, 1) := by decide +kernel
theorem dX0_putInFront_70 : decode cX0_putInFront 70 = .ok (.bipush 7, 2) := by decide +kernel
theorem dX0_putInFront_72 : decode cX0_putInFront 72 = .ok (.invokestatic 25, 3) := by decide +kernel
theorem dX0_putInFront_75 : decode cX0_putInFront 75 = .ok (.istore 4, 2) := by decide +kernel
theorem dX0_putInFront_77 : decode cX0_putInFront 77 = .ok (.iload 4, 2) := by decide +kernel
theorem dX0_putInFront_79 : decode cX0_putInFront 79 = .ok (.ifCond .le 25, 3) := by decide +kernel
theorem dX0_putInFront_82 : decode cX0_putInFront 82 = .ok (.aload_n 0, 1) := by decide +kernel
theorem dX0_putInFront_83 : decode cX0_putInFront 83 = .ok (.getfield 9, 3) := by decide +kernel
theorem dX0_putInFront_86 : decode cX0_putInFront 86 = .ok (.iload 4, 2) := by decide +kernel
theorem dX0_putInFront_88 : decode cX0_putInFront 88 = .ok (.aload_n 0, 1) := by decide +kernel
theorem dX0_putInFront_89 : decode cX0_putInFront 89 = .ok (.getfield 9, 3) := by decide +kernel
theorem dX0_putInFront_92 : decode cX0_putInFront 92 = .ok (.iload 4, 2) := by decide +kernel
theorem dX0_putInFront_94 : decode cX0_putInFront 94 = .ok (.iconst 1, 1) := by decide +kernel
theorem dX0_putInFront_95 : decode cX0_putInFront 95 = .ok (.isub, 1) := by decide +kernel
theorem dX0_putInFront_96 : decode cX0_putInFront 96 = .ok (.iaload, 1) := by decide +kernel
theorem dX0_putInFront_97 : decode cX0_putInFront 97 = .ok (.iastore, 1) := by decide +kernel
theorem dX0_putInFront_98 : decode cX0_putInFront 98 = .ok (.iinc 4 (-1), 3) := by decide +kernel
theorem dX0_putInFront_101 : decode cX0_putInFront 101 = .ok (.goto (-24), 3) := by decide +kernel
theorem dX0_putInFront_104 : decode cX0_putInFront 104 = .ok (.aload_n 0, 1) := by decide +kernel
theorem dX0_putInFront_105 : decode cX0_putInFront 105 = .ok (.getfield 9, 3) := by decide +kernel
theorem dX0_putInFront_108 : decode cX0_putInFront 108 = .ok (.iconst 0, 1) := by decide +kernel
theorem dX0_putInFront_109 : decode cX0_putInFront 109 = .ok (.iload_n 1, 1) := by decide +kernel
theorem dX0_putInFront_110 : decode cX0_putInFront 110 = .ok (.iastore, 1) := by decide +kernel
theorem dX0_putInFront_111 : decode cX0_putInFront 111 = .ok (.iload_n 3, 1) := by decide +kernel
theorem dX0_putInFront_112 : decode cX0_putInFront 112 = .ok (.ifCond .eq 7, 3) := by decide +kernel
theorem dX0_putInFront_115 : decode cX0_putInFront 115 = .ok (.iconst 1, 1) := by decide +kernel
theorem dX0_putInFront_116 : decode cX0_putInFront 116 = .ok (.goto 4, 3) := by decide +kernel
theorem dX0_putInFront_119 : decode cX0_putInFront 119 = .ok (.iconst 3, 1) := by decide +kernel
theorem dX0_putInFront_120 : decode cX0_putInFront 120 = .ok (.ireturn, 1) := by decide +kernel
def f_D_put_104 (v : Int) (x3 : Int) (m : xM) : Option (Int × xM) :=
     (if xib 0 8 then (if xw x3 = 0 then some (3, (xu m 1 0 v))
      else some (1, (xu m 1 0 v)))
      else none)
set_option maxRecDepth 1000000 in
set_option maxHeartbeats 4000000 in
theorem t_D_put_104 {Γ : xG} {d : Nat} (hd9 : 1 ≤ d) (C : xC Γ lay_D RX0 cX0_putInFront 5 d) (v : Int) {r : Int} {m9 : xM} (hR : xRi Γ lay_D cX0_putInFront r m9) (x3 : Int) (m : xM) (h : f_D_put_104 v x3 m = some (r, m9)) : xW Γ lay_D 5 104 [(0, .inr (.inr (some 0))), (1, .inl v), (3, .inl x3)] [] m := by
  unfold f_D_put_104 at h
  refine x_aload_n C dX0_putInFront_104 rfl ?_
  refine x_getR C dX0_putInFront_105 fF_X0_9 rfl rfl ?_
  refine x_iconst C dX0_putInFront_108 ?_
  refine x_iload_n C dX0_putInFront_109 rfl ?_
  refine x_iastore C dX0_putInFront_110 rfl h (fun h => ?_)
  refine x_iload_n C dX0_putInFront_111 rfl ?_
  refine x_if_eq C 119 dX0_putInFront_112 (by decide) h (fun h => ?_) (fun h => ?_)
  · refine x_iconst C dX0_putInFront_119 ?_
    exact x_ireturn hR dX0_putInFront_120 h
  · refine x_iconst C dX0_putInFront_115 ?_
    refine x_goto C 120 dX0_putInFront_116 (by decide) ?_
    exact x_ireturn hR dX0_putInFront_120 h
def f_D_put_77 (v : Int) : Nat → Int → Int → xM → Option (Int × xM)
  | 0, _, _, _ => none
  | n + 1, x3, x4, m =>
     (if 0 < xw x4 then (if xib (x4 - 1) 8 then (if xib x4 8 then f_D_put_77 v n x3 (x4 + (-1)) (xu m 1 (xix x4) (m 1 (xix (x4 - 1))))
      else none)
      else none)
      else f_D_put_104 v x3 m)
set_option maxRecDepth 1000000 in
set_option maxHeartbeats 4000000 in
theorem t_D_put_77 {Γ : xG} {d : Nat} (hd9 : 1 ≤ d) (C : xC Γ lay_D RX0 cX0_putInFront 5 d) (v : Int) {r : Int} {m9 : xM} (hR : xRi Γ lay_D cX0_putInFront r m9) : ∀ (n : Nat) (x3 : Int) (x4 : Int) (m : xM), f_D_put_77 v n x3 x4 m = some (r, m9) → xW Γ lay_D 5 77 [(0, .inr (.inr (some 0))), (1, .inl v), (3, .inl x3), (4, .inl x4)] [] m := by
  intro n
  induction n with
  | zero => intro _ _ _ h; cases h
  | succ n ih =>
    intro x3 x4 m h
    rw [f_D_put_77] at h
    refine x_iload C dX0_putInFront_77 rfl ?_
    refine x_if_le C 104 dX0_putInFront_79 (by decide) h (fun h => ?_) (fun h => ?_)
    · refine x_loc [(0, .inr (.inr (some 0))), (1, .inl v), (3, .inl x3)] ⟨rfl, rfl, rfl, trivial⟩ ?_
      exact t_D_put_104 hd9 C _ hR _ _ h
    · refine x_aload_n C dX0_putInFront_82 rfl ?_
      refine x_getR C dX0_putInFront_83 fF_X0_9 rfl rfl ?_
      refine x_iload C dX0_putInFront_86 rfl ?_
      refine x_aload_n C dX0_putInFront_88 rfl ?_
      refine x_getR C dX0_putInFront_89 fF_X0_9 rfl rfl ?_
      refine x_iload C dX0_putInFront_92 rfl ?_
      refine x_iconst C dX0_putInFront_94 ?_
      refine x_isub C dX0_putInFront_95 ?_
      refine x_iaload C dX0_putInFront_96 rfl h (fun h => ?_)
      refine x_iastore C dX0_putInFront_97 rfl h (fun h => ?_)
      refine x_iinc C dX0_putInFront_98 (by decide) rfl ?_
      refine x_goto C 77 dX0_putInFront_101 (by decide) ?_
      refine x_loc [(0, .inr (.inr (some 0))), (1, .inl v), (3, .inl x3), (4, .inl (x4 + (-1)))] ⟨rfl, rfl, rfl, rfl, trivial⟩ ?_
      exact ih _ _ _ h
def f_D_put_69 (v : Int) (x2 : Int) (x3 : Int) (m : xM) : Option (Int × xM) :=
     f_D_put_77 v fu x3 (if xw 7 < xw x2 then 7 else x2) m
set_option maxRecDepth 1000000 in
set_option maxHeartbeats 4000000 in
theorem t_D_put_69 {Γ : xG} {d : Nat} (hd9 : 1 ≤ d) (C : xC Γ lay_D RX0 cX0_putInFront 5 d) (v : Int) {r : Int} {m9 : xM} (hR : xRi Γ lay_D cX0_putInFront r m9) (x2 : Int) (x3 : Int) (m : xM) (h : f_D_put_69 v x2 x3 m = some (r, m9)) : xW Γ lay_D 5 69 [(0, .inr (.inr (some 0))), (1, .inl v), (2, .inl x2), (3, .inl x3)] [] m := by
  unfold f_D_put_69 at h
  refine x_iload_n C dX0_putInFront_69 rfl ?_
  refine x_bipush C dX0_putInFront_70 (by decide) ?_
  refine x_min C dX0_putInFront_72 (xin_26 _ (List.mem_of_getElem? (i := 0) rfl)) gm_min_s gm_math gm_min_c (by omega) (Nat.le_of_ble_eq_true rfl) ?_
  refine x_istore C dX0_putInFront_75 (by decide) ?_
  refine x_loc [(0, .inr (.inr (some 0))), (1, .inl v), (3, .inl x3), (4, .inl (if xw 7 < xw x2 then 7 else x2))] ⟨rfl, rfl, rfl, rfl, trivial⟩ ?_
  exact t_D_put_77 hd9 C _ hR fu _ _ _ h
def f_D_put_45 (v : Int) (x2 : Int) (s0 : Int) (m : xM) : Option (Int × xM) :=
     (if xw s0 = 0 then (if xw (m 0 1) < xw 8 then f_D_put_69 v x2 s0 (xu m 0 1 ((m 0 1) + 1))
      else f_D_put_69 v x2 s0 m)
      else f_D_put_69 v x2 s0 m)
set_option maxRecDepth 1000000 in
set_option maxHeartbeats 4000000 in
theorem t_D_put_45 {Γ : xG} {d : Nat} (hd9 : 1 ≤ d) (C : xC Γ lay_D RX0 cX0_putInFront 5 d) (v : Int) {r : Int} {m9 : xM} (hR : xRi Γ lay_D cX0_putInFront r m9) (x2 : Int) (s0 : Int) (m : xM) (h : f_D_put_45 v x2 s0 m = some (r, m9)) : xW Γ lay_D 5 45 [(0, .inr (.inr (some 0))), (1, .inl v), (2, .inl x2)] [.inl s0] m := by
  unfold f_D_put_45 at h
  refine x_istore_n C dX0_putInFront_45 (by decide) ?_
  refine x_iload_n C dX0_putInFront_46 rfl ?_
  refine x_if_ne C 69 dX0_putInFront_47 (by decide) h (fun h => ?_) (fun h => ?_)
  · refine x_loc [(0, .inr (.inr (some 0))), (1, .inl v), (2, .inl x2), (3, .inl s0)] ⟨rfl, rfl, rfl, rfl, trivial⟩ ?_
    exact t_D_put_69 hd9 C _ hR _ _ _ h
  · refine x_aload_n C dX0_putInFront_50 rfl ?_
    refine x_getI C dX0_putInFront_51 fF_X0_21 rfl rfl ?_
    refine x_bipush C dX0_putInFront_54 (by decide) ?_
    refine x_icmp_ge C 69 dX0_putInFront_56 (by decide) h (fun h => ?_) (fun h => ?_)
    · refine x_loc [(0, .inr (.inr (some 0))), (1, .inl v), (2, .inl x2), (3, .inl s0)] ⟨rfl, rfl, rfl, rfl, trivial⟩ ?_
      exact t_D_put_69 hd9 C _ hR _ _ _ h
    · refine x_aload_n C dX0_putInFront_59 rfl ?_
      refine x_dup C dX0_putInFront_60 rfl ?_
      refine x_getI C dX0_putInFront_61 fF_X0_21 rfl rfl ?_
      refine x_iconst C dX0_putInFront_64 ?_
      refine x_iadd C dX0_putInFront_65 ?_
      refine x_putI C dX0_putInFront_66 fF_X0_21 rfl rfl ?_
      refine x_loc [(0, .inr (.inr (some 0))), (1, .inl v), (2, .inl x2), (3, .inl s0)] ⟨rfl, rfl, rfl, rfl, trivial⟩ ?_
      exact t_D_put_69 hd9 C _ hR _ _ _ h
def f_D_put_32 (v : Int) (x2 : Int) (m : xM) : Option (Int × xM) :=
     (if xw x2 < xw (m 0 1) then f_D_put_45 v x2 1 m
      else f_D_put_45 v x2 0 m)
set_option maxRecDepth 1000000 in
set_option maxHeartbeats 4000000 in
theorem t_D_put_32 {Γ : xG} {d : Nat} (hd9 : 1 ≤ d) (C : xC Γ lay_D RX0 cX0_putInFront 5 d) (v : Int) {r : Int} {m9 : xM} (hR : xRi Γ lay_D cX0_putInFront r m9) (x2 : Int) (m : xM) (h : f_D_put_32 v x2 m = some (r, m9)) : xW Γ lay_D 5 32 [(0, .inr (.inr (some 0))), (1, .inl v), (2, .inl x2)] [] m := by
  unfold f_D_put_32 at h
  refine x_iload_n C dX0_putInFront_32 rfl ?_
  refine x_aload_n C dX0_putInFront_33 rfl ?_
  refine x_getI C dX0_putInFront_34 fF_X0_21 rfl rfl ?_
  refine x_icmp_ge C 44 dX0_putInFront_37 (by decide) h (fun h => ?_) (fun h => ?_)
  · refine x_iconst C dX0_putInFront_44 ?_
    refine x_loc [(0, .inr (.inr (some 0))), (1, .inl v), (2, .inl x2)] ⟨rfl, rfl, rfl, trivial⟩ ?_
    exact t_D_put_45 hd9 C _ hR _ _ _ h
  · refine x_iconst C dX0_putInFront_40 ?_
    refine x_goto C 45 dX0_putInFront_41 (by decide) ?_
    refine x_loc [(0, .inr (.inr (some 0))), (1, .inl v), (2, .inl x2)] ⟨rfl, rfl, rfl, trivial⟩ ?_
    exact t_D_put_45 hd9 C _ hR _ _ _ h
def f_D_put_2 (v : Int) : Nat → Int → xM → Option (Int × xM)
  | 0, _, _ => none
  | n + 1, x2, m =>
     (if xw x2 < xw (m 0 1) then (if xw x2 < xw 8 then (if xib x2 8 then (if xw (m 1 (xix x2)) = xw v then f_D_put_32 v x2 m
      else f_D_put_2 v n (x2 + 1) m)
      else none)
      else f_D_put_32 v x2 m)
      else f_D_put_32 v x2 m)
set_option maxRecDepth 1000000 in
set_option maxHeartbeats 4000000 in
theorem t_D_put_2 {Γ : xG} {d : Nat} (hd9 : 1 ≤ d) (C : xC Γ lay_D RX0 cX0_putInFront 5 d) (v : Int) {r : Int} {m9 : xM} (hR : xRi Γ lay_D cX0_putInFront r m9) : ∀ (n : Nat) (x2 : Int) (m : xM), f_D_put_2 v n x2 m = some (r, m9) → xW Γ lay_D 5 2 [(0, .inr (.inr (some 0))), (1, .inl v), (2, .inl x2)] [] m := by
  intro n
  induction n with
  | zero => intro _ _ h; cases h
  | succ n ih =>
    intro x2 m h
    rw [f_D_put_2] at h
    refine x_iload_n C dX0_putInFront_2 rfl ?_
    refine x_aload_n C dX0_putInFront_3 rfl ?_
    refine x_getI C dX0_putInFront_4 fF_X0_21 rfl rfl ?_
    refine x_icmp_ge C 32 dX0_putInFront_7 (by decide) h (fun h => ?_) (fun h => ?_)
    · refine x_loc [(0, .inr (.inr (some 0))), (1, .inl v), (2, .inl x2)] ⟨rfl, rfl, rfl, trivial⟩ ?_
      exact t_D_put_32 hd9 C _ hR _ _ h
    · refine x_iload_n C dX0_putInFront_10 rfl ?_
      refine x_bipush C dX0_putInFront_11 (by decide) ?_
      refine x_icmp_ge C 32 dX0_putInFront_13 (by decide) h (fun h => ?_) (fun h => ?_)
      · refine x_loc [(0, .inr (.inr (some 0))), (1, .inl v), (2, .inl x2)] ⟨rfl, rfl, rfl, trivial⟩ ?_
        exact t_D_put_32 hd9 C _ hR _ _ h
      · refine x_aload_n C dX0_putInFront_16 rfl ?_
        refine x_getR C dX0_putInFront_17 fF_X0_9 rfl rfl ?_
        refine x_iload_n C dX0_putInFront_20 rfl ?_
        refine x_iaload C dX0_putInFront_21 rfl h (fun h => ?_)
        refine x_iload_n C dX0_putInFront_22 rfl ?_
        refine x_icmp_eq C 32 dX0_putInFront_23 (by decide) h (fun h => ?_) (fun h => ?_)
        · refine x_loc [(0, .inr (.inr (some 0))), (1, .inl v), (2, .inl x2)] ⟨rfl, rfl, rfl, trivial⟩ ?_
          exact t_D_put_32 hd9 C _ hR _ _ h
        · refine x_iinc C dX0_putInFront_26 (by decide) rfl ?_
          refine x_goto C 2 dX0_putInFront_29 (by decide) ?_
          refine x_loc [(0, .inr (.inr (some 0))), (1, .inl v), (2, .inl (x2 + 1))] ⟨rfl, rfl, rfl, trivial⟩ ?_
          exact ih _ _ h
def f_D_put (v : Int) (m : xM) : Option (Int × xM) :=
     f_D_put_2 v fu 0 m
set_option maxRecDepth 1000000 in
set_option maxHeartbeats 4000000 in
theorem t_D_put {Γ : xG} {d : Nat} (hd9 : 1 ≤ d) (C : xC Γ lay_D RX0 cX0_putInFront 5 d) (v : Int) {r : Int} {m9 : xM} (hR : xRi Γ lay_D cX0_putInFront r m9) (m : xM) (h : f_D_put v m = some (r, m9)) : xW Γ lay_D 5 0 [(0, .inr (.inr (some 0))), (1, .inl v)] [] m := by
  unfold f_D_put at h
  refine x_iconst C dX0_putInFront_0 ?_
  refine x_istore_n C dX0_putInFront_1 (by decide) ?_
  refine x_loc [(0, .inr (.inr (some 0))), (1, .inl v), (2, .inl 0)] ⟨rfl, rfl, rfl, trivial⟩ ?_
  exact t_D_put_2 hd9 C _ hR fu _ _ h
theorem c_D_put (l : Launch) (v : Int) (m : xM) (r : Int) (m9 : xM) (h : f_D_put v m = some (r, m9)) : xMet l yX0_putInFront cX0_putInFront 5 (some .int) 1 lay_D [.inr (.inr (some 0)), .inl v] m (some (.inl r)) m9 :=
  xMet_i (by decide +kernel) (Nat.le_of_ble_eq_true rfl) (fun Γ C hR hl9 => t_D_put (Nat.le_refl _) C v hR m h)
theorem dX0_copyFrom_0 : decode cX0_copyFrom 0 = .ok (.aload_n 1, 1) := by decide +kernel
theorem dX0_copyFrom_1 : decode cX0_copyFrom 1 = .ok (.getfield 9, 3) := by decide +kernel
theorem dX0_copyFrom_4 : decode cX0_copyFrom 4 = .ok (.iconst 0, 1) := by decide +kernel
theorem dX0_copyFrom_5 : decode cX0_copyFrom 5 = .ok (.aload_n 0, 1) := by decide +kernel
theorem dX0_copyFrom_6 : decode cX0_copyFrom 6 = .ok (.getfield 9, 3) := by decide +kernel
theorem dX0_copyFrom_9 : decode cX0_copyFrom 9 = .ok (.iconst 0, 1) := by decide +kernel
theorem dX0_copyFrom_10 : decode cX0_copyFrom 10 = .ok (.bipush 8, 2) := by decide +kernel
theorem dX0_copyFrom_12 : decode cX0_copyFrom 12 = .ok (.invokestatic 15, 3) := by decide +kernel
theorem dX0_copyFrom_15 : decode cX0_copyFrom 15 = .ok (.aload_n 0, 1) := by decide +kernel
theorem dX0_copyFrom_16 : decode cX0_copyFrom 16 = .ok (.aload_n 1, 1) := by decide +kernel
theorem dX0_copyFrom_17 : decode cX0_copyFrom 17 = .ok (.getfield 21, 3) := by decide +kernel
theorem dX0_copyFrom_20 : decode cX0_copyFrom 20 = .ok (.putfield 21, 3) := by decide +kernel
theorem dX0_copyFrom_23 : decode cX0_copyFrom 23 = .ok (.return_, 1) := by decide +kernel
def f_D_cp (m : xM) : Option (xM) :=
     (if xcb 0 0 8 8 8 then some (xu (xcp m 3 1 (0) (0) (8)) 0 1 ((xcp m 3 1 (0) (0) (8)) 2 1))
      else none)
set_option maxRecDepth 1000000 in
set_option maxHeartbeats 4000000 in
theorem t_D_cp {Γ : xG} {d : Nat} (hd9 : 1 ≤ d) (C : xC Γ lay_D2 RX0 cX0_copyFrom 2 d) {m9 : xM} (hR : xRv Γ lay_D2 cX0_copyFrom m9) (m : xM) (h : f_D_cp m = some m9) : xW Γ lay_D2 2 0 [(0, .inr (.inr (some 0))), (1, .inr (.inr (some 2)))] [] m := by
  unfold f_D_cp at h
  refine x_aload_n C dX0_copyFrom_0 rfl ?_
  refine x_getR C dX0_copyFrom_1 fF_X0_9 rfl rfl ?_
  refine x_iconst C dX0_copyFrom_4 ?_
  refine x_aload_n C dX0_copyFrom_5 rfl ?_
  refine x_getR C dX0_copyFrom_6 fF_X0_9 rfl rfl ?_
  refine x_iconst C dX0_copyFrom_9 ?_
  refine x_bipush C dX0_copyFrom_10 (by decide) ?_
  refine x_copy C dX0_copyFrom_12 (xin_19 _ (List.mem_of_getElem? (i := 4) rfl)) gm_copy_n gm_copy_s gm_copy_i (by omega) (Nat.le_of_ble_eq_true rfl) rfl rfl h (fun h => ?_)
  refine x_aload_n C dX0_copyFrom_15 rfl ?_
  refine x_aload_n C dX0_copyFrom_16 rfl ?_
  refine x_getI C dX0_copyFrom_17 fF_X0_21 rfl rfl ?_
  refine x_putI C dX0_copyFrom_20 fF_X0_21 rfl rfl ?_
  exact x_returnV hR dX0_copyFrom_23 h
theorem c_D_cp (l : Launch) (m m9 : xM) (h : f_D_cp m = some m9) : xMet l yX0_copyFrom cX0_copyFrom 2 none 1 lay_D2 [.inr (.inr (some 0)), .inr (.inr (some 2))] m none m9 :=
  xMet_v (by decide +kernel) (Nat.le_of_ble_eq_true rfl) (fun Γ C hR hl9 => t_D_cp (Nat.le_refl _) C hR m h)
theorem fF_X2_27 : xF RX2 27 3 3 .int false := ⟨RX2, TX2, 6, tyX2, rfl, by decide, (xin_8 _ (List.mem_of_getElem? (i := 16) rfl)), rfl, inlX2, tyX2_ok, nmX2, rfl, rfl⟩
theorem xy_J9_floorMod_7cf53 : xY yJ9_floorMod_7cf53 cJ9_floorMod_7cf53 3 (some .int) 2 := ⟨(xin_25 _ (List.mem_of_getElem? (i := 15) rfl)), (xin_25 _ (List.mem_of_getElem? (i := 14) rfl)), by decide, by decide, by decide +kernel⟩
theorem xt_J9_floorMod_7cf53 : Cond.static yJ9_floorMod_7cf53 ∈ wsL_law := (xin_25 _ (List.mem_of_getElem? (i := 13) rfl))
theorem xv_1 : xview lay_F lay_0 [] := xview_of (by decide +kernel)
theorem dX2_slotOf_0 : decode cX2_slotOf 0 = .ok (.aload_n 0, 1) := by decide +kernel
theorem dX2_slotOf_1 : decode cX2_slotOf 1 = .ok (.getfield 27, 3) := by decide +kernel
theorem dX2_slotOf_4 : decode cX2_slotOf 4 = .ok (.iload_n 1, 1) := by decide +kernel
theorem dX2_slotOf_5 : decode cX2_slotOf 5 = .ok (.iadd, 1) := by decide +kernel
theorem dX2_slotOf_6 : decode cX2_slotOf 6 = .ok (.bipush 7, 2) := by decide +kernel
theorem dX2_slotOf_8 : decode cX2_slotOf 8 = .ok (.invokestatic 37, 3) := by decide +kernel
theorem dX2_slotOf_11 : decode cX2_slotOf 11 = .ok (.ireturn, 1) := by decide +kernel
def f_F_slot (p : Int) (m : xM) : Option (Int) :=
     (Option.bind (f_floorMod ((m 0 3) + p) 7 (xvw [] m)) fun q0 =>
      some q0)
set_option maxRecDepth 1000000 in
set_option maxHeartbeats 4000000 in
theorem t_F_slot {Γ : xG} {d : Nat} (hd9 : 2 ≤ d) (C : xC Γ lay_F RX2 cX2_slotOf 2 d) (p : Int) {r : Int} {m : xM} (hR : xRi Γ lay_F cX2_slotOf r m) (h : f_F_slot p m = some r) : xW Γ lay_F 2 0 [(0, .inr (.inr (some 0))), (1, .inl p)] [] m := by
  unfold f_F_slot at h
  refine x_aload_n C dX2_slotOf_0 rfl ?_
  refine x_getI C dX2_slotOf_1 fF_X2_27 rfl rfl ?_
  refine x_iload_n C dX2_slotOf_4 rfl ?_
  refine x_iadd C dX2_slotOf_5 ?_
  refine x_bipush C dX2_slotOf_6 (by decide) ?_
  obtain ⟨q0, hq0, h⟩ := x_bind h
  refine x_callSp C dX2_slotOf_8 (xin_25 _ (List.mem_of_getElem? (i := 12) rfl)) xy_J9_floorMod_7cf53 (xt_J9_floorMod_7cf53) [] xv_1 (by omega) (by decide) (av := [.inl ((m 0 3) + p), .inl 7]) rfl (Nat.le_of_ble_eq_true rfl) (c_floorMod _ _ _ _ _ hq0) rfl ?_
  exact x_ireturnP hR dX2_slotOf_11 h
theorem c_F_slot (l : Launch) (p : Int) (m : xM) (r : Int) (h : f_F_slot p m = some r) : xMet l yX2_slotOf cX2_slotOf 2 (some .int) 2 lay_F [.inr (.inr (some 0)), .inl p] m (some (.inl r)) m :=
  xMet_i (by decide +kernel) (Nat.le_of_ble_eq_true rfl) (fun Γ C hR hl9 => t_F_slot (Nat.le_refl _) C p hR h)
theorem fF_X2_9 : xF RX2 9 3 0 (.array .int) true := ⟨RX2, TX2, 6, tyX2, rfl, by decide, (xin_5 _ (List.mem_of_getElem? (i := 5) rfl)), rfl, inlX2, tyX2_ok, nmX2, rfl, rfl⟩
theorem fF_X2_15 : xF RX2 15 3 1 (.array .int) true := ⟨RX2, TX2, 6, tyX2, rfl, by decide, (xin_5 _ (List.mem_of_getElem? (i := 6) rfl)), rfl, inlX2, tyX2_ok, nmX2, rfl, rfl⟩
theorem fF_X2_18 : xF RX2 18 3 2 (.array .int) true := ⟨RX2, TX2, 6, tyX2, rfl, by decide, (xin_5 _ (List.mem_of_getElem? (i := 7) rfl)), rfl, inlX2, tyX2_ok, nmX2, rfl, rfl⟩
theorem fF_X2_31 : xF RX2 31 3 4 .int false := ⟨RX2, TX2, 6, tyX2, rfl, by decide, (xin_8 _ (List.mem_of_getElem? (i := 17) rfl)), rfl, inlX2, tyX2_ok, nmX2, rfl, rfl⟩
theorem fF_X2_34 : xF RX2 34 3 5 .int false := ⟨RX2, TX2, 6, tyX2, rfl, by decide, (xin_8 _ (List.mem_of_getElem? (i := 18) rfl)), rfl, inlX2, tyX2_ok, nmX2, rfl, rfl⟩
theorem dX2_copyFrom_0 : decode cX2_copyFrom 0 = .ok (.aload_n 1, 1) := by decide +kernel
theorem dX2_copyFrom_1 : decode cX2_copyFrom 1 = .ok (.getfield 9, 3) := by decide +kernel
theorem dX2_copyFrom_4 : decode cX2_copyFrom 4 = .ok (.iconst 0, 1) := by decide +kernel
theorem dX2_copyFrom_5 : decode cX2_copyFrom 5 = .ok (.aload_n 0, 1) := by decide +kernel
theorem dX2_copyFrom_6 : decode cX2_copyFrom 6 = .ok (.getfield 9, 3) := by decide +kernel
theorem dX2_copyFrom_9 : decode cX2_copyFrom 9 = .ok (.iconst 0, 1) := by decide +kernel
theorem dX2_copyFrom_10 : decode cX2_copyFrom 10 = .ok (.aload_n 0, 1) := by decide +kernel
theorem dX2_copyFrom_11 : decode cX2_copyFrom 11 = .ok (.getfield 9, 3) := by decide +kernel
theorem dX2_copyFrom_14 : decode cX2_copyFrom 14 = .ok (.arraylength, 1) := by decide +kernel
theorem dX2_copyFrom_15 : decode cX2_copyFrom 15 = .ok (.invokestatic 21, 3) := by decide +kernel
theorem dX2_copyFrom_18 : decode cX2_copyFrom 18 = .ok (.aload_n 1, 1) := by decide +kernel
theorem dX2_copyFrom_19 : decode cX2_copyFrom 19 = .ok (.getfield 15, 3) := by decide +kernel
theorem dX2_copyFrom_22 : decode cX2_copyFrom 22 = .ok (.iconst 0, 1) := by decide +kernel
theorem dX2_copyFrom_23 : decode cX2_copyFrom 23 = .ok (.aload_n 0, 1) := by decide +kernel
theorem dX2_copyFrom_24 : decode cX2_copyFrom 24 = .ok (.getfield 15, 3) := by decide +kernel
theorem dX2_copyFrom_27 : decode cX2_copyFrom 27 = .ok (.iconst 0, 1) := by decide +kernel
theorem dX2_copyFrom_28 : decode cX2_copyFrom 28 = .ok (.bipush 7, 2) := by decide +kernel
theorem dX2_copyFrom_30 : decode cX2_copyFrom 30 = .ok (.invokestatic 21, 3) := by decide +kernel
theorem dX2_copyFrom_33 : decode cX2_copyFrom 33 = .ok (.aload_n 1, 1) := by decide +kernel
theorem dX2_copyFrom_34 : decode cX2_copyFrom 34 = .ok (.getfield 18, 3) := by decide +kernel
theorem dX2_copyFrom_37 : decode cX2_copyFrom 37 = .ok (.iconst 0, 1) := by decide +kernel
theorem dX2_copyFrom_38 : decode cX2_copyFrom 38 = .ok (.aload_n 0, 1) := by decide +kernel
theorem dX2_copyFrom_39 : decode cX2_copyFrom 39 = .ok (.getfield 18, 3) := by decide +kernel
theorem dX2_copyFrom_42 : decode cX2_copyFrom 42 = .ok (.iconst 0, 1) := by decide +kernel
theorem dX2_copyFrom_43 : decode cX2_copyFrom 43 = .ok (.bipush 7, 2) := by decide +kernel
theorem dX2_copyFrom_45 : decode cX2_copyFrom 45 = .ok (.invokestatic 21, 3) := by decide +kernel
theorem dX2_copyFrom_48 : decode cX2_copyFrom 48 = .ok (.aload_n 0, 1) := by decide +kernel
theorem dX2_copyFrom_49 : decode cX2_copyFrom 49 = .ok (.aload_n 1, 1) := by decide +kernel
theorem dX2_copyFrom_50 : decode cX2_copyFrom 50 = .ok (.getfield 27, 3) := by decide +kernel
theorem dX2_copyFrom_53 : decode cX2_copyFrom 53 = .ok (.putfield 27, 3) := by decide +kernel
theorem dX2_copyFrom_56 : decode cX2_copyFrom 56 = .ok (.aload_n 0, 1) := by decide +kernel
theorem dX2_copyFrom_57 : decode cX2_copyFrom 57 = .ok (.aload_n 1, 1) := by decide +kernel
theorem dX2_copyFrom_58 : decode cX2_copyFrom 58 = .ok (.getfield 31, 3) := by decide +kernel
theorem dX2_copyFrom_61 : decode cX2_copyFrom 61 = .ok (.putfield 31, 3) := by decide +kernel
theorem dX2_copyFrom_64 : decode cX2_copyFrom 64 = .ok (.aload_n 0, 1) := by decide +kernel
theorem dX2_copyFrom_65 : decode cX2_copyFrom 65 = .ok (.aload_n 1, 1) := by decide +kernel
theorem dX2_copyFrom_66 : decode cX2_copyFrom 66 = .ok (.getfield 34, 3) := by decide +kernel
theorem dX2_copyFrom_69 : decode cX2_copyFrom 69 = .ok (.putfield 34, 3) := by decide +kernel
theorem dX2_copyFrom_72 : decode cX2_copyFrom 72 = .ok (.return_, 1) := by decide +kernel
def f_F_cp_48 (m : xM) : Option (xM) :=
     some (xu (xu (xu m 0 3 (m 4 3)) 0 4 (m 4 4)) 0 5 (m 4 5))
set_option maxRecDepth 1000000 in
set_option maxHeartbeats 4000000 in
theorem t_F_cp_48 {Γ : xG} {d : Nat} (hd9 : 1 ≤ d) (C : xC Γ lay_F2 RX2 cX2_copyFrom 2 d) {m9 : xM} (hR : xRv Γ lay_F2 cX2_copyFrom m9) (m : xM) (h : f_F_cp_48 m = some m9) : xW Γ lay_F2 2 48 [(0, .inr (.inr (some 0))), (1, .inr (.inr (some 4)))] [] m := by
  unfold f_F_cp_48 at h
  refine x_aload_n C dX2_copyFrom_48 rfl ?_
  refine x_aload_n C dX2_copyFrom_49 rfl ?_
  refine x_getI C dX2_copyFrom_50 fF_X2_27 rfl rfl ?_
  refine x_putI C dX2_copyFrom_53 fF_X2_27 rfl rfl ?_
  refine x_aload_n C dX2_copyFrom_56 rfl ?_
  refine x_aload_n C dX2_copyFrom_57 rfl ?_
  refine x_getI C dX2_copyFrom_58 fF_X2_31 rfl rfl ?_
  refine x_putI C dX2_copyFrom_61 fF_X2_31 rfl rfl ?_
  refine x_aload_n C dX2_copyFrom_64 rfl ?_
  refine x_aload_n C dX2_copyFrom_65 rfl ?_
  refine x_getI C dX2_copyFrom_66 fF_X2_34 rfl rfl ?_
  refine x_putI C dX2_copyFrom_69 fF_X2_34 rfl rfl ?_
  exact x_returnV hR dX2_copyFrom_72 h
def f_F_cp (m : xM) : Option (xM) :=
     (if xcb 0 0 56 56 56 then (if xcb 0 0 7 7 7 then (if xcb 0 0 7 7 7 then f_F_cp_48 (xcp (xcp (xcp m 5 1 (0) (0) (56)) 6 2 (0) (0) (7)) 7 3 (0) (0) (7))
      else none)
      else none)
      else none)
set_option maxRecDepth 1000000 in
set_option maxHeartbeats 4000000 in
theorem t_F_cp {Γ : xG} {d : Nat} (hd9 : 1 ≤ d) (C : xC Γ lay_F2 RX2 cX2_copyFrom 2 d) {m9 : xM} (hR : xRv Γ lay_F2 cX2_copyFrom m9) (m : xM) (h : f_F_cp m = some m9) : xW Γ lay_F2 2 0 [(0, .inr (.inr (some 0))), (1, .inr (.inr (some 4)))] [] m := by
  unfold f_F_cp at h
  refine x_aload_n C dX2_copyFrom_0 rfl ?_
  refine x_getR C dX2_copyFrom_1 fF_X2_9 rfl rfl ?_
  refine x_iconst C dX2_copyFrom_4 ?_
  refine x_aload_n C dX2_copyFrom_5 rfl ?_
  refine x_getR C dX2_copyFrom_6 fF_X2_9 rfl rfl ?_
  refine x_iconst C dX2_copyFrom_9 ?_
  refine x_aload_n C dX2_copyFrom_10 rfl ?_
  refine x_getR C dX2_copyFrom_11 fF_X2_9 rfl rfl ?_
  refine x_len C dX2_copyFrom_14 rfl ?_
  refine x_copy C dX2_copyFrom_15 (xin_18 _ (List.mem_of_getElem? (i := 23) rfl)) gm_copy_n gm_copy_s gm_copy_i (by omega) (Nat.le_of_ble_eq_true rfl) rfl rfl h (fun h => ?_)
  refine x_aload_n C dX2_copyFrom_18 rfl ?_
  refine x_getR C dX2_copyFrom_19 fF_X2_15 rfl rfl ?_
  refine x_iconst C dX2_copyFrom_22 ?_
  refine x_aload_n C dX2_copyFrom_23 rfl ?_
  refine x_getR C dX2_copyFrom_24 fF_X2_15 rfl rfl ?_
  refine x_iconst C dX2_copyFrom_27 ?_
  refine x_bipush C dX2_copyFrom_28 (by decide) ?_
  refine x_copy C dX2_copyFrom_30 (xin_18 _ (List.mem_of_getElem? (i := 23) rfl)) gm_copy_n gm_copy_s gm_copy_i (by omega) (Nat.le_of_ble_eq_true rfl) rfl rfl h (fun h => ?_)
  refine x_aload_n C dX2_copyFrom_33 rfl ?_
  refine x_getR C dX2_copyFrom_34 fF_X2_18 rfl rfl ?_
  refine x_iconst C dX2_copyFrom_37 ?_
  refine x_aload_n C dX2_copyFrom_38 rfl ?_
  refine x_getR C dX2_copyFrom_39 fF_X2_18 rfl rfl ?_
  refine x_iconst C dX2_copyFrom_42 ?_
  refine x_bipush C dX2_copyFrom_43 (by decide) ?_
  refine x_copy C dX2_copyFrom_45 (xin_18 _ (List.mem_of_getElem? (i := 23) rfl)) gm_copy_n gm_copy_s gm_copy_i (by omega) (Nat.le_of_ble_eq_true rfl) rfl rfl h (fun h => ?_)
  refine x_loc [(0, .inr (.inr (some 0))), (1, .inr (.inr (some 4)))] ⟨rfl, rfl, trivial⟩ ?_
  exact t_F_cp_48 hd9 C hR _ h
theorem c_F_cp (l : Launch) (m m9 : xM) (h : f_F_cp m = some m9) : xMet l yX2_copyFrom cX2_copyFrom 2 none 1 lay_F2 [.inr (.inr (some 0)), .inr (.inr (some 4))] m none m9 :=
  xMet_v (by decide +kernel) (Nat.le_of_ble_eq_true rfl) (fun Γ C hR hl9 => t_F_cp (Nat.le_refl _) C hR m h)
theorem dX2_beginNumbers_0 : decode cX2_beginNumbers 0 = .ok (.aload_n 0, 1) := by decide +kernel
theorem dX2_beginNumbers_1 : decode cX2_beginNumbers 1 = .ok (.iconst 0, 1) := by decide +kernel
theorem dX2_beginNumbers_2 : decode cX2_beginNumbers 2 = .ok (.putfield 27, 3) := by decide +kernel
theorem dX2_beginNumbers_5 : decode cX2_beginNumbers 5 = .ok (.aload_n 0, 1) := by decide +kernel
theorem dX2_beginNumbers_6 : decode cX2_beginNumbers 6 = .ok (.iconst 0, 1) := by decide +kernel
theorem dX2_beginNumbers_7 : decode cX2_beginNumbers 7 = .ok (.putfield 31, 3) := by decide +kernel
theorem dX2_beginNumbers_10 : decode cX2_beginNumbers 10 = .ok (.aload_n 0, 1) := by decide +kernel
theorem dX2_beginNumbers_11 : decode cX2_beginNumbers 11 = .ok (.iconst 0, 1) := by decide +kernel
theorem dX2_beginNumbers_12 : decode cX2_beginNumbers 12 = .ok (.putfield 34, 3) := by decide +kernel
theorem dX2_beginNumbers_15 : decode cX2_beginNumbers 15 = .ok (.return_, 1) := by decide +kernel
def f_F_begin (m : xM) : Option (xM) :=
     some (xu (xu (xu m 0 3 0) 0 4 0) 0 5 0)
set_option maxRecDepth 1000000 in
set_option maxHeartbeats 4000000 in
theorem t_F_begin {Γ : xG} {d : Nat} (hd9 : 1 ≤ d) (C : xC Γ lay_F RX2 cX2_beginNumbers 1 d) {m9 : xM} (hR : xRv Γ lay_F cX2_beginNumbers m9) (m : xM) (h : f_F_begin m = some m9) : xW Γ lay_F 1 0 [(0, .inr (.inr (some 0)))] [] m := by
  unfold f_F_begin at h
  refine x_aload_n C dX2_beginNumbers_0 rfl ?_
  refine x_iconst C dX2_beginNumbers_1 ?_
  refine x_putI C dX2_beginNumbers_2 fF_X2_27 rfl rfl ?_
  refine x_aload_n C dX2_beginNumbers_5 rfl ?_
  refine x_iconst C dX2_beginNumbers_6 ?_
  refine x_putI C dX2_beginNumbers_7 fF_X2_31 rfl rfl ?_
  refine x_aload_n C dX2_beginNumbers_10 rfl ?_
  refine x_iconst C dX2_beginNumbers_11 ?_
  refine x_putI C dX2_beginNumbers_12 fF_X2_34 rfl rfl ?_
  exact x_returnV hR dX2_beginNumbers_15 h
theorem c_F_begin (l : Launch) (m m9 : xM) (h : f_F_begin m = some m9) : xMet l yX2_beginNumbers cX2_beginNumbers 1 none 1 lay_F [.inr (.inr (some 0))] m none m9 :=
  xMet_v (by decide +kernel) (Nat.le_of_ble_eq_true rfl) (fun Γ C hR hl9 => t_F_begin (Nat.le_refl _) C hR m h)
theorem dX2_make_0 : decode cX2_make 0 = .ok (.aload_n 0, 1) := by decide +kernel
theorem dX2_make_1 : decode cX2_make 1 = .ok (.getfield 15, 3) := by decide +kernel
theorem dX2_make_4 : decode cX2_make 4 = .ok (.iload_n 1, 1) := by decide +kernel
theorem dX2_make_5 : decode cX2_make 5 = .ok (.iload_n 3, 1) := by decide +kernel
theorem dX2_make_6 : decode cX2_make 6 = .ok (.iastore, 1) := by decide +kernel
theorem dX2_make_7 : decode cX2_make 7 = .ok (.aload_n 2, 1) := by decide +kernel
theorem dX2_make_8 : decode cX2_make 8 = .ok (.iconst 0, 1) := by decide +kernel
theorem dX2_make_9 : decode cX2_make 9 = .ok (.aload_n 0, 1) := by decide +kernel
theorem dX2_make_10 : decode cX2_make 10 = .ok (.getfield 9, 3) := by decide +kernel
theorem dX2_make_13 : decode cX2_make 13 = .ok (.iload_n 1, 1) := by decide +kernel
theorem dX2_make_14 : decode cX2_make 14 = .ok (.bipush 8, 2) := by decide +kernel
theorem dX2_make_16 : decode cX2_make 16 = .ok (.imul, 1) := by decide +kernel
theorem dX2_make_17 : decode cX2_make 17 = .ok (.iload_n 3, 1) := by decide +kernel
theorem dX2_make_18 : decode cX2_make 18 = .ok (.invokestatic 21, 3) := by decide +kernel
theorem dX2_make_21 : decode cX2_make 21 = .ok (.aload_n 0, 1) := by decide +kernel
theorem dX2_make_22 : decode cX2_make 22 = .ok (.dup, 1) := by decide +kernel
theorem dX2_make_23 : decode cX2_make 23 = .ok (.getfield 31, 3) := by decide +kernel
theorem dX2_make_26 : decode cX2_make 26 = .ok (.iconst 1, 1) := by decide +kernel
theorem dX2_make_27 : decode cX2_make 27 = .ok (.iadd, 1) := by decide +kernel
theorem dX2_make_28 : decode cX2_make 28 = .ok (.putfield 31, 3) := by decide +kernel
theorem dX2_make_31 : decode cX2_make 31 = .ok (.return_, 1) := by decide +kernel
def f_F_make (s : Int) (z : Int) (m : xM) : Option (xM) :=
     (if xib s 7 then (if xcb 0 (s * 8) z 200 56 then some (xu (xcp (xu m 2 (xix s) z) 4 1 (0) (xix (s * 8)) (xix z)) 0 4 (((xcp (xu m 2 (xix s) z) 4 1 (0) (xix (s * 8)) (xix z)) 0 4) + 1))
      else none)
      else none)
set_option maxRecDepth 1000000 in
set_option maxHeartbeats 4000000 in
theorem t_F_make {Γ : xG} {d : Nat} (hd9 : 1 ≤ d) (C : xC Γ lay_FS RX2 cX2_make 4 d) (s : Int) (z : Int) {m9 : xM} (hR : xRv Γ lay_FS cX2_make m9) (m : xM) (h : f_F_make s z m = some m9) : xW Γ lay_FS 4 0 [(0, .inr (.inr (some 0))), (1, .inl s), (2, .inr (.inr (some 4))), (3, .inl z)] [] m := by
  unfold f_F_make at h
  refine x_aload_n C dX2_make_0 rfl ?_
  refine x_getR C dX2_make_1 fF_X2_15 rfl rfl ?_
  refine x_iload_n C dX2_make_4 rfl ?_
  refine x_iload_n C dX2_make_5 rfl ?_
  refine x_iastore C dX2_make_6 rfl h (fun h => ?_)
  refine x_aload_n C dX2_make_7 rfl ?_
  refine x_iconst C dX2_make_8 ?_
  refine x_aload_n C dX2_make_9 rfl ?_
  refine x_getR C dX2_make_10 fF_X2_9 rfl rfl ?_
  refine x_iload_n C dX2_make_13 rfl ?_
  refine x_bipush C dX2_make_14 (by decide) ?_
  refine x_imul C dX2_make_16 ?_
  refine x_iload_n C dX2_make_17 rfl ?_
  refine x_copy C dX2_make_18 (xin_18 _ (List.mem_of_getElem? (i := 23) rfl)) gm_copy_n gm_copy_s gm_copy_i (by omega) (Nat.le_of_ble_eq_true rfl) rfl rfl h (fun h => ?_)
  refine x_aload_n C dX2_make_21 rfl ?_
  refine x_dup C dX2_make_22 rfl ?_
  refine x_getI C dX2_make_23 fF_X2_31 rfl rfl ?_
  refine x_iconst C dX2_make_26 ?_
  refine x_iadd C dX2_make_27 ?_
  refine x_putI C dX2_make_28 fF_X2_31 rfl rfl ?_
  exact x_returnV hR dX2_make_31 h
theorem c_F_make (l : Launch) (s : Int) (z : Int) (m m9 : xM) (h : f_F_make s z m = some m9) : xMet l yX2_make cX2_make 4 none 1 lay_FS [.inr (.inr (some 0)), .inl s, .inr (.inr (some 4)), .inl z] m none m9 :=
  xMet_v (by decide +kernel) (Nat.le_of_ble_eq_true rfl) (fun Γ C hR hl9 => t_F_make (Nat.le_refl _) C s z hR m h)
theorem dX2_forgetFirst_0 : decode cX2_forgetFirst 0 = .ok (.aload_n 0, 1) := by decide +kernel
theorem dX2_forgetFirst_1 : decode cX2_forgetFirst 1 = .ok (.dup, 1) := by decide +kernel
theorem dX2_forgetFirst_2 : decode cX2_forgetFirst 2 = .ok (.getfield 27, 3) := by decide +kernel
theorem dX2_forgetFirst_5 : decode cX2_forgetFirst 5 = .ok (.iconst 1, 1) := by decide +kernel
theorem dX2_forgetFirst_6 : decode cX2_forgetFirst 6 = .ok (.iadd, 1) := by decide +kernel
theorem dX2_forgetFirst_7 : decode cX2_forgetFirst 7 = .ok (.putfield 27, 3) := by decide +kernel
theorem dX2_forgetFirst_10 : decode cX2_forgetFirst 10 = .ok (.aload_n 0, 1) := by decide +kernel
theorem dX2_forgetFirst_11 : decode cX2_forgetFirst 11 = .ok (.dup, 1) := by decide +kernel
theorem dX2_forgetFirst_12 : decode cX2_forgetFirst 12 = .ok (.getfield 31, 3) := by decide +kernel
theorem dX2_forgetFirst_15 : decode cX2_forgetFirst 15 = .ok (.iconst 1, 1) := by decide +kernel
theorem dX2_forgetFirst_16 : decode cX2_forgetFirst 16 = .ok (.isub, 1) := by decide +kernel
theorem dX2_forgetFirst_17 : decode cX2_forgetFirst 17 = .ok (.putfield 31, 3) := by decide +kernel
theorem dX2_forgetFirst_20 : decode cX2_forgetFirst 20 = .ok (.aload_n 0, 1) := by decide +kernel
theorem dX2_forgetFirst_21 : decode cX2_forgetFirst 21 = .ok (.getfield 34, 3) := by decide +kernel
theorem dX2_forgetFirst_24 : decode cX2_forgetFirst 24 = .ok (.ifCond .le 13, 3) := by decide +kernel
theorem dX2_forgetFirst_27 : decode cX2_forgetFirst 27 = .ok (.aload_n 0, 1) := by decide +kernel
theorem dX2_forgetFirst_28 : decode cX2_forgetFirst 28 = .ok (.dup, 1) := by decide +kernel
theorem dX2_forgetFirst_29 : decode cX2_forgetFirst 29 = .ok (.getfield 34, 3) := by decide +kernel
theorem dX2_forgetFirst_32 : decode cX2_forgetFirst 32 = .ok (.iconst 1, 1) := by decide +kernel
theorem dX2_forgetFirst_33 : decode cX2_forgetFirst 33 = .ok (.isub, 1) := by decide +kernel
theorem dX2_forgetFirst_34 : decode cX2_forgetFirst 34 = .ok (.putfield 34, 3) := by decide +kernel
theorem dX2_forgetFirst_37 : decode cX2_forgetFirst 37 = .ok (.return_, 1) := by decide +kernel
def f_F_forget1 (m : xM) : Option (xM) :=
     (if 0 < xw (m 0 5) then some (xu (xu (xu m 0 3 ((m 0 3) + 1)) 0 4 ((m 0 4) - 1)) 0 5 ((m 0 5) - 1))
      else some (xu (xu m 0 3 ((m 0 3) + 1)) 0 4 ((m 0 4) - 1)))
set_option maxRecDepth 1000000 in
set_option maxHeartbeats 4000000 in
theorem t_F_forget1 {Γ : xG} {d : Nat} (hd9 : 1 ≤ d) (C : xC Γ lay_F RX2 cX2_forgetFirst 1 d) {m9 : xM} (hR : xRv Γ lay_F cX2_forgetFirst m9) (m : xM) (h : f_F_forget1 m = some m9) : xW Γ lay_F 1 0 [(0, .inr (.inr (some 0)))] [] m := by
  unfold f_F_forget1 at h
  refine x_aload_n C dX2_forgetFirst_0 rfl ?_
  refine x_dup C dX2_forgetFirst_1 rfl ?_
  refine x_getI C dX2_forgetFirst_2 fF_X2_27 rfl rfl ?_
  refine x_iconst C dX2_forgetFirst_5 ?_
  refine x_iadd C dX2_forgetFirst_6 ?_
  refine x_putI C dX2_forgetFirst_7 fF_X2_27 rfl rfl ?_
  refine x_aload_n C dX2_forgetFirst_10 rfl ?_
  refine x_dup C dX2_forgetFirst_11 rfl ?_
  refine x_getI C dX2_forgetFirst_12 fF_X2_31 rfl rfl ?_
  refine x_iconst C dX2_forgetFirst_15 ?_
  refine x_isub C dX2_forgetFirst_16 ?_
  refine x_putI C dX2_forgetFirst_17 fF_X2_31 rfl rfl ?_
  refine x_aload_n C dX2_forgetFirst_20 rfl ?_
  refine x_getI C dX2_forgetFirst_21 fF_X2_34 rfl rfl ?_
  refine x_if_le C 37 dX2_forgetFirst_24 (by decide) h (fun h => ?_) (fun h => ?_)
  · exact x_returnV hR dX2_forgetFirst_37 h
  · refine x_aload_n C dX2_forgetFirst_27 rfl ?_
    refine x_dup C dX2_forgetFirst_28 rfl ?_
    refine x_getI C dX2_forgetFirst_29 fF_X2_34 rfl rfl ?_
    refine x_iconst C dX2_forgetFirst_32 ?_
    refine x_isub C dX2_forgetFirst_33 ?_
    refine x_putI C dX2_forgetFirst_34 fF_X2_34 rfl rfl ?_
    exact x_returnV hR dX2_forgetFirst_37 h
theorem c_F_forget1 (l : Launch) (m m9 : xM) (h : f_F_forget1 m = some m9) : xMet l yX2_forgetFirst cX2_forgetFirst 1 none 1 lay_F [.inr (.inr (some 0))] m none m9 :=
  xMet_v (by decide +kernel) (Nat.le_of_ble_eq_true rfl) (fun Γ C hR hl9 => t_F_forget1 (Nat.le_refl _) C hR m h)
theorem xy_X2_forgetFirst : xY yX2_forgetFirst cX2_forgetFirst 1 none 0 := ⟨(xin_23 _ (List.mem_of_getElem? (i := 7) rfl)), (xin_4 _ (List.mem_of_getElem? (i := 21) rfl)), by decide, by decide, by decide +kernel⟩
theorem xi_X2_forgetFirst : Cond.instanceMethod yX2_forgetFirst ∈ wsL_law := (xin_23 _ (List.mem_of_getElem? (i := 5) rfl))
theorem xs_X2_forgetFirst : Cond.selects yX2_forgetFirst.cls yX2_forgetFirst yX2_forgetFirst ∈ wsL_law := (xin_23 _ (List.mem_of_getElem? (i := 6) rfl))
theorem dX2_forgetBelow_0 : decode cX2_forgetBelow 0 = .ok (.iconst 0, 1) := by decide +kernel
theorem dX2_forgetBelow_1 : decode cX2_forgetBelow 1 = .ok (.istore_n 2, 1) := by decide +kernel
theorem dX2_forgetBelow_2 : decode cX2_forgetBelow 2 = .ok (.iload_n 2, 1) := by decide +kernel
theorem dX2_forgetBelow_3 : decode cX2_forgetBelow 3 = .ok (.bipush 7, 2) := by decide +kernel
theorem dX2_forgetBelow_5 : decode cX2_forgetBelow 5 = .ok (.if_icmp .ge 28, 3) := by decide +kernel
theorem dX2_forgetBelow_8 : decode cX2_forgetBelow 8 = .ok (.aload_n 0, 1) := by decide +kernel
theorem dX2_forgetBelow_9 : decode cX2_forgetBelow 9 = .ok (.getfield 31, 3) := by decide +kernel
theorem dX2_forgetBelow_12 : decode cX2_forgetBelow 12 = .ok (.ifCond .le 21, 3) := by decide +kernel
theorem dX2_forgetBelow_15 : decode cX2_forgetBelow 15 = .ok (.aload_n 0, 1) := by decide +kernel
theorem dX2_forgetBelow_16 : decode cX2_forgetBelow 16 = .ok (.getfield 27, 3) := by decide +kernel
theorem dX2_forgetBelow_19 : decode cX2_forgetBelow 19 = .ok (.iload_n 1, 1) := by decide +kernel
theorem dX2_forgetBelow_20 : decode cX2_forgetBelow 20 = .ok (.if_icmp .ge 13, 3) := by decide +kernel
theorem dX2_forgetBelow_23 : decode cX2_forgetBelow 23 = .ok (.aload_n 0, 1) := by decide +kernel
theorem dX2_forgetBelow_24 : decode cX2_forgetBelow 24 = .ok (.invokevirtual 43, 3) := by decide +kernel
theorem dX2_forgetBelow_27 : decode cX2_forgetBelow 27 = .ok (.iinc 2 1, 3) := by decide +kernel
theorem dX2_forgetBelow_30 : decode cX2_forgetBelow 30 = .ok (.goto (-28), 3) := by decide +kernel
theorem dX2_forgetBelow_33 : decode cX2_forgetBelow 33 = .ok (.return_, 1) := by decide +kernel
def f_F_forget_2 (b : Int) : Nat → Int → xM → Option (xM)
  | 0, _, _ => none
  | n + 1, x2, m =>
     (if xw x2 < xw 7 then (if 0 < xw (m 0 4) then (if xw (m 0 3) < xw b then (Option.bind (f_F_forget1 m) fun q0 =>
      f_F_forget_2 b n (x2 + 1) q0)
      else some m)
      else some m)
      else some m)
set_option maxRecDepth 1000000 in
set_option maxHeartbeats 4000000 in
theorem t_F_forget_2 {Γ : xG} {d : Nat} (hd9 : 2 ≤ d) (C : xC Γ lay_F RX2 cX2_forgetBelow 3 d) (b : Int) {m9 : xM} (hR : xRv Γ lay_F cX2_forgetBelow m9) : ∀ (n : Nat) (x2 : Int) (m : xM), f_F_forget_2 b n x2 m = some m9 → xW Γ lay_F 3 2 [(0, .inr (.inr (some 0))), (1, .inl b), (2, .inl x2)] [] m := by
  intro n
  induction n with
  | zero => intro _ _ h; cases h
  | succ n ih =>
    intro x2 m h
    rw [f_F_forget_2] at h
    refine x_iload_n C dX2_forgetBelow_2 rfl ?_
    refine x_bipush C dX2_forgetBelow_3 (by decide) ?_
    refine x_icmp_ge C 33 dX2_forgetBelow_5 (by decide) h (fun h => ?_) (fun h => ?_)
    · exact x_returnV hR dX2_forgetBelow_33 h
    · refine x_aload_n C dX2_forgetBelow_8 rfl ?_
      refine x_getI C dX2_forgetBelow_9 fF_X2_31 rfl rfl ?_
      refine x_if_le C 33 dX2_forgetBelow_12 (by decide) h (fun h => ?_) (fun h => ?_)
      · exact x_returnV hR dX2_forgetBelow_33 h
      · refine x_aload_n C dX2_forgetBelow_15 rfl ?_
        refine x_getI C dX2_forgetBelow_16 fF_X2_27 rfl rfl ?_
        refine x_iload_n C dX2_forgetBelow_19 rfl ?_
        refine x_icmp_ge C 33 dX2_forgetBelow_20 (by decide) h (fun h => ?_) (fun h => ?_)
        · exact x_returnV hR dX2_forgetBelow_33 h
        · refine x_aload_n C dX2_forgetBelow_23 rfl ?_
          obtain ⟨q0, hq0, h⟩ := x_bind h
          refine x_callVI C dX2_forgetBelow_24 (xin_23 _ (List.mem_of_getElem? (i := 4) rfl)) xy_X2_forgetFirst (xi_X2_forgetFirst) (xs_X2_forgetFirst) (by omega) (by decide) (b := 0) rfl ⟨_, _, rfl⟩ (av := []) rfl (Nat.le_of_ble_eq_true rfl) (c_F_forget1 _ _ _ hq0) rfl ?_
          refine x_iinc C dX2_forgetBelow_27 (by decide) rfl ?_
          refine x_goto C 2 dX2_forgetBelow_30 (by decide) ?_
          refine x_loc [(0, .inr (.inr (some 0))), (1, .inl b), (2, .inl (x2 + 1))] ⟨rfl, rfl, rfl, trivial⟩ ?_
          exact ih _ _ h
def f_F_forget (b : Int) (m : xM) : Option (xM) :=
     f_F_forget_2 b fu 0 m
set_option maxRecDepth 1000000 in
set_option maxHeartbeats 4000000 in
theorem t_F_forget {Γ : xG} {d : Nat} (hd9 : 2 ≤ d) (C : xC Γ lay_F RX2 cX2_forgetBelow 3 d) (b : Int) {m9 : xM} (hR : xRv Γ lay_F cX2_forgetBelow m9) (m : xM) (h : f_F_forget b m = some m9) : xW Γ lay_F 3 0 [(0, .inr (.inr (some 0))), (1, .inl b)] [] m := by
  unfold f_F_forget at h
  refine x_iconst C dX2_forgetBelow_0 ?_
  refine x_istore_n C dX2_forgetBelow_1 (by decide) ?_
  refine x_loc [(0, .inr (.inr (some 0))), (1, .inl b), (2, .inl 0)] ⟨rfl, rfl, rfl, trivial⟩ ?_
  exact t_F_forget_2 hd9 C _ hR fu _ _ h
theorem c_F_forget (l : Launch) (b : Int) (m m9 : xM) (h : f_F_forget b m = some m9) : xMet l yX2_forgetBelow cX2_forgetBelow 3 none 2 lay_F [.inr (.inr (some 0)), .inl b] m none m9 :=
  xMet_v (by decide +kernel) (Nat.le_of_ble_eq_true rfl) (fun Γ C hR hl9 => t_F_forget (Nat.le_refl _) C b hR m h)
theorem dX2_loseAll_0 : decode cX2_loseAll 0 = .ok (.aload_n 0, 1) := by decide +kernel
theorem dX2_loseAll_1 : decode cX2_loseAll 1 = .ok (.dup, 1) := by decide +kernel
theorem dX2_loseAll_2 : decode cX2_loseAll 2 = .ok (.getfield 27, 3) := by decide +kernel
theorem dX2_loseAll_5 : decode cX2_loseAll 5 = .ok (.aload_n 0, 1) := by decide +kernel
theorem dX2_loseAll_6 : decode cX2_loseAll 6 = .ok (.getfield 31, 3) := by decide +kernel
theorem dX2_loseAll_9 : decode cX2_loseAll 9 = .ok (.iadd, 1) := by decide +kernel
theorem dX2_loseAll_10 : decode cX2_loseAll 10 = .ok (.putfield 27, 3) := by decide +kernel
theorem dX2_loseAll_13 : decode cX2_loseAll 13 = .ok (.aload_n 0, 1) := by decide +kernel
theorem dX2_loseAll_14 : decode cX2_loseAll 14 = .ok (.iconst 0, 1) := by decide +kernel
theorem dX2_loseAll_15 : decode cX2_loseAll 15 = .ok (.putfield 31, 3) := by decide +kernel
theorem dX2_loseAll_18 : decode cX2_loseAll 18 = .ok (.aload_n 0, 1) := by decide +kernel
theorem dX2_loseAll_19 : decode cX2_loseAll 19 = .ok (.iconst 0, 1) := by decide +kernel
theorem dX2_loseAll_20 : decode cX2_loseAll 20 = .ok (.putfield 34, 3) := by decide +kernel
theorem dX2_loseAll_23 : decode cX2_loseAll 23 = .ok (.return_, 1) := by decide +kernel
def f_F_lose (m : xM) : Option (xM) :=
     some (xu (xu (xu m 0 3 ((m 0 3) + (m 0 4))) 0 4 0) 0 5 0)
set_option maxRecDepth 1000000 in
set_option maxHeartbeats 4000000 in
theorem t_F_lose {Γ : xG} {d : Nat} (hd9 : 1 ≤ d) (C : xC Γ lay_F RX2 cX2_loseAll 1 d) {m9 : xM} (hR : xRv Γ lay_F cX2_loseAll m9) (m : xM) (h : f_F_lose m = some m9) : xW Γ lay_F 1 0 [(0, .inr (.inr (some 0)))] [] m := by
  unfold f_F_lose at h
  refine x_aload_n C dX2_loseAll_0 rfl ?_
  refine x_dup C dX2_loseAll_1 rfl ?_
  refine x_getI C dX2_loseAll_2 fF_X2_27 rfl rfl ?_
  refine x_aload_n C dX2_loseAll_5 rfl ?_
  refine x_getI C dX2_loseAll_6 fF_X2_31 rfl rfl ?_
  refine x_iadd C dX2_loseAll_9 ?_
  refine x_putI C dX2_loseAll_10 fF_X2_27 rfl rfl ?_
  refine x_aload_n C dX2_loseAll_13 rfl ?_
  refine x_iconst C dX2_loseAll_14 ?_
  refine x_putI C dX2_loseAll_15 fF_X2_31 rfl rfl ?_
  refine x_aload_n C dX2_loseAll_18 rfl ?_
  refine x_iconst C dX2_loseAll_19 ?_
  refine x_putI C dX2_loseAll_20 fF_X2_34 rfl rfl ?_
  exact x_returnV hR dX2_loseAll_23 h
theorem c_F_lose (l : Launch) (m m9 : xM) (h : f_F_lose m = some m9) : xMet l yX2_loseAll cX2_loseAll 1 none 1 lay_F [.inr (.inr (some 0))] m none m9 :=
  xMet_v (by decide +kernel) (Nat.le_of_ble_eq_true rfl) (fun Γ C hR hl9 => t_F_lose (Nat.le_refl _) C hR m h)
theorem xy_X2_slotOf : xY yX2_slotOf cX2_slotOf 2 (some .int) 1 := ⟨(xin_25 _ (List.mem_of_getElem? (i := 11) rfl)), (xin_4 _ (List.mem_of_getElem? (i := 21) rfl)), by decide, by decide, by decide +kernel⟩
theorem xi_X2_slotOf : Cond.instanceMethod yX2_slotOf ∈ wsL_law := (xin_25 _ (List.mem_of_getElem? (i := 9) rfl))
theorem xs_X2_slotOf : Cond.selects yX2_slotOf.cls yX2_slotOf yX2_slotOf ∈ wsL_law := (xin_25 _ (List.mem_of_getElem? (i := 10) rfl))
theorem dX2_bytesFrom_0 : decode cX2_bytesFrom 0 = .ok (.iconst 0, 1) := by decide +kernel
theorem dX2_bytesFrom_1 : decode cX2_bytesFrom 1 = .ok (.istore_n 2, 1) := by decide +kernel
theorem dX2_bytesFrom_2 : decode cX2_bytesFrom 2 = .ok (.iconst 0, 1) := by decide +kernel
theorem dX2_bytesFrom_3 : decode cX2_bytesFrom 3 = .ok (.istore_n 3, 1) := by decide +kernel
theorem dX2_bytesFrom_4 : decode cX2_bytesFrom 4 = .ok (.iload_n 3, 1) := by decide +kernel
theorem dX2_bytesFrom_5 : decode cX2_bytesFrom 5 = .ok (.aload_n 0, 1) := by decide +kernel
theorem dX2_bytesFrom_6 : decode cX2_bytesFrom 6 = .ok (.getfield 31, 3) := by decide +kernel
theorem dX2_bytesFrom_9 : decode cX2_bytesFrom 9 = .ok (.if_icmp .ge 32, 3) := by decide +kernel
theorem dX2_bytesFrom_12 : decode cX2_bytesFrom 12 = .ok (.aload_n 0, 1) := by decide +kernel
theorem dX2_bytesFrom_13 : decode cX2_bytesFrom 13 = .ok (.getfield 27, 3) := by decide +kernel
theorem dX2_bytesFrom_16 : decode cX2_bytesFrom 16 = .ok (.iload_n 3, 1) := by decide +kernel
theorem dX2_bytesFrom_17 : decode cX2_bytesFrom 17 = .ok (.iadd, 1) := by decide +kernel
theorem dX2_bytesFrom_18 : decode cX2_bytesFrom 18 = .ok (.iload_n 1, 1) := by decide +kernel
theorem dX2_bytesFrom_19 : decode cX2_bytesFrom 19 = .ok (.if_icmp .lt 16, 3) := by decide +kernel
theorem dX2_bytesFrom_22 : decode cX2_bytesFrom 22 = .ok (.iload_n 2, 1) := by decide +kernel
theorem dX2_bytesFrom_23 : decode cX2_bytesFrom 23 = .ok (.aload_n 0, 1) := by decide +kernel
theorem dX2_bytesFrom_24 : decode cX2_bytesFrom 24 = .ok (.getfield 15, 3) := by decide +kernel
theorem dX2_bytesFrom_27 : decode cX2_bytesFrom 27 = .ok (.aload_n 0, 1) := by decide +kernel
theorem dX2_bytesFrom_28 : decode cX2_bytesFrom 28 = .ok (.iload_n 3, 1) := by decide +kernel
theorem dX2_bytesFrom_29 : decode cX2_bytesFrom 29 = .ok (.invokevirtual 46, 3) := by decide +kernel
theorem dX2_bytesFrom_32 : decode cX2_bytesFrom 32 = .ok (.iaload, 1) := by decide +kernel
theorem dX2_bytesFrom_33 : decode cX2_bytesFrom 33 = .ok (.iadd, 1) := by decide +kernel
theorem dX2_bytesFrom_34 : decode cX2_bytesFrom 34 = .ok (.istore_n 2, 1) := by decide +kernel
theorem dX2_bytesFrom_35 : decode cX2_bytesFrom 35 = .ok (.iinc 3 1, 3) := by decide +kernel
theorem dX2_bytesFrom_38 : decode cX2_bytesFrom 38 = .ok (.goto (-34), 3) := by decide +kernel
theorem dX2_bytesFrom_41 : decode cX2_bytesFrom 41 = .ok (.iload_n 2, 1) := by decide +kernel
theorem dX2_bytesFrom_42 : decode cX2_bytesFrom 42 = .ok (.ireturn, 1) := by decide +kernel
def f_F_bytes_35 (b : Int) (m : xM) (k4 : Int → Int → Option (Int)) (x2 : Int) (x3 : Int) : Option (Int) :=
     k4 x2 (x3 + 1)
set_option maxRecDepth 1000000 in
set_option maxHeartbeats 4000000 in
theorem t_F_bytes_35 {Γ : xG} {d : Nat} (hd9 : 3 ≤ d) (C : xC Γ lay_F RX2 cX2_bytesFrom 4 d) (b : Int) {r : Int} {m : xM} (hR : xRi Γ lay_F cX2_bytesFrom r m) {k4 : Int → Int → Option (Int)} (hk4 : ∀ (x2 : Int) (x3 : Int), k4 x2 x3 = some r → xW Γ lay_F 4 4 [(0, .inr (.inr (some 0))), (1, .inl b), (2, .inl x2), (3, .inl x3)] [] m) (x2 : Int) (x3 : Int) (h : f_F_bytes_35 b m k4 x2 x3 = some r) : xW Γ lay_F 4 35 [(0, .inr (.inr (some 0))), (1, .inl b), (2, .inl x2), (3, .inl x3)] [] m := by
  unfold f_F_bytes_35 at h
  refine x_iinc C dX2_bytesFrom_35 (by decide) rfl ?_
  refine x_goto C 4 dX2_bytesFrom_38 (by decide) ?_
  refine x_loc [(0, .inr (.inr (some 0))), (1, .inl b), (2, .inl x2), (3, .inl (x3 + 1))] ⟨rfl, rfl, rfl, rfl, trivial⟩ ?_
  exact hk4 _ _ h
def f_F_bytes_4 (b : Int) (m : xM) : Nat → Int → Int → Option (Int)
  | 0, _, _ => none
  | n + 1, x2, x3 =>
     (if xw x3 < xw (m 0 4) then (if xw ((m 0 3) + x3) < xw b then f_F_bytes_35 b m (f_F_bytes_4 b m n) x2 x3
      else (Option.bind (f_F_slot x3 m) fun q0 =>
      (if xib q0 7 then f_F_bytes_35 b m (f_F_bytes_4 b m n) (x2 + (m 2 (xix q0))) x3
      else none)))
      else some x2)
set_option maxRecDepth 1000000 in
set_option maxHeartbeats 4000000 in
theorem t_F_bytes_4 {Γ : xG} {d : Nat} (hd9 : 3 ≤ d) (C : xC Γ lay_F RX2 cX2_bytesFrom 4 d) (b : Int) {r : Int} {m : xM} (hR : xRi Γ lay_F cX2_bytesFrom r m) : ∀ (n : Nat) (x2 : Int) (x3 : Int), f_F_bytes_4 b m n x2 x3 = some r → xW Γ lay_F 4 4 [(0, .inr (.inr (some 0))), (1, .inl b), (2, .inl x2), (3, .inl x3)] [] m := by
  intro n
  induction n with
  | zero => intro _ _ h; cases h
  | succ n ih =>
    intro x2 x3 h
    rw [f_F_bytes_4] at h
    refine x_iload_n C dX2_bytesFrom_4 rfl ?_
    refine x_aload_n C dX2_bytesFrom_5 rfl ?_
    refine x_getI C dX2_bytesFrom_6 fF_X2_31 rfl rfl ?_
    refine x_icmp_ge C 41 dX2_bytesFrom_9 (by decide) h (fun h => ?_) (fun h => ?_)
    · refine x_iload_n C dX2_bytesFrom_41 rfl ?_
      exact x_ireturnP hR dX2_bytesFrom_42 h
    · refine x_aload_n C dX2_bytesFrom_12 rfl ?_
      refine x_getI C dX2_bytesFrom_13 fF_X2_27 rfl rfl ?_
      refine x_iload_n C dX2_bytesFrom_16 rfl ?_
      refine x_iadd C dX2_bytesFrom_17 ?_
      refine x_iload_n C dX2_bytesFrom_18 rfl ?_
      refine x_icmp_lt C 35 dX2_bytesFrom_19 (by decide) h (fun h => ?_) (fun h => ?_)
      · refine x_loc [(0, .inr (.inr (some 0))), (1, .inl b), (2, .inl x2), (3, .inl x3)] ⟨rfl, rfl, rfl, rfl, trivial⟩ ?_
        exact t_F_bytes_35 hd9 C _ hR ih _ _ h
      · refine x_iload_n C dX2_bytesFrom_22 rfl ?_
        refine x_aload_n C dX2_bytesFrom_23 rfl ?_
        refine x_getR C dX2_bytesFrom_24 fF_X2_15 rfl rfl ?_
        refine x_aload_n C dX2_bytesFrom_27 rfl ?_
        refine x_iload_n C dX2_bytesFrom_28 rfl ?_
        obtain ⟨q0, hq0, h⟩ := x_bind h
        refine x_callVI C dX2_bytesFrom_29 (xin_40 _ (List.mem_of_getElem? (i := 17) rfl)) xy_X2_slotOf (xi_X2_slotOf) (xs_X2_slotOf) (by omega) (by decide) (b := 0) rfl ⟨_, _, rfl⟩ (av := [.inl x3]) rfl (Nat.le_of_ble_eq_true rfl) (c_F_slot _ _ _ _ hq0) rfl ?_
        refine x_iaload C dX2_bytesFrom_32 rfl h (fun h => ?_)
        refine x_iadd C dX2_bytesFrom_33 ?_
        refine x_istore_n C dX2_bytesFrom_34 (by decide) ?_
        refine x_loc [(0, .inr (.inr (some 0))), (1, .inl b), (2, .inl (x2 + (m 2 (xix q0)))), (3, .inl x3)] ⟨rfl, rfl, rfl, rfl, trivial⟩ ?_
        exact t_F_bytes_35 hd9 C _ hR ih _ _ h
def f_F_bytes (b : Int) (m : xM) : Option (Int) :=
     f_F_bytes_4 b m fu 0 0
set_option maxRecDepth 1000000 in
set_option maxHeartbeats 4000000 in
theorem t_F_bytes {Γ : xG} {d : Nat} (hd9 : 3 ≤ d) (C : xC Γ lay_F RX2 cX2_bytesFrom 4 d) (b : Int) {r : Int} {m : xM} (hR : xRi Γ lay_F cX2_bytesFrom r m) (h : f_F_bytes b m = some r) : xW Γ lay_F 4 0 [(0, .inr (.inr (some 0))), (1, .inl b)] [] m := by
  unfold f_F_bytes at h
  refine x_iconst C dX2_bytesFrom_0 ?_
  refine x_istore_n C dX2_bytesFrom_1 (by decide) ?_
  refine x_iconst C dX2_bytesFrom_2 ?_
  refine x_istore_n C dX2_bytesFrom_3 (by decide) ?_
  refine x_loc [(0, .inr (.inr (some 0))), (1, .inl b), (2, .inl 0), (3, .inl 0)] ⟨rfl, rfl, rfl, rfl, trivial⟩ ?_
  exact t_F_bytes_4 hd9 C _ hR fu _ _ h
theorem c_F_bytes (l : Launch) (b : Int) (m : xM) (r : Int) (h : f_F_bytes b m = some r) : xMet l yX2_bytesFrom cX2_bytesFrom 4 (some .int) 3 lay_F [.inr (.inr (some 0)), .inl b] m (some (.inl r)) m :=
  xMet_i (by decide +kernel) (Nat.le_of_ble_eq_true rfl) (fun Γ C hR hl9 => t_F_bytes (Nat.le_refl _) C b hR h)
theorem fF_X4_11 : xF RX4 11 5 0 (.array .int) true := ⟨RX4, TX4, 3, tyX4, rfl, by decide, (xin_5 _ (List.mem_of_getElem? (i := 22) rfl)), rfl, inlX4, tyX4_ok, nmX4, rfl, rfl⟩
theorem fF_X4_15 : xF RX4 15 5 2 .int false := ⟨RX4, TX4, 3, tyX4, rfl, by decide, (xin_19 _ (List.mem_of_getElem? (i := 17) rfl)), rfl, inlX4, tyX4_ok, nmX4, rfl, rfl⟩
theorem fF_X4_25 : xF RX4 25 5 1 .int false := ⟨RX4, TX4, 3, tyX4, rfl, by decide, (xin_19 _ (List.mem_of_getElem? (i := 19) rfl)), rfl, inlX4, tyX4_ok, nmX4, rfl, rfl⟩
theorem dX4_copyFrom_0 : decode cX4_copyFrom 0 = .ok (.aload_n 1, 1) := by decide +kernel
theorem dX4_copyFrom_1 : decode cX4_copyFrom 1 = .ok (.getfield 11, 3) := by decide +kernel
theorem dX4_copyFrom_4 : decode cX4_copyFrom 4 = .ok (.iconst 0, 1) := by decide +kernel
theorem dX4_copyFrom_5 : decode cX4_copyFrom 5 = .ok (.aload_n 0, 1) := by decide +kernel
theorem dX4_copyFrom_6 : decode cX4_copyFrom 6 = .ok (.getfield 11, 3) := by decide +kernel
theorem dX4_copyFrom_9 : decode cX4_copyFrom 9 = .ok (.iconst 0, 1) := by decide +kernel
theorem dX4_copyFrom_10 : decode cX4_copyFrom 10 = .ok (.aload_n 1, 1) := by decide +kernel
theorem dX4_copyFrom_11 : decode cX4_copyFrom 11 = .ok (.getfield 15, 3) := by decide +kernel
theorem dX4_copyFrom_14 : decode cX4_copyFrom 14 = .ok (.iconst 4, 1) := by decide +kernel
theorem dX4_copyFrom_15 : decode cX4_copyFrom 15 = .ok (.imul, 1) := by decide +kernel
theorem dX4_copyFrom_16 : decode cX4_copyFrom 16 = .ok (.invokestatic 19, 3) := by decide +kernel
theorem dX4_copyFrom_19 : decode cX4_copyFrom 19 = .ok (.aload_n 0, 1) := by decide +kernel
theorem dX4_copyFrom_20 : decode cX4_copyFrom 20 = .ok (.aload_n 1, 1) := by decide +kernel
theorem dX4_copyFrom_21 : decode cX4_copyFrom 21 = .ok (.getfield 25, 3) := by decide +kernel
theorem dX4_copyFrom_24 : decode cX4_copyFrom 24 = .ok (.putfield 25, 3) := by decide +kernel
theorem dX4_copyFrom_27 : decode cX4_copyFrom 27 = .ok (.aload_n 0, 1) := by decide +kernel
theorem dX4_copyFrom_28 : decode cX4_copyFrom 28 = .ok (.aload_n 1, 1) := by decide +kernel
theorem dX4_copyFrom_29 : decode cX4_copyFrom 29 = .ok (.getfield 15, 3) := by decide +kernel
theorem dX4_copyFrom_32 : decode cX4_copyFrom 32 = .ok (.putfield 15, 3) := by decide +kernel
theorem dX4_copyFrom_35 : decode cX4_copyFrom 35 = .ok (.return_, 1) := by decide +kernel
def f_G_cp_27 (m : xM) : Option (xM) :=
     some (xu m 0 2 (m 2 2))
set_option maxRecDepth 1000000 in
set_option maxHeartbeats 4000000 in
theorem t_G_cp_27 {Γ : xG} {d : Nat} (hd9 : 1 ≤ d) (C : xC Γ lay_G2 RX4 cX4_copyFrom 2 d) {m9 : xM} (hR : xRv Γ lay_G2 cX4_copyFrom m9) (m : xM) (h : f_G_cp_27 m = some m9) : xW Γ lay_G2 2 27 [(0, .inr (.inr (some 0))), (1, .inr (.inr (some 2)))] [] m := by
  unfold f_G_cp_27 at h
  refine x_aload_n C dX4_copyFrom_27 rfl ?_
  refine x_aload_n C dX4_copyFrom_28 rfl ?_
  refine x_getI C dX4_copyFrom_29 fF_X4_15 rfl rfl ?_
  refine x_putI C dX4_copyFrom_32 fF_X4_15 rfl rfl ?_
  exact x_returnV hR dX4_copyFrom_35 h
def f_G_cp (m : xM) : Option (xM) :=
     (if xcb 0 0 ((m 2 2) * 4) 240 240 then f_G_cp_27 (xu (xcp m 3 1 (0) (0) (xix ((m 2 2) * 4))) 0 1 ((xcp m 3 1 (0) (0) (xix ((m 2 2) * 4))) 2 1))
      else none)
set_option maxRecDepth 1000000 in
set_option maxHeartbeats 4000000 in
theorem t_G_cp {Γ : xG} {d : Nat} (hd9 : 1 ≤ d) (C : xC Γ lay_G2 RX4 cX4_copyFrom 2 d) {m9 : xM} (hR : xRv Γ lay_G2 cX4_copyFrom m9) (m : xM) (h : f_G_cp m = some m9) : xW Γ lay_G2 2 0 [(0, .inr (.inr (some 0))), (1, .inr (.inr (some 2)))] [] m := by
  unfold f_G_cp at h
  refine x_aload_n C dX4_copyFrom_0 rfl ?_
  refine x_getR C dX4_copyFrom_1 fF_X4_11 rfl rfl ?_
  refine x_iconst C dX4_copyFrom_4 ?_
  refine x_aload_n C dX4_copyFrom_5 rfl ?_
  refine x_getR C dX4_copyFrom_6 fF_X4_11 rfl rfl ?_
  refine x_iconst C dX4_copyFrom_9 ?_
  refine x_aload_n C dX4_copyFrom_10 rfl ?_
  refine x_getI C dX4_copyFrom_11 fF_X4_15 rfl rfl ?_
  refine x_iconst C dX4_copyFrom_14 ?_
  refine x_imul C dX4_copyFrom_15 ?_
  refine x_copy C dX4_copyFrom_16 (xin_19 _ (List.mem_of_getElem? (i := 18) rfl)) gm_copy_n gm_copy_s gm_copy_i (by omega) (Nat.le_of_ble_eq_true rfl) rfl rfl h (fun h => ?_)
  refine x_aload_n C dX4_copyFrom_19 rfl ?_
  refine x_aload_n C dX4_copyFrom_20 rfl ?_
  refine x_getI C dX4_copyFrom_21 fF_X4_25 rfl rfl ?_
  refine x_putI C dX4_copyFrom_24 fF_X4_25 rfl rfl ?_
  refine x_loc [(0, .inr (.inr (some 0))), (1, .inr (.inr (some 2)))] ⟨rfl, rfl, trivial⟩ ?_
  exact t_G_cp_27 hd9 C hR _ h
theorem c_G_cp (l : Launch) (m m9 : xM) (h : f_G_cp m = some m9) : xMet l yX4_copyFrom cX4_copyFrom 2 none 1 lay_G2 [.inr (.inr (some 0)), .inr (.inr (some 2))] m none m9 :=
  xMet_v (by decide +kernel) (Nat.le_of_ble_eq_true rfl) (fun Γ C hR hl9 => t_G_cp (Nat.le_refl _) C hR m h)
theorem dX4_add_0 : decode cX4_add 0 = .ok (.aload_n 0, 1) := by decide +kernel
theorem dX4_add_1 : decode cX4_add 1 = .ok (.getfield 15, 3) := by decide +kernel
theorem dX4_add_4 : decode cX4_add 4 = .ok (.bipush 60, 2) := by decide +kernel
theorem dX4_add_6 : decode cX4_add 6 = .ok (.if_icmp .ge 16, 3) := by decide +kernel
theorem dX4_add_9 : decode cX4_add 9 = .ok (.aload_n 0, 1) := by decide +kernel
theorem dX4_add_10 : decode cX4_add 10 = .ok (.dup, 1) := by decide +kernel
theorem dX4_add_11 : decode cX4_add 11 = .ok (.getfield 15, 3) := by decide +kernel
theorem dX4_add_14 : decode cX4_add 14 = .ok (.iconst 1, 1) := by decide +kernel
theorem dX4_add_15 : decode cX4_add 15 = .ok (.iadd, 1) := by decide +kernel
theorem dX4_add_16 : decode cX4_add 16 = .ok (.putfield 15, 3) := by decide +kernel
theorem dX4_add_19 : decode cX4_add 19 = .ok (.goto 28, 3) := by decide +kernel
theorem dX4_add_22 : decode cX4_add 22 = .ok (.aload_n 0, 1) := by decide +kernel
theorem dX4_add_23 : decode cX4_add 23 = .ok (.aload_n 0, 1) := by decide +kernel
theorem dX4_add_24 : decode cX4_add 24 = .ok (.getfield 25, 3) := by decide +kernel
theorem dX4_add_27 : decode cX4_add 27 = .ok (.iconst 1, 1) := by decide +kernel
theorem dX4_add_28 : decode cX4_add 28 = .ok (.iadd, 1) := by decide +kernel
theorem dX4_add_29 : decode cX4_add 29 = .ok (.bipush 60, 2) := by decide +kernel
theorem dX4_add_31 : decode cX4_add 31 = .ok (.if_icmp .ge 12, 3) := by decide +kernel
theorem dX4_add_34 : decode cX4_add 34 = .ok (.aload_n 0, 1) := by decide +kernel
theorem dX4_add_35 : decode cX4_add 35 = .ok (.getfield 25, 3) := by decide +kernel
theorem dX4_add_38 : decode cX4_add 38 = .ok (.iconst 1, 1) := by decide +kernel
theorem dX4_add_39 : decode cX4_add 39 = .ok (.iadd, 1) := by decide +kernel
theorem dX4_add_40 : decode cX4_add 40 = .ok (.goto 4, 3) := by decide +kernel
theorem dX4_add_43 : decode cX4_add 43 = .ok (.iconst 0, 1) := by decide +kernel
theorem dX4_add_44 : decode cX4_add 44 = .ok (.putfield 25, 3) := by decide +kernel
theorem dX4_add_47 : decode cX4_add 47 = .ok (.aload_n 0, 1) := by decide +kernel
theorem dX4_add_48 : decode cX4_add 48 = .ok (.getfield 25, 3) := by decide +kernel
theorem dX4_add_51 : decode cX4_add 51 = .ok (.aload_n 0, 1) := by decide +kernel
theorem dX4_add_52 : decode cX4_add 52 = .ok (.getfield 15, 3) := by decide +kernel
theorem dX4_add_55 : decode cX4_add 55 = .ok (.iadd, 1) := by decide +kernel
theorem dX4_add_56 : decode cX4_add 56 = .ok (.iconst 1, 1) := by decide +kernel
theorem dX4_add_57 : decode cX4_add 57 = .ok (.isub, 1) := by decide +kernel
theorem dX4_add_58 : decode cX4_add 58 = .ok (.istore 5, 2) := by decide +kernel
theorem dX4_add_60 : decode cX4_add 60 = .ok (.iload 5, 2) := by decide +kernel
theorem dX4_add_62 : decode cX4_add 62 = .ok (.bipush 60, 2) := by decide +kernel
theorem dX4_add_64 : decode cX4_add 64 = .ok (.if_icmp .ge 8, 3) := by decide +kernel
theorem dX4_add_67 : decode cX4_add 67 = .ok (.iload 5, 2) := by decide +kernel
theorem dX4_add_69 : decode cX4_add 69 = .ok (.goto 8, 3) := by decide +kernel
theorem dX4_add_72 : decode cX4_add 72 = .ok (.iload 5, 2) := by decide +kernel
theorem dX4_add_74 : decode cX4_add 74 = .ok (.bipush 60, 2) := by decide +kernel
theorem dX4_add_76 : decode cX4_add 76 = .ok (.isub, 1) := by decide +kernel
theorem dX4_add_77 : decode cX4_add 77 = .ok (.iconst 4, 1) := by decide +kernel
theorem dX4_add_78 : decode cX4_add 78 = .ok (.imul, 1) := by decide +kernel
theorem dX4_add_79 : decode cX4_add 79 = .ok (.istore 6, 2) := by decide +kernel
theorem dX4_add_81 : decode cX4_add 81 = .ok (.aload_n 0, 1) := by decide +kernel
theorem dX4_add_82 : decode cX4_add 82 = .ok (.getfield 11, 3) := by decide +kernel
theorem dX4_add_85 : decode cX4_add 85 = .ok (.iload 6, 2) := by decide +kernel
theorem dX4_add_87 : decode cX4_add 87 = .ok (.iconst 0, 1) := by decide +kernel
theorem dX4_add_88 : decode cX4_add 88 = .ok (.iadd, 1) := by decide +kernel
theorem dX4_add_89 : decode cX4_add 89 = .ok (.iload_n 1, 1) := by decide +kernel
theorem dX4_add_90 : decode cX4_add 90 = .ok (.iastore, 1) := by decide +kernel
theorem dX4_add_91 : decode cX4_add 91 = .ok (.aload_n 0, 1) := by decide +kernel
theorem dX4_add_92 : decode cX4_add 92 = .ok (.getfield 11, 3) := by decide +kernel
theorem dX4_add_95 : decode cX4_add 95 = .ok (.iload 6, 2) := by decide +kernel
theorem dX4_add_97 : decode cX4_add 97 = .ok (.iconst 1, 1) := by decide +kernel
theorem dX4_add_98 : decode cX4_add 98 = .ok (.iadd, 1) := by decide +kernel
theorem dX4_add_99 : decode cX4_add 99 = .ok (.iload_n 2, 1) := by decide +kernel
theorem dX4_add_100 : decode cX4_add 100 = .ok (.iastore, 1) := by decide +kernel
theorem dX4_add_101 : decode cX4_add 101 = .ok (.aload_n 0, 1) := by decide +kernel
theorem dX4_add_102 : decode cX4_add 102 = .ok (.getfield 11, 3) := by decide +kernel
theorem dX4_add_105 : decode cX4_add 105 = .ok (.iload 6, 2) := by decide +kernel
theorem dX4_add_107 : decode cX4_add 107 = .ok (.iconst 2, 1) := by decide +kernel
theorem dX4_add_108 : decode cX4_add 108 = .ok (.iadd, 1) := by decide +kernel
theorem dX4_add_109 : decode cX4_add 109 = .ok (.iload_n 3, 1) := by decide +kernel
theorem dX4_add_110 : decode cX4_add 110 = .ok (.iastore, 1) := by decide +kernel
theorem dX4_add_111 : decode cX4_add 111 = .ok (.aload_n 0, 1) := by decide +kernel
theorem dX4_add_112 : decode cX4_add 112 = .ok (.getfield 11, 3) := by decide +kernel
theorem dX4_add_115 : decode cX4_add 115 = .ok (.iload 6, 2) := by decide +kernel
theorem dX4_add_117 : decode cX4_add 117 = .ok (.iconst 3, 1) := by decide +kernel
theorem dX4_add_118 : decode cX4_add 118 = .ok (.iadd, 1) := by decide +kernel
theorem dX4_add_119 : decode cX4_add 119 = .ok (.iload 4, 2) := by decide +kernel
theorem dX4_add_121 : decode cX4_add 121 = .ok (.iastore, 1) := by decide +kernel
theorem dX4_add_122 : decode cX4_add 122 = .ok (.return_, 1) := by decide +kernel
def f_G_add_101 (t : Int) (k : Int) (e : Int) (z : Int) (x6 : Int) (m : xM) : Option (xM) :=
     (if xib (x6 + 2) 240 then (if xib (x6 + 3) 240 then some (xu (xu m 1 (xix (x6 + 2)) e) 1 (xix (x6 + 3)) z)
      else none)
      else none)
set_option maxRecDepth 1000000 in
set_option maxHeartbeats 4000000 in
theorem t_G_add_101 {Γ : xG} {d : Nat} (hd9 : 1 ≤ d) (C : xC Γ lay_G RX4 cX4_add 7 d) (t : Int) (k : Int) (e : Int) (z : Int) {m9 : xM} (hR : xRv Γ lay_G cX4_add m9) (x6 : Int) (m : xM) (h : f_G_add_101 t k e z x6 m = some m9) : xW Γ lay_G 7 101 [(0, .inr (.inr (some 0))), (3, .inl e), (4, .inl z), (6, .inl x6)] [] m := by
  unfold f_G_add_101 at h
  refine x_aload_n C dX4_add_101 rfl ?_
  refine x_getR C dX4_add_102 fF_X4_11 rfl rfl ?_
  refine x_iload C dX4_add_105 rfl ?_
  refine x_iconst C dX4_add_107 ?_
  refine x_iadd C dX4_add_108 ?_
  refine x_iload_n C dX4_add_109 rfl ?_
  refine x_iastore C dX4_add_110 rfl h (fun h => ?_)
  refine x_aload_n C dX4_add_111 rfl ?_
  refine x_getR C dX4_add_112 fF_X4_11 rfl rfl ?_
  refine x_iload C dX4_add_115 rfl ?_
  refine x_iconst C dX4_add_117 ?_
  refine x_iadd C dX4_add_118 ?_
  refine x_iload C dX4_add_119 rfl ?_
  refine x_iastore C dX4_add_121 rfl h (fun h => ?_)
  exact x_returnV hR dX4_add_122 h
def f_G_add_77 (t : Int) (k : Int) (e : Int) (z : Int) (s0 : Int) (m : xM) : Option (xM) :=
     (if xib ((s0 * 4) + 0) 240 then (if xib ((s0 * 4) + 1) 240 then f_G_add_101 t k e z (s0 * 4) (xu (xu m 1 (xix ((s0 * 4) + 0)) t) 1 (xix ((s0 * 4) + 1)) k)
      else none)
      else none)
set_option maxRecDepth 1000000 in
set_option maxHeartbeats 4000000 in
theorem t_G_add_77 {Γ : xG} {d : Nat} (hd9 : 1 ≤ d) (C : xC Γ lay_G RX4 cX4_add 7 d) (t : Int) (k : Int) (e : Int) (z : Int) {m9 : xM} (hR : xRv Γ lay_G cX4_add m9) (s0 : Int) (m : xM) (h : f_G_add_77 t k e z s0 m = some m9) : xW Γ lay_G 7 77 [(0, .inr (.inr (some 0))), (1, .inl t), (2, .inl k), (3, .inl e), (4, .inl z)] [.inl s0] m := by
  unfold f_G_add_77 at h
  refine x_iconst C dX4_add_77 ?_
  refine x_imul C dX4_add_78 ?_
  refine x_istore C dX4_add_79 (by decide) ?_
  refine x_aload_n C dX4_add_81 rfl ?_
  refine x_getR C dX4_add_82 fF_X4_11 rfl rfl ?_
  refine x_iload C dX4_add_85 rfl ?_
  refine x_iconst C dX4_add_87 ?_
  refine x_iadd C dX4_add_88 ?_
  refine x_iload_n C dX4_add_89 rfl ?_
  refine x_iastore C dX4_add_90 rfl h (fun h => ?_)
  refine x_aload_n C dX4_add_91 rfl ?_
  refine x_getR C dX4_add_92 fF_X4_11 rfl rfl ?_
  refine x_iload C dX4_add_95 rfl ?_
  refine x_iconst C dX4_add_97 ?_
  refine x_iadd C dX4_add_98 ?_
  refine x_iload_n C dX4_add_99 rfl ?_
  refine x_iastore C dX4_add_100 rfl h (fun h => ?_)
  refine x_loc [(0, .inr (.inr (some 0))), (3, .inl e), (4, .inl z), (6, .inl (s0 * 4))] ⟨rfl, rfl, rfl, rfl, trivial⟩ ?_
  exact t_G_add_101 hd9 C _ _ _ _ hR _ _ h
def f_G_add_47 (t : Int) (k : Int) (e : Int) (z : Int) (m : xM) : Option (xM) :=
     (if xw (((m 0 1) + (m 0 2)) - 1) < xw 60 then f_G_add_77 t k e z (((m 0 1) + (m 0 2)) - 1) m
      else f_G_add_77 t k e z ((((m 0 1) + (m 0 2)) - 1) - 60) m)
set_option maxRecDepth 1000000 in
set_option maxHeartbeats 4000000 in
theorem t_G_add_47 {Γ : xG} {d : Nat} (hd9 : 1 ≤ d) (C : xC Γ lay_G RX4 cX4_add 7 d) (t : Int) (k : Int) (e : Int) (z : Int) {m9 : xM} (hR : xRv Γ lay_G cX4_add m9) (m : xM) (h : f_G_add_47 t k e z m = some m9) : xW Γ lay_G 7 47 [(0, .inr (.inr (some 0))), (1, .inl t), (2, .inl k), (3, .inl e), (4, .inl z)] [] m := by
  unfold f_G_add_47 at h
  refine x_aload_n C dX4_add_47 rfl ?_
  refine x_getI C dX4_add_48 fF_X4_25 rfl rfl ?_
  refine x_aload_n C dX4_add_51 rfl ?_
  refine x_getI C dX4_add_52 fF_X4_15 rfl rfl ?_
  refine x_iadd C dX4_add_55 ?_
  refine x_iconst C dX4_add_56 ?_
  refine x_isub C dX4_add_57 ?_
  refine x_istore C dX4_add_58 (by decide) ?_
  refine x_iload C dX4_add_60 rfl ?_
  refine x_bipush C dX4_add_62 (by decide) ?_
  refine x_icmp_ge C 72 dX4_add_64 (by decide) h (fun h => ?_) (fun h => ?_)
  · refine x_iload C dX4_add_72 rfl ?_
    refine x_bipush C dX4_add_74 (by decide) ?_
    refine x_isub C dX4_add_76 ?_
    refine x_loc [(0, .inr (.inr (some 0))), (1, .inl t), (2, .inl k), (3, .inl e), (4, .inl z)] ⟨rfl, rfl, rfl, rfl, rfl, trivial⟩ ?_
    exact t_G_add_77 hd9 C _ _ _ _ hR _ _ h
  · refine x_iload C dX4_add_67 rfl ?_
    refine x_goto C 77 dX4_add_69 (by decide) ?_
    refine x_loc [(0, .inr (.inr (some 0))), (1, .inl t), (2, .inl k), (3, .inl e), (4, .inl z)] ⟨rfl, rfl, rfl, rfl, rfl, trivial⟩ ?_
    exact t_G_add_77 hd9 C _ _ _ _ hR _ _ h
def f_G_add_44 (t : Int) (k : Int) (e : Int) (z : Int) (s0 : Int) (m : xM) : Option (xM) :=
     f_G_add_47 t k e z (xu m 0 1 s0)
set_option maxRecDepth 1000000 in
set_option maxHeartbeats 4000000 in
theorem t_G_add_44 {Γ : xG} {d : Nat} (hd9 : 1 ≤ d) (C : xC Γ lay_G RX4 cX4_add 7 d) (t : Int) (k : Int) (e : Int) (z : Int) {m9 : xM} (hR : xRv Γ lay_G cX4_add m9) (s0 : Int) (m : xM) (h : f_G_add_44 t k e z s0 m = some m9) : xW Γ lay_G 7 44 [(0, .inr (.inr (some 0))), (1, .inl t), (2, .inl k), (3, .inl e), (4, .inl z)] [.inl s0, .inr (.inr (some 0))] m := by
  unfold f_G_add_44 at h
  refine x_putI C dX4_add_44 fF_X4_25 rfl rfl ?_
  refine x_loc [(0, .inr (.inr (some 0))), (1, .inl t), (2, .inl k), (3, .inl e), (4, .inl z)] ⟨rfl, rfl, rfl, rfl, rfl, trivial⟩ ?_
  exact t_G_add_47 hd9 C _ _ _ _ hR _ h
def f_G_add (t : Int) (k : Int) (e : Int) (z : Int) (m : xM) : Option (xM) :=
     (if xw (m 0 2) < xw 60 then f_G_add_47 t k e z (xu m 0 2 ((m 0 2) + 1))
      else (if xw ((m 0 1) + 1) < xw 60 then f_G_add_44 t k e z ((m 0 1) + 1) m
      else f_G_add_44 t k e z 0 m))
set_option maxRecDepth 1000000 in
set_option maxHeartbeats 4000000 in
theorem t_G_add {Γ : xG} {d : Nat} (hd9 : 1 ≤ d) (C : xC Γ lay_G RX4 cX4_add 7 d) (t : Int) (k : Int) (e : Int) (z : Int) {m9 : xM} (hR : xRv Γ lay_G cX4_add m9) (m : xM) (h : f_G_add t k e z m = some m9) : xW Γ lay_G 7 0 [(0, .inr (.inr (some 0))), (1, .inl t), (2, .inl k), (3, .inl e), (4, .inl z)] [] m := by
  unfold f_G_add at h
  refine x_aload_n C dX4_add_0 rfl ?_
  refine x_getI C dX4_add_1 fF_X4_15 rfl rfl ?_
  refine x_bipush C dX4_add_4 (by decide) ?_
  refine x_icmp_ge C 22 dX4_add_6 (by decide) h (fun h => ?_) (fun h => ?_)
  · refine x_aload_n C dX4_add_22 rfl ?_
    refine x_aload_n C dX4_add_23 rfl ?_
    refine x_getI C dX4_add_24 fF_X4_25 rfl rfl ?_
    refine x_iconst C dX4_add_27 ?_
    refine x_iadd C dX4_add_28 ?_
    refine x_bipush C dX4_add_29 (by decide) ?_
    refine x_icmp_ge C 43 dX4_add_31 (by decide) h (fun h => ?_) (fun h => ?_)
    · refine x_iconst C dX4_add_43 ?_
      refine x_loc [(0, .inr (.inr (some 0))), (1, .inl t), (2, .inl k), (3, .inl e), (4, .inl z)] ⟨rfl, rfl, rfl, rfl, rfl, trivial⟩ ?_
      exact t_G_add_44 hd9 C _ _ _ _ hR _ _ h
    · refine x_aload_n C dX4_add_34 rfl ?_
      refine x_getI C dX4_add_35 fF_X4_25 rfl rfl ?_
      refine x_iconst C dX4_add_38 ?_
      refine x_iadd C dX4_add_39 ?_
      refine x_goto C 44 dX4_add_40 (by decide) ?_
      refine x_loc [(0, .inr (.inr (some 0))), (1, .inl t), (2, .inl k), (3, .inl e), (4, .inl z)] ⟨rfl, rfl, rfl, rfl, rfl, trivial⟩ ?_
      exact t_G_add_44 hd9 C _ _ _ _ hR _ _ h
  · refine x_aload_n C dX4_add_9 rfl ?_
    refine x_dup C dX4_add_10 rfl ?_
    refine x_getI C dX4_add_11 fF_X4_15 rfl rfl ?_
    refine x_iconst C dX4_add_14 ?_
    refine x_iadd C dX4_add_15 ?_
    refine x_putI C dX4_add_16 fF_X4_15 rfl rfl ?_
    refine x_goto C 47 dX4_add_19 (by decide) ?_
    refine x_loc [(0, .inr (.inr (some 0))), (1, .inl t), (2, .inl k), (3, .inl e), (4, .inl z)] ⟨rfl, rfl, rfl, rfl, rfl, trivial⟩ ?_
    exact t_G_add_47 hd9 C _ _ _ _ hR _ h
theorem c_G_add (l : Launch) (t : Int) (k : Int) (e : Int) (z : Int) (m m9 : xM) (h : f_G_add t k e z m = some m9) : xMet l yX4_add cX4_add 7 none 1 lay_G [.inr (.inr (some 0)), .inl t, .inl k, .inl e, .inl z] m none m9 :=
  xMet_v (by decide +kernel) (Nat.le_of_ble_eq_true rfl) (fun Γ C hR hl9 => t_G_add (Nat.le_refl _) C t k e z hR m h)
theorem xv_2 : xview lay_G lay_0 [] := xview_of (by decide +kernel)
theorem dX4_propertyOf_0 : decode cX4_propertyOf 0 = .ok (.aload_n 0, 1) := by decide +kernel
theorem dX4_propertyOf_1 : decode cX4_propertyOf 1 = .ok (.getfield 25, 3) := by decide +kernel
theorem dX4_propertyOf_4 : decode cX4_propertyOf 4 = .ok (.iload_n 1, 1) := by decide +kernel
theorem dX4_propertyOf_5 : decode cX4_propertyOf 5 = .ok (.iadd, 1) := by decide +kernel
theorem dX4_propertyOf_6 : decode cX4_propertyOf 6 = .ok (.bipush 60, 2) := by decide +kernel
theorem dX4_propertyOf_8 : decode cX4_propertyOf 8 = .ok (.invokestatic 28, 3) := by decide +kernel
theorem dX4_propertyOf_11 : decode cX4_propertyOf 11 = .ok (.iconst 4, 1) := by decide +kernel
theorem dX4_propertyOf_12 : decode cX4_propertyOf 12 = .ok (.imul, 1) := by decide +kernel
theorem dX4_propertyOf_13 : decode cX4_propertyOf 13 = .ok (.istore_n 3, 1) := by decide +kernel
theorem dX4_propertyOf_14 : decode cX4_propertyOf 14 = .ok (.iload_n 2, 1) := by decide +kernel
theorem dX4_propertyOf_15 : decode cX4_propertyOf 15 = .ok (.ifCond .lt 19, 3) := by decide +kernel
theorem dX4_propertyOf_18 : decode cX4_propertyOf 18 = .ok (.iload_n 2, 1) := by decide +kernel
theorem dX4_propertyOf_19 : decode cX4_propertyOf 19 = .ok (.iconst 4, 1) := by decide +kernel
theorem dX4_propertyOf_20 : decode cX4_propertyOf 20 = .ok (.if_icmp .ge 14, 3) := by decide +kernel
theorem dX4_propertyOf_23 : decode cX4_propertyOf 23 = .ok (.aload_n 0, 1) := by decide +kernel
theorem dX4_propertyOf_24 : decode cX4_propertyOf 24 = .ok (.getfield 11, 3) := by decide +kernel
theorem dX4_propertyOf_27 : decode cX4_propertyOf 27 = .ok (.iload_n 3, 1) := by decide +kernel
theorem dX4_propertyOf_28 : decode cX4_propertyOf 28 = .ok (.iload_n 2, 1) := by decide +kernel
theorem dX4_propertyOf_29 : decode cX4_propertyOf 29 = .ok (.iadd, 1) := by decide +kernel
theorem dX4_propertyOf_30 : decode cX4_propertyOf 30 = .ok (.iaload, 1) := by decide +kernel
theorem dX4_propertyOf_31 : decode cX4_propertyOf 31 = .ok (.goto 4, 3) := by decide +kernel
theorem dX4_propertyOf_34 : decode cX4_propertyOf 34 = .ok (.iconst (-1), 1) := by decide +kernel
theorem dX4_propertyOf_35 : decode cX4_propertyOf 35 = .ok (.ireturn, 1) := by decide +kernel
def f_G_prop (e : Int) (w : Int) (m : xM) : Option (Int) :=
     (Option.bind (f_floorMod ((m 0 1) + e) 60 (xvw [] m)) fun q0 =>
      (if xw w < 0 then some (-1)
      else (if xw w < xw 4 then (if xib ((q0 * 4) + w) 240 then some (m 1 (xix ((q0 * 4) + w)))
      else none)
      else some (-1))))
set_option maxRecDepth 1000000 in
set_option maxHeartbeats 4000000 in
theorem t_G_prop {Γ : xG} {d : Nat} (hd9 : 2 ≤ d) (C : xC Γ lay_G RX4 cX4_propertyOf 4 d) (e : Int) (w : Int) {r : Int} {m : xM} (hR : xRi Γ lay_G cX4_propertyOf r m) (h : f_G_prop e w m = some r) : xW Γ lay_G 4 0 [(0, .inr (.inr (some 0))), (1, .inl e), (2, .inl w)] [] m := by
  unfold f_G_prop at h
  refine x_aload_n C dX4_propertyOf_0 rfl ?_
  refine x_getI C dX4_propertyOf_1 fF_X4_25 rfl rfl ?_
  refine x_iload_n C dX4_propertyOf_4 rfl ?_
  refine x_iadd C dX4_propertyOf_5 ?_
  refine x_bipush C dX4_propertyOf_6 (by decide) ?_
  obtain ⟨q0, hq0, h⟩ := x_bind h
  refine x_callSp C dX4_propertyOf_8 (xin_32 _ (List.mem_of_getElem? (i := 11) rfl)) xy_J9_floorMod_7cf53 (xt_J9_floorMod_7cf53) [] xv_2 (by omega) (by decide) (av := [.inl ((m 0 1) + e), .inl 60]) rfl (Nat.le_of_ble_eq_true rfl) (c_floorMod _ _ _ _ _ hq0) rfl ?_
  refine x_iconst C dX4_propertyOf_11 ?_
  refine x_imul C dX4_propertyOf_12 ?_
  refine x_istore_n C dX4_propertyOf_13 (by decide) ?_
  refine x_iload_n C dX4_propertyOf_14 rfl ?_
  refine x_if_lt C 34 dX4_propertyOf_15 (by decide) h (fun h => ?_) (fun h => ?_)
  · refine x_iconst C dX4_propertyOf_34 ?_
    exact x_ireturnP hR dX4_propertyOf_35 h
  · refine x_iload_n C dX4_propertyOf_18 rfl ?_
    refine x_iconst C dX4_propertyOf_19 ?_
    refine x_icmp_ge C 34 dX4_propertyOf_20 (by decide) h (fun h => ?_) (fun h => ?_)
    · refine x_iconst C dX4_propertyOf_34 ?_
      exact x_ireturnP hR dX4_propertyOf_35 h
    · refine x_aload_n C dX4_propertyOf_23 rfl ?_
      refine x_getR C dX4_propertyOf_24 fF_X4_11 rfl rfl ?_
      refine x_iload_n C dX4_propertyOf_27 rfl ?_
      refine x_iload_n C dX4_propertyOf_28 rfl ?_
      refine x_iadd C dX4_propertyOf_29 ?_
      refine x_iaload C dX4_propertyOf_30 rfl h (fun h => ?_)
      refine x_goto C 35 dX4_propertyOf_31 (by decide) ?_
      exact x_ireturnP hR dX4_propertyOf_35 h
theorem c_G_prop (l : Launch) (e : Int) (w : Int) (m : xM) (r : Int) (h : f_G_prop e w m = some r) : xMet l yX4_propertyOf cX4_propertyOf 4 (some .int) 2 lay_G [.inr (.inr (some 0)), .inl e, .inl w] m (some (.inl r)) m :=
  xMet_i (by decide +kernel) (Nat.le_of_ble_eq_true rfl) (fun Γ C hR hl9 => t_G_prop (Nat.le_refl _) C e w hR h)
theorem fF_X6_24 : xF RX6 24 7 6 .int false := ⟨RX6, TX6, 14, tyX6, rfl, by decide, (xin_3 _ (List.mem_of_getElem? (i := 5) rfl)), rfl, inlX6, tyX6_ok, nmX6, rfl, rfl⟩
theorem fF_X6_28 : xF RX6 28 7 4 .int false := ⟨RX6, TX6, 14, tyX6, rfl, by decide, (xin_3 _ (List.mem_of_getElem? (i := 6) rfl)), rfl, inlX6, tyX6_ok, nmX6, rfl, rfl⟩
theorem fF_X6_9 : xF RX6 9 7 0 (.array .int) true := ⟨RX6, TX6, 14, tyX6, rfl, by decide, (xin_2 _ (List.mem_of_getElem? (i := 21) rfl)), rfl, inlX6, tyX6_ok, nmX6, rfl, rfl⟩
theorem fF_X6_15 : xF RX6 15 7 1 (.array .int) true := ⟨RX6, TX6, 14, tyX6, rfl, by decide, (xin_2 _ (List.mem_of_getElem? (i := 22) rfl)), rfl, inlX6, tyX6_ok, nmX6, rfl, rfl⟩
theorem fF_X6_18 : xF RX6 18 7 2 (.array .int) true := ⟨RX6, TX6, 14, tyX6, rfl, by decide, (xin_2 _ (List.mem_of_getElem? (i := 23) rfl)), rfl, inlX6, tyX6_ok, nmX6, rfl, rfl⟩
theorem fF_X6_31 : xF RX6 31 7 7 .int false := ⟨RX6, TX6, 14, tyX6, rfl, by decide, (xin_3 _ (List.mem_of_getElem? (i := 7) rfl)), rfl, inlX6, tyX6_ok, nmX6, rfl, rfl⟩
theorem fF_X6_34 : xF RX6 34 7 8 .int false := ⟨RX6, TX6, 14, tyX6, rfl, by decide, (xin_3 _ (List.mem_of_getElem? (i := 8) rfl)), rfl, inlX6, tyX6_ok, nmX6, rfl, rfl⟩
theorem fF_X6_37 : xF RX6 37 7 9 .int false := ⟨RX6, TX6, 14, tyX6, rfl, by decide, (xin_3 _ (List.mem_of_getElem? (i := 9) rfl)), rfl, inlX6, tyX6_ok, nmX6, rfl, rfl⟩
theorem fF_X6_40 : xF RX6 40 7 10 .int false := ⟨RX6, TX6, 14, tyX6, rfl, by decide, (xin_3 _ (List.mem_of_getElem? (i := 10) rfl)), rfl, inlX6, tyX6_ok, nmX6, rfl, rfl⟩
theorem fF_X6_43 : xF RX6 43 7 11 .int false := ⟨RX6, TX6, 14, tyX6, rfl, by decide, (xin_3 _ (List.mem_of_getElem? (i := 11) rfl)), rfl, inlX6, tyX6_ok, nmX6, rfl, rfl⟩
theorem fF_X6_46 : xF RX6 46 7 12 .int false := ⟨RX6, TX6, 14, tyX6, rfl, by decide, (xin_3 _ (List.mem_of_getElem? (i := 12) rfl)), rfl, inlX6, tyX6_ok, nmX6, rfl, rfl⟩
theorem fF_X6_49 : xF RX6 49 7 13 .int false := ⟨RX6, TX6, 14, tyX6, rfl, by decide, (xin_3 _ (List.mem_of_getElem? (i := 13) rfl)), rfl, inlX6, tyX6_ok, nmX6, rfl, rfl⟩
theorem fF_X6_52 : xF RX6 52 7 5 .int false := ⟨RX6, TX6, 14, tyX6, rfl, by decide, (xin_3 _ (List.mem_of_getElem? (i := 14) rfl)), rfl, inlX6, tyX6_ok, nmX6, rfl, rfl⟩
theorem fF_X6_21 : xF RX6 21 7 3 (.array .int) true := ⟨RX6, TX6, 14, tyX6, rfl, by decide, (xin_3 _ (List.mem_of_getElem? (i := 0) rfl)), rfl, inlX6, tyX6_ok, nmX6, rfl, rfl⟩
theorem dX6_setDefaults_0 : decode cX6_setDefaults 0 = .ok (.aload_n 0, 1) := by decide +kernel
theorem dX6_setDefaults_1 : decode cX6_setDefaults 1 = .ok (.bipush 9, 2) := by decide +kernel
theorem dX6_setDefaults_3 : decode cX6_setDefaults 3 = .ok (.putfield 24, 3) := by decide +kernel
theorem dX6_setDefaults_6 : decode cX6_setDefaults 6 = .ok (.aload_n 0, 1) := by decide +kernel
theorem dX6_setDefaults_7 : decode cX6_setDefaults 7 = .ok (.iconst 1, 1) := by decide +kernel
theorem dX6_setDefaults_8 : decode cX6_setDefaults 8 = .ok (.putfield 28, 3) := by decide +kernel
theorem dX6_setDefaults_11 : decode cX6_setDefaults 11 = .ok (.aload_n 0, 1) := by decide +kernel
theorem dX6_setDefaults_12 : decode cX6_setDefaults 12 = .ok (.getfield 9, 3) := by decide +kernel
theorem dX6_setDefaults_15 : decode cX6_setDefaults 15 = .ok (.iconst 0, 1) := by decide +kernel
theorem dX6_setDefaults_16 : decode cX6_setDefaults 16 = .ok (.bipush 8, 2) := by decide +kernel
theorem dX6_setDefaults_18 : decode cX6_setDefaults 18 = .ok (.iastore, 1) := by decide +kernel
theorem dX6_setDefaults_19 : decode cX6_setDefaults 19 = .ok (.aload_n 0, 1) := by decide +kernel
theorem dX6_setDefaults_20 : decode cX6_setDefaults 20 = .ok (.getfield 15, 3) := by decide +kernel
theorem dX6_setDefaults_23 : decode cX6_setDefaults 23 = .ok (.iconst 0, 1) := by decide +kernel
theorem dX6_setDefaults_24 : decode cX6_setDefaults 24 = .ok (.iconst 1, 1) := by decide +kernel
theorem dX6_setDefaults_25 : decode cX6_setDefaults 25 = .ok (.iastore, 1) := by decide +kernel
theorem dX6_setDefaults_26 : decode cX6_setDefaults 26 = .ok (.iconst 0, 1) := by decide +kernel
theorem dX6_setDefaults_27 : decode cX6_setDefaults 27 = .ok (.istore_n 1, 1) := by decide +kernel
theorem dX6_setDefaults_28 : decode cX6_setDefaults 28 = .ok (.iload_n 1, 1) := by decide +kernel
theorem dX6_setDefaults_29 : decode cX6_setDefaults 29 = .ok (.aload_n 0, 1) := by decide +kernel
theorem dX6_setDefaults_30 : decode cX6_setDefaults 30 = .ok (.getfield 18, 3) := by decide +kernel
theorem dX6_setDefaults_33 : decode cX6_setDefaults 33 = .ok (.arraylength, 1) := by decide +kernel
theorem dX6_setDefaults_34 : decode cX6_setDefaults 34 = .ok (.if_icmp .ge 16, 3) := by decide +kernel
theorem dX6_setDefaults_37 : decode cX6_setDefaults 37 = .ok (.aload_n 0, 1) := by decide +kernel
theorem dX6_setDefaults_38 : decode cX6_setDefaults 38 = .ok (.getfield 18, 3) := by decide +kernel
theorem dX6_setDefaults_41 : decode cX6_setDefaults 41 = .ok (.iload_n 1, 1) := by decide +kernel
theorem dX6_setDefaults_42 : decode cX6_setDefaults 42 = .ok (.iconst 2, 1) := by decide +kernel
theorem dX6_setDefaults_43 : decode cX6_setDefaults 43 = .ok (.iastore, 1) := by decide +kernel
theorem dX6_setDefaults_44 : decode cX6_setDefaults 44 = .ok (.iinc 1 1, 3) := by decide +kernel
theorem dX6_setDefaults_47 : decode cX6_setDefaults 47 = .ok (.goto (-19), 3) := by decide +kernel
theorem dX6_setDefaults_50 : decode cX6_setDefaults 50 = .ok (.aload_n 0, 1) := by decide +kernel
theorem dX6_setDefaults_51 : decode cX6_setDefaults 51 = .ok (.iconst 2, 1) := by decide +kernel
theorem dX6_setDefaults_52 : decode cX6_setDefaults 52 = .ok (.putfield 31, 3) := by decide +kernel
theorem dX6_setDefaults_55 : decode cX6_setDefaults 55 = .ok (.aload_n 0, 1) := by decide +kernel
theorem dX6_setDefaults_56 : decode cX6_setDefaults 56 = .ok (.iconst 5, 1) := by decide +kernel
theorem dX6_setDefaults_57 : decode cX6_setDefaults 57 = .ok (.putfield 34, 3) := by decide +kernel
theorem dX6_setDefaults_60 : decode cX6_setDefaults 60 = .ok (.aload_n 0, 1) := by decide +kernel
theorem dX6_setDefaults_61 : decode cX6_setDefaults 61 = .ok (.iconst 4, 1) := by decide +kernel
theorem dX6_setDefaults_62 : decode cX6_setDefaults 62 = .ok (.putfield 37, 3) := by decide +kernel
theorem dX6_setDefaults_65 : decode cX6_setDefaults 65 = .ok (.aload_n 0, 1) := by decide +kernel
theorem dX6_setDefaults_66 : decode cX6_setDefaults 66 = .ok (.iconst 1, 1) := by decide +kernel
theorem dX6_setDefaults_67 : decode cX6_setDefaults 67 = .ok (.putfield 40, 3) := by decide +kernel
theorem dX6_setDefaults_70 : decode cX6_setDefaults 70 = .ok (.aload_n 0, 1) := by decide +kernel
theorem dX6_setDefaults_71 : decode cX6_setDefaults 71 = .ok (.iconst 3, 1) := by decide +kernel
theorem dX6_setDefaults_72 : decode cX6_setDefaults 72 = .ok (.putfield 43, 3) := by decide +kernel
theorem dX6_setDefaults_75 : decode cX6_setDefaults 75 = .ok (.aload_n 0, 1) := by decide +kernel
theorem dX6_setDefaults_76 : decode cX6_setDefaults 76 = .ok (.iconst 2, 1) := by decide +kernel
theorem dX6_setDefaults_77 : decode cX6_setDefaults 77 = .ok (.putfield 46, 3) := by decide +kernel
theorem dX6_setDefaults_80 : decode cX6_setDefaults 80 = .ok (.aload_n 0, 1) := by decide +kernel
theorem dX6_setDefaults_81 : decode cX6_setDefaults 81 = .ok (.bipush 8, 2) := by decide +kernel
theorem dX6_setDefaults_83 : decode cX6_setDefaults 83 = .ok (.putfield 49, 3) := by decide +kernel
theorem dX6_setDefaults_86 : decode cX6_setDefaults 86 = .ok (.aload_n 0, 1) := by decide +kernel
theorem dX6_setDefaults_87 : decode cX6_setDefaults 87 = .ok (.iconst 1, 1) := by decide +kernel
theorem dX6_setDefaults_88 : decode cX6_setDefaults 88 = .ok (.putfield 52, 3) := by decide +kernel
theorem dX6_setDefaults_91 : decode cX6_setDefaults 91 = .ok (.aload_n 0, 1) := by decide +kernel
theorem dX6_setDefaults_92 : decode cX6_setDefaults 92 = .ok (.getfield 21, 3) := by decide +kernel
theorem dX6_setDefaults_95 : decode cX6_setDefaults 95 = .ok (.iconst 0, 1) := by decide +kernel
theorem dX6_setDefaults_96 : decode cX6_setDefaults 96 = .ok (.iconst 0, 1) := by decide +kernel
theorem dX6_setDefaults_97 : decode cX6_setDefaults 97 = .ok (.iastore, 1) := by decide +kernel
theorem dX6_setDefaults_98 : decode cX6_setDefaults 98 = .ok (.return_, 1) := by decide +kernel
def f_S_def_80 (m : xM) : Option (xM) :=
     (if xib 0 10 then some (xu (xu (xu m 0 13 8) 0 5 1) 4 0 0)
      else none)
set_option maxRecDepth 1000000 in
set_option maxHeartbeats 4000000 in
theorem t_S_def_80 {Γ : xG} {d : Nat} (hd9 : 1 ≤ d) (C : xC Γ lay_S RX6 cX6_setDefaults 2 d) {m9 : xM} (hR : xRv Γ lay_S cX6_setDefaults m9) (m : xM) (h : f_S_def_80 m = some m9) : xW Γ lay_S 2 80 [(0, .inr (.inr (some 0)))] [] m := by
  unfold f_S_def_80 at h
  refine x_aload_n C dX6_setDefaults_80 rfl ?_
  refine x_bipush C dX6_setDefaults_81 (by decide) ?_
  refine x_putI C dX6_setDefaults_83 fF_X6_49 rfl rfl ?_
  refine x_aload_n C dX6_setDefaults_86 rfl ?_
  refine x_iconst C dX6_setDefaults_87 ?_
  refine x_putI C dX6_setDefaults_88 fF_X6_52 rfl rfl ?_
  refine x_aload_n C dX6_setDefaults_91 rfl ?_
  refine x_getR C dX6_setDefaults_92 fF_X6_21 rfl rfl ?_
  refine x_iconst C dX6_setDefaults_95 ?_
  refine x_iconst C dX6_setDefaults_96 ?_
  refine x_iastore C dX6_setDefaults_97 rfl h (fun h => ?_)
  exact x_returnV hR dX6_setDefaults_98 h
def f_S_def_50 (m : xM) : Option (xM) :=
     f_S_def_80 (xu (xu (xu (xu (xu (xu m 0 7 2) 0 8 5) 0 9 4) 0 10 1) 0 11 3) 0 12 2)
set_option maxRecDepth 1000000 in
set_option maxHeartbeats 4000000 in
theorem t_S_def_50 {Γ : xG} {d : Nat} (hd9 : 1 ≤ d) (C : xC Γ lay_S RX6 cX6_setDefaults 2 d) {m9 : xM} (hR : xRv Γ lay_S cX6_setDefaults m9) (m : xM) (h : f_S_def_50 m = some m9) : xW Γ lay_S 2 50 [(0, .inr (.inr (some 0)))] [] m := by
  unfold f_S_def_50 at h
  refine x_aload_n C dX6_setDefaults_50 rfl ?_
  refine x_iconst C dX6_setDefaults_51 ?_
  refine x_putI C dX6_setDefaults_52 fF_X6_31 rfl rfl ?_
  refine x_aload_n C dX6_setDefaults_55 rfl ?_
  refine x_iconst C dX6_setDefaults_56 ?_
  refine x_putI C dX6_setDefaults_57 fF_X6_34 rfl rfl ?_
  refine x_aload_n C dX6_setDefaults_60 rfl ?_
  refine x_iconst C dX6_setDefaults_61 ?_
  refine x_putI C dX6_setDefaults_62 fF_X6_37 rfl rfl ?_
  refine x_aload_n C dX6_setDefaults_65 rfl ?_
  refine x_iconst C dX6_setDefaults_66 ?_
  refine x_putI C dX6_setDefaults_67 fF_X6_40 rfl rfl ?_
  refine x_aload_n C dX6_setDefaults_70 rfl ?_
  refine x_iconst C dX6_setDefaults_71 ?_
  refine x_putI C dX6_setDefaults_72 fF_X6_43 rfl rfl ?_
  refine x_aload_n C dX6_setDefaults_75 rfl ?_
  refine x_iconst C dX6_setDefaults_76 ?_
  refine x_putI C dX6_setDefaults_77 fF_X6_46 rfl rfl ?_
  refine x_loc [(0, .inr (.inr (some 0)))] ⟨rfl, trivial⟩ ?_
  exact t_S_def_80 hd9 C hR _ h
def f_S_def_28 : Nat → Int → xM → Option (xM)
  | 0, _, _ => none
  | n + 1, x1, m =>
     (if xw x1 < xw 4 then (if xib x1 4 then f_S_def_28 n (x1 + 1) (xu m 3 (xix x1) 2)
      else none)
      else f_S_def_50 m)
set_option maxRecDepth 1000000 in
set_option maxHeartbeats 4000000 in
theorem t_S_def_28 {Γ : xG} {d : Nat} (hd9 : 1 ≤ d) (C : xC Γ lay_S RX6 cX6_setDefaults 2 d) {m9 : xM} (hR : xRv Γ lay_S cX6_setDefaults m9) : ∀ (n : Nat) (x1 : Int) (m : xM), f_S_def_28 n x1 m = some m9 → xW Γ lay_S 2 28 [(0, .inr (.inr (some 0))), (1, .inl x1)] [] m := by
  intro n
  induction n with
  | zero => intro _ _ h; cases h
  | succ n ih =>
    intro x1 m h
    rw [f_S_def_28] at h
    refine x_iload_n C dX6_setDefaults_28 rfl ?_
    refine x_aload_n C dX6_setDefaults_29 rfl ?_
    refine x_getR C dX6_setDefaults_30 fF_X6_18 rfl rfl ?_
    refine x_len C dX6_setDefaults_33 rfl ?_
    refine x_icmp_ge C 50 dX6_setDefaults_34 (by decide) h (fun h => ?_) (fun h => ?_)
    · refine x_loc [(0, .inr (.inr (some 0)))] ⟨rfl, trivial⟩ ?_
      exact t_S_def_50 hd9 C hR _ h
    · refine x_aload_n C dX6_setDefaults_37 rfl ?_
      refine x_getR C dX6_setDefaults_38 fF_X6_18 rfl rfl ?_
      refine x_iload_n C dX6_setDefaults_41 rfl ?_
      refine x_iconst C dX6_setDefaults_42 ?_
      refine x_iastore C dX6_setDefaults_43 rfl h (fun h => ?_)
      refine x_iinc C dX6_setDefaults_44 (by decide) rfl ?_
      refine x_goto C 28 dX6_setDefaults_47 (by decide) ?_
      refine x_loc [(0, .inr (.inr (some 0))), (1, .inl (x1 + 1))] ⟨rfl, rfl, trivial⟩ ?_
      exact ih _ _ h
def f_S_def (m : xM) : Option (xM) :=
     (if xib 0 5 then (if xib 0 5 then f_S_def_28 fu 0 (xu (xu (xu (xu m 0 6 9) 0 4 1) 1 0 8) 2 0 1)
      else none)
      else none)
set_option maxRecDepth 1000000 in
set_option maxHeartbeats 4000000 in
theorem t_S_def {Γ : xG} {d : Nat} (hd9 : 1 ≤ d) (C : xC Γ lay_S RX6 cX6_setDefaults 2 d) {m9 : xM} (hR : xRv Γ lay_S cX6_setDefaults m9) (m : xM) (h : f_S_def m = some m9) : xW Γ lay_S 2 0 [(0, .inr (.inr (some 0)))] [] m := by
  unfold f_S_def at h
  refine x_aload_n C dX6_setDefaults_0 rfl ?_
  refine x_bipush C dX6_setDefaults_1 (by decide) ?_
  refine x_putI C dX6_setDefaults_3 fF_X6_24 rfl rfl ?_
  refine x_aload_n C dX6_setDefaults_6 rfl ?_
  refine x_iconst C dX6_setDefaults_7 ?_
  refine x_putI C dX6_setDefaults_8 fF_X6_28 rfl rfl ?_
  refine x_aload_n C dX6_setDefaults_11 rfl ?_
  refine x_getR C dX6_setDefaults_12 fF_X6_9 rfl rfl ?_
  refine x_iconst C dX6_setDefaults_15 ?_
  refine x_bipush C dX6_setDefaults_16 (by decide) ?_
  refine x_iastore C dX6_setDefaults_18 rfl h (fun h => ?_)
  refine x_aload_n C dX6_setDefaults_19 rfl ?_
  refine x_getR C dX6_setDefaults_20 fF_X6_15 rfl rfl ?_
  refine x_iconst C dX6_setDefaults_23 ?_
  refine x_iconst C dX6_setDefaults_24 ?_
  refine x_iastore C dX6_setDefaults_25 rfl h (fun h => ?_)
  refine x_iconst C dX6_setDefaults_26 ?_
  refine x_istore_n C dX6_setDefaults_27 (by decide) ?_
  refine x_loc [(0, .inr (.inr (some 0))), (1, .inl 0)] ⟨rfl, rfl, trivial⟩ ?_
  exact t_S_def_28 hd9 C hR fu _ _ h
theorem c_S_def (l : Launch) (m m9 : xM) (h : f_S_def m = some m9) : xMet l yX6_setDefaults cX6_setDefaults 2 none 1 lay_S [.inr (.inr (some 0))] m none m9 :=
  xMet_v (by decide +kernel) (Nat.le_of_ble_eq_true rfl) (fun Γ C hR hl9 => t_S_def (Nat.le_refl _) C hR m h)
theorem dX6_copyFrom_0 : decode cX6_copyFrom 0 = .ok (.aload_n 1, 1) := by decide +kernel
theorem dX6_copyFrom_1 : decode cX6_copyFrom 1 = .ok (.getfield 9, 3) := by decide +kernel
theorem dX6_copyFrom_4 : decode cX6_copyFrom 4 = .ok (.iconst 0, 1) := by decide +kernel
theorem dX6_copyFrom_5 : decode cX6_copyFrom 5 = .ok (.aload_n 0, 1) := by decide +kernel
theorem dX6_copyFrom_6 : decode cX6_copyFrom 6 = .ok (.getfield 9, 3) := by decide +kernel
theorem dX6_copyFrom_9 : decode cX6_copyFrom 9 = .ok (.iconst 0, 1) := by decide +kernel
theorem dX6_copyFrom_10 : decode cX6_copyFrom 10 = .ok (.iconst 5, 1) := by decide +kernel
theorem dX6_copyFrom_11 : decode cX6_copyFrom 11 = .ok (.invokestatic 55, 3) := by decide +kernel
theorem dX6_copyFrom_14 : decode cX6_copyFrom 14 = .ok (.aload_n 1, 1) := by decide +kernel
theorem dX6_copyFrom_15 : decode cX6_copyFrom 15 = .ok (.getfield 15, 3) := by decide +kernel
theorem dX6_copyFrom_18 : decode cX6_copyFrom 18 = .ok (.iconst 0, 1) := by decide +kernel
theorem dX6_copyFrom_19 : decode cX6_copyFrom 19 = .ok (.aload_n 0, 1) := by decide +kernel
theorem dX6_copyFrom_20 : decode cX6_copyFrom 20 = .ok (.getfield 15, 3) := by decide +kernel
theorem dX6_copyFrom_23 : decode cX6_copyFrom 23 = .ok (.iconst 0, 1) := by decide +kernel
theorem dX6_copyFrom_24 : decode cX6_copyFrom 24 = .ok (.iconst 5, 1) := by decide +kernel
theorem dX6_copyFrom_25 : decode cX6_copyFrom 25 = .ok (.invokestatic 55, 3) := by decide +kernel
theorem dX6_copyFrom_28 : decode cX6_copyFrom 28 = .ok (.aload_n 1, 1) := by decide +kernel
theorem dX6_copyFrom_29 : decode cX6_copyFrom 29 = .ok (.getfield 18, 3) := by decide +kernel
theorem dX6_copyFrom_32 : decode cX6_copyFrom 32 = .ok (.iconst 0, 1) := by decide +kernel
theorem dX6_copyFrom_33 : decode cX6_copyFrom 33 = .ok (.aload_n 0, 1) := by decide +kernel
theorem dX6_copyFrom_34 : decode cX6_copyFrom 34 = .ok (.getfield 18, 3) := by decide +kernel
theorem dX6_copyFrom_37 : decode cX6_copyFrom 37 = .ok (.iconst 0, 1) := by decide +kernel
theorem dX6_copyFrom_38 : decode cX6_copyFrom 38 = .ok (.iconst 4, 1) := by decide +kernel
theorem dX6_copyFrom_39 : decode cX6_copyFrom 39 = .ok (.invokestatic 55, 3) := by decide +kernel
theorem dX6_copyFrom_42 : decode cX6_copyFrom 42 = .ok (.aload_n 1, 1) := by decide +kernel
theorem dX6_copyFrom_43 : decode cX6_copyFrom 43 = .ok (.getfield 21, 3) := by decide +kernel
theorem dX6_copyFrom_46 : decode cX6_copyFrom 46 = .ok (.iconst 0, 1) := by decide +kernel
theorem dX6_copyFrom_47 : decode cX6_copyFrom 47 = .ok (.aload_n 0, 1) := by decide +kernel
theorem dX6_copyFrom_48 : decode cX6_copyFrom 48 = .ok (.getfield 21, 3) := by decide +kernel
theorem dX6_copyFrom_51 : decode cX6_copyFrom 51 = .ok (.iconst 0, 1) := by decide +kernel
theorem dX6_copyFrom_52 : decode cX6_copyFrom 52 = .ok (.bipush 10, 2) := by decide +kernel
theorem dX6_copyFrom_54 : decode cX6_copyFrom 54 = .ok (.invokestatic 55, 3) := by decide +kernel
theorem dX6_copyFrom_57 : decode cX6_copyFrom 57 = .ok (.aload_n 0, 1) := by decide +kernel
theorem dX6_copyFrom_58 : decode cX6_copyFrom 58 = .ok (.aload_n 1, 1) := by decide +kernel
theorem dX6_copyFrom_59 : decode cX6_copyFrom 59 = .ok (.getfield 28, 3) := by decide +kernel
theorem dX6_copyFrom_62 : decode cX6_copyFrom 62 = .ok (.putfield 28, 3) := by decide +kernel
theorem dX6_copyFrom_65 : decode cX6_copyFrom 65 = .ok (.aload_n 0, 1) := by decide +kernel
theorem dX6_copyFrom_66 : decode cX6_copyFrom 66 = .ok (.aload_n 1, 1) := by decide +kernel
theorem dX6_copyFrom_67 : decode cX6_copyFrom 67 = .ok (.getfield 52, 3) := by decide +kernel
theorem dX6_copyFrom_70 : decode cX6_copyFrom 70 = .ok (.putfield 52, 3) := by decide +kernel
theorem dX6_copyFrom_73 : decode cX6_copyFrom 73 = .ok (.aload_n 0, 1) := by decide +kernel
theorem dX6_copyFrom_74 : decode cX6_copyFrom 74 = .ok (.aload_n 1, 1) := by decide +kernel
theorem dX6_copyFrom_75 : decode cX6_copyFrom 75 = .ok (.getfield 24, 3) := by decide +kernel
theorem dX6_copyFrom_78 : decode cX6_copyFrom 78 = .ok (.putfield 24, 3) := by decide +kernel
theorem dX6_copyFrom_81 : decode cX6_copyFrom 81 = .ok (.aload_n 0, 1) := by decide +kernel
theorem dX6_copyFrom_82 : decode cX6_copyFrom 82 = .ok (.aload_n 1, 1) := by decide +kernel
theorem dX6_copyFrom_83 : decode cX6_copyFrom 83 = .ok (.getfield 31, 3) := by decide +kernel
theorem dX6_copyFrom_86 : decode cX6_copyFrom 86 = .ok (.putfield 31, 3) := by decide +kernel
theorem dX6_copyFrom_89 : decode cX6_copyFrom 89 = .ok (.aload_n 0, 1) := by decide +kernel
theorem dX6_copyFrom_90 : decode cX6_copyFrom 90 = .ok (.aload_n 1, 1) := by decide +kernel
theorem dX6_copyFrom_91 : decode cX6_copyFrom 91 = .ok (.getfield 34, 3) := by decide +kernel
theorem dX6_copyFrom_94 : decode cX6_copyFrom 94 = .ok (.putfield 34, 3) := by decide +kernel
theorem dX6_copyFrom_97 : decode cX6_copyFrom 97 = .ok (.aload_n 0, 1) := by decide +kernel
theorem dX6_copyFrom_98 : decode cX6_copyFrom 98 = .ok (.aload_n 1, 1) := by decide +kernel
theorem dX6_copyFrom_99 : decode cX6_copyFrom 99 = .ok (.getfield 37, 3) := by decide +kernel
theorem dX6_copyFrom_102 : decode cX6_copyFrom 102 = .ok (.putfield 37, 3) := by decide +kernel
theorem dX6_copyFrom_105 : decode cX6_copyFrom 105 = .ok (.aload_n 0, 1) := by decide +kernel
theorem dX6_copyFrom_106 : decode cX6_copyFrom 106 = .ok (.aload_n 1, 1) := by decide +kernel
theorem dX6_copyFrom_107 : decode cX6_copyFrom 107 = .ok (.getfield 40, 3) := by decide +kernel
theorem dX6_copyFrom_110 : decode cX6_copyFrom 110 = .ok (.putfield 40, 3) := by decide +kernel
theorem dX6_copyFrom_113 : decode cX6_copyFrom 113 = .ok (.aload_n 0, 1) := by decide +kernel
theorem dX6_copyFrom_114 : decode cX6_copyFrom 114 = .ok (.aload_n 1, 1) := by decide +kernel
theorem dX6_copyFrom_115 : decode cX6_copyFrom 115 = .ok (.getfield 43, 3) := by decide +kernel
theorem dX6_copyFrom_118 : decode cX6_copyFrom 118 = .ok (.putfield 43, 3) := by decide +kernel
theorem dX6_copyFrom_121 : decode cX6_copyFrom 121 = .ok (.aload_n 0, 1) := by decide +kernel
theorem dX6_copyFrom_122 : decode cX6_copyFrom 122 = .ok (.aload_n 1, 1) := by decide +kernel
theorem dX6_copyFrom_123 : decode cX6_copyFrom 123 = .ok (.getfield 46, 3) := by decide +kernel
theorem dX6_copyFrom_126 : decode cX6_copyFrom 126 = .ok (.putfield 46, 3) := by decide +kernel
theorem dX6_copyFrom_129 : decode cX6_copyFrom 129 = .ok (.aload_n 0, 1) := by decide +kernel
theorem dX6_copyFrom_130 : decode cX6_copyFrom 130 = .ok (.aload_n 1, 1) := by decide +kernel
theorem dX6_copyFrom_131 : decode cX6_copyFrom 131 = .ok (.getfield 49, 3) := by decide +kernel
theorem dX6_copyFrom_134 : decode cX6_copyFrom 134 = .ok (.putfield 49, 3) := by decide +kernel
theorem dX6_copyFrom_137 : decode cX6_copyFrom 137 = .ok (.return_, 1) := by decide +kernel
def f_S_cp_129 (m : xM) : Option (xM) :=
     some (xu m 0 13 (m 5 13))
set_option maxRecDepth 1000000 in
set_option maxHeartbeats 4000000 in
theorem t_S_cp_129 {Γ : xG} {d : Nat} (hd9 : 1 ≤ d) (C : xC Γ lay_S2 RX6 cX6_copyFrom 2 d) {m9 : xM} (hR : xRv Γ lay_S2 cX6_copyFrom m9) (m : xM) (h : f_S_cp_129 m = some m9) : xW Γ lay_S2 2 129 [(0, .inr (.inr (some 0))), (1, .inr (.inr (some 5)))] [] m := by
  unfold f_S_cp_129 at h
  refine x_aload_n C dX6_copyFrom_129 rfl ?_
  refine x_aload_n C dX6_copyFrom_130 rfl ?_
  refine x_getI C dX6_copyFrom_131 fF_X6_49 rfl rfl ?_
  refine x_putI C dX6_copyFrom_134 fF_X6_49 rfl rfl ?_
  exact x_returnV hR dX6_copyFrom_137 h
def f_S_cp_97 (m : xM) : Option (xM) :=
     f_S_cp_129 (xu (xu (xu (xu m 0 9 (m 5 9)) 0 10 (m 5 10)) 0 11 (m 5 11)) 0 12 (m 5 12))
set_option maxRecDepth 1000000 in
set_option maxHeartbeats 4000000 in
theorem t_S_cp_97 {Γ : xG} {d : Nat} (hd9 : 1 ≤ d) (C : xC Γ lay_S2 RX6 cX6_copyFrom 2 d) {m9 : xM} (hR : xRv Γ lay_S2 cX6_copyFrom m9) (m : xM) (h : f_S_cp_97 m = some m9) : xW Γ lay_S2 2 97 [(0, .inr (.inr (some 0))), (1, .inr (.inr (some 5)))] [] m := by
  unfold f_S_cp_97 at h
  refine x_aload_n C dX6_copyFrom_97 rfl ?_
  refine x_aload_n C dX6_copyFrom_98 rfl ?_
  refine x_getI C dX6_copyFrom_99 fF_X6_37 rfl rfl ?_
  refine x_putI C dX6_copyFrom_102 fF_X6_37 rfl rfl ?_
  refine x_aload_n C dX6_copyFrom_105 rfl ?_
  refine x_aload_n C dX6_copyFrom_106 rfl ?_
  refine x_getI C dX6_copyFrom_107 fF_X6_40 rfl rfl ?_
  refine x_putI C dX6_copyFrom_110 fF_X6_40 rfl rfl ?_
  refine x_aload_n C dX6_copyFrom_113 rfl ?_
  refine x_aload_n C dX6_copyFrom_114 rfl ?_
  refine x_getI C dX6_copyFrom_115 fF_X6_43 rfl rfl ?_
  refine x_putI C dX6_copyFrom_118 fF_X6_43 rfl rfl ?_
  refine x_aload_n C dX6_copyFrom_121 rfl ?_
  refine x_aload_n C dX6_copyFrom_122 rfl ?_
  refine x_getI C dX6_copyFrom_123 fF_X6_46 rfl rfl ?_
  refine x_putI C dX6_copyFrom_126 fF_X6_46 rfl rfl ?_
  refine x_loc [(0, .inr (.inr (some 0))), (1, .inr (.inr (some 5)))] ⟨rfl, rfl, trivial⟩ ?_
  exact t_S_cp_129 hd9 C hR _ h
def f_S_cp_65 (m : xM) : Option (xM) :=
     f_S_cp_97 (xu (xu (xu (xu m 0 5 (m 5 5)) 0 6 (m 5 6)) 0 7 (m 5 7)) 0 8 (m 5 8))
set_option maxRecDepth 1000000 in
set_option maxHeartbeats 4000000 in
theorem t_S_cp_65 {Γ : xG} {d : Nat} (hd9 : 1 ≤ d) (C : xC Γ lay_S2 RX6 cX6_copyFrom 2 d) {m9 : xM} (hR : xRv Γ lay_S2 cX6_copyFrom m9) (m : xM) (h : f_S_cp_65 m = some m9) : xW Γ lay_S2 2 65 [(0, .inr (.inr (some 0))), (1, .inr (.inr (some 5)))] [] m := by
  unfold f_S_cp_65 at h
  refine x_aload_n C dX6_copyFrom_65 rfl ?_
  refine x_aload_n C dX6_copyFrom_66 rfl ?_
  refine x_getI C dX6_copyFrom_67 fF_X6_52 rfl rfl ?_
  refine x_putI C dX6_copyFrom_70 fF_X6_52 rfl rfl ?_
  refine x_aload_n C dX6_copyFrom_73 rfl ?_
  refine x_aload_n C dX6_copyFrom_74 rfl ?_
  refine x_getI C dX6_copyFrom_75 fF_X6_24 rfl rfl ?_
  refine x_putI C dX6_copyFrom_78 fF_X6_24 rfl rfl ?_
  refine x_aload_n C dX6_copyFrom_81 rfl ?_
  refine x_aload_n C dX6_copyFrom_82 rfl ?_
  refine x_getI C dX6_copyFrom_83 fF_X6_31 rfl rfl ?_
  refine x_putI C dX6_copyFrom_86 fF_X6_31 rfl rfl ?_
  refine x_aload_n C dX6_copyFrom_89 rfl ?_
  refine x_aload_n C dX6_copyFrom_90 rfl ?_
  refine x_getI C dX6_copyFrom_91 fF_X6_34 rfl rfl ?_
  refine x_putI C dX6_copyFrom_94 fF_X6_34 rfl rfl ?_
  refine x_loc [(0, .inr (.inr (some 0))), (1, .inr (.inr (some 5)))] ⟨rfl, rfl, trivial⟩ ?_
  exact t_S_cp_97 hd9 C hR _ h
def f_S_cp_42 (m : xM) : Option (xM) :=
     (if xcb 0 0 10 10 10 then f_S_cp_65 (xu (xcp m 9 4 (0) (0) (10)) 0 4 ((xcp m 9 4 (0) (0) (10)) 5 4))
      else none)
set_option maxRecDepth 1000000 in
set_option maxHeartbeats 4000000 in
theorem t_S_cp_42 {Γ : xG} {d : Nat} (hd9 : 1 ≤ d) (C : xC Γ lay_S2 RX6 cX6_copyFrom 2 d) {m9 : xM} (hR : xRv Γ lay_S2 cX6_copyFrom m9) (m : xM) (h : f_S_cp_42 m = some m9) : xW Γ lay_S2 2 42 [(0, .inr (.inr (some 0))), (1, .inr (.inr (some 5)))] [] m := by
  unfold f_S_cp_42 at h
  refine x_aload_n C dX6_copyFrom_42 rfl ?_
  refine x_getR C dX6_copyFrom_43 fF_X6_21 rfl rfl ?_
  refine x_iconst C dX6_copyFrom_46 ?_
  refine x_aload_n C dX6_copyFrom_47 rfl ?_
  refine x_getR C dX6_copyFrom_48 fF_X6_21 rfl rfl ?_
  refine x_iconst C dX6_copyFrom_51 ?_
  refine x_bipush C dX6_copyFrom_52 (by decide) ?_
  refine x_copy C dX6_copyFrom_54 (xin_17 _ (List.mem_of_getElem? (i := 9) rfl)) gm_copy_n gm_copy_s gm_copy_i (by omega) (Nat.le_of_ble_eq_true rfl) rfl rfl h (fun h => ?_)
  refine x_aload_n C dX6_copyFrom_57 rfl ?_
  refine x_aload_n C dX6_copyFrom_58 rfl ?_
  refine x_getI C dX6_copyFrom_59 fF_X6_28 rfl rfl ?_
  refine x_putI C dX6_copyFrom_62 fF_X6_28 rfl rfl ?_
  refine x_loc [(0, .inr (.inr (some 0))), (1, .inr (.inr (some 5)))] ⟨rfl, rfl, trivial⟩ ?_
  exact t_S_cp_65 hd9 C hR _ h
def f_S_cp (m : xM) : Option (xM) :=
     (if xcb 0 0 5 5 5 then (if xcb 0 0 5 5 5 then (if xcb 0 0 4 4 4 then f_S_cp_42 (xcp (xcp (xcp m 6 1 (0) (0) (5)) 7 2 (0) (0) (5)) 8 3 (0) (0) (4))
      else none)
      else none)
      else none)
set_option maxRecDepth 1000000 in
set_option maxHeartbeats 4000000 in
theorem t_S_cp {Γ : xG} {d : Nat} (hd9 : 1 ≤ d) (C : xC Γ lay_S2 RX6 cX6_copyFrom 2 d) {m9 : xM} (hR : xRv Γ lay_S2 cX6_copyFrom m9) (m : xM) (h : f_S_cp m = some m9) : xW Γ lay_S2 2 0 [(0, .inr (.inr (some 0))), (1, .inr (.inr (some 5)))] [] m := by
  unfold f_S_cp at h
  refine x_aload_n C dX6_copyFrom_0 rfl ?_
  refine x_getR C dX6_copyFrom_1 fF_X6_9 rfl rfl ?_
  refine x_iconst C dX6_copyFrom_4 ?_
  refine x_aload_n C dX6_copyFrom_5 rfl ?_
  refine x_getR C dX6_copyFrom_6 fF_X6_9 rfl rfl ?_
  refine x_iconst C dX6_copyFrom_9 ?_
  refine x_iconst C dX6_copyFrom_10 ?_
  refine x_copy C dX6_copyFrom_11 (xin_17 _ (List.mem_of_getElem? (i := 9) rfl)) gm_copy_n gm_copy_s gm_copy_i (by omega) (Nat.le_of_ble_eq_true rfl) rfl rfl h (fun h => ?_)
  refine x_aload_n C dX6_copyFrom_14 rfl ?_
  refine x_getR C dX6_copyFrom_15 fF_X6_15 rfl rfl ?_
  refine x_iconst C dX6_copyFrom_18 ?_
  refine x_aload_n C dX6_copyFrom_19 rfl ?_
  refine x_getR C dX6_copyFrom_20 fF_X6_15 rfl rfl ?_
  refine x_iconst C dX6_copyFrom_23 ?_
  refine x_iconst C dX6_copyFrom_24 ?_
  refine x_copy C dX6_copyFrom_25 (xin_17 _ (List.mem_of_getElem? (i := 9) rfl)) gm_copy_n gm_copy_s gm_copy_i (by omega) (Nat.le_of_ble_eq_true rfl) rfl rfl h (fun h => ?_)
  refine x_aload_n C dX6_copyFrom_28 rfl ?_
  refine x_getR C dX6_copyFrom_29 fF_X6_18 rfl rfl ?_
  refine x_iconst C dX6_copyFrom_32 ?_
  refine x_aload_n C dX6_copyFrom_33 rfl ?_
  refine x_getR C dX6_copyFrom_34 fF_X6_18 rfl rfl ?_
  refine x_iconst C dX6_copyFrom_37 ?_
  refine x_iconst C dX6_copyFrom_38 ?_
  refine x_copy C dX6_copyFrom_39 (xin_17 _ (List.mem_of_getElem? (i := 9) rfl)) gm_copy_n gm_copy_s gm_copy_i (by omega) (Nat.le_of_ble_eq_true rfl) rfl rfl h (fun h => ?_)
  refine x_loc [(0, .inr (.inr (some 0))), (1, .inr (.inr (some 5)))] ⟨rfl, rfl, trivial⟩ ?_
  exact t_S_cp_42 hd9 C hR _ h
theorem c_S_cp (l : Launch) (m m9 : xM) (h : f_S_cp m = some m9) : xMet l yX6_copyFrom cX6_copyFrom 2 none 1 lay_S2 [.inr (.inr (some 0)), .inr (.inr (some 5))] m none m9 :=
  xMet_v (by decide +kernel) (Nat.le_of_ble_eq_true rfl) (fun Γ C hR hl9 => t_S_cp (Nat.le_refl _) C hR m h)
theorem dX6_greatestRate_0 : decode cX6_greatestRate 0 = .ok (.iconst (-1), 1) := by decide +kernel
theorem dX6_greatestRate_1 : decode cX6_greatestRate 1 = .ok (.istore_n 2, 1) := by decide +kernel
theorem dX6_greatestRate_2 : decode cX6_greatestRate 2 = .ok (.iconst 0, 1) := by decide +kernel
theorem dX6_greatestRate_3 : decode cX6_greatestRate 3 = .ok (.istore_n 3, 1) := by decide +kernel
theorem dX6_greatestRate_4 : decode cX6_greatestRate 4 = .ok (.iload_n 3, 1) := by decide +kernel
theorem dX6_greatestRate_5 : decode cX6_greatestRate 5 = .ok (.aload_n 0, 1) := by decide +kernel
theorem dX6_greatestRate_6 : decode cX6_greatestRate 6 = .ok (.getfield 28, 3) := by decide +kernel
theorem dX6_greatestRate_9 : decode cX6_greatestRate 9 = .ok (.if_icmp .ge 30, 3) := by decide +kernel
theorem dX6_greatestRate_12 : decode cX6_greatestRate 12 = .ok (.iload_n 3, 1) := by decide +kernel
theorem dX6_greatestRate_13 : decode cX6_greatestRate 13 = .ok (.aload_n 0, 1) := by decide +kernel
theorem dX6_greatestRate_14 : decode cX6_greatestRate 14 = .ok (.getfield 15, 3) := by decide +kernel
theorem dX6_greatestRate_17 : decode cX6_greatestRate 17 = .ok (.arraylength, 1) := by decide +kernel
theorem dX6_greatestRate_18 : decode cX6_greatestRate 18 = .ok (.if_icmp .ge 21, 3) := by decide +kernel
theorem dX6_greatestRate_21 : decode cX6_greatestRate 21 = .ok (.aload_n 0, 1) := by decide +kernel
theorem dX6_greatestRate_22 : decode cX6_greatestRate 22 = .ok (.getfield 15, 3) := by decide +kernel
theorem dX6_greatestRate_25 : decode cX6_greatestRate 25 = .ok (.iload_n 3, 1) := by decide +kernel
theorem dX6_greatestRate_26 : decode cX6_greatestRate 26 = .ok (.iaload, 1) := by decide +kernel
theorem dX6_greatestRate_27 : decode cX6_greatestRate 27 = .ok (.iload_n 1, 1) := by decide +kernel
theorem dX6_greatestRate_28 : decode cX6_greatestRate 28 = .ok (.if_icmp .gt 5, 3) := by decide +kernel
theorem dX6_greatestRate_31 : decode cX6_greatestRate 31 = .ok (.iload_n 3, 1) := by decide +kernel
theorem dX6_greatestRate_32 : decode cX6_greatestRate 32 = .ok (.istore_n 2, 1) := by decide +kernel
theorem dX6_greatestRate_33 : decode cX6_greatestRate 33 = .ok (.iinc 3 1, 3) := by decide +kernel
theorem dX6_greatestRate_36 : decode cX6_greatestRate 36 = .ok (.goto (-32), 3) := by decide +kernel
theorem dX6_greatestRate_39 : decode cX6_greatestRate 39 = .ok (.iload_n 2, 1) := by decide +kernel
theorem dX6_greatestRate_40 : decode cX6_greatestRate 40 = .ok (.ireturn, 1) := by decide +kernel
def f_S_greatest_33 (q : Int) (m : xM) (k4 : Int → Int → Option (Int)) (x2 : Int) (x3 : Int) : Option (Int) :=
     k4 x2 (x3 + 1)
set_option maxRecDepth 1000000 in
set_option maxHeartbeats 4000000 in
theorem t_S_greatest_33 {Γ : xG} {d : Nat} (hd9 : 1 ≤ d) (C : xC Γ lay_S RX6 cX6_greatestRate 4 d) (q : Int) {r : Int} {m : xM} (hR : xRi Γ lay_S cX6_greatestRate r m) {k4 : Int → Int → Option (Int)} (hk4 : ∀ (x2 : Int) (x3 : Int), k4 x2 x3 = some r → xW Γ lay_S 4 4 [(0, .inr (.inr (some 0))), (1, .inl q), (2, .inl x2), (3, .inl x3)] [] m) (x2 : Int) (x3 : Int) (h : f_S_greatest_33 q m k4 x2 x3 = some r) : xW Γ lay_S 4 33 [(0, .inr (.inr (some 0))), (1, .inl q), (2, .inl x2), (3, .inl x3)] [] m := by
  unfold f_S_greatest_33 at h
  refine x_iinc C dX6_greatestRate_33 (by decide) rfl ?_
  refine x_goto C 4 dX6_greatestRate_36 (by decide) ?_
  refine x_loc [(0, .inr (.inr (some 0))), (1, .inl q), (2, .inl x2), (3, .inl (x3 + 1))] ⟨rfl, rfl, rfl, rfl, trivial⟩ ?_
  exact hk4 _ _ h
def f_S_greatest_4 (q : Int) (m : xM) : Nat → Int → Int → Option (Int)
  | 0, _, _ => none
  | n + 1, x2, x3 =>
     (if xw x3 < xw (m 0 4) then (if xw x3 < xw 5 then (if xib x3 5 then (if xw q < xw (m 2 (xix x3)) then f_S_greatest_33 q m (f_S_greatest_4 q m n) x2 x3
      else f_S_greatest_33 q m (f_S_greatest_4 q m n) x3 x3)
      else none)
      else some x2)
      else some x2)
set_option maxRecDepth 1000000 in
set_option maxHeartbeats 4000000 in
theorem t_S_greatest_4 {Γ : xG} {d : Nat} (hd9 : 1 ≤ d) (C : xC Γ lay_S RX6 cX6_greatestRate 4 d) (q : Int) {r : Int} {m : xM} (hR : xRi Γ lay_S cX6_greatestRate r m) : ∀ (n : Nat) (x2 : Int) (x3 : Int), f_S_greatest_4 q m n x2 x3 = some r → xW Γ lay_S 4 4 [(0, .inr (.inr (some 0))), (1, .inl q), (2, .inl x2), (3, .inl x3)] [] m := by
  intro n
  induction n with
  | zero => intro _ _ h; cases h
  | succ n ih =>
    intro x2 x3 h
    rw [f_S_greatest_4] at h
    refine x_iload_n C dX6_greatestRate_4 rfl ?_
    refine x_aload_n C dX6_greatestRate_5 rfl ?_
    refine x_getI C dX6_greatestRate_6 fF_X6_28 rfl rfl ?_
    refine x_icmp_ge C 39 dX6_greatestRate_9 (by decide) h (fun h => ?_) (fun h => ?_)
    · refine x_iload_n C dX6_greatestRate_39 rfl ?_
      exact x_ireturnP hR dX6_greatestRate_40 h
    · refine x_iload_n C dX6_greatestRate_12 rfl ?_
      refine x_aload_n C dX6_greatestRate_13 rfl ?_
      refine x_getR C dX6_greatestRate_14 fF_X6_15 rfl rfl ?_
      refine x_len C dX6_greatestRate_17 rfl ?_
      refine x_icmp_ge C 39 dX6_greatestRate_18 (by decide) h (fun h => ?_) (fun h => ?_)
      · refine x_iload_n C dX6_greatestRate_39 rfl ?_
        exact x_ireturnP hR dX6_greatestRate_40 h
      · refine x_aload_n C dX6_greatestRate_21 rfl ?_
        refine x_getR C dX6_greatestRate_22 fF_X6_15 rfl rfl ?_
        refine x_iload_n C dX6_greatestRate_25 rfl ?_
        refine x_iaload C dX6_greatestRate_26 rfl h (fun h => ?_)
        refine x_iload_n C dX6_greatestRate_27 rfl ?_
        refine x_icmp_gt C 33 dX6_greatestRate_28 (by decide) h (fun h => ?_) (fun h => ?_)
        · refine x_loc [(0, .inr (.inr (some 0))), (1, .inl q), (2, .inl x2), (3, .inl x3)] ⟨rfl, rfl, rfl, rfl, trivial⟩ ?_
          exact t_S_greatest_33 hd9 C _ hR ih _ _ h
        · refine x_iload_n C dX6_greatestRate_31 rfl ?_
          refine x_istore_n C dX6_greatestRate_32 (by decide) ?_
          refine x_loc [(0, .inr (.inr (some 0))), (1, .inl q), (2, .inl x3), (3, .inl x3)] ⟨rfl, rfl, rfl, rfl, trivial⟩ ?_
          exact t_S_greatest_33 hd9 C _ hR ih _ _ h
def f_S_greatest (q : Int) (m : xM) : Option (Int) :=
     f_S_greatest_4 q m fu (-1) 0
set_option maxRecDepth 1000000 in
set_option maxHeartbeats 4000000 in
theorem t_S_greatest {Γ : xG} {d : Nat} (hd9 : 1 ≤ d) (C : xC Γ lay_S RX6 cX6_greatestRate 4 d) (q : Int) {r : Int} {m : xM} (hR : xRi Γ lay_S cX6_greatestRate r m) (h : f_S_greatest q m = some r) : xW Γ lay_S 4 0 [(0, .inr (.inr (some 0))), (1, .inl q)] [] m := by
  unfold f_S_greatest at h
  refine x_iconst C dX6_greatestRate_0 ?_
  refine x_istore_n C dX6_greatestRate_1 (by decide) ?_
  refine x_iconst C dX6_greatestRate_2 ?_
  refine x_istore_n C dX6_greatestRate_3 (by decide) ?_
  refine x_loc [(0, .inr (.inr (some 0))), (1, .inl q), (2, .inl (-1)), (3, .inl 0)] ⟨rfl, rfl, rfl, rfl, trivial⟩ ?_
  exact t_S_greatest_4 hd9 C _ hR fu _ _ h
theorem c_S_greatest (l : Launch) (q : Int) (m : xM) (r : Int) (h : f_S_greatest q m = some r) : xMet l yX6_greatestRate cX6_greatestRate 4 (some .int) 1 lay_S [.inr (.inr (some 0)), .inl q] m (some (.inl r)) m :=
  xMet_i (by decide +kernel) (Nat.le_of_ble_eq_true rfl) (fun Γ C hR hl9 => t_S_greatest (Nat.le_refl _) C q hR h)
theorem dX6_speedOf_0 : decode cX6_speedOf 0 = .ok (.iload_n 1, 1) := by decide +kernel
theorem dX6_speedOf_1 : decode cX6_speedOf 1 = .ok (.ifCond .lt 21, 3) := by decide +kernel
theorem dX6_speedOf_4 : decode cX6_speedOf 4 = .ok (.iload_n 1, 1) := by decide +kernel
theorem dX6_speedOf_5 : decode cX6_speedOf 5 = .ok (.aload_n 0, 1) := by decide +kernel
theorem dX6_speedOf_6 : decode cX6_speedOf 6 = .ok (.getfield 9, 3) := by decide +kernel
theorem dX6_speedOf_9 : decode cX6_speedOf 9 = .ok (.arraylength, 1) := by decide +kernel
theorem dX6_speedOf_10 : decode cX6_speedOf 10 = .ok (.if_icmp .ge 12, 3) := by decide +kernel
theorem dX6_speedOf_13 : decode cX6_speedOf 13 = .ok (.aload_n 0, 1) := by decide +kernel
theorem dX6_speedOf_14 : decode cX6_speedOf 14 = .ok (.getfield 9, 3) := by decide +kernel
theorem dX6_speedOf_17 : decode cX6_speedOf 17 = .ok (.iload_n 1, 1) := by decide +kernel
theorem dX6_speedOf_18 : decode cX6_speedOf 18 = .ok (.iaload, 1) := by decide +kernel
theorem dX6_speedOf_19 : decode cX6_speedOf 19 = .ok (.goto 4, 3) := by decide +kernel
theorem dX6_speedOf_22 : decode cX6_speedOf 22 = .ok (.iconst 0, 1) := by decide +kernel
theorem dX6_speedOf_23 : decode cX6_speedOf 23 = .ok (.ireturn, 1) := by decide +kernel
def f_S_speed (z : Int) (m : xM) : Option (Int) :=
     (if xw z < 0 then some 0
      else (if xw z < xw 5 then (if xib z 5 then some (m 1 (xix z))
      else none)
      else some 0))
set_option maxRecDepth 1000000 in
set_option maxHeartbeats 4000000 in
theorem t_S_speed {Γ : xG} {d : Nat} (hd9 : 1 ≤ d) (C : xC Γ lay_S RX6 cX6_speedOf 2 d) (z : Int) {r : Int} {m : xM} (hR : xRi Γ lay_S cX6_speedOf r m) (h : f_S_speed z m = some r) : xW Γ lay_S 2 0 [(0, .inr (.inr (some 0))), (1, .inl z)] [] m := by
  unfold f_S_speed at h
  refine x_iload_n C dX6_speedOf_0 rfl ?_
  refine x_if_lt C 22 dX6_speedOf_1 (by decide) h (fun h => ?_) (fun h => ?_)
  · refine x_iconst C dX6_speedOf_22 ?_
    exact x_ireturnP hR dX6_speedOf_23 h
  · refine x_iload_n C dX6_speedOf_4 rfl ?_
    refine x_aload_n C dX6_speedOf_5 rfl ?_
    refine x_getR C dX6_speedOf_6 fF_X6_9 rfl rfl ?_
    refine x_len C dX6_speedOf_9 rfl ?_
    refine x_icmp_ge C 22 dX6_speedOf_10 (by decide) h (fun h => ?_) (fun h => ?_)
    · refine x_iconst C dX6_speedOf_22 ?_
      exact x_ireturnP hR dX6_speedOf_23 h
    · refine x_aload_n C dX6_speedOf_13 rfl ?_
      refine x_getR C dX6_speedOf_14 fF_X6_9 rfl rfl ?_
      refine x_iload_n C dX6_speedOf_17 rfl ?_
      refine x_iaload C dX6_speedOf_18 rfl h (fun h => ?_)
      refine x_goto C 23 dX6_speedOf_19 (by decide) ?_
      exact x_ireturnP hR dX6_speedOf_23 h
theorem c_S_speed (l : Launch) (z : Int) (m : xM) (r : Int) (h : f_S_speed z m = some r) : xMet l yX6_speedOf cX6_speedOf 2 (some .int) 1 lay_S [.inr (.inr (some 0)), .inl z] m (some (.inl r)) m :=
  xMet_i (by decide +kernel) (Nat.le_of_ble_eq_true rfl) (fun Γ C hR hl9 => t_S_speed (Nat.le_refl _) C z hR h)
theorem dX6_canRiseFrom_0 : decode cX6_canRiseFrom 0 = .ok (.iload_n 1, 1) := by decide +kernel
theorem dX6_canRiseFrom_1 : decode cX6_canRiseFrom 1 = .ok (.iconst 1, 1) := by decide +kernel
theorem dX6_canRiseFrom_2 : decode cX6_canRiseFrom 2 = .ok (.iadd, 1) := by decide +kernel
theorem dX6_canRiseFrom_3 : decode cX6_canRiseFrom 3 = .ok (.istore_n 3, 1) := by decide +kernel
theorem dX6_canRiseFrom_4 : decode cX6_canRiseFrom 4 = .ok (.iload_n 3, 1) := by decide +kernel
theorem dX6_canRiseFrom_5 : decode cX6_canRiseFrom 5 = .ok (.ifCond .lt 34, 3) := by decide +kernel
theorem dX6_canRiseFrom_8 : decode cX6_canRiseFrom 8 = .ok (.iload_n 3, 1) := by decide +kernel
theorem dX6_canRiseFrom_9 : decode cX6_canRiseFrom 9 = .ok (.aload_n 0, 1) := by decide +kernel
theorem dX6_canRiseFrom_10 : decode cX6_canRiseFrom 10 = .ok (.getfield 28, 3) := by decide +kernel
theorem dX6_canRiseFrom_13 : decode cX6_canRiseFrom 13 = .ok (.if_icmp .ge 26, 3) := by decide +kernel
theorem dX6_canRiseFrom_16 : decode cX6_canRiseFrom 16 = .ok (.iload_n 3, 1) := by decide +kernel
theorem dX6_canRiseFrom_17 : decode cX6_canRiseFrom 17 = .ok (.aload_n 0, 1) := by decide +kernel
theorem dX6_canRiseFrom_18 : decode cX6_canRiseFrom 18 = .ok (.getfield 15, 3) := by decide +kernel
theorem dX6_canRiseFrom_21 : decode cX6_canRiseFrom 21 = .ok (.arraylength, 1) := by decide +kernel
theorem dX6_canRiseFrom_22 : decode cX6_canRiseFrom 22 = .ok (.if_icmp .ge 17, 3) := by decide +kernel
theorem dX6_canRiseFrom_25 : decode cX6_canRiseFrom 25 = .ok (.aload_n 0, 1) := by decide +kernel
theorem dX6_canRiseFrom_26 : decode cX6_canRiseFrom 26 = .ok (.getfield 15, 3) := by decide +kernel
theorem dX6_canRiseFrom_29 : decode cX6_canRiseFrom 29 = .ok (.iload_n 3, 1) := by decide +kernel
theorem dX6_canRiseFrom_30 : decode cX6_canRiseFrom 30 = .ok (.iaload, 1) := by decide +kernel
theorem dX6_canRiseFrom_31 : decode cX6_canRiseFrom 31 = .ok (.iload_n 2, 1) := by decide +kernel
theorem dX6_canRiseFrom_32 : decode cX6_canRiseFrom 32 = .ok (.if_icmp .gt 7, 3) := by decide +kernel
theorem dX6_canRiseFrom_35 : decode cX6_canRiseFrom 35 = .ok (.iconst 1, 1) := by decide +kernel
theorem dX6_canRiseFrom_36 : decode cX6_canRiseFrom 36 = .ok (.goto 4, 3) := by decide +kernel
theorem dX6_canRiseFrom_39 : decode cX6_canRiseFrom 39 = .ok (.iconst 0, 1) := by decide +kernel
theorem dX6_canRiseFrom_40 : decode cX6_canRiseFrom 40 = .ok (.ireturn, 1) := by decide +kernel
def f_S_rise (z : Int) (q : Int) (m : xM) : Option (Int) :=
     (if xw (z + 1) < 0 then some 0
      else (if xw (z + 1) < xw (m 0 4) then (if xw (z + 1) < xw 5 then (if xib (z + 1) 5 then (if xw q < xw (m 2 (xix (z + 1))) then some 0
      else some 1)
      else none)
      else some 0)
      else some 0))
set_option maxRecDepth 1000000 in
set_option maxHeartbeats 4000000 in
theorem t_S_rise {Γ : xG} {d : Nat} (hd9 : 1 ≤ d) (C : xC Γ lay_S RX6 cX6_canRiseFrom 4 d) (z : Int) (q : Int) {r : Int} {m : xM} (hR : xRz Γ lay_S cX6_canRiseFrom r m) (h : f_S_rise z q m = some r) : xW Γ lay_S 4 0 [(0, .inr (.inr (some 0))), (1, .inl z), (2, .inl q)] [] m := by
  unfold f_S_rise at h
  refine x_iload_n C dX6_canRiseFrom_0 rfl ?_
  refine x_iconst C dX6_canRiseFrom_1 ?_
  refine x_iadd C dX6_canRiseFrom_2 ?_
  refine x_istore_n C dX6_canRiseFrom_3 (by decide) ?_
  refine x_iload_n C dX6_canRiseFrom_4 rfl ?_
  refine x_if_lt C 39 dX6_canRiseFrom_5 (by decide) h (fun h => ?_) (fun h => ?_)
  · refine x_iconst C dX6_canRiseFrom_39 ?_
    exact x_zreturnP hR (by decide) dX6_canRiseFrom_40 h
  · refine x_iload_n C dX6_canRiseFrom_8 rfl ?_
    refine x_aload_n C dX6_canRiseFrom_9 rfl ?_
    refine x_getI C dX6_canRiseFrom_10 fF_X6_28 rfl rfl ?_
    refine x_icmp_ge C 39 dX6_canRiseFrom_13 (by decide) h (fun h => ?_) (fun h => ?_)
    · refine x_iconst C dX6_canRiseFrom_39 ?_
      exact x_zreturnP hR (by decide) dX6_canRiseFrom_40 h
    · refine x_iload_n C dX6_canRiseFrom_16 rfl ?_
      refine x_aload_n C dX6_canRiseFrom_17 rfl ?_
      refine x_getR C dX6_canRiseFrom_18 fF_X6_15 rfl rfl ?_
      refine x_len C dX6_canRiseFrom_21 rfl ?_
      refine x_icmp_ge C 39 dX6_canRiseFrom_22 (by decide) h (fun h => ?_) (fun h => ?_)
      · refine x_iconst C dX6_canRiseFrom_39 ?_
        exact x_zreturnP hR (by decide) dX6_canRiseFrom_40 h
      · refine x_aload_n C dX6_canRiseFrom_25 rfl ?_
        refine x_getR C dX6_canRiseFrom_26 fF_X6_15 rfl rfl ?_
        refine x_iload_n C dX6_canRiseFrom_29 rfl ?_
        refine x_iaload C dX6_canRiseFrom_30 rfl h (fun h => ?_)
        refine x_iload_n C dX6_canRiseFrom_31 rfl ?_
        refine x_icmp_gt C 39 dX6_canRiseFrom_32 (by decide) h (fun h => ?_) (fun h => ?_)
        · refine x_iconst C dX6_canRiseFrom_39 ?_
          exact x_zreturnP hR (by decide) dX6_canRiseFrom_40 h
        · refine x_iconst C dX6_canRiseFrom_35 ?_
          refine x_goto C 40 dX6_canRiseFrom_36 (by decide) ?_
          exact x_zreturnP hR (by decide) dX6_canRiseFrom_40 h
theorem c_S_rise (l : Launch) (z : Int) (q : Int) (m : xM) (r : Int) (h : f_S_rise z q m = some r) : xMet l yX6_canRiseFrom cX6_canRiseFrom 4 (some .boolean) 1 lay_S [.inr (.inr (some 0)), .inl z, .inl q] m (some (.inl r)) m :=
  xMet_z (by decide +kernel) (Nat.le_of_ble_eq_true rfl) (fun Γ C hR hl9 => t_S_rise (Nat.le_refl _) C z q hR h)
theorem dX6_stepTicks_0 : decode cX6_stepTicks 0 = .ok (.iload_n 1, 1) := by decide +kernel
theorem dX6_stepTicks_1 : decode cX6_stepTicks 1 = .ok (.ifCond .lt 21, 3) := by decide +kernel
theorem dX6_stepTicks_4 : decode cX6_stepTicks 4 = .ok (.iload_n 1, 1) := by decide +kernel
theorem dX6_stepTicks_5 : decode cX6_stepTicks 5 = .ok (.aload_n 0, 1) := by decide +kernel
theorem dX6_stepTicks_6 : decode cX6_stepTicks 6 = .ok (.getfield 18, 3) := by decide +kernel
theorem dX6_stepTicks_9 : decode cX6_stepTicks 9 = .ok (.arraylength, 1) := by decide +kernel
theorem dX6_stepTicks_10 : decode cX6_stepTicks 10 = .ok (.if_icmp .ge 12, 3) := by decide +kernel
theorem dX6_stepTicks_13 : decode cX6_stepTicks 13 = .ok (.aload_n 0, 1) := by decide +kernel
theorem dX6_stepTicks_14 : decode cX6_stepTicks 14 = .ok (.getfield 18, 3) := by decide +kernel
theorem dX6_stepTicks_17 : decode cX6_stepTicks 17 = .ok (.iload_n 1, 1) := by decide +kernel
theorem dX6_stepTicks_18 : decode cX6_stepTicks 18 = .ok (.iaload, 1) := by decide +kernel
theorem dX6_stepTicks_19 : decode cX6_stepTicks 19 = .ok (.goto 4, 3) := by decide +kernel
theorem dX6_stepTicks_22 : decode cX6_stepTicks 22 = .ok (.iconst 0, 1) := by decide +kernel
theorem dX6_stepTicks_23 : decode cX6_stepTicks 23 = .ok (.ireturn, 1) := by decide +kernel
def f_S_step (z : Int) (m : xM) : Option (Int) :=
     (if xw z < 0 then some 0
      else (if xw z < xw 4 then (if xib z 4 then some (m 3 (xix z))
      else none)
      else some 0))
set_option maxRecDepth 1000000 in
set_option maxHeartbeats 4000000 in
theorem t_S_step {Γ : xG} {d : Nat} (hd9 : 1 ≤ d) (C : xC Γ lay_S RX6 cX6_stepTicks 2 d) (z : Int) {r : Int} {m : xM} (hR : xRi Γ lay_S cX6_stepTicks r m) (h : f_S_step z m = some r) : xW Γ lay_S 2 0 [(0, .inr (.inr (some 0))), (1, .inl z)] [] m := by
  unfold f_S_step at h
  refine x_iload_n C dX6_stepTicks_0 rfl ?_
  refine x_if_lt C 22 dX6_stepTicks_1 (by decide) h (fun h => ?_) (fun h => ?_)
  · refine x_iconst C dX6_stepTicks_22 ?_
    exact x_ireturnP hR dX6_stepTicks_23 h
  · refine x_iload_n C dX6_stepTicks_4 rfl ?_
    refine x_aload_n C dX6_stepTicks_5 rfl ?_
    refine x_getR C dX6_stepTicks_6 fF_X6_18 rfl rfl ?_
    refine x_len C dX6_stepTicks_9 rfl ?_
    refine x_icmp_ge C 22 dX6_stepTicks_10 (by decide) h (fun h => ?_) (fun h => ?_)
    · refine x_iconst C dX6_stepTicks_22 ?_
      exact x_ireturnP hR dX6_stepTicks_23 h
    · refine x_aload_n C dX6_stepTicks_13 rfl ?_
      refine x_getR C dX6_stepTicks_14 fF_X6_18 rfl rfl ?_
      refine x_iload_n C dX6_stepTicks_17 rfl ?_
      refine x_iaload C dX6_stepTicks_18 rfl h (fun h => ?_)
      refine x_goto C 23 dX6_stepTicks_19 (by decide) ?_
      exact x_ireturnP hR dX6_stepTicks_23 h
theorem c_S_step (l : Launch) (z : Int) (m : xM) (r : Int) (h : f_S_step z m = some r) : xMet l yX6_stepTicks cX6_stepTicks 2 (some .int) 1 lay_S [.inr (.inr (some 0)), .inl z] m (some (.inl r)) m :=
  xMet_i (by decide +kernel) (Nat.le_of_ble_eq_true rfl) (fun Γ C hR hl9 => t_S_step (Nat.le_refl _) C z hR h)
theorem dX6_trainingTicks_0 : decode cX6_trainingTicks 0 = .ok (.aload_n 0, 1) := by decide +kernel
theorem dX6_trainingTicks_1 : decode cX6_trainingTicks 1 = .ok (.getfield 18, 3) := by decide +kernel
theorem dX6_trainingTicks_4 : decode cX6_trainingTicks 4 = .ok (.iconst 0, 1) := by decide +kernel
theorem dX6_trainingTicks_5 : decode cX6_trainingTicks 5 = .ok (.iaload, 1) := by decide +kernel
theorem dX6_trainingTicks_6 : decode cX6_trainingTicks 6 = .ok (.aload_n 0, 1) := by decide +kernel
theorem dX6_trainingTicks_7 : decode cX6_trainingTicks 7 = .ok (.getfield 18, 3) := by decide +kernel
theorem dX6_trainingTicks_10 : decode cX6_trainingTicks 10 = .ok (.iconst 1, 1) := by decide +kernel
theorem dX6_trainingTicks_11 : decode cX6_trainingTicks 11 = .ok (.iaload, 1) := by decide +kernel
theorem dX6_trainingTicks_12 : decode cX6_trainingTicks 12 = .ok (.iadd, 1) := by decide +kernel
theorem dX6_trainingTicks_13 : decode cX6_trainingTicks 13 = .ok (.aload_n 0, 1) := by decide +kernel
theorem dX6_trainingTicks_14 : decode cX6_trainingTicks 14 = .ok (.getfield 18, 3) := by decide +kernel
theorem dX6_trainingTicks_17 : decode cX6_trainingTicks 17 = .ok (.iconst 2, 1) := by decide +kernel
theorem dX6_trainingTicks_18 : decode cX6_trainingTicks 18 = .ok (.iaload, 1) := by decide +kernel
theorem dX6_trainingTicks_19 : decode cX6_trainingTicks 19 = .ok (.iadd, 1) := by decide +kernel
theorem dX6_trainingTicks_20 : decode cX6_trainingTicks 20 = .ok (.aload_n 0, 1) := by decide +kernel
theorem dX6_trainingTicks_21 : decode cX6_trainingTicks 21 = .ok (.getfield 18, 3) := by decide +kernel
theorem dX6_trainingTicks_24 : decode cX6_trainingTicks 24 = .ok (.iconst 3, 1) := by decide +kernel
theorem dX6_trainingTicks_25 : decode cX6_trainingTicks 25 = .ok (.iaload, 1) := by decide +kernel
theorem dX6_trainingTicks_26 : decode cX6_trainingTicks 26 = .ok (.iadd, 1) := by decide +kernel
theorem dX6_trainingTicks_27 : decode cX6_trainingTicks 27 = .ok (.ireturn, 1) := by decide +kernel
def f_S_ticks (m : xM) : Option (Int) :=
     (if xib 0 4 then (if xib 1 4 then (if xib 2 4 then (if xib 3 4 then some ((((m 3 0) + (m 3 1)) + (m 3 2)) + (m 3 3))
      else none)
      else none)
      else none)
      else none)
set_option maxRecDepth 1000000 in
set_option maxHeartbeats 4000000 in
theorem t_S_ticks {Γ : xG} {d : Nat} (hd9 : 1 ≤ d) (C : xC Γ lay_S RX6 cX6_trainingTicks 1 d) {r : Int} {m : xM} (hR : xRi Γ lay_S cX6_trainingTicks r m) (h : f_S_ticks m = some r) : xW Γ lay_S 1 0 [(0, .inr (.inr (some 0)))] [] m := by
  unfold f_S_ticks at h
  refine x_aload_n C dX6_trainingTicks_0 rfl ?_
  refine x_getR C dX6_trainingTicks_1 fF_X6_18 rfl rfl ?_
  refine x_iconst C dX6_trainingTicks_4 ?_
  refine x_iaload C dX6_trainingTicks_5 rfl h (fun h => ?_)
  refine x_aload_n C dX6_trainingTicks_6 rfl ?_
  refine x_getR C dX6_trainingTicks_7 fF_X6_18 rfl rfl ?_
  refine x_iconst C dX6_trainingTicks_10 ?_
  refine x_iaload C dX6_trainingTicks_11 rfl h (fun h => ?_)
  refine x_iadd C dX6_trainingTicks_12 ?_
  refine x_aload_n C dX6_trainingTicks_13 rfl ?_
  refine x_getR C dX6_trainingTicks_14 fF_X6_18 rfl rfl ?_
  refine x_iconst C dX6_trainingTicks_17 ?_
  refine x_iaload C dX6_trainingTicks_18 rfl h (fun h => ?_)
  refine x_iadd C dX6_trainingTicks_19 ?_
  refine x_aload_n C dX6_trainingTicks_20 rfl ?_
  refine x_getR C dX6_trainingTicks_21 fF_X6_18 rfl rfl ?_
  refine x_iconst C dX6_trainingTicks_24 ?_
  refine x_iaload C dX6_trainingTicks_25 rfl h (fun h => ?_)
  refine x_iadd C dX6_trainingTicks_26 ?_
  exact x_ireturnP hR dX6_trainingTicks_27 h
theorem c_S_ticks (l : Launch) (m : xM) (r : Int) (h : f_S_ticks m = some r) : xMet l yX6_trainingTicks cX6_trainingTicks 1 (some .int) 1 lay_S [.inr (.inr (some 0))] m (some (.inl r)) m :=
  xMet_i (by decide +kernel) (Nat.le_of_ble_eq_true rfl) (fun Γ C hR hl9 => t_S_ticks (Nat.le_refl _) C hR h)
theorem dX6_noiseOf_0 : decode cX6_noiseOf 0 = .ok (.iload_n 1, 1) := by decide +kernel
theorem dX6_noiseOf_1 : decode cX6_noiseOf 1 = .ok (.ifCond .lt 10, 3) := by decide +kernel
theorem dX6_noiseOf_4 : decode cX6_noiseOf 4 = .ok (.aload_n 0, 1) := by decide +kernel
theorem dX6_noiseOf_5 : decode cX6_noiseOf 5 = .ok (.getfield 52, 3) := by decide +kernel
theorem dX6_noiseOf_8 : decode cX6_noiseOf 8 = .ok (.ifCond .gt 5, 3) := by decide +kernel
theorem dX6_noiseOf_11 : decode cX6_noiseOf 11 = .ok (.iconst 0, 1) := by decide +kernel
theorem dX6_noiseOf_12 : decode cX6_noiseOf 12 = .ok (.ireturn, 1) := by decide +kernel
theorem dX6_noiseOf_13 : decode cX6_noiseOf 13 = .ok (.iload_n 1, 1) := by decide +kernel
theorem dX6_noiseOf_14 : decode cX6_noiseOf 14 = .ok (.aload_n 0, 1) := by decide +kernel
theorem dX6_noiseOf_15 : decode cX6_noiseOf 15 = .ok (.getfield 52, 3) := by decide +kernel
theorem dX6_noiseOf_18 : decode cX6_noiseOf 18 = .ok (.irem, 1) := by decide +kernel
theorem dX6_noiseOf_19 : decode cX6_noiseOf 19 = .ok (.istore_n 2, 1) := by decide +kernel
theorem dX6_noiseOf_20 : decode cX6_noiseOf 20 = .ok (.iload_n 2, 1) := by decide +kernel
theorem dX6_noiseOf_21 : decode cX6_noiseOf 21 = .ok (.aload_n 0, 1) := by decide +kernel
theorem dX6_noiseOf_22 : decode cX6_noiseOf 22 = .ok (.getfield 21, 3) := by decide +kernel
theorem dX6_noiseOf_25 : decode cX6_noiseOf 25 = .ok (.arraylength, 1) := by decide +kernel
theorem dX6_noiseOf_26 : decode cX6_noiseOf 26 = .ok (.if_icmp .ge 12, 3) := by decide +kernel
theorem dX6_noiseOf_29 : decode cX6_noiseOf 29 = .ok (.aload_n 0, 1) := by decide +kernel
theorem dX6_noiseOf_30 : decode cX6_noiseOf 30 = .ok (.getfield 21, 3) := by decide +kernel
theorem dX6_noiseOf_33 : decode cX6_noiseOf 33 = .ok (.iload_n 2, 1) := by decide +kernel
theorem dX6_noiseOf_34 : decode cX6_noiseOf 34 = .ok (.iaload, 1) := by decide +kernel
theorem dX6_noiseOf_35 : decode cX6_noiseOf 35 = .ok (.goto 4, 3) := by decide +kernel
theorem dX6_noiseOf_38 : decode cX6_noiseOf 38 = .ok (.iconst 0, 1) := by decide +kernel
theorem dX6_noiseOf_39 : decode cX6_noiseOf 39 = .ok (.ireturn, 1) := by decide +kernel
def f_S_noise (f : Int) (m : xM) : Option (Int) :=
     (if xw f < 0 then some 0
      else (if 0 < xw (m 0 5) then (if xw (m 0 5) = 0 then none
      else (if xw (xirem f (m 0 5)) < xw 10 then (if xib (xirem f (m 0 5)) 10 then some (m 4 (xix (xirem f (m 0 5))))
      else none)
      else some 0))
      else some 0))
set_option maxRecDepth 1000000 in
set_option maxHeartbeats 4000000 in
theorem t_S_noise {Γ : xG} {d : Nat} (hd9 : 1 ≤ d) (C : xC Γ lay_S RX6 cX6_noiseOf 3 d) (f : Int) {r : Int} {m : xM} (hR : xRi Γ lay_S cX6_noiseOf r m) (h : f_S_noise f m = some r) : xW Γ lay_S 3 0 [(0, .inr (.inr (some 0))), (1, .inl f)] [] m := by
  unfold f_S_noise at h
  refine x_iload_n C dX6_noiseOf_0 rfl ?_
  refine x_if_lt C 11 dX6_noiseOf_1 (by decide) h (fun h => ?_) (fun h => ?_)
  · refine x_iconst C dX6_noiseOf_11 ?_
    exact x_ireturnP hR dX6_noiseOf_12 h
  · refine x_aload_n C dX6_noiseOf_4 rfl ?_
    refine x_getI C dX6_noiseOf_5 fF_X6_52 rfl rfl ?_
    refine x_if_gt C 13 dX6_noiseOf_8 (by decide) h (fun h => ?_) (fun h => ?_)
    · refine x_iload_n C dX6_noiseOf_13 rfl ?_
      refine x_aload_n C dX6_noiseOf_14 rfl ?_
      refine x_getI C dX6_noiseOf_15 fF_X6_52 rfl rfl ?_
      refine x_irem C dX6_noiseOf_18 h (fun h9 h => ?_)
      refine x_istore_n C dX6_noiseOf_19 (by decide) ?_
      refine x_iload_n C dX6_noiseOf_20 rfl ?_
      refine x_aload_n C dX6_noiseOf_21 rfl ?_
      refine x_getR C dX6_noiseOf_22 fF_X6_21 rfl rfl ?_
      refine x_len C dX6_noiseOf_25 rfl ?_
      refine x_icmp_ge C 38 dX6_noiseOf_26 (by decide) h (fun h => ?_) (fun h => ?_)
      · refine x_iconst C dX6_noiseOf_38 ?_
        exact x_ireturnP hR dX6_noiseOf_39 h
      · refine x_aload_n C dX6_noiseOf_29 rfl ?_
        refine x_getR C dX6_noiseOf_30 fF_X6_21 rfl rfl ?_
        refine x_iload_n C dX6_noiseOf_33 rfl ?_
        refine x_iaload C dX6_noiseOf_34 rfl h (fun h => ?_)
        refine x_goto C 39 dX6_noiseOf_35 (by decide) ?_
        exact x_ireturnP hR dX6_noiseOf_39 h
    · refine x_iconst C dX6_noiseOf_11 ?_
      exact x_ireturnP hR dX6_noiseOf_12 h
theorem c_S_noise (l : Launch) (f : Int) (m : xM) (r : Int) (h : f_S_noise f m = some r) : xMet l yX6_noiseOf cX6_noiseOf 3 (some .int) 1 lay_S [.inr (.inr (some 0)), .inl f] m (some (.inl r)) m :=
  xMet_i (by decide +kernel) (Nat.le_of_ble_eq_true rfl) (fun Γ C hR hl9 => t_S_noise (Nat.le_refl _) C f hR h)
theorem fF_X9_24 : xF RX9 24 10 4 .int false := ⟨RX9, TX9, 6, tyX9, rfl, by decide, (xin_19 _ (List.mem_of_getElem? (i := 10) rfl)), rfl, inlX9, tyX9_ok, nmX9, rfl, rfl⟩
theorem fF_X9_28 : xF RX9 28 10 5 .int false := ⟨RX9, TX9, 6, tyX9, rfl, by decide, (xin_19 _ (List.mem_of_getElem? (i := 11) rfl)), rfl, inlX9, tyX9_ok, nmX9, rfl, rfl⟩
theorem fF_X9_9 : xF RX9 9 10 0 (.array .int) true := ⟨RX9, TX9, 6, tyX9, rfl, by decide, (xin_5 _ (List.mem_of_getElem? (i := 15) rfl)), rfl, inlX9, tyX9_ok, nmX9, rfl, rfl⟩
theorem fF_X9_15 : xF RX9 15 10 1 (.array .int) true := ⟨RX9, TX9, 6, tyX9, rfl, by decide, (xin_5 _ (List.mem_of_getElem? (i := 16) rfl)), rfl, inlX9, tyX9_ok, nmX9, rfl, rfl⟩
theorem fF_X9_18 : xF RX9 18 10 2 (.array .int) true := ⟨RX9, TX9, 6, tyX9, rfl, by decide, (xin_5 _ (List.mem_of_getElem? (i := 17) rfl)), rfl, inlX9, tyX9_ok, nmX9, rfl, rfl⟩
theorem fF_X9_21 : xF RX9 21 10 3 (.array .int) true := ⟨RX9, TX9, 6, tyX9, rfl, by decide, (xin_5 _ (List.mem_of_getElem? (i := 18) rfl)), rfl, inlX9, tyX9_ok, nmX9, rfl, rfl⟩
theorem dX9_copyFrom_0 : decode cX9_copyFrom 0 = .ok (.aload_n 0, 1) := by decide +kernel
theorem dX9_copyFrom_1 : decode cX9_copyFrom 1 = .ok (.aload_n 1, 1) := by decide +kernel
theorem dX9_copyFrom_2 : decode cX9_copyFrom 2 = .ok (.getfield 24, 3) := by decide +kernel
theorem dX9_copyFrom_5 : decode cX9_copyFrom 5 = .ok (.putfield 24, 3) := by decide +kernel
theorem dX9_copyFrom_8 : decode cX9_copyFrom 8 = .ok (.aload_n 0, 1) := by decide +kernel
theorem dX9_copyFrom_9 : decode cX9_copyFrom 9 = .ok (.aload_n 1, 1) := by decide +kernel
theorem dX9_copyFrom_10 : decode cX9_copyFrom 10 = .ok (.getfield 28, 3) := by decide +kernel
theorem dX9_copyFrom_13 : decode cX9_copyFrom 13 = .ok (.putfield 28, 3) := by decide +kernel
theorem dX9_copyFrom_16 : decode cX9_copyFrom 16 = .ok (.aload_n 0, 1) := by decide +kernel
theorem dX9_copyFrom_17 : decode cX9_copyFrom 17 = .ok (.getfield 28, 3) := by decide +kernel
theorem dX9_copyFrom_20 : decode cX9_copyFrom 20 = .ok (.ifCond .ne 4, 3) := by decide +kernel
theorem dX9_copyFrom_23 : decode cX9_copyFrom 23 = .ok (.return_, 1) := by decide +kernel
theorem dX9_copyFrom_24 : decode cX9_copyFrom 24 = .ok (.aload_n 1, 1) := by decide +kernel
theorem dX9_copyFrom_25 : decode cX9_copyFrom 25 = .ok (.getfield 9, 3) := by decide +kernel
theorem dX9_copyFrom_28 : decode cX9_copyFrom 28 = .ok (.iconst 0, 1) := by decide +kernel
theorem dX9_copyFrom_29 : decode cX9_copyFrom 29 = .ok (.aload_n 0, 1) := by decide +kernel
theorem dX9_copyFrom_30 : decode cX9_copyFrom 30 = .ok (.getfield 9, 3) := by decide +kernel
theorem dX9_copyFrom_33 : decode cX9_copyFrom 33 = .ok (.iconst 0, 1) := by decide +kernel
theorem dX9_copyFrom_34 : decode cX9_copyFrom 34 = .ok (.bipush 64, 2) := by decide +kernel
theorem dX9_copyFrom_36 : decode cX9_copyFrom 36 = .ok (.invokestatic 31, 3) := by decide +kernel
theorem dX9_copyFrom_39 : decode cX9_copyFrom 39 = .ok (.aload_n 1, 1) := by decide +kernel
theorem dX9_copyFrom_40 : decode cX9_copyFrom 40 = .ok (.getfield 15, 3) := by decide +kernel
theorem dX9_copyFrom_43 : decode cX9_copyFrom 43 = .ok (.iconst 0, 1) := by decide +kernel
theorem dX9_copyFrom_44 : decode cX9_copyFrom 44 = .ok (.aload_n 0, 1) := by decide +kernel
theorem dX9_copyFrom_45 : decode cX9_copyFrom 45 = .ok (.getfield 15, 3) := by decide +kernel
theorem dX9_copyFrom_48 : decode cX9_copyFrom 48 = .ok (.iconst 0, 1) := by decide +kernel
theorem dX9_copyFrom_49 : decode cX9_copyFrom 49 = .ok (.bipush 64, 2) := by decide +kernel
theorem dX9_copyFrom_51 : decode cX9_copyFrom 51 = .ok (.invokestatic 31, 3) := by decide +kernel
theorem dX9_copyFrom_54 : decode cX9_copyFrom 54 = .ok (.aload_n 1, 1) := by decide +kernel
theorem dX9_copyFrom_55 : decode cX9_copyFrom 55 = .ok (.getfield 18, 3) := by decide +kernel
theorem dX9_copyFrom_58 : decode cX9_copyFrom 58 = .ok (.iconst 0, 1) := by decide +kernel
theorem dX9_copyFrom_59 : decode cX9_copyFrom 59 = .ok (.aload_n 0, 1) := by decide +kernel
theorem dX9_copyFrom_60 : decode cX9_copyFrom 60 = .ok (.getfield 18, 3) := by decide +kernel
theorem dX9_copyFrom_63 : decode cX9_copyFrom 63 = .ok (.iconst 0, 1) := by decide +kernel
theorem dX9_copyFrom_64 : decode cX9_copyFrom 64 = .ok (.bipush 64, 2) := by decide +kernel
theorem dX9_copyFrom_66 : decode cX9_copyFrom 66 = .ok (.invokestatic 31, 3) := by decide +kernel
theorem dX9_copyFrom_69 : decode cX9_copyFrom 69 = .ok (.aload_n 1, 1) := by decide +kernel
theorem dX9_copyFrom_70 : decode cX9_copyFrom 70 = .ok (.getfield 21, 3) := by decide +kernel
theorem dX9_copyFrom_73 : decode cX9_copyFrom 73 = .ok (.iconst 0, 1) := by decide +kernel
theorem dX9_copyFrom_74 : decode cX9_copyFrom 74 = .ok (.aload_n 0, 1) := by decide +kernel
theorem dX9_copyFrom_75 : decode cX9_copyFrom 75 = .ok (.getfield 21, 3) := by decide +kernel
theorem dX9_copyFrom_78 : decode cX9_copyFrom 78 = .ok (.iconst 0, 1) := by decide +kernel
theorem dX9_copyFrom_79 : decode cX9_copyFrom 79 = .ok (.bipush 64, 2) := by decide +kernel
theorem dX9_copyFrom_81 : decode cX9_copyFrom 81 = .ok (.invokestatic 31, 3) := by decide +kernel
theorem dX9_copyFrom_84 : decode cX9_copyFrom 84 = .ok (.return_, 1) := by decide +kernel
def f_W_cp_54 (m : xM) : Option (xM) :=
     (if xcb 0 0 64 64 64 then (if xcb 0 0 64 64 64 then some (xcp (xcp m 8 3 (0) (0) (64)) 9 4 (0) (0) (64))
      else none)
      else none)
set_option maxRecDepth 1000000 in
set_option maxHeartbeats 4000000 in
theorem t_W_cp_54 {Γ : xG} {d : Nat} (hd9 : 1 ≤ d) (C : xC Γ lay_Wi2 RX9 cX9_copyFrom 2 d) {m9 : xM} (hR : xRv Γ lay_Wi2 cX9_copyFrom m9) (m : xM) (h : f_W_cp_54 m = some m9) : xW Γ lay_Wi2 2 54 [(0, .inr (.inr (some 0))), (1, .inr (.inr (some 5)))] [] m := by
  unfold f_W_cp_54 at h
  refine x_aload_n C dX9_copyFrom_54 rfl ?_
  refine x_getR C dX9_copyFrom_55 fF_X9_18 rfl rfl ?_
  refine x_iconst C dX9_copyFrom_58 ?_
  refine x_aload_n C dX9_copyFrom_59 rfl ?_
  refine x_getR C dX9_copyFrom_60 fF_X9_18 rfl rfl ?_
  refine x_iconst C dX9_copyFrom_63 ?_
  refine x_bipush C dX9_copyFrom_64 (by decide) ?_
  refine x_copy C dX9_copyFrom_66 (xin_19 _ (List.mem_of_getElem? (i := 12) rfl)) gm_copy_n gm_copy_s gm_copy_i (by omega) (Nat.le_of_ble_eq_true rfl) rfl rfl h (fun h => ?_)
  refine x_aload_n C dX9_copyFrom_69 rfl ?_
  refine x_getR C dX9_copyFrom_70 fF_X9_21 rfl rfl ?_
  refine x_iconst C dX9_copyFrom_73 ?_
  refine x_aload_n C dX9_copyFrom_74 rfl ?_
  refine x_getR C dX9_copyFrom_75 fF_X9_21 rfl rfl ?_
  refine x_iconst C dX9_copyFrom_78 ?_
  refine x_bipush C dX9_copyFrom_79 (by decide) ?_
  refine x_copy C dX9_copyFrom_81 (xin_19 _ (List.mem_of_getElem? (i := 12) rfl)) gm_copy_n gm_copy_s gm_copy_i (by omega) (Nat.le_of_ble_eq_true rfl) rfl rfl h (fun h => ?_)
  exact x_returnV hR dX9_copyFrom_84 h
def f_W_cp (m : xM) : Option (xM) :=
     (if xw (m 5 5) = 0 then some (xu (xu m 0 4 (m 5 4)) 0 5 (m 5 5))
      else (if xcb 0 0 64 64 64 then (if xcb 0 0 64 64 64 then f_W_cp_54 (xcp (xcp (xu (xu m 0 4 (m 5 4)) 0 5 (m 5 5)) 6 1 (0) (0) (64)) 7 2 (0) (0) (64))
      else none)
      else none))
set_option maxRecDepth 1000000 in
set_option maxHeartbeats 4000000 in
theorem t_W_cp {Γ : xG} {d : Nat} (hd9 : 1 ≤ d) (C : xC Γ lay_Wi2 RX9 cX9_copyFrom 2 d) {m9 : xM} (hR : xRv Γ lay_Wi2 cX9_copyFrom m9) (m : xM) (h : f_W_cp m = some m9) : xW Γ lay_Wi2 2 0 [(0, .inr (.inr (some 0))), (1, .inr (.inr (some 5)))] [] m := by
  unfold f_W_cp at h
  refine x_aload_n C dX9_copyFrom_0 rfl ?_
  refine x_aload_n C dX9_copyFrom_1 rfl ?_
  refine x_getI C dX9_copyFrom_2 fF_X9_24 rfl rfl ?_
  refine x_putI C dX9_copyFrom_5 fF_X9_24 rfl rfl ?_
  refine x_aload_n C dX9_copyFrom_8 rfl ?_
  refine x_aload_n C dX9_copyFrom_9 rfl ?_
  refine x_getI C dX9_copyFrom_10 fF_X9_28 rfl rfl ?_
  refine x_putI C dX9_copyFrom_13 fF_X9_28 rfl rfl ?_
  refine x_aload_n C dX9_copyFrom_16 rfl ?_
  refine x_getI C dX9_copyFrom_17 fF_X9_28 rfl rfl ?_
  refine x_if_ne C 24 dX9_copyFrom_20 (by decide) h (fun h => ?_) (fun h => ?_)
  · refine x_aload_n C dX9_copyFrom_24 rfl ?_
    refine x_getR C dX9_copyFrom_25 fF_X9_9 rfl rfl ?_
    refine x_iconst C dX9_copyFrom_28 ?_
    refine x_aload_n C dX9_copyFrom_29 rfl ?_
    refine x_getR C dX9_copyFrom_30 fF_X9_9 rfl rfl ?_
    refine x_iconst C dX9_copyFrom_33 ?_
    refine x_bipush C dX9_copyFrom_34 (by decide) ?_
    refine x_copy C dX9_copyFrom_36 (xin_19 _ (List.mem_of_getElem? (i := 12) rfl)) gm_copy_n gm_copy_s gm_copy_i (by omega) (Nat.le_of_ble_eq_true rfl) rfl rfl h (fun h => ?_)
    refine x_aload_n C dX9_copyFrom_39 rfl ?_
    refine x_getR C dX9_copyFrom_40 fF_X9_15 rfl rfl ?_
    refine x_iconst C dX9_copyFrom_43 ?_
    refine x_aload_n C dX9_copyFrom_44 rfl ?_
    refine x_getR C dX9_copyFrom_45 fF_X9_15 rfl rfl ?_
    refine x_iconst C dX9_copyFrom_48 ?_
    refine x_bipush C dX9_copyFrom_49 (by decide) ?_
    refine x_copy C dX9_copyFrom_51 (xin_19 _ (List.mem_of_getElem? (i := 12) rfl)) gm_copy_n gm_copy_s gm_copy_i (by omega) (Nat.le_of_ble_eq_true rfl) rfl rfl h (fun h => ?_)
    refine x_loc [(0, .inr (.inr (some 0))), (1, .inr (.inr (some 5)))] ⟨rfl, rfl, trivial⟩ ?_
    exact t_W_cp_54 hd9 C hR _ h
  · exact x_returnV hR dX9_copyFrom_23 h
theorem c_W_cp (l : Launch) (m m9 : xM) (h : f_W_cp m = some m9) : xMet l yX9_copyFrom cX9_copyFrom 2 none 1 lay_Wi2 [.inr (.inr (some 0)), .inr (.inr (some 5))] m none m9 :=
  xMet_v (by decide +kernel) (Nat.le_of_ble_eq_true rfl) (fun Γ C hR hl9 => t_W_cp (Nat.le_refl _) C hR m h)
theorem dX9_put_0 : decode cX9_put 0 = .ok (.aload_n 0, 1) := by decide +kernel
theorem dX9_put_1 : decode cX9_put 1 = .ok (.getfield 28, 3) := by decide +kernel
theorem dX9_put_4 : decode cX9_put 4 = .ok (.bipush 64, 2) := by decide +kernel
theorem dX9_put_6 : decode cX9_put 6 = .ok (.if_icmp .lt 4, 3) := by decide +kernel
theorem dX9_put_9 : decode cX9_put 9 = .ok (.return_, 1) := by decide +kernel
theorem dX9_put_10 : decode cX9_put 10 = .ok (.aload_n 0, 1) := by decide +kernel
theorem dX9_put_11 : decode cX9_put 11 = .ok (.getfield 24, 3) := by decide +kernel
theorem dX9_put_14 : decode cX9_put 14 = .ok (.aload_n 0, 1) := by decide +kernel
theorem dX9_put_15 : decode cX9_put 15 = .ok (.getfield 28, 3) := by decide +kernel
theorem dX9_put_18 : decode cX9_put 18 = .ok (.iadd, 1) := by decide +kernel
theorem dX9_put_19 : decode cX9_put 19 = .ok (.bipush 63, 2) := by decide +kernel
theorem dX9_put_21 : decode cX9_put 21 = .ok (.iand, 1) := by decide +kernel
theorem dX9_put_22 : decode cX9_put 22 = .ok (.istore 5, 2) := by decide +kernel
theorem dX9_put_24 : decode cX9_put 24 = .ok (.aload_n 0, 1) := by decide +kernel
theorem dX9_put_25 : decode cX9_put 25 = .ok (.getfield 9, 3) := by decide +kernel
theorem dX9_put_28 : decode cX9_put 28 = .ok (.iload 5, 2) := by decide +kernel
theorem dX9_put_30 : decode cX9_put 30 = .ok (.iload_n 1, 1) := by decide +kernel
theorem dX9_put_31 : decode cX9_put 31 = .ok (.iastore, 1) := by decide +kernel
theorem dX9_put_32 : decode cX9_put 32 = .ok (.aload_n 0, 1) := by decide +kernel
theorem dX9_put_33 : decode cX9_put 33 = .ok (.getfield 15, 3) := by decide +kernel
theorem dX9_put_36 : decode cX9_put 36 = .ok (.iload 5, 2) := by decide +kernel
theorem dX9_put_38 : decode cX9_put 38 = .ok (.iload_n 2, 1) := by decide +kernel
theorem dX9_put_39 : decode cX9_put 39 = .ok (.iastore, 1) := by decide +kernel
theorem dX9_put_40 : decode cX9_put 40 = .ok (.aload_n 0, 1) := by decide +kernel
theorem dX9_put_41 : decode cX9_put 41 = .ok (.getfield 18, 3) := by decide +kernel
theorem dX9_put_44 : decode cX9_put 44 = .ok (.iload 5, 2) := by decide +kernel
theorem dX9_put_46 : decode cX9_put 46 = .ok (.iload_n 3, 1) := by decide +kernel
theorem dX9_put_47 : decode cX9_put 47 = .ok (.iastore, 1) := by decide +kernel
theorem dX9_put_48 : decode cX9_put 48 = .ok (.aload_n 0, 1) := by decide +kernel
theorem dX9_put_49 : decode cX9_put 49 = .ok (.getfield 21, 3) := by decide +kernel
theorem dX9_put_52 : decode cX9_put 52 = .ok (.iload 5, 2) := by decide +kernel
theorem dX9_put_54 : decode cX9_put 54 = .ok (.iload 4, 2) := by decide +kernel
theorem dX9_put_56 : decode cX9_put 56 = .ok (.iastore, 1) := by decide +kernel
theorem dX9_put_57 : decode cX9_put 57 = .ok (.aload_n 0, 1) := by decide +kernel
theorem dX9_put_58 : decode cX9_put 58 = .ok (.dup, 1) := by decide +kernel
theorem dX9_put_59 : decode cX9_put 59 = .ok (.getfield 28, 3) := by decide +kernel
theorem dX9_put_62 : decode cX9_put 62 = .ok (.iconst 1, 1) := by decide +kernel
theorem dX9_put_63 : decode cX9_put 63 = .ok (.iadd, 1) := by decide +kernel
theorem dX9_put_64 : decode cX9_put 64 = .ok (.putfield 28, 3) := by decide +kernel
theorem dX9_put_67 : decode cX9_put 67 = .ok (.return_, 1) := by decide +kernel
def f_W_put_40 (t : Int) (s : Int) (b : Int) (z : Int) (x5 : Int) (m : xM) : Option (xM) :=
     (if xib x5 64 then (if xib x5 64 then some (xu (xu (xu m 3 (xix x5) b) 4 (xix x5) z) 0 5 ((m 0 5) + 1))
      else none)
      else none)
set_option maxRecDepth 1000000 in
set_option maxHeartbeats 4000000 in
theorem t_W_put_40 {Γ : xG} {d : Nat} (hd9 : 1 ≤ d) (C : xC Γ lay_Wi RX9 cX9_put 6 d) (t : Int) (s : Int) (b : Int) (z : Int) {m9 : xM} (hR : xRv Γ lay_Wi cX9_put m9) (x5 : Int) (m : xM) (h : f_W_put_40 t s b z x5 m = some m9) : xW Γ lay_Wi 6 40 [(0, .inr (.inr (some 0))), (3, .inl b), (4, .inl z), (5, .inl x5)] [] m := by
  unfold f_W_put_40 at h
  refine x_aload_n C dX9_put_40 rfl ?_
  refine x_getR C dX9_put_41 fF_X9_18 rfl rfl ?_
  refine x_iload C dX9_put_44 rfl ?_
  refine x_iload_n C dX9_put_46 rfl ?_
  refine x_iastore C dX9_put_47 rfl h (fun h => ?_)
  refine x_aload_n C dX9_put_48 rfl ?_
  refine x_getR C dX9_put_49 fF_X9_21 rfl rfl ?_
  refine x_iload C dX9_put_52 rfl ?_
  refine x_iload C dX9_put_54 rfl ?_
  refine x_iastore C dX9_put_56 rfl h (fun h => ?_)
  refine x_aload_n C dX9_put_57 rfl ?_
  refine x_dup C dX9_put_58 rfl ?_
  refine x_getI C dX9_put_59 fF_X9_28 rfl rfl ?_
  refine x_iconst C dX9_put_62 ?_
  refine x_iadd C dX9_put_63 ?_
  refine x_putI C dX9_put_64 fF_X9_28 rfl rfl ?_
  exact x_returnV hR dX9_put_67 h
def f_W_put (t : Int) (s : Int) (b : Int) (z : Int) (m : xM) : Option (xM) :=
     (if xw (m 0 5) < xw 64 then (if xib (xiand ((m 0 4) + (m 0 5)) 63) 64 then (if xib (xiand ((m 0 4) + (m 0 5)) 63) 64 then f_W_put_40 t s b z (xiand ((m 0 4) + (m 0 5)) 63) (xu (xu m 1 (xix (xiand ((m 0 4) + (m 0 5)) 63)) t) 2 (xix (xiand ((m 0 4) + (m 0 5)) 63)) s)
      else none)
      else none)
      else some m)
set_option maxRecDepth 1000000 in
set_option maxHeartbeats 4000000 in
theorem t_W_put {Γ : xG} {d : Nat} (hd9 : 1 ≤ d) (C : xC Γ lay_Wi RX9 cX9_put 6 d) (t : Int) (s : Int) (b : Int) (z : Int) {m9 : xM} (hR : xRv Γ lay_Wi cX9_put m9) (m : xM) (h : f_W_put t s b z m = some m9) : xW Γ lay_Wi 6 0 [(0, .inr (.inr (some 0))), (1, .inl t), (2, .inl s), (3, .inl b), (4, .inl z)] [] m := by
  unfold f_W_put at h
  refine x_aload_n C dX9_put_0 rfl ?_
  refine x_getI C dX9_put_1 fF_X9_28 rfl rfl ?_
  refine x_bipush C dX9_put_4 (by decide) ?_
  refine x_icmp_lt C 10 dX9_put_6 (by decide) h (fun h => ?_) (fun h => ?_)
  · refine x_aload_n C dX9_put_10 rfl ?_
    refine x_getI C dX9_put_11 fF_X9_24 rfl rfl ?_
    refine x_aload_n C dX9_put_14 rfl ?_
    refine x_getI C dX9_put_15 fF_X9_28 rfl rfl ?_
    refine x_iadd C dX9_put_18 ?_
    refine x_bipush C dX9_put_19 (by decide) ?_
    refine x_iand C dX9_put_21 ?_
    refine x_istore C dX9_put_22 (by decide) ?_
    refine x_aload_n C dX9_put_24 rfl ?_
    refine x_getR C dX9_put_25 fF_X9_9 rfl rfl ?_
    refine x_iload C dX9_put_28 rfl ?_
    refine x_iload_n C dX9_put_30 rfl ?_
    refine x_iastore C dX9_put_31 rfl h (fun h => ?_)
    refine x_aload_n C dX9_put_32 rfl ?_
    refine x_getR C dX9_put_33 fF_X9_15 rfl rfl ?_
    refine x_iload C dX9_put_36 rfl ?_
    refine x_iload_n C dX9_put_38 rfl ?_
    refine x_iastore C dX9_put_39 rfl h (fun h => ?_)
    refine x_loc [(0, .inr (.inr (some 0))), (3, .inl b), (4, .inl z), (5, .inl (xiand ((m 0 4) + (m 0 5)) 63))] ⟨rfl, rfl, rfl, rfl, trivial⟩ ?_
    exact t_W_put_40 hd9 C _ _ _ _ hR _ _ h
  · exact x_returnV hR dX9_put_9 h
theorem c_W_put (l : Launch) (t : Int) (s : Int) (b : Int) (z : Int) (m m9 : xM) (h : f_W_put t s b z m = some m9) : xMet l yX9_put cX9_put 6 none 1 lay_Wi [.inr (.inr (some 0)), .inl t, .inl s, .inl b, .inl z] m none m9 :=
  xMet_v (by decide +kernel) (Nat.le_of_ble_eq_true rfl) (fun Γ C hR hl9 => t_W_put (Nat.le_refl _) C t s b z hR m h)
theorem dX9_hasFrom_0 : decode cX9_hasFrom 0 = .ok (.aload_n 0, 1) := by decide +kernel
theorem dX9_hasFrom_1 : decode cX9_hasFrom 1 = .ok (.getfield 28, 3) := by decide +kernel
theorem dX9_hasFrom_4 : decode cX9_hasFrom 4 = .ok (.ifCond .le 23, 3) := by decide +kernel
theorem dX9_hasFrom_7 : decode cX9_hasFrom 7 = .ok (.aload_n 0, 1) := by decide +kernel
theorem dX9_hasFrom_8 : decode cX9_hasFrom 8 = .ok (.getfield 9, 3) := by decide +kernel
theorem dX9_hasFrom_11 : decode cX9_hasFrom 11 = .ok (.aload_n 0, 1) := by decide +kernel
theorem dX9_hasFrom_12 : decode cX9_hasFrom 12 = .ok (.getfield 24, 3) := by decide +kernel
theorem dX9_hasFrom_15 : decode cX9_hasFrom 15 = .ok (.bipush 63, 2) := by decide +kernel
theorem dX9_hasFrom_17 : decode cX9_hasFrom 17 = .ok (.iand, 1) := by decide +kernel
theorem dX9_hasFrom_18 : decode cX9_hasFrom 18 = .ok (.iaload, 1) := by decide +kernel
theorem dX9_hasFrom_19 : decode cX9_hasFrom 19 = .ok (.iload_n 1, 1) := by decide +kernel
theorem dX9_hasFrom_20 : decode cX9_hasFrom 20 = .ok (.if_icmp .gt 7, 3) := by decide +kernel
theorem dX9_hasFrom_23 : decode cX9_hasFrom 23 = .ok (.iconst 1, 1) := by decide +kernel
theorem dX9_hasFrom_24 : decode cX9_hasFrom 24 = .ok (.goto 4, 3) := by decide +kernel
theorem dX9_hasFrom_27 : decode cX9_hasFrom 27 = .ok (.iconst 0, 1) := by decide +kernel
theorem dX9_hasFrom_28 : decode cX9_hasFrom 28 = .ok (.ireturn, 1) := by decide +kernel
def f_W_has (t : Int) (m : xM) : Option (Int) :=
     (if 0 < xw (m 0 5) then (if xib (xiand (m 0 4) 63) 64 then (if xw t < xw (m 1 (xix (xiand (m 0 4) 63))) then some 0
      else some 1)
      else none)
      else some 0)
set_option maxRecDepth 1000000 in
set_option maxHeartbeats 4000000 in
theorem t_W_has {Γ : xG} {d : Nat} (hd9 : 1 ≤ d) (C : xC Γ lay_Wi RX9 cX9_hasFrom 2 d) (t : Int) {r : Int} {m : xM} (hR : xRz Γ lay_Wi cX9_hasFrom r m) (h : f_W_has t m = some r) : xW Γ lay_Wi 2 0 [(0, .inr (.inr (some 0))), (1, .inl t)] [] m := by
  unfold f_W_has at h
  refine x_aload_n C dX9_hasFrom_0 rfl ?_
  refine x_getI C dX9_hasFrom_1 fF_X9_28 rfl rfl ?_
  refine x_if_le C 27 dX9_hasFrom_4 (by decide) h (fun h => ?_) (fun h => ?_)
  · refine x_iconst C dX9_hasFrom_27 ?_
    exact x_zreturnP hR (by decide) dX9_hasFrom_28 h
  · refine x_aload_n C dX9_hasFrom_7 rfl ?_
    refine x_getR C dX9_hasFrom_8 fF_X9_9 rfl rfl ?_
    refine x_aload_n C dX9_hasFrom_11 rfl ?_
    refine x_getI C dX9_hasFrom_12 fF_X9_24 rfl rfl ?_
    refine x_bipush C dX9_hasFrom_15 (by decide) ?_
    refine x_iand C dX9_hasFrom_17 ?_
    refine x_iaload C dX9_hasFrom_18 rfl h (fun h => ?_)
    refine x_iload_n C dX9_hasFrom_19 rfl ?_
    refine x_icmp_gt C 27 dX9_hasFrom_20 (by decide) h (fun h => ?_) (fun h => ?_)
    · refine x_iconst C dX9_hasFrom_27 ?_
      exact x_zreturnP hR (by decide) dX9_hasFrom_28 h
    · refine x_iconst C dX9_hasFrom_23 ?_
      refine x_goto C 28 dX9_hasFrom_24 (by decide) ?_
      exact x_zreturnP hR (by decide) dX9_hasFrom_28 h
theorem c_W_has (l : Launch) (t : Int) (m : xM) (r : Int) (h : f_W_has t m = some r) : xMet l yX9_hasFrom cX9_hasFrom 2 (some .boolean) 1 lay_Wi [.inr (.inr (some 0)), .inl t] m (some (.inl r)) m :=
  xMet_z (by decide +kernel) (Nat.le_of_ble_eq_true rfl) (fun Γ C hR hl9 => t_W_has (Nat.le_refl _) C t hR h)
theorem dX9_take_0 : decode cX9_take 0 = .ok (.aload_n 0, 1) := by decide +kernel
theorem dX9_take_1 : decode cX9_take 1 = .ok (.getfield 24, 3) := by decide +kernel
theorem dX9_take_4 : decode cX9_take 4 = .ok (.bipush 63, 2) := by decide +kernel
theorem dX9_take_6 : decode cX9_take 6 = .ok (.iand, 1) := by decide +kernel
theorem dX9_take_7 : decode cX9_take 7 = .ok (.istore_n 1, 1) := by decide +kernel
theorem dX9_take_8 : decode cX9_take 8 = .ok (.aload_n 0, 1) := by decide +kernel
theorem dX9_take_9 : decode cX9_take 9 = .ok (.iload_n 1, 1) := by decide +kernel
theorem dX9_take_10 : decode cX9_take 10 = .ok (.iconst 1, 1) := by decide +kernel
theorem dX9_take_11 : decode cX9_take 11 = .ok (.iadd, 1) := by decide +kernel
theorem dX9_take_12 : decode cX9_take 12 = .ok (.putfield 24, 3) := by decide +kernel
theorem dX9_take_15 : decode cX9_take 15 = .ok (.aload_n 0, 1) := by decide +kernel
theorem dX9_take_16 : decode cX9_take 16 = .ok (.dup, 1) := by decide +kernel
theorem dX9_take_17 : decode cX9_take 17 = .ok (.getfield 28, 3) := by decide +kernel
theorem dX9_take_20 : decode cX9_take 20 = .ok (.iconst 1, 1) := by decide +kernel
theorem dX9_take_21 : decode cX9_take 21 = .ok (.isub, 1) := by decide +kernel
theorem dX9_take_22 : decode cX9_take 22 = .ok (.putfield 28, 3) := by decide +kernel
theorem dX9_take_25 : decode cX9_take 25 = .ok (.iload_n 1, 1) := by decide +kernel
theorem dX9_take_26 : decode cX9_take 26 = .ok (.ireturn, 1) := by decide +kernel
def f_W_take (m : xM) : Option (Int × xM) :=
     some (xiand (m 0 4) 63, (xu (xu m 0 4 ((xiand (m 0 4) 63) + 1)) 0 5 ((m 0 5) - 1)))
set_option maxRecDepth 1000000 in
set_option maxHeartbeats 4000000 in
theorem t_W_take {Γ : xG} {d : Nat} (hd9 : 1 ≤ d) (C : xC Γ lay_Wi RX9 cX9_take 2 d) {r : Int} {m9 : xM} (hR : xRi Γ lay_Wi cX9_take r m9) (m : xM) (h : f_W_take m = some (r, m9)) : xW Γ lay_Wi 2 0 [(0, .inr (.inr (some 0)))] [] m := by
  unfold f_W_take at h
  refine x_aload_n C dX9_take_0 rfl ?_
  refine x_getI C dX9_take_1 fF_X9_24 rfl rfl ?_
  refine x_bipush C dX9_take_4 (by decide) ?_
  refine x_iand C dX9_take_6 ?_
  refine x_istore_n C dX9_take_7 (by decide) ?_
  refine x_aload_n C dX9_take_8 rfl ?_
  refine x_iload_n C dX9_take_9 rfl ?_
  refine x_iconst C dX9_take_10 ?_
  refine x_iadd C dX9_take_11 ?_
  refine x_putI C dX9_take_12 fF_X9_24 rfl rfl ?_
  refine x_aload_n C dX9_take_15 rfl ?_
  refine x_dup C dX9_take_16 rfl ?_
  refine x_getI C dX9_take_17 fF_X9_28 rfl rfl ?_
  refine x_iconst C dX9_take_20 ?_
  refine x_isub C dX9_take_21 ?_
  refine x_putI C dX9_take_22 fF_X9_28 rfl rfl ?_
  refine x_iload_n C dX9_take_25 rfl ?_
  exact x_ireturn hR dX9_take_26 h
theorem c_W_take (l : Launch) (m : xM) (r : Int) (m9 : xM) (h : f_W_take m = some (r, m9)) : xMet l yX9_take cX9_take 2 (some .int) 1 lay_Wi [.inr (.inr (some 0))] m (some (.inl r)) m9 :=
  xMet_i (by decide +kernel) (Nat.le_of_ble_eq_true rfl) (fun Γ C hR hl9 => t_W_take (Nat.le_refl _) C hR m h)
theorem fF_X1_21 : xF RX1 21 2 2 (.object "ModemLink$Frames") true := ⟨RX1, TX1, 11, tyX1, rfl, by decide, (xin_4 _ (List.mem_of_getElem? (i := 22) rfl)), rfl, inlX1, tyX1_ok, nmX1, rfl, rfl⟩
theorem xy_X2_beginNumbers : xY yX2_beginNumbers cX2_beginNumbers 1 none 0 := ⟨(xin_8 _ (List.mem_of_getElem? (i := 15) rfl)), (xin_4 _ (List.mem_of_getElem? (i := 21) rfl)), by decide, by decide, by decide +kernel⟩
theorem xi_X2_beginNumbers : Cond.instanceMethod yX2_beginNumbers ∈ wsL_law := (xin_8 _ (List.mem_of_getElem? (i := 13) rfl))
theorem xs_X2_beginNumbers : Cond.selects yX2_beginNumbers.cls yX2_beginNumbers yX2_beginNumbers ∈ wsL_law := (xin_8 _ (List.mem_of_getElem? (i := 14) rfl))
theorem xv_3 : xview lay_E lay_F [3, 4, 5, 6] := xview_of (by decide +kernel)
theorem fF_X1_28 : xF RX1 28 2 3 (.object "ModemLink$Dictionary") true := ⟨RX1, TX1, 11, tyX1, rfl, by decide, (xin_5 _ (List.mem_of_getElem? (i := 0) rfl)), rfl, inlX1, tyX1_ok, nmX1, rfl, rfl⟩
theorem fF_X1_38 : xF RX1 38 1 1 .int false := ⟨RX0, TX0, 2, tyX0, rfl, by decide, (xin_8 _ (List.mem_of_getElem? (i := 5) rfl)), rfl, inlX0, tyX0_ok, nmX0, rfl, rfl⟩
theorem fF_X1_32 : xF RX1 32 2 4 (.object "ModemLink$Dictionary") true := ⟨RX1, TX1, 11, tyX1, rfl, by decide, (xin_5 _ (List.mem_of_getElem? (i := 1) rfl)), rfl, inlX1, tyX1_ok, nmX1, rfl, rfl⟩
theorem fF_X1_42 : xF RX1 42 2 5 .int false := ⟨RX1, TX1, 11, tyX1, rfl, by decide, (xin_8 _ (List.mem_of_getElem? (i := 6) rfl)), rfl, inlX1, tyX1_ok, nmX1, rfl, rfl⟩
theorem fF_X1_45 : xF RX1 45 2 6 .int false := ⟨RX1, TX1, 11, tyX1, rfl, by decide, (xin_8 _ (List.mem_of_getElem? (i := 7) rfl)), rfl, inlX1, tyX1_ok, nmX1, rfl, rfl⟩
theorem fF_X1_48 : xF RX1 48 2 7 .int false := ⟨RX1, TX1, 11, tyX1, rfl, by decide, (xin_8 _ (List.mem_of_getElem? (i := 8) rfl)), rfl, inlX1, tyX1_ok, nmX1, rfl, rfl⟩
theorem fF_X1_51 : xF RX1 51 2 8 .int false := ⟨RX1, TX1, 11, tyX1, rfl, by decide, (xin_8 _ (List.mem_of_getElem? (i := 9) rfl)), rfl, inlX1, tyX1_ok, nmX1, rfl, rfl⟩
theorem fF_X1_54 : xF RX1 54 2 9 .boolean false := ⟨RX1, TX1, 11, tyX1, rfl, by decide, (xin_8 _ (List.mem_of_getElem? (i := 10) rfl)), rfl, inlX1, tyX1_ok, nmX1, rfl, rfl⟩
theorem fF_X1_58 : xF RX1 58 2 10 .boolean false := ⟨RX1, TX1, 11, tyX1, rfl, by decide, (xin_8 _ (List.mem_of_getElem? (i := 11) rfl)), rfl, inlX1, tyX1_ok, nmX1, rfl, rfl⟩
theorem dX1_begin_0 : decode cX1_begin 0 = .ok (.aload_n 0, 1) := by decide +kernel
theorem dX1_begin_1 : decode cX1_begin 1 = .ok (.getfield 21, 3) := by decide +kernel
theorem dX1_begin_4 : decode cX1_begin 4 = .ok (.invokevirtual 35, 3) := by decide +kernel
theorem dX1_begin_7 : decode cX1_begin 7 = .ok (.aload_n 0, 1) := by decide +kernel
theorem dX1_begin_8 : decode cX1_begin 8 = .ok (.getfield 28, 3) := by decide +kernel
theorem dX1_begin_11 : decode cX1_begin 11 = .ok (.iconst 0, 1) := by decide +kernel
theorem dX1_begin_12 : decode cX1_begin 12 = .ok (.putfield 38, 3) := by decide +kernel
theorem dX1_begin_15 : decode cX1_begin 15 = .ok (.aload_n 0, 1) := by decide +kernel
theorem dX1_begin_16 : decode cX1_begin 16 = .ok (.getfield 32, 3) := by decide +kernel
theorem dX1_begin_19 : decode cX1_begin 19 = .ok (.iconst 0, 1) := by decide +kernel
theorem dX1_begin_20 : decode cX1_begin 20 = .ok (.putfield 38, 3) := by decide +kernel
theorem dX1_begin_23 : decode cX1_begin 23 = .ok (.aload_n 0, 1) := by decide +kernel
theorem dX1_begin_24 : decode cX1_begin 24 = .ok (.iconst 0, 1) := by decide +kernel
theorem dX1_begin_25 : decode cX1_begin 25 = .ok (.putfield 42, 3) := by decide +kernel
theorem dX1_begin_28 : decode cX1_begin 28 = .ok (.aload_n 0, 1) := by decide +kernel
theorem dX1_begin_29 : decode cX1_begin 29 = .ok (.iconst 0, 1) := by decide +kernel
theorem dX1_begin_30 : decode cX1_begin 30 = .ok (.putfield 45, 3) := by decide +kernel
theorem dX1_begin_33 : decode cX1_begin 33 = .ok (.aload_n 0, 1) := by decide +kernel
theorem dX1_begin_34 : decode cX1_begin 34 = .ok (.iconst 0, 1) := by decide +kernel
theorem dX1_begin_35 : decode cX1_begin 35 = .ok (.putfield 48, 3) := by decide +kernel
theorem dX1_begin_38 : decode cX1_begin 38 = .ok (.aload_n 0, 1) := by decide +kernel
theorem dX1_begin_39 : decode cX1_begin 39 = .ok (.iconst 0, 1) := by decide +kernel
theorem dX1_begin_40 : decode cX1_begin 40 = .ok (.putfield 51, 3) := by decide +kernel
theorem dX1_begin_43 : decode cX1_begin 43 = .ok (.aload_n 0, 1) := by decide +kernel
theorem dX1_begin_44 : decode cX1_begin 44 = .ok (.iconst 0, 1) := by decide +kernel
theorem dX1_begin_45 : decode cX1_begin 45 = .ok (.putfield 54, 3) := by decide +kernel
theorem dX1_begin_48 : decode cX1_begin 48 = .ok (.aload_n 0, 1) := by decide +kernel
theorem dX1_begin_49 : decode cX1_begin 49 = .ok (.iconst 0, 1) := by decide +kernel
theorem dX1_begin_50 : decode cX1_begin 50 = .ok (.putfield 58, 3) := by decide +kernel
theorem dX1_begin_53 : decode cX1_begin 53 = .ok (.return_, 1) := by decide +kernel
def f_E_begin_33 (m : xM) : Option (xM) :=
     some (xu (xu (xu (xu m 0 7 0) 0 8 0) 0 9 0) 0 10 0)
set_option maxRecDepth 1000000 in
set_option maxHeartbeats 4000000 in
theorem t_E_begin_33 {Γ : xG} {d : Nat} (hd9 : 2 ≤ d) (C : xC Γ lay_E RX1 cX1_begin 1 d) {m9 : xM} (hR : xRv Γ lay_E cX1_begin m9) (m : xM) (h : f_E_begin_33 m = some m9) : xW Γ lay_E 1 33 [(0, .inr (.inr (some 0)))] [] m := by
  unfold f_E_begin_33 at h
  refine x_aload_n C dX1_begin_33 rfl ?_
  refine x_iconst C dX1_begin_34 ?_
  refine x_putI C dX1_begin_35 fF_X1_48 rfl rfl ?_
  refine x_aload_n C dX1_begin_38 rfl ?_
  refine x_iconst C dX1_begin_39 ?_
  refine x_putI C dX1_begin_40 fF_X1_51 rfl rfl ?_
  refine x_aload_n C dX1_begin_43 rfl ?_
  refine x_iconst C dX1_begin_44 ?_
  refine x_putZ C dX1_begin_45 fF_X1_54 rfl rfl (by decide) ?_
  refine x_aload_n C dX1_begin_48 rfl ?_
  refine x_iconst C dX1_begin_49 ?_
  refine x_putZ C dX1_begin_50 fF_X1_58 rfl rfl (by decide) ?_
  exact x_returnV hR dX1_begin_53 h
def f_E_begin (m : xM) : Option (xM) :=
     (Option.bind (f_F_begin (xvw [3, 4, 5, 6] m)) fun q0 =>
      f_E_begin_33 (xu (xu (xu (xu (xmg [3, 4, 5, 6] 4 m q0) 7 1 0) 9 1 0) 0 5 0) 0 6 0))
set_option maxRecDepth 1000000 in
set_option maxHeartbeats 4000000 in
theorem t_E_begin {Γ : xG} {d : Nat} (hd9 : 2 ≤ d) (C : xC Γ lay_E RX1 cX1_begin 1 d) {m9 : xM} (hR : xRv Γ lay_E cX1_begin m9) (m : xM) (h : f_E_begin m = some m9) : xW Γ lay_E 1 0 [(0, .inr (.inr (some 0)))] [] m := by
  unfold f_E_begin at h
  refine x_aload_n C dX1_begin_0 rfl ?_
  refine x_getR C dX1_begin_1 fF_X1_21 rfl rfl ?_
  obtain ⟨q0, hq0, h⟩ := x_bind h
  refine x_callV C dX1_begin_4 (xin_8 _ (List.mem_of_getElem? (i := 12) rfl)) xy_X2_beginNumbers (xi_X2_beginNumbers) (xs_X2_beginNumbers) [3, 4, 5, 6] xv_3 (by omega) (by decide) (b := 0) rfl ⟨_, _, rfl⟩ (av := []) rfl (Nat.le_of_ble_eq_true rfl) (c_F_begin _ _ _ hq0) rfl ?_
  refine x_aload_n C dX1_begin_7 rfl ?_
  refine x_getR C dX1_begin_8 fF_X1_28 rfl rfl ?_
  refine x_iconst C dX1_begin_11 ?_
  refine x_putI C dX1_begin_12 fF_X1_38 rfl rfl ?_
  refine x_aload_n C dX1_begin_15 rfl ?_
  refine x_getR C dX1_begin_16 fF_X1_32 rfl rfl ?_
  refine x_iconst C dX1_begin_19 ?_
  refine x_putI C dX1_begin_20 fF_X1_38 rfl rfl ?_
  refine x_aload_n C dX1_begin_23 rfl ?_
  refine x_iconst C dX1_begin_24 ?_
  refine x_putI C dX1_begin_25 fF_X1_42 rfl rfl ?_
  refine x_aload_n C dX1_begin_28 rfl ?_
  refine x_iconst C dX1_begin_29 ?_
  refine x_putI C dX1_begin_30 fF_X1_45 rfl rfl ?_
  refine x_loc [(0, .inr (.inr (some 0)))] ⟨rfl, trivial⟩ ?_
  exact t_E_begin_33 hd9 C hR _ h
theorem c_E_begin (l : Launch) (m m9 : xM) (h : f_E_begin m = some m9) : xMet l yX1_begin cX1_begin 1 none 2 lay_E [.inr (.inr (some 0))] m none m9 :=
  xMet_v (by decide +kernel) (Nat.le_of_ble_eq_true rfl) (fun Γ C hR hl9 => t_E_begin (Nat.le_refl _) C hR m h)
theorem dX1_keptCount_0 : decode cX1_keptCount 0 = .ok (.aload_n 0, 1) := by decide +kernel
theorem dX1_keptCount_1 : decode cX1_keptCount 1 = .ok (.getfield 45, 3) := by decide +kernel
theorem dX1_keptCount_4 : decode cX1_keptCount 4 = .ok (.sipush 400, 3) := by decide +kernel
theorem dX1_keptCount_7 : decode cX1_keptCount 7 = .ok (.invokestatic 78, 3) := by decide +kernel
theorem dX1_keptCount_10 : decode cX1_keptCount 10 = .ok (.ireturn, 1) := by decide +kernel
def f_E_kept (m : xM) : Option (Int) :=
     some (if xw 400 < xw (m 0 6) then 400 else (m 0 6))
set_option maxRecDepth 1000000 in
set_option maxHeartbeats 4000000 in
theorem t_E_kept {Γ : xG} {d : Nat} (hd9 : 1 ≤ d) (C : xC Γ lay_E RX1 cX1_keptCount 1 d) {r : Int} {m : xM} (hR : xRi Γ lay_E cX1_keptCount r m) (h : f_E_kept m = some r) : xW Γ lay_E 1 0 [(0, .inr (.inr (some 0)))] [] m := by
  unfold f_E_kept at h
  refine x_aload_n C dX1_keptCount_0 rfl ?_
  refine x_getI C dX1_keptCount_1 fF_X1_45 rfl rfl ?_
  refine x_sipush C dX1_keptCount_4 (by decide) ?_
  refine x_min C dX1_keptCount_7 (xin_18 _ (List.mem_of_getElem? (i := 18) rfl)) gm_min_s gm_math gm_min_c (by omega) (Nat.le_of_ble_eq_true rfl) ?_
  exact x_ireturnP hR dX1_keptCount_10 h
theorem c_E_kept (l : Launch) (m : xM) (r : Int) (h : f_E_kept m = some r) : xMet l yX1_keptCount cX1_keptCount 1 (some .int) 1 lay_E [.inr (.inr (some 0))] m (some (.inl r)) m :=
  xMet_i (by decide +kernel) (Nat.le_of_ble_eq_true rfl) (fun Γ C hR hl9 => t_E_kept (Nat.le_refl _) C hR h)
theorem fF_X1_9 : xF RX1 9 2 0 (.array .int) true := ⟨RX1, TX1, 11, tyX1, rfl, by decide, (xin_4 _ (List.mem_of_getElem? (i := 17) rfl)), rfl, inlX1, tyX1_ok, nmX1, rfl, rfl⟩
theorem fF_X1_15 : xF RX1 15 2 1 (.array .int) true := ⟨RX1, TX1, 11, tyX1, rfl, by decide, (xin_4 _ (List.mem_of_getElem? (i := 18) rfl)), rfl, inlX1, tyX1_ok, nmX1, rfl, rfl⟩
theorem xy_X1_keptCount : xY yX1_keptCount cX1_keptCount 1 (some .int) 0 := ⟨(xin_18 _ (List.mem_of_getElem? (i := 17) rfl)), (xin_3 _ (List.mem_of_getElem? (i := 21) rfl)), by decide, by decide, by decide +kernel⟩
theorem xi_X1_keptCount : Cond.instanceMethod yX1_keptCount ∈ wsL_law := (xin_18 _ (List.mem_of_getElem? (i := 15) rfl))
theorem xs_X1_keptCount : Cond.selects yX1_keptCount.cls yX1_keptCount yX1_keptCount ∈ wsL_law := (xin_18 _ (List.mem_of_getElem? (i := 16) rfl))
theorem xv_4 : xview lay_E2 lay_E [11, 12, 13, 14, 15, 16, 17, 18, 19, 20, 21] := xview_of (by decide +kernel)
theorem xy_X2_copyFrom : xY yX2_copyFrom cX2_copyFrom 2 none 1 := ⟨(xin_18 _ (List.mem_of_getElem? (i := 22) rfl)), (xin_4 _ (List.mem_of_getElem? (i := 21) rfl)), by decide, by decide, by decide +kernel⟩
theorem xi_X2_copyFrom : Cond.instanceMethod yX2_copyFrom ∈ wsL_law := (xin_18 _ (List.mem_of_getElem? (i := 20) rfl))
theorem xs_X2_copyFrom : Cond.selects yX2_copyFrom.cls yX2_copyFrom yX2_copyFrom ∈ wsL_law := (xin_18 _ (List.mem_of_getElem? (i := 21) rfl))
theorem xv_5 : xview lay_E2 lay_F2 [3, 4, 5, 6, 14, 15, 16, 17] := xview_of (by decide +kernel)
theorem xy_X0_copyFrom : xY yX0_copyFrom cX0_copyFrom 2 none 1 := ⟨(xin_19 _ (List.mem_of_getElem? (i := 3) rfl)), (xin_4 _ (List.mem_of_getElem? (i := 11) rfl)), by decide, by decide, by decide +kernel⟩
theorem xi_X0_copyFrom : Cond.instanceMethod yX0_copyFrom ∈ wsL_law := (xin_19 _ (List.mem_of_getElem? (i := 1) rfl))
theorem xs_X0_copyFrom : Cond.selects yX0_copyFrom.cls yX0_copyFrom yX0_copyFrom ∈ wsL_law := (xin_19 _ (List.mem_of_getElem? (i := 2) rfl))
theorem xv_6 : xview lay_E2 lay_D2 [7, 8, 18, 19] := xview_of (by decide +kernel)
theorem xv_7 : xview lay_E2 lay_D2 [9, 10, 20, 21] := xview_of (by decide +kernel)
theorem dX1_copyFrom_0 : decode cX1_copyFrom 0 = .ok (.aload_n 1, 1) := by decide +kernel
theorem dX1_copyFrom_1 : decode cX1_copyFrom 1 = .ok (.getfield 9, 3) := by decide +kernel
theorem dX1_copyFrom_4 : decode cX1_copyFrom 4 = .ok (.iconst 0, 1) := by decide +kernel
theorem dX1_copyFrom_5 : decode cX1_copyFrom 5 = .ok (.aload_n 0, 1) := by decide +kernel
theorem dX1_copyFrom_6 : decode cX1_copyFrom 6 = .ok (.getfield 9, 3) := by decide +kernel
theorem dX1_copyFrom_9 : decode cX1_copyFrom 9 = .ok (.iconst 0, 1) := by decide +kernel
theorem dX1_copyFrom_10 : decode cX1_copyFrom 10 = .ok (.aload_n 1, 1) := by decide +kernel
theorem dX1_copyFrom_11 : decode cX1_copyFrom 11 = .ok (.getfield 42, 3) := by decide +kernel
theorem dX1_copyFrom_14 : decode cX1_copyFrom 14 = .ok (.invokestatic 61, 3) := by decide +kernel
theorem dX1_copyFrom_17 : decode cX1_copyFrom 17 = .ok (.aload_n 1, 1) := by decide +kernel
theorem dX1_copyFrom_18 : decode cX1_copyFrom 18 = .ok (.getfield 15, 3) := by decide +kernel
theorem dX1_copyFrom_21 : decode cX1_copyFrom 21 = .ok (.iconst 0, 1) := by decide +kernel
theorem dX1_copyFrom_22 : decode cX1_copyFrom 22 = .ok (.aload_n 0, 1) := by decide +kernel
theorem dX1_copyFrom_23 : decode cX1_copyFrom 23 = .ok (.getfield 15, 3) := by decide +kernel
theorem dX1_copyFrom_26 : decode cX1_copyFrom 26 = .ok (.iconst 0, 1) := by decide +kernel
theorem dX1_copyFrom_27 : decode cX1_copyFrom 27 = .ok (.aload_n 1, 1) := by decide +kernel
theorem dX1_copyFrom_28 : decode cX1_copyFrom 28 = .ok (.invokevirtual 67, 3) := by decide +kernel
theorem dX1_copyFrom_31 : decode cX1_copyFrom 31 = .ok (.invokestatic 61, 3) := by decide +kernel
theorem dX1_copyFrom_34 : decode cX1_copyFrom 34 = .ok (.aload_n 0, 1) := by decide +kernel
theorem dX1_copyFrom_35 : decode cX1_copyFrom 35 = .ok (.getfield 21, 3) := by decide +kernel
theorem dX1_copyFrom_38 : decode cX1_copyFrom 38 = .ok (.aload_n 1, 1) := by decide +kernel
theorem dX1_copyFrom_39 : decode cX1_copyFrom 39 = .ok (.getfield 21, 3) := by decide +kernel
theorem dX1_copyFrom_42 : decode cX1_copyFrom 42 = .ok (.invokevirtual 71, 3) := by decide +kernel
theorem dX1_copyFrom_45 : decode cX1_copyFrom 45 = .ok (.aload_n 0, 1) := by decide +kernel
theorem dX1_copyFrom_46 : decode cX1_copyFrom 46 = .ok (.getfield 28, 3) := by decide +kernel
theorem dX1_copyFrom_49 : decode cX1_copyFrom 49 = .ok (.aload_n 1, 1) := by decide +kernel
theorem dX1_copyFrom_50 : decode cX1_copyFrom 50 = .ok (.getfield 28, 3) := by decide +kernel
theorem dX1_copyFrom_53 : decode cX1_copyFrom 53 = .ok (.invokevirtual 75, 3) := by decide +kernel
theorem dX1_copyFrom_56 : decode cX1_copyFrom 56 = .ok (.aload_n 0, 1) := by decide +kernel
theorem dX1_copyFrom_57 : decode cX1_copyFrom 57 = .ok (.getfield 32, 3) := by decide +kernel
theorem dX1_copyFrom_60 : decode cX1_copyFrom 60 = .ok (.aload_n 1, 1) := by decide +kernel
theorem dX1_copyFrom_61 : decode cX1_copyFrom 61 = .ok (.getfield 32, 3) := by decide +kernel
theorem dX1_copyFrom_64 : decode cX1_copyFrom 64 = .ok (.invokevirtual 75, 3) := by decide +kernel
theorem dX1_copyFrom_67 : decode cX1_copyFrom 67 = .ok (.aload_n 0, 1) := by decide +kernel
theorem dX1_copyFrom_68 : decode cX1_copyFrom 68 = .ok (.aload_n 1, 1) := by decide +kernel
theorem dX1_copyFrom_69 : decode cX1_copyFrom 69 = .ok (.getfield 42, 3) := by decide +kernel
theorem dX1_copyFrom_72 : decode cX1_copyFrom 72 = .ok (.putfield 42, 3) := by decide +kernel
theorem dX1_copyFrom_75 : decode cX1_copyFrom 75 = .ok (.aload_n 0, 1) := by decide +kernel
theorem dX1_copyFrom_76 : decode cX1_copyFrom 76 = .ok (.aload_n 1, 1) := by decide +kernel
theorem dX1_copyFrom_77 : decode cX1_copyFrom 77 = .ok (.getfield 45, 3) := by decide +kernel
theorem dX1_copyFrom_80 : decode cX1_copyFrom 80 = .ok (.putfield 45, 3) := by decide +kernel
theorem dX1_copyFrom_83 : decode cX1_copyFrom 83 = .ok (.aload_n 0, 1) := by decide +kernel
theorem dX1_copyFrom_84 : decode cX1_copyFrom 84 = .ok (.aload_n 1, 1) := by decide +kernel
theorem dX1_copyFrom_85 : decode cX1_copyFrom 85 = .ok (.getfield 48, 3) := by decide +kernel
theorem dX1_copyFrom_88 : decode cX1_copyFrom 88 = .ok (.putfield 48, 3) := by decide +kernel
theorem dX1_copyFrom_91 : decode cX1_copyFrom 91 = .ok (.aload_n 0, 1) := by decide +kernel
theorem dX1_copyFrom_92 : decode cX1_copyFrom 92 = .ok (.aload_n 1, 1) := by decide +kernel
theorem dX1_copyFrom_93 : decode cX1_copyFrom 93 = .ok (.getfield 51, 3) := by decide +kernel
theorem dX1_copyFrom_96 : decode cX1_copyFrom 96 = .ok (.putfield 51, 3) := by decide +kernel
theorem dX1_copyFrom_99 : decode cX1_copyFrom 99 = .ok (.aload_n 0, 1) := by decide +kernel
theorem dX1_copyFrom_100 : decode cX1_copyFrom 100 = .ok (.aload_n 1, 1) := by decide +kernel
theorem dX1_copyFrom_101 : decode cX1_copyFrom 101 = .ok (.getfield 54, 3) := by decide +kernel
theorem dX1_copyFrom_104 : decode cX1_copyFrom 104 = .ok (.putfield 54, 3) := by decide +kernel
theorem dX1_copyFrom_107 : decode cX1_copyFrom 107 = .ok (.aload_n 0, 1) := by decide +kernel
theorem dX1_copyFrom_108 : decode cX1_copyFrom 108 = .ok (.aload_n 1, 1) := by decide +kernel
theorem dX1_copyFrom_109 : decode cX1_copyFrom 109 = .ok (.getfield 58, 3) := by decide +kernel
theorem dX1_copyFrom_112 : decode cX1_copyFrom 112 = .ok (.putfield 58, 3) := by decide +kernel
theorem dX1_copyFrom_115 : decode cX1_copyFrom 115 = .ok (.return_, 1) := by decide +kernel
def f_E_cp_107 (m : xM) : Option (xM) :=
     (if xbz (m 11 10) then some (xu m 0 10 (m 11 10))
      else none)
set_option maxRecDepth 1000000 in
set_option maxHeartbeats 4000000 in
theorem t_E_cp_107 {Γ : xG} {d : Nat} (hd9 : 2 ≤ d) (C : xC Γ lay_E2 RX1 cX1_copyFrom 2 d) {m9 : xM} (hR : xRv Γ lay_E2 cX1_copyFrom m9) (m : xM) (h : f_E_cp_107 m = some m9) : xW Γ lay_E2 2 107 [(0, .inr (.inr (some 0))), (1, .inr (.inr (some 11)))] [] m := by
  unfold f_E_cp_107 at h
  refine x_aload_n C dX1_copyFrom_107 rfl ?_
  refine x_aload_n C dX1_copyFrom_108 rfl ?_
  refine x_getI C dX1_copyFrom_109 fF_X1_58 rfl rfl ?_
  refine x_putZc C dX1_copyFrom_112 fF_X1_58 rfl rfl h (fun h => ?_)
  exact x_returnV hR dX1_copyFrom_115 h
def f_E_cp_75 (m : xM) : Option (xM) :=
     (if xbz (m 11 9) then f_E_cp_107 (xu (xu (xu (xu m 0 6 (m 11 6)) 0 7 (m 11 7)) 0 8 (m 11 8)) 0 9 (m 11 9))
      else none)
set_option maxRecDepth 1000000 in
set_option maxHeartbeats 4000000 in
theorem t_E_cp_75 {Γ : xG} {d : Nat} (hd9 : 2 ≤ d) (C : xC Γ lay_E2 RX1 cX1_copyFrom 2 d) {m9 : xM} (hR : xRv Γ lay_E2 cX1_copyFrom m9) (m : xM) (h : f_E_cp_75 m = some m9) : xW Γ lay_E2 2 75 [(0, .inr (.inr (some 0))), (1, .inr (.inr (some 11)))] [] m := by
  unfold f_E_cp_75 at h
  refine x_aload_n C dX1_copyFrom_75 rfl ?_
  refine x_aload_n C dX1_copyFrom_76 rfl ?_
  refine x_getI C dX1_copyFrom_77 fF_X1_45 rfl rfl ?_
  refine x_putI C dX1_copyFrom_80 fF_X1_45 rfl rfl ?_
  refine x_aload_n C dX1_copyFrom_83 rfl ?_
  refine x_aload_n C dX1_copyFrom_84 rfl ?_
  refine x_getI C dX1_copyFrom_85 fF_X1_48 rfl rfl ?_
  refine x_putI C dX1_copyFrom_88 fF_X1_48 rfl rfl ?_
  refine x_aload_n C dX1_copyFrom_91 rfl ?_
  refine x_aload_n C dX1_copyFrom_92 rfl ?_
  refine x_getI C dX1_copyFrom_93 fF_X1_51 rfl rfl ?_
  refine x_putI C dX1_copyFrom_96 fF_X1_51 rfl rfl ?_
  refine x_aload_n C dX1_copyFrom_99 rfl ?_
  refine x_aload_n C dX1_copyFrom_100 rfl ?_
  refine x_getI C dX1_copyFrom_101 fF_X1_54 rfl rfl ?_
  refine x_putZc C dX1_copyFrom_104 fF_X1_54 rfl rfl h (fun h => ?_)
  refine x_loc [(0, .inr (.inr (some 0))), (1, .inr (.inr (some 11)))] ⟨rfl, rfl, trivial⟩ ?_
  exact t_E_cp_107 hd9 C hR _ h
def f_E_cp_56 (m : xM) : Option (xM) :=
     (Option.bind (f_D_cp (xvw [9, 10, 20, 21] m)) fun q3 =>
      f_E_cp_75 (xu (xmg [9, 10, 20, 21] 4 m q3) 0 5 ((xmg [9, 10, 20, 21] 4 m q3) 11 5)))
set_option maxRecDepth 1000000 in
set_option maxHeartbeats 4000000 in
theorem t_E_cp_56 {Γ : xG} {d : Nat} (hd9 : 2 ≤ d) (C : xC Γ lay_E2 RX1 cX1_copyFrom 2 d) {m9 : xM} (hR : xRv Γ lay_E2 cX1_copyFrom m9) (m : xM) (h : f_E_cp_56 m = some m9) : xW Γ lay_E2 2 56 [(0, .inr (.inr (some 0))), (1, .inr (.inr (some 11)))] [] m := by
  unfold f_E_cp_56 at h
  refine x_aload_n C dX1_copyFrom_56 rfl ?_
  refine x_getR C dX1_copyFrom_57 fF_X1_32 rfl rfl ?_
  refine x_aload_n C dX1_copyFrom_60 rfl ?_
  refine x_getR C dX1_copyFrom_61 fF_X1_32 rfl rfl ?_
  obtain ⟨q3, hq3, h⟩ := x_bind h
  refine x_callV C dX1_copyFrom_64 (xin_19 _ (List.mem_of_getElem? (i := 0) rfl)) xy_X0_copyFrom (xi_X0_copyFrom) (xs_X0_copyFrom) [9, 10, 20, 21] xv_7 (by omega) (by decide) (b := 0) rfl ⟨_, _, rfl⟩ (av := [.inr (.inr (some 2))]) rfl (Nat.le_of_ble_eq_true rfl) (c_D_cp _ _ _ hq3) rfl ?_
  refine x_aload_n C dX1_copyFrom_67 rfl ?_
  refine x_aload_n C dX1_copyFrom_68 rfl ?_
  refine x_getI C dX1_copyFrom_69 fF_X1_42 rfl rfl ?_
  refine x_putI C dX1_copyFrom_72 fF_X1_42 rfl rfl ?_
  refine x_loc [(0, .inr (.inr (some 0))), (1, .inr (.inr (some 11)))] ⟨rfl, rfl, trivial⟩ ?_
  exact t_E_cp_75 hd9 C hR _ h
def f_E_cp_34 (m : xM) : Option (xM) :=
     (Option.bind (f_F_cp (xvw [3, 4, 5, 6, 14, 15, 16, 17] m)) fun q1 =>
      (Option.bind (f_D_cp (xvw [7, 8, 18, 19] (xmg [3, 4, 5, 6, 14, 15, 16, 17] 8 m q1))) fun q2 =>
      f_E_cp_56 (xmg [7, 8, 18, 19] 4 (xmg [3, 4, 5, 6, 14, 15, 16, 17] 8 m q1) q2)))
set_option maxRecDepth 1000000 in
set_option maxHeartbeats 4000000 in
theorem t_E_cp_34 {Γ : xG} {d : Nat} (hd9 : 2 ≤ d) (C : xC Γ lay_E2 RX1 cX1_copyFrom 2 d) {m9 : xM} (hR : xRv Γ lay_E2 cX1_copyFrom m9) (m : xM) (h : f_E_cp_34 m = some m9) : xW Γ lay_E2 2 34 [(0, .inr (.inr (some 0))), (1, .inr (.inr (some 11)))] [] m := by
  unfold f_E_cp_34 at h
  refine x_aload_n C dX1_copyFrom_34 rfl ?_
  refine x_getR C dX1_copyFrom_35 fF_X1_21 rfl rfl ?_
  refine x_aload_n C dX1_copyFrom_38 rfl ?_
  refine x_getR C dX1_copyFrom_39 fF_X1_21 rfl rfl ?_
  obtain ⟨q1, hq1, h⟩ := x_bind h
  refine x_callV C dX1_copyFrom_42 (xin_18 _ (List.mem_of_getElem? (i := 19) rfl)) xy_X2_copyFrom (xi_X2_copyFrom) (xs_X2_copyFrom) [3, 4, 5, 6, 14, 15, 16, 17] xv_5 (by omega) (by decide) (b := 0) rfl ⟨_, _, rfl⟩ (av := [.inr (.inr (some 4))]) rfl (Nat.le_of_ble_eq_true rfl) (c_F_cp _ _ _ hq1) rfl ?_
  refine x_aload_n C dX1_copyFrom_45 rfl ?_
  refine x_getR C dX1_copyFrom_46 fF_X1_28 rfl rfl ?_
  refine x_aload_n C dX1_copyFrom_49 rfl ?_
  refine x_getR C dX1_copyFrom_50 fF_X1_28 rfl rfl ?_
  obtain ⟨q2, hq2, h⟩ := x_bind h
  refine x_callV C dX1_copyFrom_53 (xin_19 _ (List.mem_of_getElem? (i := 0) rfl)) xy_X0_copyFrom (xi_X0_copyFrom) (xs_X0_copyFrom) [7, 8, 18, 19] xv_6 (by omega) (by decide) (b := 0) rfl ⟨_, _, rfl⟩ (av := [.inr (.inr (some 2))]) rfl (Nat.le_of_ble_eq_true rfl) (c_D_cp _ _ _ hq2) rfl ?_
  refine x_loc [(0, .inr (.inr (some 0))), (1, .inr (.inr (some 11)))] ⟨rfl, rfl, trivial⟩ ?_
  exact t_E_cp_56 hd9 C hR _ h
def f_E_cp (m : xM) : Option (xM) :=
     (if xcb 0 0 (m 11 5) 200 200 then (Option.bind (f_E_kept (xvw [11, 12, 13, 14, 15, 16, 17, 18, 19, 20, 21] (xcp m 12 1 (0) (0) (xix (m 11 5))))) fun q0 =>
      (if xcb 0 0 q0 400 400 then f_E_cp_34 (xcp (xcp m 12 1 (0) (0) (xix (m 11 5))) 13 2 (0) (0) (xix q0))
      else none))
      else none)
set_option maxRecDepth 1000000 in
set_option maxHeartbeats 4000000 in
theorem t_E_cp {Γ : xG} {d : Nat} (hd9 : 2 ≤ d) (C : xC Γ lay_E2 RX1 cX1_copyFrom 2 d) {m9 : xM} (hR : xRv Γ lay_E2 cX1_copyFrom m9) (m : xM) (h : f_E_cp m = some m9) : xW Γ lay_E2 2 0 [(0, .inr (.inr (some 0))), (1, .inr (.inr (some 11)))] [] m := by
  unfold f_E_cp at h
  refine x_aload_n C dX1_copyFrom_0 rfl ?_
  refine x_getR C dX1_copyFrom_1 fF_X1_9 rfl rfl ?_
  refine x_iconst C dX1_copyFrom_4 ?_
  refine x_aload_n C dX1_copyFrom_5 rfl ?_
  refine x_getR C dX1_copyFrom_6 fF_X1_9 rfl rfl ?_
  refine x_iconst C dX1_copyFrom_9 ?_
  refine x_aload_n C dX1_copyFrom_10 rfl ?_
  refine x_getI C dX1_copyFrom_11 fF_X1_42 rfl rfl ?_
  refine x_copy C dX1_copyFrom_14 (xin_18 _ (List.mem_of_getElem? (i := 13) rfl)) gm_copy_n gm_copy_s gm_copy_i (by omega) (Nat.le_of_ble_eq_true rfl) rfl rfl h (fun h => ?_)
  refine x_aload_n C dX1_copyFrom_17 rfl ?_
  refine x_getR C dX1_copyFrom_18 fF_X1_15 rfl rfl ?_
  refine x_iconst C dX1_copyFrom_21 ?_
  refine x_aload_n C dX1_copyFrom_22 rfl ?_
  refine x_getR C dX1_copyFrom_23 fF_X1_15 rfl rfl ?_
  refine x_iconst C dX1_copyFrom_26 ?_
  refine x_aload_n C dX1_copyFrom_27 rfl ?_
  obtain ⟨q0, hq0, h⟩ := x_bind h
  refine x_callVp C dX1_copyFrom_28 (xin_18 _ (List.mem_of_getElem? (i := 14) rfl)) xy_X1_keptCount (xi_X1_keptCount) (xs_X1_keptCount) [11, 12, 13, 14, 15, 16, 17, 18, 19, 20, 21] xv_4 (by omega) (by decide) (b := 0) rfl ⟨_, _, rfl⟩ (av := []) rfl (Nat.le_of_ble_eq_true rfl) (c_E_kept _ _ _ hq0) rfl ?_
  refine x_copy C dX1_copyFrom_31 (xin_18 _ (List.mem_of_getElem? (i := 13) rfl)) gm_copy_n gm_copy_s gm_copy_i (by omega) (Nat.le_of_ble_eq_true rfl) rfl rfl h (fun h => ?_)
  refine x_loc [(0, .inr (.inr (some 0))), (1, .inr (.inr (some 11)))] ⟨rfl, rfl, trivial⟩ ?_
  exact t_E_cp_34 hd9 C hR _ h
theorem c_E_cp (l : Launch) (m m9 : xM) (h : f_E_cp m = some m9) : xMet l yX1_copyFrom cX1_copyFrom 2 none 2 lay_E2 [.inr (.inr (some 0)), .inr (.inr (some 11))] m none m9 :=
  xMet_v (by decide +kernel) (Nat.le_of_ble_eq_true rfl) (fun Γ C hR hl9 => t_E_cp (Nat.le_refl _) C hR m h)
theorem dX1_nextFrameSize_0 : decode cX1_nextFrameSize 0 = .ok (.aload_n 0, 1) := by decide +kernel
theorem dX1_nextFrameSize_1 : decode cX1_nextFrameSize 1 = .ok (.getfield 42, 3) := by decide +kernel
theorem dX1_nextFrameSize_4 : decode cX1_nextFrameSize 4 = .ok (.bipush 8, 2) := by decide +kernel
theorem dX1_nextFrameSize_6 : decode cX1_nextFrameSize 6 = .ok (.invokestatic 78, 3) := by decide +kernel
theorem dX1_nextFrameSize_9 : decode cX1_nextFrameSize 9 = .ok (.ireturn, 1) := by decide +kernel
def f_E_next (m : xM) : Option (Int) :=
     some (if xw 8 < xw (m 0 5) then 8 else (m 0 5))
set_option maxRecDepth 1000000 in
set_option maxHeartbeats 4000000 in
theorem t_E_next {Γ : xG} {d : Nat} (hd9 : 1 ≤ d) (C : xC Γ lay_E RX1 cX1_nextFrameSize 1 d) {r : Int} {m : xM} (hR : xRi Γ lay_E cX1_nextFrameSize r m) (h : f_E_next m = some r) : xW Γ lay_E 1 0 [(0, .inr (.inr (some 0)))] [] m := by
  unfold f_E_next at h
  refine x_aload_n C dX1_nextFrameSize_0 rfl ?_
  refine x_getI C dX1_nextFrameSize_1 fF_X1_42 rfl rfl ?_
  refine x_bipush C dX1_nextFrameSize_4 (by decide) ?_
  refine x_min C dX1_nextFrameSize_6 (xin_18 _ (List.mem_of_getElem? (i := 18) rfl)) gm_min_s gm_math gm_min_c (by omega) (Nat.le_of_ble_eq_true rfl) ?_
  exact x_ireturnP hR dX1_nextFrameSize_9 h
theorem c_E_next (l : Launch) (m : xM) (r : Int) (h : f_E_next m = some r) : xMet l yX1_nextFrameSize cX1_nextFrameSize 1 (some .int) 1 lay_E [.inr (.inr (some 0))] m (some (.inl r)) m :=
  xMet_i (by decide +kernel) (Nat.le_of_ble_eq_true rfl) (fun Γ C hR hl9 => t_E_next (Nat.le_refl _) C hR h)
theorem dX1_enqueue_0 : decode cX1_enqueue 0 = .ok (.aload_n 1, 1) := by decide +kernel
theorem dX1_enqueue_1 : decode cX1_enqueue 1 = .ok (.iconst 0, 1) := by decide +kernel
theorem dX1_enqueue_2 : decode cX1_enqueue 2 = .ok (.aload_n 0, 1) := by decide +kernel
theorem dX1_enqueue_3 : decode cX1_enqueue 3 = .ok (.getfield 9, 3) := by decide +kernel
theorem dX1_enqueue_6 : decode cX1_enqueue 6 = .ok (.aload_n 0, 1) := by decide +kernel
theorem dX1_enqueue_7 : decode cX1_enqueue 7 = .ok (.getfield 42, 3) := by decide +kernel
theorem dX1_enqueue_10 : decode cX1_enqueue 10 = .ok (.iload_n 2, 1) := by decide +kernel
theorem dX1_enqueue_11 : decode cX1_enqueue 11 = .ok (.invokestatic 61, 3) := by decide +kernel
theorem dX1_enqueue_14 : decode cX1_enqueue 14 = .ok (.aload_n 0, 1) := by decide +kernel
theorem dX1_enqueue_15 : decode cX1_enqueue 15 = .ok (.dup, 1) := by decide +kernel
theorem dX1_enqueue_16 : decode cX1_enqueue 16 = .ok (.getfield 42, 3) := by decide +kernel
theorem dX1_enqueue_19 : decode cX1_enqueue 19 = .ok (.iload_n 2, 1) := by decide +kernel
theorem dX1_enqueue_20 : decode cX1_enqueue 20 = .ok (.iadd, 1) := by decide +kernel
theorem dX1_enqueue_21 : decode cX1_enqueue 21 = .ok (.putfield 42, 3) := by decide +kernel
theorem dX1_enqueue_24 : decode cX1_enqueue 24 = .ok (.return_, 1) := by decide +kernel
def f_E_enq (z : Int) (m : xM) : Option (xM) :=
     (if xcb 0 (m 0 5) z 600 200 then some (xu (xcp m 11 1 (0) (xix (m 0 5)) (xix z)) 0 5 (((xcp m 11 1 (0) (xix (m 0 5)) (xix z)) 0 5) + z))
      else none)
set_option maxRecDepth 1000000 in
set_option maxHeartbeats 4000000 in
theorem t_E_enq {Γ : xG} {d : Nat} (hd9 : 1 ≤ d) (C : xC Γ lay_ES RX1 cX1_enqueue 3 d) (z : Int) {m9 : xM} (hR : xRv Γ lay_ES cX1_enqueue m9) (m : xM) (h : f_E_enq z m = some m9) : xW Γ lay_ES 3 0 [(0, .inr (.inr (some 0))), (1, .inr (.inr (some 11))), (2, .inl z)] [] m := by
  unfold f_E_enq at h
  refine x_aload_n C dX1_enqueue_0 rfl ?_
  refine x_iconst C dX1_enqueue_1 ?_
  refine x_aload_n C dX1_enqueue_2 rfl ?_
  refine x_getR C dX1_enqueue_3 fF_X1_9 rfl rfl ?_
  refine x_aload_n C dX1_enqueue_6 rfl ?_
  refine x_getI C dX1_enqueue_7 fF_X1_42 rfl rfl ?_
  refine x_iload_n C dX1_enqueue_10 rfl ?_
  refine x_copy C dX1_enqueue_11 (xin_18 _ (List.mem_of_getElem? (i := 13) rfl)) gm_copy_n gm_copy_s gm_copy_i (by omega) (Nat.le_of_ble_eq_true rfl) rfl rfl h (fun h => ?_)
  refine x_aload_n C dX1_enqueue_14 rfl ?_
  refine x_dup C dX1_enqueue_15 rfl ?_
  refine x_getI C dX1_enqueue_16 fF_X1_42 rfl rfl ?_
  refine x_iload_n C dX1_enqueue_19 rfl ?_
  refine x_iadd C dX1_enqueue_20 ?_
  refine x_putI C dX1_enqueue_21 fF_X1_42 rfl rfl ?_
  exact x_returnV hR dX1_enqueue_24 h
theorem c_E_enq (l : Launch) (z : Int) (m m9 : xM) (h : f_E_enq z m = some m9) : xMet l yX1_enqueue cX1_enqueue 3 none 1 lay_ES [.inr (.inr (some 0)), .inr (.inr (some 11)), .inl z] m none m9 :=
  xMet_v (by decide +kernel) (Nat.le_of_ble_eq_true rfl) (fun Γ C hR hl9 => t_E_enq (Nat.le_refl _) C z hR m h)
theorem xy_X1_nextFrameSize : xY yX1_nextFrameSize cX1_nextFrameSize 1 (some .int) 0 := ⟨(xin_28 _ (List.mem_of_getElem? (i := 1) rfl)), (xin_3 _ (List.mem_of_getElem? (i := 21) rfl)), by decide, by decide, by decide +kernel⟩
theorem xi_X1_nextFrameSize : Cond.instanceMethod yX1_nextFrameSize ∈ wsL_law := (xin_27 _ (List.mem_of_getElem? (i := 23) rfl))
theorem xs_X1_nextFrameSize : Cond.selects yX1_nextFrameSize.cls yX1_nextFrameSize yX1_nextFrameSize ∈ wsL_law := (xin_28 _ (List.mem_of_getElem? (i := 0) rfl))
theorem xy_X2_make : xY yX2_make cX2_make 4 none 3 := ⟨(xin_28 _ (List.mem_of_getElem? (i := 16) rfl)), (xin_4 _ (List.mem_of_getElem? (i := 21) rfl)), by decide, by decide, by decide +kernel⟩
theorem xi_X2_make : Cond.instanceMethod yX2_make ∈ wsL_law := (xin_28 _ (List.mem_of_getElem? (i := 14) rfl))
theorem xs_X2_make : Cond.selects yX2_make.cls yX2_make yX2_make ∈ wsL_law := (xin_28 _ (List.mem_of_getElem? (i := 15) rfl))
theorem xv_8 : xview lay_E lay_FS [3, 4, 5, 6, 1] := xview_of (by decide +kernel)
theorem dX1_makeFrame_0 : decode cX1_makeFrame 0 = .ok (.aload_n 0, 1) := by decide +kernel
theorem dX1_makeFrame_1 : decode cX1_makeFrame 1 = .ok (.invokevirtual 84, 3) := by decide +kernel
theorem dX1_makeFrame_4 : decode cX1_makeFrame 4 = .ok (.istore_n 2, 1) := by decide +kernel
theorem dX1_makeFrame_5 : decode cX1_makeFrame 5 = .ok (.aload_n 0, 1) := by decide +kernel
theorem dX1_makeFrame_6 : decode cX1_makeFrame 6 = .ok (.getfield 21, 3) := by decide +kernel
theorem dX1_makeFrame_9 : decode cX1_makeFrame 9 = .ok (.iload_n 1, 1) := by decide +kernel
theorem dX1_makeFrame_10 : decode cX1_makeFrame 10 = .ok (.aload_n 0, 1) := by decide +kernel
theorem dX1_makeFrame_11 : decode cX1_makeFrame 11 = .ok (.getfield 9, 3) := by decide +kernel
theorem dX1_makeFrame_14 : decode cX1_makeFrame 14 = .ok (.iload_n 2, 1) := by decide +kernel
theorem dX1_makeFrame_15 : decode cX1_makeFrame 15 = .ok (.invokevirtual 87, 3) := by decide +kernel
theorem dX1_makeFrame_18 : decode cX1_makeFrame 18 = .ok (.aload_n 0, 1) := by decide +kernel
theorem dX1_makeFrame_19 : decode cX1_makeFrame 19 = .ok (.dup, 1) := by decide +kernel
theorem dX1_makeFrame_20 : decode cX1_makeFrame 20 = .ok (.getfield 42, 3) := by decide +kernel
theorem dX1_makeFrame_23 : decode cX1_makeFrame 23 = .ok (.iload_n 2, 1) := by decide +kernel
theorem dX1_makeFrame_24 : decode cX1_makeFrame 24 = .ok (.isub, 1) := by decide +kernel
theorem dX1_makeFrame_25 : decode cX1_makeFrame 25 = .ok (.putfield 42, 3) := by decide +kernel
theorem dX1_makeFrame_28 : decode cX1_makeFrame 28 = .ok (.iconst 0, 1) := by decide +kernel
theorem dX1_makeFrame_29 : decode cX1_makeFrame 29 = .ok (.istore_n 3, 1) := by decide +kernel
theorem dX1_makeFrame_30 : decode cX1_makeFrame 30 = .ok (.iload_n 3, 1) := by decide +kernel
theorem dX1_makeFrame_31 : decode cX1_makeFrame 31 = .ok (.aload_n 0, 1) := by decide +kernel
theorem dX1_makeFrame_32 : decode cX1_makeFrame 32 = .ok (.getfield 42, 3) := by decide +kernel
theorem dX1_makeFrame_35 : decode cX1_makeFrame 35 = .ok (.if_icmp .ge 23, 3) := by decide +kernel
theorem dX1_makeFrame_38 : decode cX1_makeFrame 38 = .ok (.aload_n 0, 1) := by decide +kernel
theorem dX1_makeFrame_39 : decode cX1_makeFrame 39 = .ok (.getfield 9, 3) := by decide +kernel
theorem dX1_makeFrame_42 : decode cX1_makeFrame 42 = .ok (.iload_n 3, 1) := by decide +kernel
theorem dX1_makeFrame_43 : decode cX1_makeFrame 43 = .ok (.aload_n 0, 1) := by decide +kernel
theorem dX1_makeFrame_44 : decode cX1_makeFrame 44 = .ok (.getfield 9, 3) := by decide +kernel
theorem dX1_makeFrame_47 : decode cX1_makeFrame 47 = .ok (.iload_n 3, 1) := by decide +kernel
theorem dX1_makeFrame_48 : decode cX1_makeFrame 48 = .ok (.iload_n 2, 1) := by decide +kernel
theorem dX1_makeFrame_49 : decode cX1_makeFrame 49 = .ok (.iadd, 1) := by decide +kernel
theorem dX1_makeFrame_50 : decode cX1_makeFrame 50 = .ok (.iaload, 1) := by decide +kernel
theorem dX1_makeFrame_51 : decode cX1_makeFrame 51 = .ok (.iastore, 1) := by decide +kernel
theorem dX1_makeFrame_52 : decode cX1_makeFrame 52 = .ok (.iinc 3 1, 3) := by decide +kernel
theorem dX1_makeFrame_55 : decode cX1_makeFrame 55 = .ok (.goto (-25), 3) := by decide +kernel
theorem dX1_makeFrame_58 : decode cX1_makeFrame 58 = .ok (.return_, 1) := by decide +kernel
def f_E_make_30 (s : Int) : Nat → Int → Int → xM → Option (xM)
  | 0, _, _, _ => none
  | n + 1, x2, x3, m =>
     (if xw x3 < xw (m 0 5) then (if xib (x3 + x2) 200 then (if xib x3 200 then f_E_make_30 s n x2 (x3 + 1) (xu m 1 (xix x3) (m 1 (xix (x3 + x2))))
      else none)
      else none)
      else some m)
set_option maxRecDepth 1000000 in
set_option maxHeartbeats 4000000 in
theorem t_E_make_30 {Γ : xG} {d : Nat} (hd9 : 2 ≤ d) (C : xC Γ lay_E RX1 cX1_makeFrame 4 d) (s : Int) {m9 : xM} (hR : xRv Γ lay_E cX1_makeFrame m9) : ∀ (n : Nat) (x2 : Int) (x3 : Int) (m : xM), f_E_make_30 s n x2 x3 m = some m9 → xW Γ lay_E 4 30 [(0, .inr (.inr (some 0))), (2, .inl x2), (3, .inl x3)] [] m := by
  intro n
  induction n with
  | zero => intro _ _ _ h; cases h
  | succ n ih =>
    intro x2 x3 m h
    rw [f_E_make_30] at h
    refine x_iload_n C dX1_makeFrame_30 rfl ?_
    refine x_aload_n C dX1_makeFrame_31 rfl ?_
    refine x_getI C dX1_makeFrame_32 fF_X1_42 rfl rfl ?_
    refine x_icmp_ge C 58 dX1_makeFrame_35 (by decide) h (fun h => ?_) (fun h => ?_)
    · exact x_returnV hR dX1_makeFrame_58 h
    · refine x_aload_n C dX1_makeFrame_38 rfl ?_
      refine x_getR C dX1_makeFrame_39 fF_X1_9 rfl rfl ?_
      refine x_iload_n C dX1_makeFrame_42 rfl ?_
      refine x_aload_n C dX1_makeFrame_43 rfl ?_
      refine x_getR C dX1_makeFrame_44 fF_X1_9 rfl rfl ?_
      refine x_iload_n C dX1_makeFrame_47 rfl ?_
      refine x_iload_n C dX1_makeFrame_48 rfl ?_
      refine x_iadd C dX1_makeFrame_49 ?_
      refine x_iaload C dX1_makeFrame_50 rfl h (fun h => ?_)
      refine x_iastore C dX1_makeFrame_51 rfl h (fun h => ?_)
      refine x_iinc C dX1_makeFrame_52 (by decide) rfl ?_
      refine x_goto C 30 dX1_makeFrame_55 (by decide) ?_
      refine x_loc [(0, .inr (.inr (some 0))), (2, .inl x2), (3, .inl (x3 + 1))] ⟨rfl, rfl, rfl, trivial⟩ ?_
      exact ih _ _ _ h
def f_E_make_28 (s : Int) (x2 : Int) (m : xM) : Option (xM) :=
     f_E_make_30 s fu x2 0 m
set_option maxRecDepth 1000000 in
set_option maxHeartbeats 4000000 in
theorem t_E_make_28 {Γ : xG} {d : Nat} (hd9 : 2 ≤ d) (C : xC Γ lay_E RX1 cX1_makeFrame 4 d) (s : Int) {m9 : xM} (hR : xRv Γ lay_E cX1_makeFrame m9) (x2 : Int) (m : xM) (h : f_E_make_28 s x2 m = some m9) : xW Γ lay_E 4 28 [(0, .inr (.inr (some 0))), (2, .inl x2)] [] m := by
  unfold f_E_make_28 at h
  refine x_iconst C dX1_makeFrame_28 ?_
  refine x_istore_n C dX1_makeFrame_29 (by decide) ?_
  refine x_loc [(0, .inr (.inr (some 0))), (2, .inl x2), (3, .inl 0)] ⟨rfl, rfl, rfl, trivial⟩ ?_
  exact t_E_make_30 hd9 C _ hR fu _ _ _ h
def f_E_make (s : Int) (m : xM) : Option (xM) :=
     (Option.bind (f_E_next m) fun q0 =>
      (Option.bind (f_F_make s q0 (xvw [3, 4, 5, 6, 1] m)) fun q1 =>
      f_E_make_28 s q0 (xu (xmg [3, 4, 5, 6, 1] 5 m q1) 0 5 (((xmg [3, 4, 5, 6, 1] 5 m q1) 0 5) - q0))))
set_option maxRecDepth 1000000 in
set_option maxHeartbeats 4000000 in
theorem t_E_make {Γ : xG} {d : Nat} (hd9 : 2 ≤ d) (C : xC Γ lay_E RX1 cX1_makeFrame 4 d) (s : Int) {m9 : xM} (hR : xRv Γ lay_E cX1_makeFrame m9) (m : xM) (h : f_E_make s m = some m9) : xW Γ lay_E 4 0 [(0, .inr (.inr (some 0))), (1, .inl s)] [] m := by
  unfold f_E_make at h
  refine x_aload_n C dX1_makeFrame_0 rfl ?_
  obtain ⟨q0, hq0, h⟩ := x_bind h
  refine x_callVI C dX1_makeFrame_1 (xin_28 _ (List.mem_of_getElem? (i := 12) rfl)) xy_X1_nextFrameSize (xi_X1_nextFrameSize) (xs_X1_nextFrameSize) (by omega) (by decide) (b := 0) rfl ⟨_, _, rfl⟩ (av := []) rfl (Nat.le_of_ble_eq_true rfl) (c_E_next _ _ _ hq0) rfl ?_
  refine x_istore_n C dX1_makeFrame_4 (by decide) ?_
  refine x_aload_n C dX1_makeFrame_5 rfl ?_
  refine x_getR C dX1_makeFrame_6 fF_X1_21 rfl rfl ?_
  refine x_iload_n C dX1_makeFrame_9 rfl ?_
  refine x_aload_n C dX1_makeFrame_10 rfl ?_
  refine x_getR C dX1_makeFrame_11 fF_X1_9 rfl rfl ?_
  refine x_iload_n C dX1_makeFrame_14 rfl ?_
  obtain ⟨q1, hq1, h⟩ := x_bind h
  refine x_callV C dX1_makeFrame_15 (xin_28 _ (List.mem_of_getElem? (i := 13) rfl)) xy_X2_make (xi_X2_make) (xs_X2_make) [3, 4, 5, 6, 1] xv_8 (by omega) (by decide) (b := 0) rfl ⟨_, _, rfl⟩ (av := [.inl s, .inr (.inr (some 4)), .inl q0]) rfl (Nat.le_of_ble_eq_true rfl) (c_F_make _ _ _ _ _ hq1) rfl ?_
  refine x_aload_n C dX1_makeFrame_18 rfl ?_
  refine x_dup C dX1_makeFrame_19 rfl ?_
  refine x_getI C dX1_makeFrame_20 fF_X1_42 rfl rfl ?_
  refine x_iload_n C dX1_makeFrame_23 rfl ?_
  refine x_isub C dX1_makeFrame_24 ?_
  refine x_putI C dX1_makeFrame_25 fF_X1_42 rfl rfl ?_
  refine x_loc [(0, .inr (.inr (some 0))), (2, .inl q0)] ⟨rfl, rfl, trivial⟩ ?_
  exact t_E_make_28 hd9 C _ hR _ _ h
theorem c_E_make (l : Launch) (s : Int) (m m9 : xM) (h : f_E_make s m = some m9) : xMet l yX1_makeFrame cX1_makeFrame 4 none 2 lay_E [.inr (.inr (some 0)), .inl s] m none m9 :=
  xMet_v (by decide +kernel) (Nat.le_of_ble_eq_true rfl) (fun Γ C hR hl9 => t_E_make (Nat.le_refl _) C s hR m h)
theorem xy_X0_putInFront : xY yX0_putInFront cX0_putInFront 5 (some .int) 1 := ⟨(xin_25 _ (List.mem_of_getElem? (i := 23) rfl)), (xin_4 _ (List.mem_of_getElem? (i := 11) rfl)), by decide, by decide, by decide +kernel⟩
theorem xi_X0_putInFront : Cond.instanceMethod yX0_putInFront ∈ wsL_law := (xin_25 _ (List.mem_of_getElem? (i := 21) rfl))
theorem xs_X0_putInFront : Cond.selects yX0_putInFront.cls yX0_putInFront yX0_putInFront ∈ wsL_law := (xin_25 _ (List.mem_of_getElem? (i := 22) rfl))
theorem xv_9 : xview lay_E lay_D [9, 10] := xview_of (by decide +kernel)
theorem dX1_read_0 : decode cX1_read 0 = .ok (.aload_n 0, 1) := by decide +kernel
theorem dX1_read_1 : decode cX1_read 1 = .ok (.getfield 32, 3) := by decide +kernel
theorem dX1_read_4 : decode cX1_read 4 = .ok (.iload_n 1, 1) := by decide +kernel
theorem dX1_read_5 : decode cX1_read 5 = .ok (.invokevirtual 91, 3) := by decide +kernel
theorem dX1_read_8 : decode cX1_read 8 = .ok (.pop, 1) := by decide +kernel
theorem dX1_read_9 : decode cX1_read 9 = .ok (.aload_n 0, 1) := by decide +kernel
theorem dX1_read_10 : decode cX1_read 10 = .ok (.getfield 45, 3) := by decide +kernel
theorem dX1_read_13 : decode cX1_read 13 = .ok (.sipush 400, 3) := by decide +kernel
theorem dX1_read_16 : decode cX1_read 16 = .ok (.if_icmp .ge 13, 3) := by decide +kernel
theorem dX1_read_19 : decode cX1_read 19 = .ok (.aload_n 0, 1) := by decide +kernel
theorem dX1_read_20 : decode cX1_read 20 = .ok (.getfield 15, 3) := by decide +kernel
theorem dX1_read_23 : decode cX1_read 23 = .ok (.aload_n 0, 1) := by decide +kernel
theorem dX1_read_24 : decode cX1_read 24 = .ok (.getfield 45, 3) := by decide +kernel
theorem dX1_read_27 : decode cX1_read 27 = .ok (.iload_n 1, 1) := by decide +kernel
theorem dX1_read_28 : decode cX1_read 28 = .ok (.iastore, 1) := by decide +kernel
theorem dX1_read_29 : decode cX1_read 29 = .ok (.aload_n 0, 1) := by decide +kernel
theorem dX1_read_30 : decode cX1_read 30 = .ok (.dup, 1) := by decide +kernel
theorem dX1_read_31 : decode cX1_read 31 = .ok (.getfield 45, 3) := by decide +kernel
theorem dX1_read_34 : decode cX1_read 34 = .ok (.iconst 1, 1) := by decide +kernel
theorem dX1_read_35 : decode cX1_read 35 = .ok (.iadd, 1) := by decide +kernel
theorem dX1_read_36 : decode cX1_read 36 = .ok (.putfield 45, 3) := by decide +kernel
theorem dX1_read_39 : decode cX1_read 39 = .ok (.return_, 1) := by decide +kernel
def f_E_read_29 (v : Int) (m : xM) : Option (xM) :=
     some (xu m 0 6 ((m 0 6) + 1))
set_option maxRecDepth 1000000 in
set_option maxHeartbeats 4000000 in
theorem t_E_read_29 {Γ : xG} {d : Nat} (hd9 : 2 ≤ d) (C : xC Γ lay_E RX1 cX1_read 2 d) (v : Int) {m9 : xM} (hR : xRv Γ lay_E cX1_read m9) (m : xM) (h : f_E_read_29 v m = some m9) : xW Γ lay_E 2 29 [(0, .inr (.inr (some 0)))] [] m := by
  unfold f_E_read_29 at h
  refine x_aload_n C dX1_read_29 rfl ?_
  refine x_dup C dX1_read_30 rfl ?_
  refine x_getI C dX1_read_31 fF_X1_45 rfl rfl ?_
  refine x_iconst C dX1_read_34 ?_
  refine x_iadd C dX1_read_35 ?_
  refine x_putI C dX1_read_36 fF_X1_45 rfl rfl ?_
  exact x_returnV hR dX1_read_39 h
def f_E_read (v : Int) (m : xM) : Option (xM) :=
     (Option.bind (f_D_put v (xvw [9, 10] m)) fun q0 =>
      (if xw ((xmg [9, 10] 2 m q0.2) 0 6) < xw 400 then (if xib ((xmg [9, 10] 2 m q0.2) 0 6) 400 then f_E_read_29 v (xu (xmg [9, 10] 2 m q0.2) 2 (xix ((xmg [9, 10] 2 m q0.2) 0 6)) v)
      else none)
      else f_E_read_29 v (xmg [9, 10] 2 m q0.2)))
set_option maxRecDepth 1000000 in
set_option maxHeartbeats 4000000 in
theorem t_E_read {Γ : xG} {d : Nat} (hd9 : 2 ≤ d) (C : xC Γ lay_E RX1 cX1_read 2 d) (v : Int) {m9 : xM} (hR : xRv Γ lay_E cX1_read m9) (m : xM) (h : f_E_read v m = some m9) : xW Γ lay_E 2 0 [(0, .inr (.inr (some 0))), (1, .inl v)] [] m := by
  unfold f_E_read at h
  refine x_aload_n C dX1_read_0 rfl ?_
  refine x_getR C dX1_read_1 fF_X1_32 rfl rfl ?_
  refine x_iload_n C dX1_read_4 rfl ?_
  obtain ⟨q0, hq0, h⟩ := x_bind h
  refine x_callV C dX1_read_5 (xin_25 _ (List.mem_of_getElem? (i := 20) rfl)) xy_X0_putInFront (xi_X0_putInFront) (xs_X0_putInFront) [9, 10] xv_9 (by omega) (by decide) (b := 0) rfl ⟨_, _, rfl⟩ (av := [.inl v]) rfl (Nat.le_of_ble_eq_true rfl) (c_D_put _ _ _ q0.1 q0.2 hq0) rfl ?_
  refine x_pop C dX1_read_8 rfl ?_
  refine x_aload_n C dX1_read_9 rfl ?_
  refine x_getI C dX1_read_10 fF_X1_45 rfl rfl ?_
  refine x_sipush C dX1_read_13 (by decide) ?_
  refine x_icmp_ge C 29 dX1_read_16 (by decide) h (fun h => ?_) (fun h => ?_)
  · refine x_loc [(0, .inr (.inr (some 0)))] ⟨rfl, trivial⟩ ?_
    exact t_E_read_29 hd9 C _ hR _ h
  · refine x_aload_n C dX1_read_19 rfl ?_
    refine x_getR C dX1_read_20 fF_X1_15 rfl rfl ?_
    refine x_aload_n C dX1_read_23 rfl ?_
    refine x_getI C dX1_read_24 fF_X1_45 rfl rfl ?_
    refine x_iload_n C dX1_read_27 rfl ?_
    refine x_iastore C dX1_read_28 rfl h (fun h => ?_)
    refine x_loc [(0, .inr (.inr (some 0)))] ⟨rfl, trivial⟩ ?_
    exact t_E_read_29 hd9 C _ hR _ h
theorem c_E_read (l : Launch) (v : Int) (m m9 : xM) (h : f_E_read v m = some m9) : xMet l yX1_read cX1_read 2 none 2 lay_E [.inr (.inr (some 0)), .inl v] m none m9 :=
  xMet_v (by decide +kernel) (Nat.le_of_ble_eq_true rfl) (fun Γ C hR hl9 => t_E_read (Nat.le_refl _) C v hR m h)
theorem xy_X2_forgetBelow : xY yX2_forgetBelow cX2_forgetBelow 3 none 1 := ⟨(xin_23 _ (List.mem_of_getElem? (i := 3) rfl)), (xin_4 _ (List.mem_of_getElem? (i := 21) rfl)), by decide, by decide, by decide +kernel⟩
theorem xi_X2_forgetBelow : Cond.instanceMethod yX2_forgetBelow ∈ wsL_law := (xin_23 _ (List.mem_of_getElem? (i := 1) rfl))
theorem xs_X2_forgetBelow : Cond.selects yX2_forgetBelow.cls yX2_forgetBelow yX2_forgetBelow ∈ wsL_law := (xin_23 _ (List.mem_of_getElem? (i := 2) rfl))
theorem fF_X1_99 : xF RX1 99 3 5 .int false := ⟨RX2, TX2, 6, tyX2, rfl, by decide, (xin_22 _ (List.mem_of_getElem? (i := 23) rfl)), rfl, inlX2, tyX2_ok, nmX2, rfl, rfl⟩
theorem dX1_comeOnline_0 : decode cX1_comeOnline 0 = .ok (.aload_n 0, 1) := by decide +kernel
theorem dX1_comeOnline_1 : decode cX1_comeOnline 1 = .ok (.getfield 21, 3) := by decide +kernel
theorem dX1_comeOnline_4 : decode cX1_comeOnline 4 = .ok (.iload_n 1, 1) := by decide +kernel
theorem dX1_comeOnline_5 : decode cX1_comeOnline 5 = .ok (.invokevirtual 95, 3) := by decide +kernel
theorem dX1_comeOnline_8 : decode cX1_comeOnline 8 = .ok (.aload_n 0, 1) := by decide +kernel
theorem dX1_comeOnline_9 : decode cX1_comeOnline 9 = .ok (.getfield 21, 3) := by decide +kernel
theorem dX1_comeOnline_12 : decode cX1_comeOnline 12 = .ok (.iconst 0, 1) := by decide +kernel
theorem dX1_comeOnline_13 : decode cX1_comeOnline 13 = .ok (.putfield 99, 3) := by decide +kernel
theorem dX1_comeOnline_16 : decode cX1_comeOnline 16 = .ok (.aload_n 0, 1) := by decide +kernel
theorem dX1_comeOnline_17 : decode cX1_comeOnline 17 = .ok (.iconst 0, 1) := by decide +kernel
theorem dX1_comeOnline_18 : decode cX1_comeOnline 18 = .ok (.putfield 51, 3) := by decide +kernel
theorem dX1_comeOnline_21 : decode cX1_comeOnline 21 = .ok (.aload_n 0, 1) := by decide +kernel
theorem dX1_comeOnline_22 : decode cX1_comeOnline 22 = .ok (.iconst 0, 1) := by decide +kernel
theorem dX1_comeOnline_23 : decode cX1_comeOnline 23 = .ok (.putfield 54, 3) := by decide +kernel
theorem dX1_comeOnline_26 : decode cX1_comeOnline 26 = .ok (.aload_n 0, 1) := by decide +kernel
theorem dX1_comeOnline_27 : decode cX1_comeOnline 27 = .ok (.iconst 1, 1) := by decide +kernel
theorem dX1_comeOnline_28 : decode cX1_comeOnline 28 = .ok (.putfield 58, 3) := by decide +kernel
theorem dX1_comeOnline_31 : decode cX1_comeOnline 31 = .ok (.return_, 1) := by decide +kernel
def f_E_online (x : Int) (m : xM) : Option (xM) :=
     (Option.bind (f_F_forget x (xvw [3, 4, 5, 6] m)) fun q0 =>
      some (xu (xu (xu (xu (xmg [3, 4, 5, 6] 4 m q0) 3 5 0) 0 8 0) 0 9 0) 0 10 1))
set_option maxRecDepth 1000000 in
set_option maxHeartbeats 4000000 in
theorem t_E_online {Γ : xG} {d : Nat} (hd9 : 3 ≤ d) (C : xC Γ lay_E RX1 cX1_comeOnline 2 d) (x : Int) {m9 : xM} (hR : xRv Γ lay_E cX1_comeOnline m9) (m : xM) (h : f_E_online x m = some m9) : xW Γ lay_E 2 0 [(0, .inr (.inr (some 0))), (1, .inl x)] [] m := by
  unfold f_E_online at h
  refine x_aload_n C dX1_comeOnline_0 rfl ?_
  refine x_getR C dX1_comeOnline_1 fF_X1_21 rfl rfl ?_
  refine x_iload_n C dX1_comeOnline_4 rfl ?_
  obtain ⟨q0, hq0, h⟩ := x_bind h
  refine x_callV C dX1_comeOnline_5 (xin_23 _ (List.mem_of_getElem? (i := 0) rfl)) xy_X2_forgetBelow (xi_X2_forgetBelow) (xs_X2_forgetBelow) [3, 4, 5, 6] xv_3 (by omega) (by decide) (b := 0) rfl ⟨_, _, rfl⟩ (av := [.inl x]) rfl (Nat.le_of_ble_eq_true rfl) (c_F_forget _ _ _ _ hq0) rfl ?_
  refine x_aload_n C dX1_comeOnline_8 rfl ?_
  refine x_getR C dX1_comeOnline_9 fF_X1_21 rfl rfl ?_
  refine x_iconst C dX1_comeOnline_12 ?_
  refine x_putI C dX1_comeOnline_13 fF_X1_99 rfl rfl ?_
  refine x_aload_n C dX1_comeOnline_16 rfl ?_
  refine x_iconst C dX1_comeOnline_17 ?_
  refine x_putI C dX1_comeOnline_18 fF_X1_51 rfl rfl ?_
  refine x_aload_n C dX1_comeOnline_21 rfl ?_
  refine x_iconst C dX1_comeOnline_22 ?_
  refine x_putZ C dX1_comeOnline_23 fF_X1_54 rfl rfl (by decide) ?_
  refine x_aload_n C dX1_comeOnline_26 rfl ?_
  refine x_iconst C dX1_comeOnline_27 ?_
  refine x_putZ C dX1_comeOnline_28 fF_X1_58 rfl rfl (by decide) ?_
  exact x_returnV hR dX1_comeOnline_31 h
theorem c_E_online (l : Launch) (x : Int) (m m9 : xM) (h : f_E_online x m = some m9) : xMet l yX1_comeOnline cX1_comeOnline 2 none 3 lay_E [.inr (.inr (some 0)), .inl x] m none m9 :=
  xMet_v (by decide +kernel) (Nat.le_of_ble_eq_true rfl) (fun Γ C hR hl9 => t_E_online (Nat.le_refl _) C x hR m h)
theorem xy_X2_loseAll : xY yX2_loseAll cX2_loseAll 1 none 0 := ⟨(xin_22 _ (List.mem_of_getElem? (i := 2) rfl)), (xin_4 _ (List.mem_of_getElem? (i := 21) rfl)), by decide, by decide, by decide +kernel⟩
theorem xi_X2_loseAll : Cond.instanceMethod yX2_loseAll ∈ wsL_law := (xin_22 _ (List.mem_of_getElem? (i := 0) rfl))
theorem xs_X2_loseAll : Cond.selects yX2_loseAll.cls yX2_loseAll yX2_loseAll ∈ wsL_law := (xin_22 _ (List.mem_of_getElem? (i := 1) rfl))
theorem dX1_loseAll_0 : decode cX1_loseAll 0 = .ok (.aload_n 0, 1) := by decide +kernel
theorem dX1_loseAll_1 : decode cX1_loseAll 1 = .ok (.iconst 0, 1) := by decide +kernel
theorem dX1_loseAll_2 : decode cX1_loseAll 2 = .ok (.putfield 42, 3) := by decide +kernel
theorem dX1_loseAll_5 : decode cX1_loseAll 5 = .ok (.aload_n 0, 1) := by decide +kernel
theorem dX1_loseAll_6 : decode cX1_loseAll 6 = .ok (.getfield 21, 3) := by decide +kernel
theorem dX1_loseAll_9 : decode cX1_loseAll 9 = .ok (.invokevirtual 102, 3) := by decide +kernel
theorem dX1_loseAll_12 : decode cX1_loseAll 12 = .ok (.return_, 1) := by decide +kernel
def f_E_lose (m : xM) : Option (xM) :=
     (Option.bind (f_F_lose (xvw [3, 4, 5, 6] (xu m 0 5 0))) fun q0 =>
      some (xmg [3, 4, 5, 6] 4 (xu m 0 5 0) q0))
set_option maxRecDepth 1000000 in
set_option maxHeartbeats 4000000 in
theorem t_E_lose {Γ : xG} {d : Nat} (hd9 : 2 ≤ d) (C : xC Γ lay_E RX1 cX1_loseAll 1 d) {m9 : xM} (hR : xRv Γ lay_E cX1_loseAll m9) (m : xM) (h : f_E_lose m = some m9) : xW Γ lay_E 1 0 [(0, .inr (.inr (some 0)))] [] m := by
  unfold f_E_lose at h
  refine x_aload_n C dX1_loseAll_0 rfl ?_
  refine x_iconst C dX1_loseAll_1 ?_
  refine x_putI C dX1_loseAll_2 fF_X1_42 rfl rfl ?_
  refine x_aload_n C dX1_loseAll_5 rfl ?_
  refine x_getR C dX1_loseAll_6 fF_X1_21 rfl rfl ?_
  obtain ⟨q0, hq0, h⟩ := x_bind h
  refine x_callV C dX1_loseAll_9 (xin_21 _ (List.mem_of_getElem? (i := 23) rfl)) xy_X2_loseAll (xi_X2_loseAll) (xs_X2_loseAll) [3, 4, 5, 6] xv_3 (by omega) (by decide) (b := 0) rfl ⟨_, _, rfl⟩ (av := []) rfl (Nat.le_of_ble_eq_true rfl) (c_F_lose _ _ _ hq0) rfl ?_
  exact x_returnV hR dX1_loseAll_12 h
theorem c_E_lose (l : Launch) (m m9 : xM) (h : f_E_lose m = some m9) : xMet l yX1_loseAll cX1_loseAll 1 none 2 lay_E [.inr (.inr (some 0))] m none m9 :=
  xMet_v (by decide +kernel) (Nat.le_of_ble_eq_true rfl) (fun Γ C hR hl9 => t_E_lose (Nat.le_refl _) C hR m h)

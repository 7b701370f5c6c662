/-! ===== texts: a number put behind ===== -/
theorem tz_i2c {Γ : yG} {own : String} {cc : ByteArray} {nL d pc K N k n : Nat} {L : List (Nat × Value)} {st : List Value} {ws : va_W} (C : yC Γ own cc nL d K N) {x v : Int32} (hd : decode cc pc = .ok (.i2c, 1)) (hv9 : (x.toUInt32 % 65536).toInt32 = v) (h : yW Γ nL (pc + 1) L (.int v :: st) ws k n) : yW Γ nL pc L (.int x :: st) ws k n := by
  obtain ⟨⟨p, l, e, R, s, m0, args, below, meth, c⟩, ⟨A, dC, dI, dA, sa⟩, Q⟩ := Γ
  obtain ⟨hx, hb, -⟩ := C
  intro H locs ls hP hD hS hv
  exact lv_i2c hx hb hd hv9 (h H locs ls hP hD hS hv)
theorem dg_b : ∀ d, d < 10 → (Int32.ofInt ((48 + d : Nat) : Int)).toInt8.toInt32 = Int32.ofInt ((48 + d : Nat) : Int) := by decide +kernel
theorem dgt_b (N i : Nat) : (Int32.ofInt (dgt N i)).toInt8.toInt32 = Int32.ofInt (dgt N i) := dg_b _ (Nat.mod_lt _ (by decide))
theorem neg_div100 (M : Nat) (h : M ≤ 1000000000) : Int32.ofInt (-(M : Int)) / Int32.ofInt 100 = Int32.ofInt (-((M / 100 : Nat) : Int)) := by
  have e1 : (Int32.ofInt (-(M : Int))).toInt = -(M : Int) := b_xw (by omega)
  have e2 : (Int32.ofInt 100).toInt = 100 := by decide
  have e3 : (Int32.ofInt (-((M / 100 : Nat) : Int))).toInt = -((M / 100 : Nat) : Int) := b_xw (by omega)
  have e4 : (-(M : Int)).tdiv 100 = -((M / 100 : Nat) : Int) := by
    rw [Int.neg_tdiv]
    rfl
  apply Int32.toInt_inj.mp
  rw [Int32.toInt_div, e1, e2, e3, e4]
  exact Int.bmod_eq_of_le (by omega) (by omega)
theorem dJ6_stringSize_0f7a4_0 : decode cJ6_stringSize_0f7a4 0 = .ok (.iconst 1, 1) := by decide +kernel
theorem dJ6_stringSize_0f7a4_1 : decode cJ6_stringSize_0f7a4 1 = .ok (.istore_n 1, 1) := by decide +kernel
theorem dJ6_stringSize_0f7a4_2 : decode cJ6_stringSize_0f7a4 2 = .ok (.iload_n 0, 1) := by decide +kernel
theorem dJ6_stringSize_0f7a4_3 : decode cJ6_stringSize_0f7a4 3 = .ok (.ifCond .lt 8, 3) := by decide +kernel
theorem dJ6_stringSize_0f7a4_6 : decode cJ6_stringSize_0f7a4 6 = .ok (.iconst 0, 1) := by decide +kernel
theorem dJ6_stringSize_0f7a4_7 : decode cJ6_stringSize_0f7a4 7 = .ok (.istore_n 1, 1) := by decide +kernel
theorem dJ6_stringSize_0f7a4_8 : decode cJ6_stringSize_0f7a4 8 = .ok (.iload_n 0, 1) := by decide +kernel
theorem dJ6_stringSize_0f7a4_9 : decode cJ6_stringSize_0f7a4 9 = .ok (.ineg, 1) := by decide +kernel
theorem dJ6_stringSize_0f7a4_10 : decode cJ6_stringSize_0f7a4 10 = .ok (.istore_n 0, 1) := by decide +kernel
theorem dJ6_stringSize_0f7a4_11 : decode cJ6_stringSize_0f7a4 11 = .ok (.bipush (-10), 2) := by decide +kernel
theorem dJ6_stringSize_0f7a4_13 : decode cJ6_stringSize_0f7a4 13 = .ok (.istore_n 2, 1) := by decide +kernel
theorem dJ6_stringSize_0f7a4_14 : decode cJ6_stringSize_0f7a4 14 = .ok (.iconst 1, 1) := by decide +kernel
theorem dJ6_stringSize_0f7a4_15 : decode cJ6_stringSize_0f7a4 15 = .ok (.istore_n 3, 1) := by decide +kernel
theorem dJ6_stringSize_0f7a4_16 : decode cJ6_stringSize_0f7a4 16 = .ok (.iload_n 3, 1) := by decide +kernel
theorem dJ6_stringSize_0f7a4_17 : decode cJ6_stringSize_0f7a4 17 = .ok (.bipush 10, 2) := by decide +kernel
theorem dJ6_stringSize_0f7a4_19 : decode cJ6_stringSize_0f7a4 19 = .ok (.if_icmp .ge 23, 3) := by decide +kernel
theorem dJ6_stringSize_0f7a4_22 : decode cJ6_stringSize_0f7a4 22 = .ok (.iload_n 0, 1) := by decide +kernel
theorem dJ6_stringSize_0f7a4_23 : decode cJ6_stringSize_0f7a4 23 = .ok (.iload_n 2, 1) := by decide +kernel
theorem dJ6_stringSize_0f7a4_24 : decode cJ6_stringSize_0f7a4 24 = .ok (.if_icmp .le 7, 3) := by decide +kernel
theorem dJ6_stringSize_0f7a4_27 : decode cJ6_stringSize_0f7a4 27 = .ok (.iload_n 3, 1) := by decide +kernel
theorem dJ6_stringSize_0f7a4_28 : decode cJ6_stringSize_0f7a4 28 = .ok (.iload_n 1, 1) := by decide +kernel
theorem dJ6_stringSize_0f7a4_29 : decode cJ6_stringSize_0f7a4 29 = .ok (.iadd, 1) := by decide +kernel
theorem dJ6_stringSize_0f7a4_30 : decode cJ6_stringSize_0f7a4 30 = .ok (.ireturn, 1) := by decide +kernel
theorem dJ6_stringSize_0f7a4_31 : decode cJ6_stringSize_0f7a4 31 = .ok (.bipush 10, 2) := by decide +kernel
theorem dJ6_stringSize_0f7a4_33 : decode cJ6_stringSize_0f7a4 33 = .ok (.iload_n 2, 1) := by decide +kernel
theorem dJ6_stringSize_0f7a4_34 : decode cJ6_stringSize_0f7a4 34 = .ok (.imul, 1) := by decide +kernel
theorem dJ6_stringSize_0f7a4_35 : decode cJ6_stringSize_0f7a4 35 = .ok (.istore_n 2, 1) := by decide +kernel
theorem dJ6_stringSize_0f7a4_36 : decode cJ6_stringSize_0f7a4 36 = .ok (.iinc 3 1, 3) := by decide +kernel
theorem dJ6_stringSize_0f7a4_39 : decode cJ6_stringSize_0f7a4 39 = .ok (.goto (-23), 3) := by decide +kernel
theorem dJ6_stringSize_0f7a4_42 : decode cJ6_stringSize_0f7a4 42 = .ok (.bipush 10, 2) := by decide +kernel
theorem dJ6_stringSize_0f7a4_44 : decode cJ6_stringSize_0f7a4 44 = .ok (.iload_n 1, 1) := by decide +kernel
theorem dJ6_stringSize_0f7a4_45 : decode cJ6_stringSize_0f7a4 45 = .ok (.iadd, 1) := by decide +kernel
theorem dJ6_stringSize_0f7a4_46 : decode cJ6_stringSize_0f7a4 46 = .ok (.ireturn, 1) := by decide +kernel
set_option maxRecDepth 100000 in
set_option maxHeartbeats 4000000 in
theorem k_sizeL {Γ : yG} {w0 : va_W} {N c : Nat} (C : yC Γ RJ6 cJ6_stringSize_0f7a4 4 0 0 0) (hR : tRi Γ cJ6_stringSize_0f7a4 (fun r w => r = some (.int (Int32.ofInt (c : Int))) ∧ w = w0) 0 0) (hN : N ≤ 1000000000) (hc : isL N c) : ∀ (r i : Nat), i + r = c → 1 ≤ i → yW Γ 4 16 [(3, .int (Int32.ofInt (i : Int))), (2, .int (Int32.ofInt (-((10 ^ i : Nat) : Int)))), (0, .int (Int32.ofInt (-(N : Int)))), (1, .int (Int32.ofInt 0))] [] w0 0 0 := by
  obtain ⟨c1, c2, c3, c4⟩ := hc
  intro r
  induction r with
  | zero =>
    intro i hi h1
    have hic : i = c := by omega
    refine y_iload C 0 dJ6_stringSize_0f7a4_16 rfl rfl ?_
    refine y_bipush (v := Int32.ofInt (10)) C dJ6_stringSize_0f7a4_17 (by decide) ?_
    refine t_icmpge C 42 dJ6_stringSize_0f7a4_19 (by decide) (fun h9 => ?_) (fun h9 => ?_)
    · have h8 : c = 10 := by rw [b_xw (by omega), b_xw (by omega)] at h9; omega
      refine y_bipush (v := Int32.ofInt (10)) C dJ6_stringSize_0f7a4_42 (by decide) ?_
      refine y_iload C 3 dJ6_stringSize_0f7a4_44 rfl rfl ?_
      refine tz_iadd C dJ6_stringSize_0f7a4_45 ?_
      rw [show (10 : Int) + 0 = (c : Int) by omega]
      exact t_iret hR dJ6_stringSize_0f7a4_46 (by omega) (by omega) ⟨rfl, rfl⟩
    · have h8 : i < 10 := by rw [b_xw (by omega), b_xw (by omega)] at h9; omega
      have hp := p10 (j := i) (by omega)
      have h0 : 0 < 10 ^ i := Nat.pow_pos (by decide)
      have hlt : N < 10 ^ i := by rw [hic]; exact c1
      refine y_iload C 2 dJ6_stringSize_0f7a4_22 rfl rfl ?_
      refine y_iload C 1 dJ6_stringSize_0f7a4_23 rfl rfl ?_
      refine t_icmple C 31 dJ6_stringSize_0f7a4_24 (by decide) (fun h9 => absurd h9 ?_) (fun _ => ?_)
      · rw [b_xw (by omega), b_xw (by omega)]; omega
      refine y_iload C 0 dJ6_stringSize_0f7a4_27 rfl rfl ?_
      refine y_iload C 3 dJ6_stringSize_0f7a4_28 rfl rfl ?_
      refine tz_iadd C dJ6_stringSize_0f7a4_29 ?_
      rw [show (i : Int) + 0 = (c : Int) by omega]
      exact t_iret hR dJ6_stringSize_0f7a4_30 (by omega) (by omega) ⟨rfl, rfl⟩
  | succ r ih =>
    intro i hi h1
    have hp := p10 (j := i) (by omega)
    have h0 : 0 < 10 ^ i := Nat.pow_pos (by decide)
    have hge : 10 ^ i ≤ N := by
      rcases c3 with g | g
      · omega
      · exact Nat.le_trans (Nat.pow_le_pow_right (by decide) (by omega)) g
    have hs : (10 : Int) * -((10 ^ i : Nat) : Int) = -((10 ^ (i + 1) : Nat) : Int) := by rw [Nat.pow_succ]; omega
    refine y_iload C 0 dJ6_stringSize_0f7a4_16 rfl rfl ?_
    refine y_bipush (v := Int32.ofInt (10)) C dJ6_stringSize_0f7a4_17 (by decide) ?_
    refine t_icmpge C 42 dJ6_stringSize_0f7a4_19 (by decide) (fun h9 => absurd h9 ?_) (fun _ => ?_)
    · rw [b_xw (by omega), b_xw (by omega)]; omega
    refine y_iload C 2 dJ6_stringSize_0f7a4_22 rfl rfl ?_
    refine y_iload C 1 dJ6_stringSize_0f7a4_23 rfl rfl ?_
    refine t_icmple C 31 dJ6_stringSize_0f7a4_24 (by decide) (fun _ => ?_) (fun h9 => absurd ?_ h9)
    rotate_left
    · rw [b_xw (by omega), b_xw (by omega)]; omega
    refine y_bipush (v := Int32.ofInt (10)) C dJ6_stringSize_0f7a4_31 (by decide) ?_
    refine y_iload C 1 dJ6_stringSize_0f7a4_33 rfl rfl ?_
    refine tz_imul C dJ6_stringSize_0f7a4_34 ?_
    rw [hs]
    refine y_istore C dJ6_stringSize_0f7a4_35 rfl (by omega) rfl ?_
    refine y_iinc (v := Int32.ofInt ((i + 1 : Nat) : Int)) C 1 dJ6_stringSize_0f7a4_36 rfl (by rw [← Int32.ofInt_add]; rfl) (by omega) rfl ?_
    refine y_goto C 16 dJ6_stringSize_0f7a4_39 (by decide) ?_
    exact ih (i + 1) (by omega) (by omega)
set_option maxRecDepth 100000 in
set_option maxHeartbeats 4000000 in
theorem k_size {l : Launch} {dA : Nat → ClassId} {ad : Nat → Nat} {w0 : va_W} {N c : Nat} (hN : N ≤ 1000000000) (hc : isL N c) : tMet l yJ6_stringSize_0f7a4 cJ6_stringSize_0f7a4 4 (some .int) 0 0 0 [.int (Int32.ofInt (N : Int))] dA ad (w0) (fun r w => r = some (.int (Int32.ofInt (c : Int))) ∧ w = w0) := by
  refine tMet_ii (Or.inl (by decide +kernel)) (Nat.le_of_ble_eq_true rfl) (fun Γ C hG hsa hda hR hl9 => ?_)
  subst hl9; subst hda; subst hsa
  refine y_iconst (v := Int32.ofInt (1)) C dJ6_stringSize_0f7a4_0 rfl ?_
  refine y_istore C dJ6_stringSize_0f7a4_1 rfl (by omega) rfl ?_
  refine y_iload C 1 dJ6_stringSize_0f7a4_2 rfl rfl ?_
  refine t_iflt C 11 dJ6_stringSize_0f7a4_3 (by decide) (fun h9 => absurd h9 ?_) (fun _ => ?_)
  · rw [b_xw (by omega)]; omega
  refine y_iconst (v := Int32.ofInt (0)) C dJ6_stringSize_0f7a4_6 rfl ?_
  refine y_istore C dJ6_stringSize_0f7a4_7 rfl (by omega) rfl ?_
  refine y_iload C 1 dJ6_stringSize_0f7a4_8 rfl rfl ?_
  refine tz_ineg C dJ6_stringSize_0f7a4_9 ?_
  refine y_istore C dJ6_stringSize_0f7a4_10 rfl (by omega) rfl ?_
  refine y_bipush (v := Int32.ofInt (-10)) C dJ6_stringSize_0f7a4_11 (by decide) ?_
  refine y_istore C dJ6_stringSize_0f7a4_13 rfl (by omega) rfl ?_
  refine y_iconst (v := Int32.ofInt (1)) C dJ6_stringSize_0f7a4_14 rfl ?_
  refine y_istore C dJ6_stringSize_0f7a4_15 rfl (by omega) rfl ?_
  exact k_sizeL C hR hN hc _ 1 (Nat.add_sub_cancel' hc.2.1) (Nat.le_refl _)

/-! ===== texts: the letters of a number ===== -/
theorem dJ6_getChars_ba4f3_0 : decode cJ6_getChars_ba4f3 0 = .ok (.iload_n 1, 1) := by decide +kernel
theorem dJ6_getChars_ba4f3_1 : decode cJ6_getChars_ba4f3 1 = .ok (.istore 5, 2) := by decide +kernel
theorem dJ6_getChars_ba4f3_3 : decode cJ6_getChars_ba4f3 3 = .ok (.iload_n 0, 1) := by decide +kernel
theorem dJ6_getChars_ba4f3_4 : decode cJ6_getChars_ba4f3 4 = .ok (.ifCond .ge 7, 3) := by decide +kernel
theorem dJ6_getChars_ba4f3_7 : decode cJ6_getChars_ba4f3 7 = .ok (.iconst 1, 1) := by decide +kernel
theorem dJ6_getChars_ba4f3_8 : decode cJ6_getChars_ba4f3 8 = .ok (.goto 4, 3) := by decide +kernel
theorem dJ6_getChars_ba4f3_11 : decode cJ6_getChars_ba4f3 11 = .ok (.iconst 0, 1) := by decide +kernel
theorem dJ6_getChars_ba4f3_12 : decode cJ6_getChars_ba4f3 12 = .ok (.istore 6, 2) := by decide +kernel
theorem dJ6_getChars_ba4f3_14 : decode cJ6_getChars_ba4f3 14 = .ok (.iload 6, 2) := by decide +kernel
theorem dJ6_getChars_ba4f3_16 : decode cJ6_getChars_ba4f3 16 = .ok (.ifCond .ne 6, 3) := by decide +kernel
theorem dJ6_getChars_ba4f3_19 : decode cJ6_getChars_ba4f3 19 = .ok (.iload_n 0, 1) := by decide +kernel
theorem dJ6_getChars_ba4f3_20 : decode cJ6_getChars_ba4f3 20 = .ok (.ineg, 1) := by decide +kernel
theorem dJ6_getChars_ba4f3_21 : decode cJ6_getChars_ba4f3 21 = .ok (.istore_n 0, 1) := by decide +kernel
theorem dJ6_getChars_ba4f3_22 : decode cJ6_getChars_ba4f3 22 = .ok (.iload_n 0, 1) := by decide +kernel
theorem dJ6_getChars_ba4f3_23 : decode cJ6_getChars_ba4f3 23 = .ok (.bipush (-100), 2) := by decide +kernel
theorem dJ6_getChars_ba4f3_25 : decode cJ6_getChars_ba4f3 25 = .ok (.if_icmp .gt 47, 3) := by decide +kernel
theorem dJ6_getChars_ba4f3_28 : decode cJ6_getChars_ba4f3 28 = .ok (.iload_n 0, 1) := by decide +kernel
theorem dJ6_getChars_ba4f3_29 : decode cJ6_getChars_ba4f3 29 = .ok (.bipush 100, 2) := by decide +kernel
theorem dJ6_getChars_ba4f3_31 : decode cJ6_getChars_ba4f3 31 = .ok (.idiv, 1) := by decide +kernel
theorem dJ6_getChars_ba4f3_32 : decode cJ6_getChars_ba4f3 32 = .ok (.istore_n 3, 1) := by decide +kernel
theorem dJ6_getChars_ba4f3_33 : decode cJ6_getChars_ba4f3 33 = .ok (.iload_n 3, 1) := by decide +kernel
theorem dJ6_getChars_ba4f3_34 : decode cJ6_getChars_ba4f3 34 = .ok (.bipush 100, 2) := by decide +kernel
theorem dJ6_getChars_ba4f3_36 : decode cJ6_getChars_ba4f3 36 = .ok (.imul, 1) := by decide +kernel
theorem dJ6_getChars_ba4f3_37 : decode cJ6_getChars_ba4f3 37 = .ok (.iload_n 0, 1) := by decide +kernel
theorem dJ6_getChars_ba4f3_38 : decode cJ6_getChars_ba4f3 38 = .ok (.isub, 1) := by decide +kernel
theorem dJ6_getChars_ba4f3_39 : decode cJ6_getChars_ba4f3 39 = .ok (.istore 4, 2) := by decide +kernel
theorem dJ6_getChars_ba4f3_41 : decode cJ6_getChars_ba4f3 41 = .ok (.iload_n 3, 1) := by decide +kernel
theorem dJ6_getChars_ba4f3_42 : decode cJ6_getChars_ba4f3 42 = .ok (.istore_n 0, 1) := by decide +kernel
theorem dJ6_getChars_ba4f3_43 : decode cJ6_getChars_ba4f3 43 = .ok (.aload_n 2, 1) := by decide +kernel
theorem dJ6_getChars_ba4f3_44 : decode cJ6_getChars_ba4f3 44 = .ok (.iinc 5 (-1), 3) := by decide +kernel
theorem dJ6_getChars_ba4f3_47 : decode cJ6_getChars_ba4f3 47 = .ok (.iload 5, 2) := by decide +kernel
theorem dJ6_getChars_ba4f3_49 : decode cJ6_getChars_ba4f3 49 = .ok (.getstatic 83, 3) := by decide +kernel
theorem dJ6_getChars_ba4f3_52 : decode cJ6_getChars_ba4f3 52 = .ok (.iload 4, 2) := by decide +kernel
theorem dJ6_getChars_ba4f3_54 : decode cJ6_getChars_ba4f3 54 = .ok (.baload, 1) := by decide +kernel
theorem dJ6_getChars_ba4f3_55 : decode cJ6_getChars_ba4f3 55 = .ok (.bastore, 1) := by decide +kernel
theorem dJ6_getChars_ba4f3_56 : decode cJ6_getChars_ba4f3 56 = .ok (.aload_n 2, 1) := by decide +kernel
theorem dJ6_getChars_ba4f3_57 : decode cJ6_getChars_ba4f3 57 = .ok (.iinc 5 (-1), 3) := by decide +kernel
theorem dJ6_getChars_ba4f3_60 : decode cJ6_getChars_ba4f3 60 = .ok (.iload 5, 2) := by decide +kernel
theorem dJ6_getChars_ba4f3_62 : decode cJ6_getChars_ba4f3 62 = .ok (.getstatic 87, 3) := by decide +kernel
theorem dJ6_getChars_ba4f3_65 : decode cJ6_getChars_ba4f3 65 = .ok (.iload 4, 2) := by decide +kernel
theorem dJ6_getChars_ba4f3_67 : decode cJ6_getChars_ba4f3 67 = .ok (.baload, 1) := by decide +kernel
theorem dJ6_getChars_ba4f3_68 : decode cJ6_getChars_ba4f3 68 = .ok (.bastore, 1) := by decide +kernel
theorem dJ6_getChars_ba4f3_69 : decode cJ6_getChars_ba4f3 69 = .ok (.goto (-47), 3) := by decide +kernel
theorem dJ6_getChars_ba4f3_72 : decode cJ6_getChars_ba4f3 72 = .ok (.aload_n 2, 1) := by decide +kernel
theorem dJ6_getChars_ba4f3_73 : decode cJ6_getChars_ba4f3 73 = .ok (.iinc 5 (-1), 3) := by decide +kernel
theorem dJ6_getChars_ba4f3_76 : decode cJ6_getChars_ba4f3 76 = .ok (.iload 5, 2) := by decide +kernel
theorem dJ6_getChars_ba4f3_78 : decode cJ6_getChars_ba4f3 78 = .ok (.getstatic 83, 3) := by decide +kernel
theorem dJ6_getChars_ba4f3_81 : decode cJ6_getChars_ba4f3 81 = .ok (.iload_n 0, 1) := by decide +kernel
theorem dJ6_getChars_ba4f3_82 : decode cJ6_getChars_ba4f3 82 = .ok (.ineg, 1) := by decide +kernel
theorem dJ6_getChars_ba4f3_83 : decode cJ6_getChars_ba4f3 83 = .ok (.baload, 1) := by decide +kernel
theorem dJ6_getChars_ba4f3_84 : decode cJ6_getChars_ba4f3 84 = .ok (.bastore, 1) := by decide +kernel
theorem dJ6_getChars_ba4f3_85 : decode cJ6_getChars_ba4f3 85 = .ok (.iload_n 0, 1) := by decide +kernel
theorem dJ6_getChars_ba4f3_86 : decode cJ6_getChars_ba4f3 86 = .ok (.bipush (-9), 2) := by decide +kernel
theorem dJ6_getChars_ba4f3_88 : decode cJ6_getChars_ba4f3 88 = .ok (.if_icmp .ge 16, 3) := by decide +kernel
theorem dJ6_getChars_ba4f3_91 : decode cJ6_getChars_ba4f3 91 = .ok (.aload_n 2, 1) := by decide +kernel
theorem dJ6_getChars_ba4f3_92 : decode cJ6_getChars_ba4f3 92 = .ok (.iinc 5 (-1), 3) := by decide +kernel
theorem dJ6_getChars_ba4f3_95 : decode cJ6_getChars_ba4f3 95 = .ok (.iload 5, 2) := by decide +kernel
theorem dJ6_getChars_ba4f3_97 : decode cJ6_getChars_ba4f3 97 = .ok (.getstatic 87, 3) := by decide +kernel
theorem dJ6_getChars_ba4f3_100 : decode cJ6_getChars_ba4f3 100 = .ok (.iload_n 0, 1) := by decide +kernel
theorem dJ6_getChars_ba4f3_101 : decode cJ6_getChars_ba4f3 101 = .ok (.ineg, 1) := by decide +kernel
theorem dJ6_getChars_ba4f3_102 : decode cJ6_getChars_ba4f3 102 = .ok (.baload, 1) := by decide +kernel
theorem dJ6_getChars_ba4f3_103 : decode cJ6_getChars_ba4f3 103 = .ok (.bastore, 1) := by decide +kernel
theorem dJ6_getChars_ba4f3_104 : decode cJ6_getChars_ba4f3 104 = .ok (.iload 6, 2) := by decide +kernel
theorem dJ6_getChars_ba4f3_106 : decode cJ6_getChars_ba4f3 106 = .ok (.ifCond .eq 12, 3) := by decide +kernel
theorem dJ6_getChars_ba4f3_109 : decode cJ6_getChars_ba4f3 109 = .ok (.aload_n 2, 1) := by decide +kernel
theorem dJ6_getChars_ba4f3_110 : decode cJ6_getChars_ba4f3 110 = .ok (.iinc 5 (-1), 3) := by decide +kernel
theorem dJ6_getChars_ba4f3_113 : decode cJ6_getChars_ba4f3 113 = .ok (.iload 5, 2) := by decide +kernel
theorem dJ6_getChars_ba4f3_115 : decode cJ6_getChars_ba4f3 115 = .ok (.bipush 45, 2) := by decide +kernel
theorem dJ6_getChars_ba4f3_117 : decode cJ6_getChars_ba4f3 117 = .ok (.bastore, 1) := by decide +kernel
theorem dJ6_getChars_ba4f3_118 : decode cJ6_getChars_ba4f3 118 = .ok (.iload 5, 2) := by decide +kernel
theorem dJ6_getChars_ba4f3_120 : decode cJ6_getChars_ba4f3 120 = .ok (.ireturn, 1) := by decide +kernel
set_option maxRecDepth 100000 in
set_option maxHeartbeats 8000000 in
theorem k_charsL {Γ : yG} {t1 cap e N c : Nat} {f : Nat → Int32} (C : yC Γ RJ6 cJ6_getChars_ba4f3 7 0 0 0) (hG : yDg Γ) (hR : tRi Γ cJ6_getChars_ba4f3 (fun r w => r = some (.int (Int32.ofInt ((e - c : Nat) : Int))) ∧ ∃ g : Nat → Int32, w = [(t1, .inl (yDA Γ 4, cap, .inl g))] ∧ (∀ j, (g j).toInt8.toInt32 = g j) ∧ (∀ j, (j < e - c ∨ e ≤ j) → g j = f j) ∧ ∀ i, i < c → g (e - 1 - i) = Int32.ofInt (dgt N i)) 0 0) (hN : N ≤ 1000000000) (hc : isL N c) (he : c ≤ e ∧ e ≤ cap ∧ cap ≤ 500) : ∀ (r s M : Nat) (g : Nat → Int32), c ≤ s + r → M = N / 10 ^ s → (s = 0 ∨ 1 ≤ M) → s < c → (∀ j, (g j).toInt8.toInt32 = g j) → (∀ j, (j < e - s ∨ e ≤ j) → g j = f j) → (∀ i, i < s → g (e - 1 - i) = Int32.ofInt (dgt N i)) → yW Γ 7 22 [(0, .int (Int32.ofInt (-(M : Int)))), (6, .int 0), (5, .int (Int32.ofInt ((e - s : Nat) : Int))), (1, .int (Int32.ofInt (e : Int))), (2, .ref t1)] [] [(t1, .inl (yDA Γ 4, cap, .inl g))] 0 0 := by
  obtain ⟨c1, c2, c3, c4⟩ := id hc
  obtain ⟨he1, he2, he3⟩ := he
  intro r
  induction r with
  | zero => intro s M g h1 h2 h3 h4; omega
  | succ r ih =>
    intro s M g h1 h2 h3 h4 hb ho hd
    have hMN : M ≤ N := by rw [h2]; exact Nat.div_le_self _ _
    have h0 : 0 < 10 ^ s := Nat.pow_pos (by decide)
    have hd0 : dgt N s = ((48 + M % 10 : Nat) : Int) := by unfold dgt; rw [← h2]
    have hM1 : N / 10 ^ (s + 1) = M / 10 := by rw [Nat.pow_succ, ← Nat.div_div_eq_div_mul, ← h2]
    have hM2 : N / 10 ^ (s + 2) = M / 100 := by rw [Nat.pow_succ, ← Nat.div_div_eq_div_mul, hM1, Nat.div_div_eq_div_mul]
    have hd1 : dgt N (s + 1) = ((48 + M / 10 % 10 : Nat) : Int) := by unfold dgt; rw [hM1]
    have hlt : ∀ k : Nat, N / 10 ^ k = 0 → c ≤ k ∨ k = 0 := fun k hk => by
      by_cases g0 : k = 0
      · exact Or.inr g0
      · left
        have hk1 : N < 10 ^ k := (Nat.div_eq_zero_iff_lt (Nat.pow_pos (by decide))).mp hk
        rcases c3 with g3 | g3
        · omega
        · by_cases g4 : c ≤ k
          · exact g4
          · exact absurd (Nat.le_trans (Nat.pow_le_pow_right (n := 10) (by decide) (show k ≤ c - 1 by omega)) g3) (by omega)
    have hge : ∀ k : Nat, 1 ≤ N / 10 ^ k → k < c := fun k hk => by
      by_cases g4 : k < c
      · exact g4
      · have : N / 10 ^ k = 0 := Nat.div_eq_of_lt (Nat.lt_of_lt_of_le c1 (Nat.pow_le_pow_right (by decide) (by omega)))
        omega
    refine y_iload C 0 dJ6_getChars_ba4f3_22 rfl rfl ?_
    refine y_bipush (v := Int32.ofInt (-100)) C dJ6_getChars_ba4f3_23 (by decide) ?_
    refine t_icmpgt C 72 dJ6_getChars_ba4f3_25 (by decide) (fun h9 => ?_) (fun h9 => ?_)
    rotate_left
    · have h8 : 100 ≤ M := by rw [b_xw (by omega), b_xw (by omega)] at h9; omega
      have hs2 : s + 2 < c := hge (s + 2) (by rw [hM2]; omega)
      refine y_iload C 0 dJ6_getChars_ba4f3_28 rfl rfl ?_
      refine y_bipush (v := Int32.ofInt (100)) C dJ6_getChars_ba4f3_29 (by decide) ?_
      refine t_idiv (v := Int32.ofInt (-((M / 100 : Nat) : Int))) C dJ6_getChars_ba4f3_31 (by decide) (neg_div100 M (by omega)) ?_
      refine y_istore C dJ6_getChars_ba4f3_32 rfl (by omega) rfl ?_
      refine y_iload C 0 dJ6_getChars_ba4f3_33 rfl rfl ?_
      refine y_bipush (v := Int32.ofInt (100)) C dJ6_getChars_ba4f3_34 (by decide) ?_
      refine tz_imul C dJ6_getChars_ba4f3_36 ?_
      refine y_iload C 1 dJ6_getChars_ba4f3_37 rfl rfl ?_
      refine tz_isub C dJ6_getChars_ba4f3_38 ?_
      rw [show -((M / 100 : Nat) : Int) * 100 - -(M : Int) = ((M % 100 : Nat) : Int) by omega]
      refine y_istorew C dJ6_getChars_ba4f3_39 (by omega) rfl ?_
      refine y_iload C 1 dJ6_getChars_ba4f3_41 rfl rfl ?_
      refine y_istore C dJ6_getChars_ba4f3_42 rfl (by omega) rfl ?_
      refine y_aload C 6 dJ6_getChars_ba4f3_43 rfl rfl ?_
      refine y_iinc (v := Int32.ofInt ((e - (s + 1) : Nat) : Int)) C 4 dJ6_getChars_ba4f3_44 rfl (by rw [← Int32.ofInt_add]; congr 1; omega) (by omega) rfl ?_
      refine y_iloadw C 0 dJ6_getChars_ba4f3_47 rfl ?_
      refine t_ones C hG dJ6_getChars_ba4f3_49 (xin_61 _ (List.mem_of_getElem? (i := 21) rfl)) ?_
      refine y_iloadw C 2 dJ6_getChars_ba4f3_52 rfl ?_
      refine t_onesAt (r := M % 100) C hG (by omega) dJ6_getChars_ba4f3_54 ?_
      refine t_bastB (j := e - (s + 1)) (w := Int32.ofInt ((48 + M % 100 % 10 : Nat) : Int)) C 0 dJ6_getChars_ba4f3_55 rfl (xib_in (b_ib (by omega))) (by show (xw ((e - (s + 1) : Nat) : Int)).toNat = e - (s + 1); rw [b_xw (by omega)]; exact Int.toNat_natCast _) (by rw [vp_nar_byte]; exact dg_b _ (by omega)) ?_
      refine y_aload C 6 dJ6_getChars_ba4f3_56 rfl rfl ?_
      refine y_iinc (v := Int32.ofInt ((e - (s + 2) : Nat) : Int)) C 0 dJ6_getChars_ba4f3_57 rfl (by rw [← Int32.ofInt_add]; congr 1; omega) (by omega) rfl ?_
      refine y_iloadw C 0 dJ6_getChars_ba4f3_60 rfl ?_
      refine t_tens C hG dJ6_getChars_ba4f3_62 (xin_61 _ (List.mem_of_getElem? (i := 22) rfl)) ?_
      refine y_iloadw C 2 dJ6_getChars_ba4f3_65 rfl ?_
      refine t_tensAt (r := M % 100) C hG (by omega) dJ6_getChars_ba4f3_67 ?_
      refine t_bastB (j := e - (s + 2)) (w := Int32.ofInt ((48 + M % 100 / 10 : Nat) : Int)) C 0 dJ6_getChars_ba4f3_68 rfl (xib_in (b_ib (by omega))) (by show (xw ((e - (s + 2) : Nat) : Int)).toNat = e - (s + 2); rw [b_xw (by omega)]; exact Int.toNat_natCast _) (by rw [vp_nar_byte]; exact dg_b _ (by omega)) ?_
      refine y_goto C 22 dJ6_getChars_ba4f3_69 (by decide) ?_
      refine y_sub [1, 4, 0, 5, 6] rfl ?_
      refine ih (s + 2) (M / 100) _ (by omega) hM2.symm (Or.inr (by omega)) hs2 (fun j => ?_) (fun j hj => ?_) (fun i hi => ?_)
      · by_cases g1 : j = e - (s + 2)
        · rw [g1, pk_us]; exact dg_b _ (by omega)
        · rw [pk_un g1]
          by_cases g2 : j = e - (s + 1)
          · rw [g2, pk_us]; exact dg_b _ (by omega)
          · rw [pk_un g2]; exact hb j
      · rw [pk_un (by omega), pk_un (by omega)]; exact ho j (by omega)
      · by_cases g1 : i = s + 1
        · rw [g1, show e - 1 - (s + 1) = e - (s + 2) by omega, pk_us, hd1]; congr 1; omega
        · rw [pk_un (by omega)]
          by_cases g2 : i = s
          · rw [g2, show e - 1 - s = e - (s + 1) by omega, pk_us, hd0]; congr 1; omega
          · rw [pk_un (by omega)]; exact hd i (by omega)
    · have h8 : M < 100 := by rw [b_xw (by omega), b_xw (by omega)] at h9; omega
      refine y_aload C 4 dJ6_getChars_ba4f3_72 rfl rfl ?_
      refine y_iinc (v := Int32.ofInt ((e - (s + 1) : Nat) : Int)) C 2 dJ6_getChars_ba4f3_73 rfl (by rw [← Int32.ofInt_add]; congr 1; omega) (by omega) rfl ?_
      refine y_iloadw C 0 dJ6_getChars_ba4f3_76 rfl ?_
      refine t_ones C hG dJ6_getChars_ba4f3_78 (xin_61 _ (List.mem_of_getElem? (i := 21) rfl)) ?_
      refine y_iload C 1 dJ6_getChars_ba4f3_81 rfl rfl ?_
      refine tz_ineg C dJ6_getChars_ba4f3_82 ?_
      rw [Int.neg_neg]
      refine t_onesAt (r := M) C hG (by omega) dJ6_getChars_ba4f3_83 ?_
      refine t_bastB (j := e - (s + 1)) (w := Int32.ofInt ((48 + M % 10 : Nat) : Int)) C 0 dJ6_getChars_ba4f3_84 rfl (xib_in (b_ib (by omega))) (by show (xw ((e - (s + 1) : Nat) : Int)).toNat = e - (s + 1); rw [b_xw (by omega)]; exact Int.toNat_natCast _) (by rw [vp_nar_byte]; exact dg_b _ (by omega)) ?_
      refine y_iload C 1 dJ6_getChars_ba4f3_85 rfl rfl ?_
      refine y_bipush (v := Int32.ofInt (-9)) C dJ6_getChars_ba4f3_86 (by decide) ?_
      refine t_icmpge C 104 dJ6_getChars_ba4f3_88 (by decide) (fun h7 => ?_) (fun h7 => ?_)
      · have h6 : M ≤ 9 := by rw [b_xw (by omega), b_xw (by omega)] at h7; omega
        have hcs : c = s + 1 := by
          rcases hlt (s + 1) (by rw [hM1]; omega) with g3 | g3 <;> omega
        refine y_iloadw C 2 dJ6_getChars_ba4f3_104 rfl ?_
        refine y_ifeq0 C 118 dJ6_getChars_ba4f3_106 (by decide) ?_
        refine y_iloadw C 0 dJ6_getChars_ba4f3_118 rfl ?_
        rw [← hcs]
        refine t_iret hR dJ6_getChars_ba4f3_120 (by omega) (by omega) ⟨rfl, _, rfl, fun j => ?_, fun j hj => ?_, fun i hi => ?_⟩
        · by_cases g2 : j = e - c
          · rw [g2, pk_us]; exact dg_b _ (by omega)
          · rw [pk_un g2]; exact hb j
        · rw [pk_un (by omega)]; exact ho j (by omega)
        · by_cases g2 : i = s
          · rw [g2, show e - 1 - s = e - c by omega, pk_us, hd0]
          · rw [pk_un (by omega)]; exact hd i (by omega)
      · have h6 : 10 ≤ M := by rw [b_xw (by omega), b_xw (by omega)] at h7; omega
        have hcs : c = s + 2 := by
          have g5 := hge (s + 1) (by rw [hM1]; omega)
          rcases hlt (s + 2) (by rw [hM2]; omega) with g3 | g3 <;> omega
        refine y_aload C 4 dJ6_getChars_ba4f3_91 rfl rfl ?_
        refine y_iinc (v := Int32.ofInt ((e - (s + 2) : Nat) : Int)) C 0 dJ6_getChars_ba4f3_92 rfl (by rw [← Int32.ofInt_add]; congr 1; omega) (by omega) rfl ?_
        refine y_iloadw C 0 dJ6_getChars_ba4f3_95 rfl ?_
        refine t_tens C hG dJ6_getChars_ba4f3_97 (xin_61 _ (List.mem_of_getElem? (i := 22) rfl)) ?_
        refine y_iload C 1 dJ6_getChars_ba4f3_100 rfl rfl ?_
        refine tz_ineg C dJ6_getChars_ba4f3_101 ?_
        rw [Int.neg_neg]
        refine t_tensAt (r := M) C hG (by omega) dJ6_getChars_ba4f3_102 ?_
        refine t_bastB (j := e - (s + 2)) (w := Int32.ofInt ((48 + M / 10 : Nat) : Int)) C 0 dJ6_getChars_ba4f3_103 rfl (xib_in (b_ib (by omega))) (by show (xw ((e - (s + 2) : Nat) : Int)).toNat = e - (s + 2); rw [b_xw (by omega)]; exact Int.toNat_natCast _) (by rw [vp_nar_byte]; exact dg_b _ (by omega)) ?_
        refine y_iloadw C 2 dJ6_getChars_ba4f3_104 rfl ?_
        refine y_ifeq0 C 118 dJ6_getChars_ba4f3_106 (by decide) ?_
        refine y_iloadw C 0 dJ6_getChars_ba4f3_118 rfl ?_
        rw [← hcs]
        refine t_iret hR dJ6_getChars_ba4f3_120 (by omega) (by omega) ⟨rfl, _, rfl, fun j => ?_, fun j hj => ?_, fun i hi => ?_⟩
        · by_cases g1 : j = e - c
          · rw [g1, pk_us]; exact dg_b _ (by omega)
          · rw [pk_un g1]
            by_cases g2 : j = e - (s + 1)
            · rw [g2, pk_us]; exact dg_b _ (by omega)
            · rw [pk_un g2]; exact hb j
        · rw [pk_un (by omega), pk_un (by omega)]; exact ho j (by omega)
        · by_cases g1 : i = s + 1
          · rw [g1, show e - 1 - (s + 1) = e - c by omega, pk_us, hd1]; congr 1; omega
          · rw [pk_un (by omega)]
            by_cases g2 : i = s
            · rw [g2, show e - 1 - s = e - (s + 1) by omega, pk_us, hd0]
            · rw [pk_un (by omega)]; exact hd i (by omega)
set_option maxRecDepth 100000 in
set_option maxHeartbeats 4000000 in
theorem k_chars {l : Launch} {dA : Nat → ClassId} {ad : Nat → Nat} {t1 cap : Nat} {f : Nat → Int32} {e N c : Nat} (hN : N ≤ 1000000000) (hc : isL N c) (he : c ≤ e ∧ e ≤ cap ∧ cap ≤ 500) (hf : ∀ j, (f j).toInt8.toInt32 = f j) : tMet l yJ6_getChars_ba4f3 cJ6_getChars_ba4f3 7 (some .int) 0 0 0 [.int (Int32.ofInt (N : Int)), .int (Int32.ofInt (e : Int)), .ref t1] dA ad ([(t1, .inl (dA 4, cap, .inl f))]) (fun r w => r = some (.int (Int32.ofInt ((e - c : Nat) : Int))) ∧ ∃ g : Nat → Int32, w = [(t1, .inl (dA 4, cap, .inl g))] ∧ (∀ j, (g j).toInt8.toInt32 = g j) ∧ (∀ j, (j < e - c ∨ e ≤ j) → g j = f j) ∧ ∀ i, i < c → g (e - 1 - i) = Int32.ofInt (dgt N i)) := by
  refine tMet_ii (Or.inl (by decide +kernel)) (Nat.le_of_ble_eq_true rfl) (fun Γ C hG hsa hda hR hl9 => ?_)
  subst hl9; subst hda; subst hsa
  refine y_iload C 1 dJ6_getChars_ba4f3_0 rfl rfl ?_
  refine y_istorew C dJ6_getChars_ba4f3_1 (by omega) rfl ?_
  refine y_iload C 1 dJ6_getChars_ba4f3_3 rfl rfl ?_
  refine t_ifge C 11 dJ6_getChars_ba4f3_4 (by decide) (fun _ => ?_) (fun h9 => absurd ?_ h9)
  rotate_left
  · rw [b_xw (by omega)]; omega
  refine y_iconst (v := 0) C dJ6_getChars_ba4f3_11 (by decide) ?_
  refine y_istorew C dJ6_getChars_ba4f3_12 (by omega) rfl ?_
  refine y_iloadw C 0 dJ6_getChars_ba4f3_14 rfl ?_
  refine y_ifne0 C 22 dJ6_getChars_ba4f3_16 (by decide) ?_
  refine y_iload C 2 dJ6_getChars_ba4f3_19 rfl rfl ?_
  refine tz_ineg C dJ6_getChars_ba4f3_20 ?_
  refine y_istore C dJ6_getChars_ba4f3_21 rfl (by omega) rfl ?_
  exact k_charsL C hG hR hN hc he c 0 N f (by omega) (by rw [Nat.pow_zero, Nat.div_one]) (Or.inl rfl) (by have := hc.2.1; omega) hf (fun _ _ => rfl) (fun i hi => absurd hi (Nat.not_lt_zero i))

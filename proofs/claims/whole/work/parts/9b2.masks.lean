/-! ===== masks as whole numbers ===== -/
theorem l_of (n : Nat) : Int64.ofInt (n : Int) = Int64.ofNat n := by
  apply Int64.toBitVec_inj.1
  show BitVec.ofInt 64 (n : Int) = BitVec.ofNat 64 n
  exact BitVec.ofInt_natCast 64 n
theorem l_to {n : Nat} (h : n < 9223372036854775808) : (Int64.ofNat n).toInt = n := by
  rw [← l_of]
  exact xwl_id (by omega) (by omega)
theorem l_and (a b : Nat) : Int64.ofNat a &&& Int64.ofNat b = Int64.ofNat (a &&& b) := by
  apply Int64.toBitVec_inj.1
  show BitVec.ofNat 64 a &&& BitVec.ofNat 64 b = BitVec.ofNat 64 (a &&& b)
  apply BitVec.eq_of_getLsbD_eq
  intro i hi
  simp [hi]
theorem l_or (a b : Nat) : Int64.ofNat a ||| Int64.ofNat b = Int64.ofNat (a ||| b) := by
  apply Int64.toBitVec_inj.1
  show BitVec.ofNat 64 a ||| BitVec.ofNat 64 b = BitVec.ofNat 64 (a ||| b)
  apply BitVec.eq_of_getLsbD_eq
  intro i hi
  simp [hi]
theorem xland_n (a b : Nat) (ha : a < 9223372036854775808) : xland (a : Int) (b : Int) = ((a &&& b : Nat) : Int) := by
  unfold xland
  rw [l_of, l_of, l_and, l_to (Nat.lt_of_le_of_lt Nat.and_le_left ha)]
theorem xlor_n (a b : Nat) (ha : a < 9223372036854775808) (hb : b < 9223372036854775808) : xlor (a : Int) (b : Int) = ((a ||| b : Nat) : Int) := by
  unfold xlor
  rw [l_of, l_of, l_or, l_to (Nat.or_lt_two_pow (n := 63) ha hb)]
theorem xlshl_n : ∀ c, c < 61 → xlshl 1 ((c : Nat) : Int) = ((2 ^ c : Nat) : Int) := by decide +kernel
theorem p60 {c : Nat} (hc : c ≤ 60) : 2 ^ c ≤ 1152921504606846976 := Nat.pow_le_pow_right (n := 2) (by decide) hc
theorem xlnot_n (X c : Nat) (hX : X < 2 ^ c) (hc : c ≤ 60) : xland (xlxor (X : Int) (-1)) (xlshl 1 (c : Int) - 1) = (((2 ^ c - 1) ^^^ X : Nat) : Int) := by
  have hp := p60 hc
  have h0 : 0 < 2 ^ c := Nat.two_pow_pos c
  have e1 : xlshl 1 (c : Int) - 1 = ((2 ^ c - 1 : Nat) : Int) := by rw [xlshl_n c (by omega)]; omega
  have hlt : (2 ^ c - 1) ^^^ X < 9223372036854775808 := Nat.xor_lt_two_pow (n := 63) (by omega) (by omega)
  rw [e1]
  unfold xland xlxor
  rw [Int64.ofInt_toInt, l_of, l_of]
  have e2 : (Int64.ofNat X ^^^ Int64.ofInt (-1)) &&& Int64.ofNat (2 ^ c - 1) = Int64.ofNat ((2 ^ c - 1) ^^^ X) := by
    apply Int64.toBitVec_inj.1
    show (BitVec.ofNat 64 X ^^^ BitVec.ofInt 64 (-1)) &&& BitVec.ofNat 64 (2 ^ c - 1) = BitVec.ofNat 64 ((2 ^ c - 1) ^^^ X)
    have e3 : BitVec.ofInt 64 (-1) = BitVec.allOnes 64 := by decide
    rw [e3]
    apply BitVec.eq_of_getLsbD_eq
    intro i hi
    rw [BitVec.getLsbD_and, BitVec.getLsbD_xor, BitVec.getLsbD_ofNat, BitVec.getLsbD_ofNat, BitVec.getLsbD_ofNat, BitVec.getLsbD_allOnes, Nat.testBit_xor, Nat.testBit_two_pow_sub_one]
    by_cases q : i < c
    · simp [hi, q]
    · have : X.testBit i = false := Nat.testBit_lt_two_pow (Nat.lt_of_lt_of_le hX (Nat.pow_le_pow_right (by decide) (by omega)))
      simp [hi, q, this]
  rw [e2, l_to hlt]
theorem lushr_n (X s : Nat) (hX : X < 9223372036854775808) (hs : s < 64) (h : (Int32.ofInt (s : Int)).toInt64.toUInt64 &&& Int64.toUInt64 63 = UInt64.ofNat s) : xlushr (X : Int) (s : Int) = ((X / 2 ^ s : Nat) : Int) := by
  unfold xlushr
  rw [h, l_of]
  show ((UInt64.ofNat X >>> UInt64.ofNat s).toBitVec).toInt = _
  have e : (UInt64.ofNat X >>> UInt64.ofNat s).toBitVec.toNat = X / 2 ^ s := by
    show (UInt64.ofNat X >>> UInt64.ofNat s).toNat = X / 2 ^ s
    rw [UInt64.toNat_shiftRight, UInt64.toNat_ofNat', UInt64.toNat_ofNat', Nat.mod_eq_of_lt (show X < 2 ^ 64 by omega), Nat.mod_eq_of_lt (show s < 2 ^ 64 by omega), Nat.mod_eq_of_lt hs, Nat.shiftRight_eq_div_pow]
  have hle : X / 2 ^ s ≤ X := Nat.div_le_self _ _
  rw [BitVec.toInt_eq_toNat_of_lt (by rw [e]; omega), e]
/-- how many of the n lowest bits are set -/
def bc : Nat → Nat → Nat
  | 0, _ => 0
  | n + 1, X => X % 2 + bc n (X / 2)
theorem bc_le : ∀ n X, bc n X ≤ n := by
  intro n
  induction n with
  | zero => intro X; exact Nat.le_refl _
  | succ n ih => intro X; have := ih (X / 2); unfold bc; omega
theorem bc_top : ∀ n X, bc (n + 1) X = bc n X + (if X.testBit n then 1 else 0) := by
  intro n
  induction n with
  | zero => intro X; show X % 2 + bc 0 (X / 2) = bc 0 X + _; rw [Nat.testBit_zero]; show X % 2 + 0 = 0 + _; rcases Nat.mod_two_eq_zero_or_one X with h | h <;> rw [h] <;> decide
  | succ n ih =>
    intro X
    show X % 2 + bc (n + 1) (X / 2) = X % 2 + bc n (X / 2) + _
    rw [ih, Nat.testBit_succ]
    omega
theorem bc_high (c X : Nat) (hX : X < 2 ^ c) : ∀ j, bc (c + j) X = bc c X := by
  intro j
  induction j with
  | zero => rfl
  | succ j ih =>
    rw [show c + (j + 1) = (c + j) + 1 from rfl, bc_top, ih, Nat.testBit_lt_two_pow (Nat.lt_of_lt_of_le hX (Nat.pow_le_pow_right (by decide) (by omega)))]
    rfl
theorem bc_8 (n a r : Nat) (ha : a < 256) : bc (8 + n) (a + 256 * r) = bc 8 a + bc n r := by
  rw [Nat.add_comm 8 n]
  have e : ∀ X, bc (n + 8) X = X % 2 + (X / 2 % 2 + (X / 2 / 2 % 2 + (X / 2 / 2 / 2 % 2 + (X / 2 / 2 / 2 / 2 % 2 + (X / 2 / 2 / 2 / 2 / 2 % 2 + (X / 2 / 2 / 2 / 2 / 2 / 2 % 2 + (X / 2 / 2 / 2 / 2 / 2 / 2 / 2 % 2 + bc n (X / 2 / 2 / 2 / 2 / 2 / 2 / 2 / 2)))))))) := fun X => rfl
  have e0 : ∀ X, bc 8 X = X % 2 + (X / 2 % 2 + (X / 2 / 2 % 2 + (X / 2 / 2 / 2 % 2 + (X / 2 / 2 / 2 / 2 % 2 + (X / 2 / 2 / 2 / 2 / 2 % 2 + (X / 2 / 2 / 2 / 2 / 2 / 2 % 2 + (X / 2 / 2 / 2 / 2 / 2 / 2 / 2 % 2 + 0))))))) := fun X => rfl
  have e8 : (a + 256 * r) / 2 / 2 / 2 / 2 / 2 / 2 / 2 / 2 = r := by omega
  rw [e, e0, e8]
  generalize bc n r = w
  clear e e0 e8
  omega
/-- the same byte k times -/
def mk (b : Nat) : Nat → Nat
  | 0 => 0
  | k + 1 => b + 256 * mk b k
theorem and_b (a b r s : Nat) (ha : a < 256) (hb : b < 256) : (a + 256 * r) &&& (b + 256 * s) = (a &&& b) + 256 * (r &&& s) := by
  have e : ∀ x y : Nat, x + 256 * y = 2 ^ 8 * y + x := fun x y => by omega
  apply Nat.eq_of_testBit_eq
  intro i
  rw [e, e, e, Nat.testBit_and, Nat.testBit_two_pow_mul_add _ ha, Nat.testBit_two_pow_mul_add _ hb, Nat.testBit_two_pow_mul_add _ (Nat.and_lt_two_pow (n := 8) _ hb)]
  by_cases h : i < 8
  · rw [if_pos h, if_pos h, if_pos h, Nat.testBit_and]
  · rw [if_neg h, if_neg h, if_neg h, Nat.testBit_and]
def n1 (k X : Nat) : Nat := X - ((X / 2) &&& mk 85 k)
def n2 (k Y : Nat) : Nat := (Y &&& mk 51 k) + ((Y / 4) &&& mk 51 k)
def n3 (k Z : Nat) : Nat := (Z + Z / 16) &&& mk 15 k
def zb (a : Nat) : Nat := ((a - ((a / 2) &&& 85)) &&& 51) + (((a - ((a / 2) &&& 85)) / 4) &&& 51)
theorem nb_1 : ∀ a, a < 256 → ∀ t, t < 2 → (a / 2 + 128 * t) &&& 85 = (a / 2) &&& 85 := by decide +kernel
theorem nb_2 : ∀ a, a < 256 → ∀ t, t < 4 → (a / 4 + 64 * t) &&& 51 = (a / 4) &&& 51 := by decide +kernel
theorem nb_z : ∀ a, a < 256 → zb a ≤ 68 ∧ zb a % 16 ≤ 4 := by decide +kernel
theorem nb_3 : ∀ a, a < 256 → ∀ t, t < 5 → (zb a + zb a / 16 + 16 * t) &&& 15 = bc 8 a := by decide +kernel
theorem n1_s (k a r : Nat) (ha : a < 256) : n1 (k + 1) (a + 256 * r) = (a - ((a / 2) &&& 85)) + 256 * n1 k r := by
  unfold n1
  have e : (a + 256 * r) / 2 = (a / 2 + 128 * (r % 2)) + 256 * (r / 2) := by omega
  have e2 : mk 85 (k + 1) = 85 + 256 * mk 85 k := rfl
  rw [e, e2, and_b _ _ _ _ (by omega) (by decide), nb_1 a ha _ (Nat.mod_lt _ (by decide))]
  have h1 : (a / 2) &&& 85 ≤ a / 2 := Nat.and_le_left
  have h2 : (r / 2) &&& mk 85 k ≤ r / 2 := Nat.and_le_left
  omega
theorem n2_s (k a r : Nat) (ha : a < 256) : n2 (k + 1) (a + 256 * r) = ((a &&& 51) + ((a / 4) &&& 51)) + 256 * n2 k r := by
  unfold n2
  have e : (a + 256 * r) / 4 = (a / 4 + 64 * (r % 4)) + 256 * (r / 4) := by omega
  have e2 : mk 51 (k + 1) = 51 + 256 * mk 51 k := rfl
  rw [e, e2, and_b _ _ _ _ ha (by decide), and_b _ _ _ _ (by omega) (by decide), nb_2 a ha _ (Nat.mod_lt _ (by decide))]
  omega
theorem n21_s (k a r : Nat) (ha : a < 256) : n2 (k + 1) (n1 (k + 1) (a + 256 * r)) = zb a + 256 * n2 k (n1 k r) := by
  rw [n1_s k a r ha, n2_s _ _ _ (by omega)]
  rfl
theorem n21_4 : ∀ k X, X < 256 ^ k → n2 k (n1 k X) % 16 ≤ 4 := by
  intro k
  cases k with
  | zero => intro X hX; have : X = 0 := by omega
            rw [this]; decide
  | succ k =>
    intro X hX
    have e : X = X % 256 + 256 * (X / 256) := by omega
    rw [e, n21_s _ _ _ (Nat.mod_lt _ (by decide))]
    have := (nb_z (X % 256) (Nat.mod_lt _ (by decide))).2
    omega
def nP (k X : Nat) : Nat := n3 k (n2 k (n1 k X))
theorem nP_s (k X : Nat) (hX : X < 256 ^ (k + 1)) : nP (k + 1) X = bc 8 (X % 256) + 256 * nP k (X / 256) := by
  have ha : X % 256 < 256 := Nat.mod_lt _ (by decide)
  have hr : X / 256 < 256 ^ k := by rw [Nat.pow_succ] at hX; omega
  have e : X = X % 256 + 256 * (X / 256) := by omega
  have e1 : nP (k + 1) X = n3 (k + 1) (n2 (k + 1) (n1 (k + 1) (X % 256 + 256 * (X / 256)))) := by rw [← e]; rfl
  rw [e1, n21_s _ _ _ ha]
  have h4 := n21_4 k _ hr
  have hz := nb_z _ ha
  unfold nP n3
  have e2 : mk 15 (k + 1) = 15 + 256 * mk 15 k := rfl
  generalize hq : n2 k (n1 k (X / 256)) = q at h4 ⊢
  have e3 : zb (X % 256) + 256 * q + (zb (X % 256) + 256 * q) / 16 = (zb (X % 256) + zb (X % 256) / 16 + 16 * (q % 16)) + 256 * (q + q / 16) := by omega
  rw [e3, e2, and_b _ _ _ _ (by omega) (by decide), nb_3 _ ha _ (by omega)]
theorem bc_s (k X : Nat) : bc (8 + k) X = bc 8 (X % 256) + bc k (X / 256) := by
  have e : X = X % 256 + 256 * (X / 256) := by omega
  have := bc_8 k (X % 256) (X / 256) (Nat.mod_lt _ (by decide))
  rw [← e] at this
  exact this
theorem nP_sum (X : Nat) (hX : X < 256 ^ 8) : ∃ p0 p1 p2 p3 p4 p5 p6 p7 : Nat, (p0 ≤ 8 ∧ p1 ≤ 8 ∧ p2 ≤ 8 ∧ p3 ≤ 8 ∧ p4 ≤ 8 ∧ p5 ≤ 8 ∧ p6 ≤ 8 ∧ p7 ≤ 8) ∧ nP 8 X = p0 + 256 * (p1 + 256 * (p2 + 256 * (p3 + 256 * (p4 + 256 * (p5 + 256 * (p6 + 256 * p7)))))) ∧ bc 64 X = p0 + p1 + p2 + p3 + p4 + p5 + p6 + p7 := by
  have h0 : nP 0 (X / 256 / 256 / 256 / 256 / 256 / 256 / 256 / 256) = 0 := by unfold nP n3; exact Nat.and_zero _
  refine ⟨bc 8 (X % 256), bc 8 (X / 256 % 256), bc 8 (X / 256 / 256 % 256), bc 8 (X / 256 / 256 / 256 % 256), bc 8 (X / 256 / 256 / 256 / 256 % 256), bc 8 (X / 256 / 256 / 256 / 256 / 256 % 256), bc 8 (X / 256 / 256 / 256 / 256 / 256 / 256 % 256), bc 8 (X / 256 / 256 / 256 / 256 / 256 / 256 / 256 % 256), ⟨bc_le 8 _, bc_le 8 _, bc_le 8 _, bc_le 8 _, bc_le 8 _, bc_le 8 _, bc_le 8 _, bc_le 8 _⟩, (by
    rw [nP_s 7 _ hX, nP_s 6 _ (by omega), nP_s 5 _ (by omega), nP_s 4 _ (by omega), nP_s 3 _ (by omega), nP_s 2 _ (by omega), nP_s 1 _ (by omega), nP_s 0 _ (by omega), h0, Nat.mul_zero, Nat.add_zero]), ?_⟩
  rw [show 64 = 8 + (8 + (8 + (8 + (8 + (8 + (8 + (8 + 0))))))) from rfl, bc_s, bc_s, bc_s, bc_s, bc_s, bc_s, bc_s, bc_s]
  show _ + (_ + (_ + (_ + (_ + (_ + (_ + (_ + 0))))))) = _
  omega
theorem mk_51 : mk 51 8 = 3689348814741910323 := by decide
theorem mk_15 : mk 15 8 = 1085102592571150095 := by decide
theorem mk_85 : mk 85 8 = 6148914691236517205 := by decide
/-- the bits that are set, counted as the class's library counts them -/
theorem f_bit_sp (X : Nat) (hX : X < 9223372036854775808) : f_bit (X : Int) = ((bc 64 X : Nat) : Int) := by
  have g1 : fb_1 (X : Int) = ((n1 8 X : Nat) : Int) := by
    unfold fb_1 n1
    rw [show (1 : Int) = ((1 : Nat) : Int) from rfl, lushr_n X 1 hX (by decide) (by decide), show (6148914691236517205 : Int) = ((mk 85 8 : Nat) : Int) by rw [mk_85]; rfl, xland_n _ _ (Nat.lt_of_le_of_lt (Nat.div_le_self _ _) hX)]
    have h1 : (X / 2 ^ 1) &&& mk 85 8 ≤ X / 2 ^ 1 := Nat.and_le_left
    have h2 : X / 2 ^ 1 ≤ X := Nat.div_le_self _ _
    show (X : Int) - (((X / 2 ^ 1) &&& mk 85 8 : Nat) : Int) = ((X - ((X / 2 ^ 1) &&& mk 85 8) : Nat) : Int)
    omega
  have l1 : n1 8 X < 9223372036854775808 := by unfold n1; omega
  have g2 : fb_2 ((n1 8 X : Nat) : Int) = ((n2 8 (n1 8 X) : Nat) : Int) := by
    generalize n1 8 X = Y at l1
    unfold fb_2 n2
    rw [show (2 : Int) = ((2 : Nat) : Int) from rfl, lushr_n Y 2 l1 (by decide) (by decide), show (3689348814741910323 : Int) = ((mk 51 8 : Nat) : Int) by rw [mk_51]; rfl, xland_n _ _ (Nat.lt_of_le_of_lt (Nat.div_le_self _ _) l1), xland_n _ _ l1]
    rfl
  have l2 : n2 8 (n1 8 X) ≤ 7378697629483820646 := by
    unfold n2
    have h1 : n1 8 X &&& mk 51 8 ≤ mk 51 8 := Nat.and_le_right
    have h2 : (n1 8 X / 4) &&& mk 51 8 ≤ mk 51 8 := Nat.and_le_right
    rw [mk_51] at h1 h2 ⊢
    omega
  have g3 : fb_3 ((n2 8 (n1 8 X) : Nat) : Int) = ((nP 8 X : Nat) : Int) := by
    unfold nP
    generalize n2 8 (n1 8 X) = Z at l2
    unfold fb_3 n3
    rw [show (4 : Int) = ((4 : Nat) : Int) from rfl, lushr_n Z 4 (by omega) (by decide) (by decide), show (1085102592571150095 : Int) = ((mk 15 8 : Nat) : Int) by rw [mk_15]; rfl, show (Z : Int) + ((Z / 2 ^ 4 : Nat) : Int) = ((Z + Z / 16 : Nat) : Int) by omega, xland_n _ _ (by omega)]
  obtain ⟨p0, p1, p2, p3, p4, p5, p6, p7, hp, hW, hB⟩ := nP_sum X (by omega)
  unfold f_bit
  rw [g1, g2, g3, hB]
  obtain ⟨W, hw⟩ : ∃ W, nP 8 X = W := ⟨_, rfl⟩
  rw [hw] at hW ⊢
  clear g1 g2 g3 l1 l2 hB hw
  have d4 : fb_4 (W : Int) = ((W + W / 256 : Nat) : Int) := by
    unfold fb_4
    rw [show (8 : Int) = ((8 : Nat) : Int) from rfl, lushr_n W 8 (by omega) (by decide) (by decide)]
    omega
  rw [d4]
  obtain ⟨V, hv⟩ : ∃ V, W + W / 256 = V := ⟨_, rfl⟩
  have q4 : W / 256 = p1 + 256 * (p2 + 256 * (p3 + 256 * (p4 + 256 * (p5 + 256 * (p6 + 256 * p7))))) := by omega
  have r4 : V = (p0 + p1) + 256 * (p1 + p2) + 65536 * ((p2 + p3) + 256 * (p3 + p4) + 65536 * ((p4 + p5) + 256 * (p5 + p6) + 65536 * ((p6 + p7) + 256 * p7))) := by omega
  rw [hv]
  clear d4 hv q4 hW
  have d5 : fb_5 (V : Int) = ((V + V / 65536 : Nat) : Int) := by
    unfold fb_5
    rw [show (16 : Int) = ((16 : Nat) : Int) from rfl, lushr_n V 16 (by omega) (by decide) (by decide)]
    omega
  rw [d5]
  obtain ⟨U, hu⟩ : ∃ U, V + V / 65536 = U := ⟨_, rfl⟩
  have q5 : V / 65536 = (p2 + p3) + 256 * (p3 + p4) + 65536 * ((p4 + p5) + 256 * (p5 + p6) + 65536 * ((p6 + p7) + 256 * p7)) := by omega
  have r5 : ∃ x y : Nat, y ≤ 1000000 ∧ U = (p0 + p1 + p2 + p3) + 256 * x + 4294967296 * ((p4 + p5 + p6 + p7) + 256 * y) ∧ x ≤ 16777215 :=
    ⟨(p1 + p2 + p3 + p4) + 256 * ((p2 + p3 + p4 + p5) + 256 * (p3 + p4 + p5 + p6)), (p5 + p6 + p7) + 256 * ((p6 + p7) + 256 * p7), by omega, by omega, by omega⟩
  rw [hu]
  clear d5 hu q5 r4
  obtain ⟨x, y, hy, r5, hx⟩ := r5
  have d6 : fb_6 (U : Int) = ((U + U / 4294967296 : Nat) : Int) := by
    unfold fb_6
    rw [show (32 : Int) = ((32 : Nat) : Int) from rfl, lushr_n U 32 (by omega) (by decide) (by decide)]
    omega
  rw [d6, show (127 : Int) = ((2 ^ 7 - 1 : Nat) : Int) from rfl, b_iand _ 7 (by decide)]
  have q6 : U / 4294967296 = (p4 + p5 + p6 + p7) + 256 * y := by omega
  rw [q6]
  omega
/-- the lowest bit that is set -/
theorem low_bit : ∀ X : Nat, X ≠ 0 → ∃ i k : Nat, X = 2 ^ (i + 1) * k + 2 ^ i := by
  intro X
  induction X using Nat.strongRecOn with
  | _ X ih =>
    intro h
    by_cases p : X % 2 = 1
    · exact ⟨0, X / 2, by omega⟩
    · obtain ⟨i, k, hik⟩ := ih (X / 2) (by omega) (by omega)
      refine ⟨i + 1, k, ?_⟩
      have e1 : 2 ^ (i + 1 + 1) * k = 2 * (2 ^ (i + 1) * k) := by rw [Nat.pow_succ (m := i + 1)]; rw [Nat.mul_comm (2 ^ (i + 1)) 2, Nat.mul_assoc]
      have e2 : 2 ^ (i + 1) = 2 * 2 ^ i := by rw [Nat.pow_succ]; omega
      rw [e1]
      omega
theorem low_bits {X i k : Nat} (h : X = 2 ^ (i + 1) * k + 2 ^ i) (j : Nat) : X.testBit j = (if j < i + 1 then decide (i = j) else k.testBit (j - (i + 1))) := by
  have hl : 2 ^ i < 2 ^ (i + 1) := Nat.pow_lt_pow_right (by decide) (by omega)
  rw [h, Nat.testBit_two_pow_mul_add _ hl, Nat.testBit_two_pow]
theorem low_pred {X i k : Nat} (h : X = 2 ^ (i + 1) * k + 2 ^ i) (j : Nat) : (X - 1).testBit j = (if j < i + 1 then decide (j < i) else k.testBit (j - (i + 1))) := by
  have h0 : 0 < 2 ^ i := Nat.two_pow_pos i
  have hl : 2 ^ i < 2 ^ (i + 1) := Nat.pow_lt_pow_right (by decide) (by omega)
  rw [show X - 1 = 2 ^ (i + 1) * k + (2 ^ i - 1) by omega, Nat.testBit_two_pow_mul_add _ (by omega), Nat.testBit_two_pow_sub_one]
theorem fz_low {X i k : Nat} (h : X = 2 ^ (i + 1) * k + 2 ^ i) (hi : i < 32) : fz_1 (X : Int) = ((2 ^ i - 1 : Nat) : Int) := by
  have h0 : 0 < 2 ^ i := Nat.two_pow_pos i
  have hl : 2 ^ i ≤ 2 ^ 31 := Nat.pow_le_pow_right (by decide) (by omega)
  unfold fz_1 xiand xixor
  rw [Int32.ofInt_toInt, show (X : Int) - 1 = ((X - 1 : Nat) : Int) by omega, b_of, b_of]
  have e : (nI X ^^^ Int32.ofInt (-1)) &&& nI (X - 1) = nI (2 ^ i - 1) := by
    apply Int32.toBitVec_inj.1
    show (BitVec.ofNat 32 X ^^^ BitVec.ofInt 32 (-1)) &&& BitVec.ofNat 32 (X - 1) = BitVec.ofNat 32 (2 ^ i - 1)
    have e3 : BitVec.ofInt 32 (-1) = BitVec.allOnes 32 := by decide
    rw [e3]
    apply BitVec.eq_of_getLsbD_eq
    intro j hj
    rw [BitVec.getLsbD_and, BitVec.getLsbD_xor, BitVec.getLsbD_ofNat, BitVec.getLsbD_ofNat, BitVec.getLsbD_ofNat, BitVec.getLsbD_allOnes, low_bits h, low_pred h, Nat.testBit_two_pow_sub_one]
    by_cases q : j < i + 1
    · rw [if_pos q, if_pos q]
      by_cases q2 : j < i
      · simp [hj, q2, show ¬ i = j by omega]
      · simp [hj, q2, show i = j by omega]
    · rw [if_neg q, if_neg q]
      simp [hj, show ¬ j < i by omega]
  rw [e, nI_toInt (by omega)]
def gz (v : Int) : Int := if 0 < xw v then fz_e (fz_s 4 2 (fz_s 16 4 (fz_s 256 8 (fz_s 65536 16 (v, 1))))) else xiand v 32
theorem gz_t : ∀ i, i < 32 → gz ((2 ^ i - 1 : Nat) : Int) = ((i : Nat) : Int) := by decide +kernel
theorem f_lntz_sp {X i k : Nat} (hX : X < 9223372036854775808) (h : X = 2 ^ (i + 1) * k + 2 ^ i) (hi : i < 63) : f_lntz (X : Int) = (i : Int) := by
  unfold f_lntz
  by_cases q : i < 32
  · have hne : ¬ xw (X : Int) = 0 := by
      intro g
      have g2 : Int32.ofInt (X : Int) = 0 := xz_eq.mpr g
      rw [b_of] at g2
      have g3 : BitVec.ofNat 32 X = BitVec.ofNat 32 0 := congrArg Int32.toBitVec g2
      have g4 := congrArg (fun v => v.getLsbD i) g3
      simp only [BitVec.getLsbD_ofNat, low_bits h] at g4
      simp [q] at g4
    rw [if_neg hne]
    show gz (fz_1 (X : Int)) = _
    rw [fz_low h q, gz_t i q]
  · obtain ⟨j, hj⟩ : ∃ j, i = 32 + j := ⟨i - 32, by omega⟩
    have e1 : 2 ^ (i + 1) = 4294967296 * 2 ^ (j + 1) := by rw [hj, show 32 + j + 1 = 32 + (j + 1) by omega, Nat.pow_add]
    have e2 : 2 ^ i = 4294967296 * 2 ^ j := by rw [hj, Nat.pow_add]
    have e3 : X = 4294967296 * (2 ^ (j + 1) * k + 2 ^ j) := by rw [h, e1, e2, Nat.mul_add, Nat.mul_assoc]
    have h0 : xw (X : Int) = 0 := by
      apply xz_eq.mp
      rw [b_of]
      apply Int32.toBitVec_inj.1
      show BitVec.ofNat 32 X = BitVec.ofNat 32 0
      apply BitVec.eq_of_toNat_eq
      rw [BitVec.toNat_ofNat, BitVec.toNat_ofNat]
      omega
    rw [if_pos h0, show (32 : Int) = ((32 : Nat) : Int) from rfl, lushr_n X 32 hX (by decide) (by decide), show X / 2 ^ 32 = 2 ^ (j + 1) * k + 2 ^ j by omega]
    have := fz_low (X := 2 ^ (j + 1) * k + 2 ^ j) rfl (show j < 32 by omega)
    show ((32 : Nat) : Int) + gz (fz_1 ((2 ^ (j + 1) * k + 2 ^ j : Nat) : Int)) = _
    rw [this, gz_t j (by omega)]
    omega

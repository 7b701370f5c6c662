/-! ===== numbers that are not below 0, as words of 32 bits ===== -/
theorem b_of (n : Nat) : Int32.ofInt (n : Int) = nI n := by
  apply Int32.toBitVec_inj.1
  show BitVec.ofInt 32 (n : Int) = BitVec.ofNat 32 n
  exact BitVec.ofInt_natCast 32 n
theorem b_xor (a b : Nat) : nI a ^^^ nI b = nI (a ^^^ b) := by
  apply Int32.toBitVec_inj.1
  show BitVec.ofNat 32 a ^^^ BitVec.ofNat 32 b = BitVec.ofNat 32 (a ^^^ b)
  apply BitVec.eq_of_getLsbD_eq
  intro i hi
  simp [hi]
theorem b_and (a b : Nat) : nI a &&& nI b = nI (a &&& b) := by
  apply Int32.toBitVec_inj.1
  show BitVec.ofNat 32 a &&& BitVec.ofNat 32 b = BitVec.ofNat 32 (a &&& b)
  apply BitVec.eq_of_getLsbD_eq
  intro i hi
  simp [hi]
theorem b_or (a b : Nat) : nI a ||| nI b = nI (a ||| b) := by
  apply Int32.toBitVec_inj.1
  show BitVec.ofNat 32 a ||| BitVec.ofNat 32 b = BitVec.ofNat 32 (a ||| b)
  apply BitVec.eq_of_getLsbD_eq
  intro i hi
  simp [hi]
theorem b_irem (a b : Nat) (ha : a < 2147483648) (hb : 0 < b) (hb2 : b < 2147483648) : xirem (a : Int) (b : Int) = ((a % b : Nat) : Int) := by
  have hl : a % b ≤ a := Nat.mod_le a b
  unfold xirem
  rw [b_of, b_of, pk_rem ha hb hb2, nI_toInt (by omega)]
theorem b_ixor (a b : Nat) (ha : a < 2147483648) (hb : b < 2147483648) : 0 ≤ xixor (a : Int) (b : Int) ∧ xixor (a : Int) (b : Int) < 2147483648 := by
  unfold xixor
  rw [b_of, b_of, b_xor, nI_toInt (Nat.xor_lt_two_pow (n := 31) ha hb)]
  have := Nat.xor_lt_two_pow (n := 31) ha hb
  omega
theorem b_iand (a k : Nat) (hk : k < 31) : xiand (a : Int) ((2 ^ k - 1 : Nat) : Int) = ((a % 2 ^ k : Nat) : Int) := by
  unfold xiand
  rw [b_of, b_of, b_and, Nat.and_two_pow_sub_one_eq_mod, nI_toInt (Nat.lt_trans (Nat.mod_lt _ (Nat.two_pow_pos k)) (Nat.pow_lt_pow_right (by decide) hk))]
theorem b_iand63 (a : Nat) : xiand (a : Int) 63 = ((a % 64 : Nat) : Int) := b_iand a 6 (by decide)
theorem b_iand255 (a : Nat) : xiand (a : Int) 255 = ((a % 256 : Nat) : Int) := b_iand a 8 (by decide)
theorem b_floorMod (a b : Nat) (m : xM) (ha : a < 2147483648) (hb : 0 < b) (hb2 : b < 2147483648) : f_floorMod (a : Int) (b : Int) m = some ((a % b : Nat) : Int) := by
  unfold f_floorMod
  have h := b_ixor a b ha hb2
  rw [if_neg (by rw [b_xw (by omega)]; omega), if_neg (by rw [b_xw (by omega)]; omega), b_irem a b ha hb hb2]
/-! ===== the class's log ===== -/
theorem G_add_47 (t kd en z : Int) (m : xM) (a : Nat) (ha : a < 120) (h : m 0 1 + m 0 2 - 1 = (a : Int)) : ∃ m' : xM, f_G_add_47 t kd en z m = some m' ∧ m' 1 (a % 60 * 4) = t ∧ m' 1 (a % 60 * 4 + 1) = kd ∧ m' 1 (a % 60 * 4 + 2) = en ∧ m' 1 (a % 60 * 4 + 3) = z ∧ (∀ i, (i < a % 60 * 4 ∨ a % 60 * 4 + 4 ≤ i) → m' 1 i = m 1 i) ∧ ∀ k, k ≠ 1 → m' k = m k := by
  have hl : a % 60 < 60 := Nat.mod_lt _ (by decide)
  have e0 : f_G_add_47 t kd en z m = f_G_add_77 t kd en z ((a % 60 : Nat) : Int) m := by
    unfold f_G_add_47
    rw [h]
    by_cases h6 : a < 60
    · rw [if_pos (by rw [b_xw (by omega), b_xw (by omega)]; omega), Nat.mod_eq_of_lt h6]
    · rw [if_neg (by rw [b_xw (by omega), b_xw (by omega)]; omega), show (a : Int) - 60 = ((a % 60 : Nat) : Int) by omega]
  rw [e0]
  unfold f_G_add_77 f_G_add_101
  rw [if_pos (b_ib (by omega)), if_pos (b_ib (by omega)), if_pos (b_ib (by omega)), if_pos (b_ib (by omega)), b_ix (by omega), b_ix (by omega), b_ix (by omega), b_ix (by omega),
    show (((a % 60 : Nat) : Int) * 4 + 0).toNat = a % 60 * 4 by omega, show (((a % 60 : Nat) : Int) * 4 + 1).toNat = a % 60 * 4 + 1 by omega, show (((a % 60 : Nat) : Int) * 4 + 2).toNat = a % 60 * 4 + 2 by omega, show (((a % 60 : Nat) : Int) * 4 + 3).toNat = a % 60 * 4 + 3 by omega]
  generalize a % 60 * 4 = r
  refine ⟨_, rfl, ?_, ?_, ?_, ?_, fun i hi => ?_, fun k hk => ?_⟩
  · rw [xu_d (by omega), xu_d (by omega), xu_d (by omega), xu_s rfl]
  · rw [xu_d (by omega), xu_d (by omega), xu_s rfl]
  · rw [xu_d (by omega), xu_s rfl]
  · rw [xu_s rfl]
  · rw [xu_d (by omega), xu_d (by omega), xu_d (by omega), xu_d (by omega)]
  · rw [xu_K hk, xu_K hk, xu_K hk, xu_K hk]
/-- the logs -/
def bREv (kl : Nat) (m : xM) (N : Nat → Int) : Prop := ∃ b c : Nat, m kl 1 = b ∧ m kl 2 = c ∧ c ≤ 60 ∧ b < 60 ∧ (c < 60 → b = 0) ∧ N 10 = c ∧ ∀ i w, i < c → w < 4 → N (1490 + 4 * i + w) = m (kl + 1) ((b + i) % 60 * 4 + w)
theorem bREv.cg {kl : Nat} {m m' : xM} {N N' : Nat → Int} (h : bREv kl m N) (h1 : m' kl = m kl) (h2 : m' (kl + 1) = m (kl + 1)) (h3 : N' 10 = N 10) (h4 : ∀ i, 1490 ≤ i → i < 1730 → N' i = N i) : bREv kl m' N' := by
  obtain ⟨b, c, a1, a2, a3, a4, a5, a6, a7⟩ := h
  exact ⟨b, c, by rw [h1, a1], by rw [h1, a2], a3, a4, a5, by rw [h3, a6], fun i w hi hw => by rw [h4 _ (by omega) (by omega), h2, a7 i w hi hw]⟩
/-- a new event in both -/
theorem REv_add (kd en : Int) (m M : xM) (h : bREv 0 m (M 1)) (h1 : 0 ≤ M 1 1 ∧ M 1 1 ≤ 3) : ∃ m' M' : xM, f_G_add (M 1 0) kd en (bEvR (M 1)) m = some m' ∧ f_m_tellEvent kd en M = some M' ∧ bREv 0 m' (M' 1) ∧ (∀ k, 2 ≤ k → m' k = m k) ∧ (∀ i, i ≠ 10 → (i < 1490 ∨ 1730 ≤ i) → M' 1 i = M 1 i) ∧ ∀ k, k ≠ 1 → M' k = M k := by
  obtain ⟨b, c, a1, a2, a3, a4, a5, a6, a7⟩ := h
  obtain ⟨M', p1, p2, p3, p4⟩ := tellEvent_sp kd en M c a3 a6 h1
  by_cases hc : c < 60
  · have hb := a5 hc
    subst hb
    obtain ⟨q1, q2, q3, q4, q5, q6⟩ := p2 c 0 (Or.inl ⟨rfl, rfl, hc⟩)
    obtain ⟨m', e1, e2, e3, e4, e5, e6, e7⟩ := G_add_47 (M 1 0) kd en (bEvR (M 1)) (xu m 0 2 ((c : Int) + 1)) c (by omega) (by rw [xu_d (by omega), xu_s rfl, a1]; omega)
    refine ⟨m', M', ?_, p1, ⟨0, c + 1, ?_, ?_, by omega, by omega, fun _ => rfl, q1, fun i w hi hw => ?_⟩, fun k hk => by rw [e7 k (by omega), xu_K (by omega)], p3, p4⟩
    · unfold f_G_add
      rw [a2, if_pos (by rw [b_xw (by omega), b_xw (by omega)]; omega), e1]
    · rw [e7 0 (by omega), xu_d (by omega), a1]
    · rw [e7 0 (by omega), xu_s rfl]; omega
    · rw [Nat.mod_eq_of_lt (by omega)] at e2 e3 e4 e5 e6
      rw [show (0 + i) % 60 = i by omega]
      by_cases h2 : i = c
      · subst h2
        rcases (by omega : w = 0 ∨ w = 1 ∨ w = 2 ∨ w = 3) with rfl | rfl | rfl | rfl
        · exact q3.trans e2.symm
        · exact q4.trans e3.symm
        · exact q5.trans e4.symm
        · exact q6.trans e5.symm
      · rw [q2 i w (by omega) hw, e6 _ (by omega), xu_K (by omega), show 1490 + 4 * (i + 0) + w = 1490 + 4 * i + w by omega, a7 i w (by omega) hw, show (0 + i) % 60 = i by omega]
  · obtain ⟨q1, q2, q3, q4, q5, q6⟩ := p2 59 1 (Or.inr ⟨rfl, rfl, by omega⟩)
    have hb' : ∃ b', b' = (if b + 1 < 60 then b + 1 else 0) := ⟨_, rfl⟩
    obtain ⟨b', hb'⟩ := hb'
    obtain ⟨m', e1, e2, e3, e4, e5, e6, e7⟩ := G_add_47 (M 1 0) kd en (bEvR (M 1)) (xu m 0 1 (b' : Int)) (b' + 59) (by split at hb' <;> omega) (by rw [xu_s rfl, xu_d (by omega), a2]; omega)
    have hbb : b' < 60 := by split at hb' <;> omega
    have hbm : (b' + 59) % 60 = b := by split at hb' <;> omega
    rw [hbm] at e2 e3 e4 e5 e6
    refine ⟨m', M', ?_, p1, ⟨b', c, ?_, ?_, by omega, by omega, fun h => by omega, by rw [q1]; omega, fun i w hi hw => ?_⟩, fun k hk => by rw [e7 k (by omega), xu_K (by omega)], p3, p4⟩
    · unfold f_G_add f_G_add_44
      rw [a1, a2, if_neg (by rw [b_xw (by omega), b_xw (by omega)]; omega)]
      by_cases h5 : b + 1 < 60
      · rw [if_pos (by rw [b_xw (by omega), b_xw (by omega)]; omega)]
        rw [if_pos h5] at hb'
        subst hb'
        exact e1
      · rw [if_neg (by rw [b_xw (by omega), b_xw (by omega)]; omega)]
        rw [if_neg h5] at hb'
        subst hb'
        exact e1
    · rw [e7 0 (by omega), xu_s rfl]
    · rw [e7 0 (by omega), xu_d (by omega), a2]
    · by_cases h2 : i = 59
      · subst h2
        rw [hbm]
        rcases (by omega : w = 0 ∨ w = 1 ∨ w = 2 ∨ w = 3) with rfl | rfl | rfl | rfl
        · exact q3.trans e2.symm
        · exact q4.trans e3.symm
        · exact q5.trans e4.symm
        · exact q6.trans e5.symm
      · have hx : (b' + i) % 60 = (b + (i + 1)) % 60 := by split at hb' <;> omega
        have hy : (b + (i + 1)) % 60 ≠ b := by omega
        rw [q2 i w (by omega) hw, hx, e6 _ (by omega), xu_K (by omega), a7 (i + 1) w (by omega) hw]

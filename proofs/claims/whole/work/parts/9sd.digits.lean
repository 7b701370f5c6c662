/-! ===== texts: numbers and words, by the reference ===== -/
/-- c is how many digits N has -/
def isL (N c : Nat) : Prop := N < 10 ^ c ∧ 1 ≤ c ∧ (c = 1 ∨ 10 ^ (c - 1) ≤ N) ∧ c ≤ 10
theorem isL_ex : ∀ N, N ≤ 1000000000 → ∃ c, isL N c := by
  intro N hN
  by_cases h1 : N < 10 ^ 1
  · exact ⟨1, h1, by omega, Or.inl rfl, by omega⟩
  by_cases h2 : N < 10 ^ 2
  · exact ⟨2, h2, by omega, Or.inr (by omega), by omega⟩
  by_cases h3 : N < 10 ^ 3
  · exact ⟨3, h3, by omega, Or.inr (by omega), by omega⟩
  by_cases h4 : N < 10 ^ 4
  · exact ⟨4, h4, by omega, Or.inr (by omega), by omega⟩
  by_cases h5 : N < 10 ^ 5
  · exact ⟨5, h5, by omega, Or.inr (by omega), by omega⟩
  by_cases h6 : N < 10 ^ 6
  · exact ⟨6, h6, by omega, Or.inr (by omega), by omega⟩
  by_cases h7 : N < 10 ^ 7
  · exact ⟨7, h7, by omega, Or.inr (by omega), by omega⟩
  by_cases h8 : N < 10 ^ 8
  · exact ⟨8, h8, by omega, Or.inr (by omega), by omega⟩
  by_cases h9 : N < 10 ^ 9
  · exact ⟨9, h9, by omega, Or.inr (by omega), by omega⟩
  exact ⟨10, by omega, by omega, Or.inr (by omega), by omega⟩
/-- digit i of N, from the lowest on, as a letter -/
def dgt (N i : Nat) : Int := ((48 + N / 10 ^ i % 10 : Nat) : Int)
theorem dgt_in (N i : Nat) : 48 ≤ dgt N i ∧ dgt N i ≤ 57 := by unfold dgt; omega
/-- letters put behind the n that stand -/
def bAp (M M' : xM) (n len : Nat) (g : Nat → Int) : Prop := M' 0 11 = ((n + len : Nat) : Int) ∧ (∀ i, i < len → M' 7 (n + i) = g i) ∧ (∀ j, j < n → M' 7 j = M 7 j) ∧ (∀ k, k ≠ 0 → k ≠ 7 → M' k = M k) ∧ ∀ j, j ≠ 11 → M' 0 j = M 0 j
theorem bAp.nil {M : xM} {n : Nat} (h : M 0 11 = n) (g : Nat → Int) : bAp M M n 0 g := ⟨h, fun i hi => absurd hi (Nat.not_lt_zero i), fun _ _ => rfl, fun _ _ _ => rfl, fun _ _ => rfl⟩
theorem bAp.trans {M M1 M2 : xM} {n l1 l2 : Nat} {g1 g2 : Nat → Int} (h : bAp M M1 n l1 g1) (g : bAp M1 M2 (n + l1) l2 g2) : bAp M M2 n (l1 + l2) (fun i => if i < l1 then g1 i else g2 (i - l1)) := by
  obtain ⟨a1, a2, a3, a4, a5⟩ := h
  obtain ⟨b1, b2, b3, b4, b5⟩ := g
  refine ⟨by rw [b1]; omega, fun i hi => ?_, fun j hj => by rw [b3 j (by omega), a3 j hj], fun k h0 h7 => by rw [b4 k h0 h7, a4 k h0 h7], fun j hj => by rw [b5 j hj, a5 j hj]⟩
  show M2 7 (n + i) = if i < l1 then g1 i else g2 (i - l1)
  by_cases c : i < l1
  · rw [if_pos c, b3 _ (by omega), a2 i c]
  · rw [if_neg c, ← b2 (i - l1) (by omega)]
    congr 1
    omega
theorem m_put_sp (z : Int) {M : xM} {n : Nat} (h : M 0 11 = n) (hn : n < 60) : ∃ M' : xM, f_m_put z M = some M' ∧ bAp M M' n 1 (fun _ => z) := by
  have x1 : xix (n : Int) = n := by rw [b_ix (by omega)]; omega
  unfold f_m_put
  rw [h, if_pos (b_ib (by omega)), x1]
  refine ⟨_, rfl, ?_, fun i hi => ?_, fun j hj => ?_, fun k h0 h7 => ?_, fun j hj => ?_⟩
  · rw [xu_s rfl]; omega
  · have : i = 0 := by omega
    rw [this, xu_k (by omega)]; exact xu_s rfl
  · rw [xu_k (by omega), xu_d (by omega)]
  · rw [xu_K h0, xu_K h7]
  · rw [xu_d hj, xu_k (by omega)]
theorem m_word_sp (w : Nat) : ∀ (r i q : Nat) (M : xM) (n : Nat), i + r = (xSby.getD w []).length → M 0 11 = n → n + r ≤ 60 → ∃ M' : xM, f_m_putWord_2 w (q + r + 1) (i : Int) M = some M' ∧ bAp M M' n r (fun j => xsc w (i + j)) := by
  have hl := bLen w
  intro r
  induction r with
  | zero =>
    intro i q M n hi h hn
    refine ⟨M, ?_, bAp.nil h _⟩
    rw [show q + 0 + 1 = q + 1 from rfl, f_m_putWord_2, if_neg]
    unfold xsl
    rw [b_xw (by omega), b_xw (by omega)]
    omega
  | succ r ih =>
    intro i q M n hi h hn
    have x1 : xix (i : Int) = i := by rw [b_ix (by omega)]; omega
    obtain ⟨M1, a1, a2⟩ := m_put_sp (xsc w i) h (by omega)
    obtain ⟨M2, b1, b2⟩ := ih (i + 1) q M1 (n + 1) (by omega) a2.1 (by omega)
    refine ⟨M2, ?_, ?_⟩
    · rw [show q + (r + 1) + 1 = (q + r + 1) + 1 from rfl, f_m_putWord_2, if_pos (show xw (i : Int) < xw (xsl w) by unfold xsl; rw [b_xw (by omega), b_xw (by omega)]; omega), if_pos (b_ib (by omega)), x1, a1, b_bs]
      exact b1
    · have := a2.trans b2
      rw [show 1 + r = r + 1 by omega] at this
      obtain ⟨c1, c2, c3⟩ := this
      refine ⟨c1, fun j hj => ?_, c3⟩
      rw [c2 j hj]
      dsimp only
      by_cases c : j < 1
      · rw [if_pos c, show i + j = i by omega]
      · rw [if_neg c, show i + 1 + (j - 1) = i + j by omega]
theorem m_putWord_sp (w : Nat) {M : xM} {n : Nat} (h : M 0 11 = n) (hn : n + (xSby.getD w []).length ≤ 60) : ∃ M' : xM, f_m_putWord w M = some M' ∧ bAp M M' n (xSby.getD w []).length (fun j => xsc w j) := by
  obtain ⟨M', a1, a2⟩ := m_word_sp w (xSby.getD w []).length 0 (4999 - (xSby.getD w []).length) M n (by omega) h hn
  refine ⟨M', ?_, ?_⟩
  · unfold f_m_putWord
    have e : fu = 4999 - (xSby.getD w []).length + (xSby.getD w []).length + 1 := by unfold fu; omega
    rw [e]
    exact a1
  · obtain ⟨c1, c2, c3⟩ := a2
    exact ⟨c1, fun j hj => by rw [c2 j hj]; dsimp only; rw [Nat.zero_add], c3⟩
theorem b_idiv (a b : Nat) (ha : a < 2147483648) (hb : 0 < b) (hb2 : b < 2147483648) : xidiv (a : Int) (b : Int) = ((a / b : Nat) : Int) := by
  unfold xidiv
  rw [b_of, b_of, pk_div ha hb hb2, nI_toInt (Nat.lt_of_le_of_lt (Nat.div_le_self _ _) ha)]
theorem p10 {j : Nat} (h : j ≤ 9) : 10 ^ j ≤ 1000000000 := Nat.pow_le_pow_right (n := 10) (by decide) h
/-- the digits, from the highest on -/
theorem m_digits_sp (z : Int) (N : Nat) (hz : z = N) (hN : N ≤ 1000000000) : ∀ (j q : Nat) (M : xM) (n : Nat), j ≤ 9 → M 0 11 = n → n + (j + 1) ≤ 60 → ∃ M' : xM, f_m_putNumber_18 z (q + j + 2) ((10 ^ j : Nat) : Int) M = some M' ∧ bAp M M' n (j + 1) (fun i => dgt N (j - i)) := by
  intro j
  induction j with
  | zero =>
    intro q M n hj h hn
    obtain ⟨M1, a1, a2⟩ := m_put_sp (dgt N 0) h (by omega)
    refine ⟨M1, ?_, ?_⟩
    · have e1 : 48 + xirem (xidiv z ((10 ^ 0 : Nat) : Int)) 10 = dgt N 0 := by
        rw [hz, b_idiv N (10 ^ 0) (by omega) (by decide) (by decide), show (10 : Int) = ((10 : Nat) : Int) from rfl, b_irem _ 10 (Nat.lt_of_le_of_lt (Nat.div_le_self _ _) (by omega)) (by decide) (by decide)]
        unfold dgt
        omega
      rw [show q + 0 + 2 = (q + 1) + 1 from rfl, f_m_putNumber_18, if_pos (by decide), if_neg (by decide), if_neg (by decide), e1, a1, b_bs, if_neg (by decide), show xidiv ((10 ^ 0 : Nat) : Int) 10 = 0 by decide, f_m_putNumber_18, if_neg (by decide)]
    · refine ⟨a2.1, fun i hi => ?_, a2.2.2⟩
      rw [a2.2.1 i hi]
      show dgt N 0 = dgt N (0 - i)
      rw [show 0 - i = 0 by omega]
  | succ j ih =>
    intro q M n hj h hn
    have hp := p10 hj
    have h0 : 0 < 10 ^ (j + 1) := Nat.pow_pos (by decide)
    obtain ⟨M1, a1, a2⟩ := m_put_sp (dgt N (j + 1)) h (by omega)
    obtain ⟨M2, b1, b2⟩ := ih q M1 (n + 1) (by omega) a2.1 (by omega)
    have w1 : xw ((10 ^ (j + 1) : Nat) : Int) = ((10 ^ (j + 1) : Nat) : Int) := b_xw (by omega)
    refine ⟨M2, ?_, ?_⟩
    · have e1 : 48 + xirem (xidiv z ((10 ^ (j + 1) : Nat) : Int)) 10 = dgt N (j + 1) := by
        rw [hz, b_idiv N (10 ^ (j + 1)) (by omega) h0 (by omega), show (10 : Int) = ((10 : Nat) : Int) from rfl, b_irem _ 10 (Nat.lt_of_le_of_lt (Nat.div_le_self _ _) (by omega)) (by decide) (by decide)]
        unfold dgt
        omega
      have e2 : xidiv ((10 ^ (j + 1) : Nat) : Int) 10 = ((10 ^ j : Nat) : Int) := by
        rw [show (10 : Int) = ((10 : Nat) : Int) from rfl, b_idiv _ 10 (by omega) (by decide) (by decide), Nat.pow_succ, Nat.mul_div_cancel _ (by decide)]
      rw [show q + (j + 1) + 2 = (q + j + 2) + 1 from rfl, f_m_putNumber_18, if_pos (by rw [w1]; omega), if_neg (by rw [w1]; omega), if_neg (by decide), e1, a1, b_bs, if_neg (by decide), e2]
      exact b1
    · have := a2.trans b2
      rw [show 1 + (j + 1) = j + 1 + 1 by omega] at this
      obtain ⟨c1, c2, c3⟩ := this
      refine ⟨c1, fun i hi => ?_, c3⟩
      rw [c2 i hi]
      dsimp only
      by_cases c : i < 1
      · rw [if_pos c, show j + 1 - i = j + 1 by omega]
      · rw [if_neg c, show j - (i - 1) = j + 1 - i by omega]
theorem m_pow_sp (z : Int) (N c : Nat) (hz : z = N) (hN : N ≤ 1000000000) (hc : isL N c) : ∀ (r j q : Nat) (M : xM), j + r = c - 1 → f_m_putNumber_2 z (q + r + 1) ((10 ^ j : Nat) : Int) M = f_m_putNumber_18 z fu ((10 ^ (c - 1) : Nat) : Int) M := by
  obtain ⟨c1, c2, c3, c4⟩ := hc
  intro r
  induction r with
  | zero =>
    intro j q M hj
    have hp := p10 (j := j) (by omega)
    have h0 : 0 < 10 ^ j := Nat.pow_pos (by decide)
    have e : N / 10 ^ j ≤ 9 := by
      have h1 : 10 ^ c = 10 ^ j * 10 := by rw [show c = j + 1 by omega, Nat.pow_succ]
      have h2 : N / 10 ^ j < 10 := (Nat.div_lt_iff_lt_mul h0).mpr (by rw [Nat.mul_comm]; rw [← h1]; exact c1)
      omega
    have hd : N / 10 ^ j ≤ N := Nat.div_le_self _ _
    obtain ⟨g, hg⟩ : ∃ g, N / 10 ^ j = g := ⟨_, rfl⟩
    rw [hg] at e hd
    rw [show q + 0 + 1 = q + 1 from rfl, f_m_putNumber_2, if_neg (by rw [b_xw (by omega)]; omega), hz, b_idiv N (10 ^ j) (by omega) h0 (by omega), hg, if_neg (by rw [b_xw (by omega), b_xw (by omega)]; omega), show c - 1 = j by omega]
  | succ r ih =>
    intro j q M hj
    have hp := p10 (j := j + 1) (by omega)
    have h0 : 0 < 10 ^ j := Nat.pow_pos (by decide)
    have hs : 10 ^ (j + 1) = 10 ^ j * 10 := Nat.pow_succ ..
    have hge : 10 ^ (j + 1) ≤ N := by
      rcases c3 with g | g
      · omega
      · exact Nat.le_trans (Nat.pow_le_pow_right (by decide) (by omega)) g
    have e : 10 ≤ N / 10 ^ j := (Nat.le_div_iff_mul_le h0).mpr (by rw [Nat.mul_comm, ← hs]; exact hge)
    have hd : N / 10 ^ j ≤ N := Nat.div_le_self _ _
    rw [show q + (r + 1) + 1 = (q + r + 1) + 1 from rfl, f_m_putNumber_2, if_neg (by rw [b_xw (by omega)]; omega), if_pos (by rw [hz, b_idiv N (10 ^ j) (by omega) h0 (by omega), b_xw (by omega), b_xw (by omega)]; omega), show ((10 ^ j : Nat) : Int) * 10 = ((10 ^ (j + 1) : Nat) : Int) by omega]
    exact ih (j + 1) q M (by omega)
theorem m_putNumber_sp {z : Int} {N c : Nat} (hz : z = N) (hN : N ≤ 1000000000) (hc : isL N c) {M : xM} {n : Nat} (h : M 0 11 = n) (hn : n + c ≤ 60) : ∃ M' : xM, f_m_putNumber z M = some M' ∧ bAp M M' n c (fun i => dgt N (c - 1 - i)) := by
  have c2 := hc.2.1
  have c4 := hc.2.2.2
  obtain ⟨M', a1, a2⟩ := m_digits_sp z N hz hN (c - 1) (4998 - (c - 1)) M n (by omega) h (by omega)
  rw [show c - 1 + 1 = c by omega] at a2
  refine ⟨M', ?_, a2⟩
  have e := m_pow_sp z N c hz hN hc (c - 1) 0 (4999 - (c - 1)) M (by omega)
  rw [show 4999 - (c - 1) + (c - 1) + 1 = fu by unfold fu; omega] at e
  unfold f_m_putNumber
  rw [show (1 : Int) = ((10 ^ 0 : Nat) : Int) from rfl, e]
  rw [show 4998 - (c - 1) + (c - 1) + 2 = fu by unfold fu; omega] at a1
  exact a1

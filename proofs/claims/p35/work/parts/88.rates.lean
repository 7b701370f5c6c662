/-! ===== a pair of a rate, by both ===== -/
def bRt (p : Nat) (m M : xM) : Prop := ∀ i, i < p → M 2 (35 + i) = m 4 i ∧ M 2 (40 + i) = m 5 i ∧ (4 ≤ m 4 i ∧ m 4 i ≤ 80) ∧ 1 ≤ m 5 i ∧ m 5 i ≤ 9
def bPv (p : Nat) (g : Nat → Int) : Int := if p = 0 then 0 else g (p - 1)
theorem m_rate_31 (p : Nat) (hp : p ≤ 5) (t W : Int) (M M1 : xM) (h : f_m_readGreater 4 80 t M = some (W, M1)) : f_m_readRate_31 (p : Int) t 80 4 M = f_m_readRate_58 (p : Int) W (bPv p (fun i => M1 2 (40 + i))) 9 1 M1 := by
  unfold f_m_readRate_31 bPv
  rw [h, Option.bind_some]
  dsimp only
  by_cases h0 : p = 0
  · rw [if_pos (show xw (p : Int) = 0 by rw [h0]; decide), if_pos h0]
  · have e1 : (40 : Int) + (p : Int) - 1 = ((40 + (p - 1) : Nat) : Int) := by omega
    have hx : xix ((40 + (p - 1) : Nat) : Int) = 40 + (p - 1) := by rw [b_ix (by omega)]; exact Int.toNat_natCast _
    rw [if_neg (show ¬ xw (p : Int) = 0 by rw [b_xw (by omega)]; omega), e1, if_pos (b_ib (by omega)), hx, if_neg h0]
theorem m_rate_0 (p : Nat) (hp : p ≤ 5) (M : xM) (h : M 2 11 = p) : f_m_readRate M = f_m_readRate_31 (p : Int) (bPv p (fun i => M 2 (35 + i))) 80 4 M := by
  unfold f_m_readRate bPv
  rw [if_pos (b_ib (by omega)), h]
  by_cases h0 : p = 0
  · rw [if_pos (show xw (p : Int) = 0 by rw [h0]; decide), if_pos h0]
  · have e1 : (35 : Int) + (p : Int) - 1 = ((35 + (p - 1) : Nat) : Int) := by omega
    have hx : xix ((35 + (p - 1) : Nat) : Int) = 35 + (p - 1) := by rw [b_ix (by omega)]; exact Int.toNat_natCast _
    rw [if_neg (show ¬ xw (p : Int) = 0 by rw [b_xw (by omega)]; omega), e1, if_pos (b_ib (by omega)), hx, if_neg h0]
theorem no_rate_58 {B : Nat → Int} {L : Nat} {c x W t : Int} {q : Nat} {M : xM} (h : bNoM B L c q M) : f_m_readRate_58 x W t 9 1 M = some M := by
  unfold f_m_readRate_58
  obtain ⟨V, v1, _⟩ := h.greater (a := 1) (b := 9) (t := t)
  rw [v1, Option.bind_some]
  dsimp only
  rw [if_neg h.ne]
/-- in a flaw, a pair is read for nothing -/
theorem no_rate {B : Nat → Int} {L : Nat} {c : Int} {q : Nat} {M : xM} (h : bNoM B L c q M) (p : Nat) (hp : p ≤ 5) (h11 : M 2 11 = p) : f_m_readRate M = some M := by
  rw [m_rate_0 p hp M h11]
  obtain ⟨V, v1, _⟩ := h.greater (a := 4) (b := 80) (t := bPv p (fun i => M 2 (35 + i)))
  rw [m_rate_31 p hp _ V M M v1, no_rate_58 h]
theorem R_rate_sp {B : Nat → Int} {L f0 : Nat} {m M : xM} (p : Nat) (hp : p < 5) (h11 : M 2 11 = p) (hr : bRt p m M) (h : bSs B L f0 (m 1) (m 2) M) : ∃ (x : Int) (m' M' : xM), f_R_rate (p : Int) m = some (x, m') ∧ f_m_readRate M = some M' ∧ (∀ k, k ≠ 1 → k ≠ 4 → k ≠ 5 → m' k = m k) ∧ (m' 1 0 = m 1 0 ∧ m' 1 1 = m 1 1) ∧ bF2 M M' ∧ (∀ i, i ≠ 11 → (i < 35 ∨ 45 ≤ i) → M' 2 i = M 2 i) ∧ ((x = 1 ∧ (∃ s' e', f0 < s' ∧ bGo B L s' e' (m' 1) (m' 2) M') ∧ M' 2 11 = ((p + 1 : Nat) : Int) ∧ bRt (p + 1) m' M') ∨ (x = 0 ∧ bEr B L (m' 1) M' ∧ M' 2 11 = p)) := by
  have et1 : bPv p (fun i => M 2 (35 + i)) = bPv p (m 4) := by
    unfold bPv
    by_cases h0 : p = 0
    · rw [if_pos h0, if_pos h0]
    · rw [if_neg h0, if_neg h0]; exact (hr (p - 1) (by omega)).1
  unfold f_R_rate
  rw [m_rate_0 p (by omega) M h11, et1]
  obtain ⟨x, q1, M1, W, a1, a2, a3, a4, a5, a6, a7⟩ := R_greater_sp (m := xvw [0, 1, 2, 4] m) (f0 := f0) (M := M) (B := B) (L := L) p hp 4 80 (bPv p (m 4)) (by omega) (by
    unfold bPv
    by_cases h0 : p = 0
    · exact Or.inl ⟨h0, if_pos h0⟩
    · rw [if_neg h0]
      have := (hr (p - 1) (by omega)).2.2.1
      exact Or.inr ⟨by omega, rfl, by omega, by omega⟩) h
  obtain ⟨n1, w1, w2, w3, w4, w5⟩ := G_mg m q1 4 (Or.inl rfl) (a3 0 (by omega) (by omega)) (a3 2 (by omega) (by omega))
  rw [a1, Option.bind_some, m_rate_31 p (by omega) _ W M M1 a2]
  dsimp only
  rw [w1]
  have s0 : n1 1 0 = m 1 0 := by rw [w2]; exact a4.1
  have s1 : n1 1 1 = m 1 1 := by rw [w2]; exact a4.2
  rcases a7 with ⟨x1, b1, b2, b3, b4, s', e', b5, b6⟩ | ⟨x0, c, r, u1, u2⟩
  · rw [if_neg (show ¬ xw x = 0 by rw [x1]; decide)]
    have et2 : bPv p (fun i => M1 2 (40 + i)) = bPv p (n1 5) := by
      unfold bPv
      by_cases h0 : p = 0
      · rw [if_pos h0, if_pos h0]
      · rw [if_neg h0, if_neg h0, w5 5 (by omega) (by omega), ← (hr (p - 1) (by omega)).2.1, a5.1 2 (by omega)]
    rw [et2]
    obtain ⟨y, q2, M2, W2, c1, c2, c3, c4, c5, c6, c7⟩ := R_greater_sp (m := xvw [0, 1, 2, 5] n1) (f0 := f0) (M := M1) (B := B) (L := L) p hp 1 9 (bPv p (n1 5)) (by omega) (by
      unfold bPv
      by_cases h0 : p = 0
      · exact Or.inl ⟨h0, if_pos h0⟩
      · rw [if_neg h0]
        have := (hr (p - 1) (by omega)).2.2.2
        rw [w5 5 (by omega) (by omega)]
        exact Or.inr ⟨by omega, by rw [show xvw [0, 1, 2, 5] n1 3 = n1 5 from rfl, w5 5 (by omega) (by omega)], by omega, by omega⟩) (Or.inl ⟨s', e', by omega, by rw [show xvw [0, 1, 2, 5] n1 1 = n1 1 from rfl, show xvw [0, 1, 2, 5] n1 2 = n1 2 from rfl, w2, w3]; exact b6⟩)
    obtain ⟨n2, z1, z2, z3, z4, z5⟩ := G_mg n1 q2 5 (Or.inr rfl) (c3 0 (by omega) (by omega)) (c3 2 (by omega) (by omega))
    unfold f_m_readRate_58
    rw [c1, c2, Option.bind_some, Option.bind_some]
    dsimp only
    rw [z1]
    have t0 : n2 1 0 = m 1 0 := by rw [z2, ← s0]; exact c4.1
    have t1 : n2 1 1 = m 1 1 := by rw [z2, ← s1]; exact c4.2
    have fk : ∀ k, k ≠ 1 → k ≠ 4 → k ≠ 5 → n2 k = m k := fun k k1 k4 k5 => by rw [z5 k k1 k5, w5 k k1 k4]
    have M2e : M2 2 = M 2 := by rw [c5.1 2 (by omega), a5.1 2 (by omega)]
    rcases c7 with ⟨y1, d1, d2, d3, d4, s2, e2, d5, d6⟩ | ⟨y0, d1⟩
    · rw [if_neg (show ¬ xw y = 0 by rw [y1]; decide), if_pos (show xw (M2 0 18) = 0 by rw [d6.err]; decide)]
      have e35 : (35 : Int) + (p : Int) = ((35 + p : Nat) : Int) := by omega
      have e40 : (40 : Int) + (p : Int) = ((40 + p : Nat) : Int) := by omega
      have x35 : xix ((35 + p : Nat) : Int) = 35 + p := by rw [b_ix (by omega)]; exact Int.toNat_natCast _
      have x40 : xix ((40 + p : Nat) : Int) = 40 + p := by rw [b_ix (by omega)]; exact Int.toNat_natCast _
      rw [e35, e40, x35, x40, if_pos (b_ib (by omega)), if_pos (b_ib (by omega)), if_pos (b_ib (by omega)), if_pos (b_ib (by omega))]
      have e11 : (xu (xu M2 2 (35 + p) W) 2 (40 + p) W2) 2 11 = (p : Int) := by rw [xu_d (by omega), xu_d (by omega), M2e, h11]
      rw [e11]
      obtain ⟨Z, hZ⟩ : ∃ Z, Z = xu (xu (xu M2 2 (35 + p) W) 2 (40 + p) W2) 2 11 ((p : Int) + 1) := ⟨_, rfl⟩
      rw [← hZ]
      have Zi : ∀ i, i ≠ 11 → i ≠ 35 + p → i ≠ 40 + p → Z 2 i = M 2 i := fun i h1 h2 h3 => by rw [hZ, xu_d h1, xu_d h3, xu_d h2, M2e]
      refine ⟨1, n2, Z, rfl, rfl, fk, ⟨t0, t1⟩, ?_, fun i h1 h2 => Zi i h1 (by omega) (by omega), Or.inl ⟨rfl, ⟨s2, e2, d5, ?_⟩, by rw [hZ, xu_s rfl]; omega, fun i hi => ?_⟩⟩
      · rw [hZ]
        have h1 : 35 + p = 2 ∨ (11 ≤ 35 + p ∧ 35 + p < 20) ∨ (21 ≤ 35 + p ∧ 35 + p < 45) := by omega
        have h2 : 40 + p = 2 ∨ (11 ≤ 40 + p ∧ 40 + p < 20) ∨ (21 ≤ 40 + p ∧ 40 + p < 45) := by omega
        exact ((((a5.to.trans c5.to).trans (bF2.put h1)).trans (bF2.put h2)).trans (bF2.put (by decide)))
      · rw [z2, z3]
        exact d6.cgM (by rw [hZ, xu_K (by omega), xu_K (by omega), xu_K (by omega)]) (by rw [hZ, xu_K (by omega), xu_K (by omega), xu_K (by omega)])
      · have n24 : n2 4 = q1 3 := by rw [z5 4 (by omega) (by omega), w4]
        by_cases hi2 : i = p
        · rw [hi2, n24, z4, b1, d1, hZ, xu_d (by omega), xu_d (by omega), xu_s rfl, xu_d (by omega), xu_s rfl]
          exact ⟨rfl, rfl, ⟨b2, b3⟩, d2, d3⟩
        · have hri := hr i (by omega)
          have q13 : q1 3 i = m 4 i := a6 i hi2
          have q23 : q2 3 i = m 5 i := by rw [c6 i hi2]; show n1 5 i = m 5 i; rw [w5 5 (by omega) (by omega)]
          rw [n24, z4, q13, q23, Zi _ (by omega) (by omega) (by omega), Zi _ (by omega) (by omega) (by omega)]
          exact hri
    · rw [if_pos (show xw y = 0 by rw [y0]; decide), if_neg d1.ne]
      exact ⟨0, n2, M2, rfl, rfl, fk, ⟨t0, t1⟩, a5.to.trans c5.to, fun i _ _ => by rw [M2e], Or.inr ⟨rfl, by rw [z2]; exact d1, by rw [M2e, h11]⟩⟩
  · rw [if_pos (show xw x = 0 by rw [x0]; decide), no_rate_58 u2]
    exact ⟨0, n1, M1, rfl, rfl, fun k k1 k4 _ => w5 k k1 k4, ⟨s0, s1⟩, a5.to, fun i _ _ => by rw [a5.1 2 (by omega)], Or.inr ⟨rfl, ⟨c, r, by rw [w2]; exact u1, u2⟩, by rw [a5.1 2 (by omega), h11]⟩⟩

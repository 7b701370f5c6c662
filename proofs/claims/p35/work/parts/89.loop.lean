/-! ===== all rates ===== -/
theorem no_32 {B : Nat → Int} {L : Nat} {c : Int} {q : Nat} {M : xM} (h : bNoM B L c q M) (n : Nat) : f_m_readAll_32 (n + 1) M = f_m_readAll_86 fu M := by
  rw [f_m_readAll_32, if_neg h.ne]
  unfold f_m_readAll_80
  rw [h.expect, Option.bind_some]
theorem R_rates_sp {B : Nat → Int} {L f0 : Nat} (n n' : Nat) : ∀ (k p : Nat) (m M : xM), p + k + 1 = 5 → M 2 11 = p → bRt p m M → bSs B L f0 (m 1) (m 2) M → ∃ (x : Int) (m' M' : xM), f_R_rates_2 (n + k + 2) (p : Int) m = some (x, m') ∧ (Option.bind (f_m_readRate M) fun q => f_m_readAll_32 (n' + k + 2) q) = f_m_readAll_86 fu M' ∧ (∀ k, k ≠ 1 → k ≠ 3 → k ≠ 4 → k ≠ 5 → m' k = m k) ∧ (∀ i, i ≠ 4 → m' 3 i = m 3 i) ∧ (m' 1 0 = m 1 0 ∧ m' 1 1 = m 1 1) ∧ bF2 M M' ∧ (∀ i, i ≠ 11 → (i < 35 ∨ 45 ≤ i) → M' 2 i = M 2 i) ∧ ((x = 1 ∧ (∃ s' e', f0 < s' ∧ bGo B L s' e' (m' 1) (m' 2) M') ∧ ∃ C : Nat, 1 ≤ C ∧ C ≤ 5 ∧ M' 2 11 = C ∧ m' 3 4 = C ∧ bRt C m' M') ∨ (x = 0 ∧ bEr B L (m' 1) M')) := by
  intro k
  induction k with
  | zero =>
    intro p m M hp h11 hr h
    obtain ⟨x, m1, M1, a1, a2, a3, a4, a5, a6, a7⟩ := R_rate_sp p (by omega) h11 hr h
    rw [show n + 0 + 2 = (n + 1) + 1 from rfl, show n' + 0 + 2 = (n' + 1) + 1 from rfl, f_R_rates_2, if_pos (show xw (p : Int) < xw 5 by rw [b_xw (by omega), b_xw (by omega)]; omega), a1, a2, Option.bind_some, Option.bind_some]
    dsimp only
    rcases a7 with ⟨x1, ⟨s, e, b1, b2⟩, b3, b4⟩ | ⟨x0, ⟨c, r, u1, u2⟩, b3⟩
    · rw [if_neg (show ¬ xw x = 0 by rw [x1]; decide), show (p : Int) + 1 = ((p + 1 : Nat) : Int) by omega]
      obtain ⟨m2, hm2⟩ : ∃ Z, Z = xu m1 3 4 ((p + 1 : Nat) : Int) := ⟨_, rfl⟩
      rw [← hm2]
      have g2 : bGo B L s e ((xvw [1, 2] m2) 0) ((xvw [1, 2] m2) 1) M1 := by
        rw [show xvw [1, 2] m2 = xvw [1, 2] m1 by rw [hm2, xvw12]]
        exact b2
      have mk : ∀ k, k ≠ 1 → k ≠ 3 → k ≠ 4 → k ≠ 5 → m2 k = m k := fun k k1 k3 k4 k5 => by rw [hm2, xu_K k3, a3 k k1 k4 k5]
      have m3 : ∀ i, i ≠ 4 → m2 3 i = m 3 i := fun i hi => by rw [hm2, xu_d hi, a3 3 (by omega) (by omega) (by omega)]
      have ms : m2 1 0 = m 1 0 ∧ m2 1 1 = m 1 1 := by rw [hm2, xu_k (by omega), xu_k (by omega)]; exact a4
      obtain ⟨y, hy, c1, c2⟩ := g2.sign 44 (by omega)
      rw [f_m_readAll_32, if_pos (show xw (M1 0 18) = 0 by rw [b2.err]; decide), c1, c2, Option.bind_some, Option.bind_some]
      rcases hy with hy | hy
      · rw [hy, if_pos (show xw 0 = 0 by decide), if_pos (show xw 0 = 0 by decide)]
        obtain ⟨m', M', q, z, d1, d2, d3, d4, d5, d6, d7⟩ := R_sign (m := m2) (M := M1) (f := f0) (B := B) (L := L) 59 (by omega) (Or.inl ⟨s, e, by omega, g2⟩)
        unfold f_R_rates_37 f_m_readAll_80
        rw [d1, d3, Option.bind_some, Option.bind_some]
        dsimp only
        rw [d2, if_pos (show xbz z by rcases d7 with ⟨g, _⟩ | ⟨g, _⟩ <;> rw [g] <;> decide)]
        refine ⟨z, m', M', rfl, rfl, fun k k1 k3 k4 k5 => by rw [d5 k k1, mk k k1 k3 k4 k5], fun i hi => by rw [d5 3 (by omega), m3 i hi], ⟨by rw [d4.1, ms.1], by rw [d4.2, ms.2]⟩, a5.trans d6.to, fun i h1 h2 => by rw [d6.1 2 (by omega), a6 i h1 h2], ?_⟩
        rcases d7 with ⟨g, s', e', k1, k2⟩ | ⟨g, k2⟩
        · exact Or.inl ⟨g, ⟨s', e', k1, k2⟩, p + 1, by omega, by omega, by rw [d6.1 2 (by omega), b3], by rw [d5 3 (by omega), hm2, xu_s rfl], fun i hi => by rw [d6.1 2 (by omega), d5 4 (by omega), d5 5 (by omega), hm2, xu_K (by omega), xu_K (by omega)]; exact b4 i hi⟩
        · exact Or.inr ⟨g, k2⟩
      · have hp4 : p = 4 := by omega
        obtain ⟨q, M', d1, d2, d3, d4, d5⟩ := g2.fail 3 0 (by omega) rfl
        obtain ⟨c, r, u1, u2⟩ := d3
        obtain ⟨n9, w1, w2, w3, w4, w5, w6⟩ := R_mg m2 q d4
        rw [hy, if_neg (show ¬ xw 1 = 0 by decide), if_neg (show ¬ xw 1 = 0 by decide), if_neg (show ¬ xw ((p + 1 : Nat) : Int) < xw 5 by rw [b_xw (by omega), b_xw (by omega)]; omega), if_pos (b_ib (by omega)), b3, if_neg (show ¬ xw ((p + 1 : Nat) : Int) < xw 5 by rw [b_xw (by omega), b_xw (by omega)]; omega)]
        unfold f_R_rates_61 f_m_readAll_65
        rw [show ((p : Nat) : Int) + 1 = ((p + 1 : Nat) : Int) by omega, f_R_rates_2, if_neg (show ¬ xw ((p + 1 : Nat) : Int) < xw 5 by rw [b_xw (by omega), b_xw (by omega)]; omega)]
        unfold f_R_rates_67
        rw [d1, d2, Option.bind_some, Option.bind_some, u2.advance, Option.bind_some, no_rate u2 (p + 1) (by omega) (by rw [d5.1 2 (by omega), b3]), Option.bind_some, no_32 u2]
        dsimp only
        rw [if_pos (show xbz 0 by decide), w1]
        exact ⟨0, n9, M', rfl, rfl, fun k k1 k3 k4 k5 => by rw [w4 k k1, mk k k1 k3 k4 k5], fun i hi => by rw [w4 3 (by omega), m3 i hi], ⟨by rw [w5, ms.1], by rw [w6, ms.2]⟩, a5.trans d5.to, fun i h1 h2 => by rw [d5.1 2 (by omega), a6 i h1 h2], Or.inr ⟨rfl, c, r, by rw [w2]; exact u1, u2⟩⟩
    · rw [if_pos (show xw x = 0 by rw [x0]; decide), no_32 u2]
      exact ⟨0, m1, M1, rfl, rfl, fun k k1 k3 k4 k5 => a3 k k1 k4 k5, fun i _ => by rw [a3 3 (by omega) (by omega) (by omega)], a4, a5, a6, Or.inr ⟨rfl, c, r, u1, u2⟩⟩
  | succ k ih =>
    intro p m M hp h11 hr h
    obtain ⟨x, m1, M1, a1, a2, a3, a4, a5, a6, a7⟩ := R_rate_sp p (by omega) h11 hr h
    rw [show n + (k + 1) + 2 = (n + k + 2) + 1 by omega, show n' + (k + 1) + 2 = (n' + k + 2) + 1 by omega, f_R_rates_2, if_pos (show xw (p : Int) < xw 5 by rw [b_xw (by omega), b_xw (by omega)]; omega), a1, a2, Option.bind_some, Option.bind_some]
    dsimp only
    rcases a7 with ⟨x1, ⟨s, e, b1, b2⟩, b3, b4⟩ | ⟨x0, ⟨c, r, u1, u2⟩, b3⟩
    · rw [if_neg (show ¬ xw x = 0 by rw [x1]; decide), show (p : Int) + 1 = ((p + 1 : Nat) : Int) by omega]
      obtain ⟨m2, hm2⟩ : ∃ Z, Z = xu m1 3 4 ((p + 1 : Nat) : Int) := ⟨_, rfl⟩
      rw [← hm2]
      have g2 : bGo B L s e ((xvw [1, 2] m2) 0) ((xvw [1, 2] m2) 1) M1 := by
        rw [show xvw [1, 2] m2 = xvw [1, 2] m1 by rw [hm2, xvw12]]
        exact b2
      have mk : ∀ k, k ≠ 1 → k ≠ 3 → k ≠ 4 → k ≠ 5 → m2 k = m k := fun k k1 k3 k4 k5 => by rw [hm2, xu_K k3, a3 k k1 k4 k5]
      have m3 : ∀ i, i ≠ 4 → m2 3 i = m 3 i := fun i hi => by rw [hm2, xu_d hi, a3 3 (by omega) (by omega) (by omega)]
      have ms : m2 1 0 = m 1 0 ∧ m2 1 1 = m 1 1 := by rw [hm2, xu_k (by omega), xu_k (by omega)]; exact a4
      obtain ⟨y, hy, c1, c2⟩ := g2.sign 44 (by omega)
      rw [f_m_readAll_32, if_pos (show xw (M1 0 18) = 0 by rw [b2.err]; decide), c1, c2, Option.bind_some, Option.bind_some]
      rcases hy with hy | hy
      · rw [hy, if_pos (show xw 0 = 0 by decide), if_pos (show xw 0 = 0 by decide)]
        obtain ⟨m', M', q, z, d1, d2, d3, d4, d5, d6, d7⟩ := R_sign (m := m2) (M := M1) (f := f0) (B := B) (L := L) 59 (by omega) (Or.inl ⟨s, e, by omega, g2⟩)
        unfold f_R_rates_37 f_m_readAll_80
        rw [d1, d3, Option.bind_some, Option.bind_some]
        dsimp only
        rw [d2, if_pos (show xbz z by rcases d7 with ⟨g, _⟩ | ⟨g, _⟩ <;> rw [g] <;> decide)]
        refine ⟨z, m', M', rfl, rfl, fun k k1 k3 k4 k5 => by rw [d5 k k1, mk k k1 k3 k4 k5], fun i hi => by rw [d5 3 (by omega), m3 i hi], ⟨by rw [d4.1, ms.1], by rw [d4.2, ms.2]⟩, a5.trans d6.to, fun i h1 h2 => by rw [d6.1 2 (by omega), a6 i h1 h2], ?_⟩
        rcases d7 with ⟨g, s', e', k1, k2⟩ | ⟨g, k2⟩
        · exact Or.inl ⟨g, ⟨s', e', k1, k2⟩, p + 1, by omega, by omega, by rw [d6.1 2 (by omega), b3], by rw [d5 3 (by omega), hm2, xu_s rfl], fun i hi => by rw [d6.1 2 (by omega), d5 4 (by omega), d5 5 (by omega), hm2, xu_K (by omega), xu_K (by omega)]; exact b4 i hi⟩
        · exact Or.inr ⟨g, k2⟩
      · rw [hy, if_neg (show ¬ xw 1 = 0 by decide), if_neg (show ¬ xw 1 = 0 by decide), if_pos (show xw ((p + 1 : Nat) : Int) < xw 5 by rw [b_xw (by omega), b_xw (by omega)]; omega), if_pos (b_ib (by omega)), b3, if_pos (show xw ((p + 1 : Nat) : Int) < xw 5 by rw [b_xw (by omega), b_xw (by omega)]; omega)]
        unfold f_R_rates_61 f_m_readAll_65
        obtain ⟨q, M2, s2, e2, d1, d2, d3, d4, d5, d6⟩ := g2.next
        obtain ⟨n9, w1, w2, w3, w4, w5, w6⟩ := R_mg m2 q d4
        have hse : s ≤ e := by obtain ⟨_, g, _⟩ := b2; exact g.2.1
        rw [d1, Option.bind_some, m_check_1, Option.bind_some, m_advance_0 b2.err, d2, Option.bind_some, w1, show ((p : Nat) : Int) + 1 = ((p + 1 : Nat) : Int) by omega]
        obtain ⟨z, m', M', k1, k2, k3, k4, k5, k6, k7, k8⟩ := ih (p + 1) n9 M2 (by omega) (by rw [d5.1 2 (by omega), b3]) (fun i hi => by rw [d5.1 2 (by omega), w4 4 (by omega), w4 5 (by omega), hm2, xu_K (by omega), xu_K (by omega)]; exact b4 i hi) (Or.inl ⟨s2, e2, by omega, by rw [w2, w3]; exact d3⟩)
        exact ⟨z, m', M', k1, k2, fun k k1' k3' k4' k5' => by rw [k3 k k1' k3' k4' k5', w4 k k1', mk k k1' k3' k4' k5'], fun i hi => by rw [k4 i hi, w4 3 (by omega), m3 i hi], ⟨by rw [k5.1, w5, ms.1], by rw [k5.2, w6, ms.2]⟩, (a5.trans d5.to).trans k6, fun i h1 h2 => by rw [k7 i h1 h2, d5.1 2 (by omega), a6 i h1 h2], k8⟩
    · rw [if_pos (show xw x = 0 by rw [x0]; decide), no_32 u2]
      exact ⟨0, m1, M1, rfl, rfl, fun k k1 k3 k4 k5 => a3 k k1 k4 k5, fun i _ => by rw [a3 3 (by omega) (by omega) (by omega)], a4, a5, a6, Or.inr ⟨rfl, c, r, u1, u2⟩⟩

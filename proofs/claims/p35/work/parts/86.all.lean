/-! ===== all clauses ===== -/
theorem R_text_83_no {c : Int} {q : Nat} {m : xM} (h : bNo c q (m 1)) : f_R_text_83 m = some m := by
  have hno : bNo c q ((xvw [1, 2] m) 0) := h
  unfold f_R_text_83
  rw [if_neg (show ¬ xw (m 1 2) = 0 by rw [h.1]; decide), hno.fail, Option.bind_some]
  dsimp only
  rw [xmg_self [1, 2] 2 (by omega) m]
theorem R_text_54_no {c : Int} {q : Nat} {m : xM} (h : bNo c q (m 1)) (n : Nat) (x : Int) : f_R_text_54 (n + 1) x m = some m := by
  rw [f_R_text_54, if_neg (show ¬ xw (m 1 2) = xw 1 by rw [h.1]; decide), R_text_83_no h]
  split <;> rfl
/-- no word stands: the clause fails at once -/
theorem R_clause_83 {B : Nat → Int} {L s e : Nat} {m M : xM} (h : bGo B L s e (m 1) (m 2) M) (h0 : bK B L s ≠ 0) (h1 : bK B L s ≠ 1) : f_R_clause m = f_R_text_83 m ∧ ∃ m', f_R_text_83 m = some m' ∧ m' 1 2 = 4 := by
  have hv : bGo B L s e ((xvw [1, 2] m) 0) ((xvw [1, 2] m) 1) M := h
  have kin := bK_in B L s
  have z : ∀ w, f_T_isWord w (xvw [1, 2] m) = some 0 := fun w => by
    unfold f_T_isWord
    rw [if_neg (show ¬ xw ((xvw [1, 2] m) 0 2) = xw 1 by rw [hv.isK.1, b_xw (by omega)]; exact h1)]
  have y0 : xw 0 = 0 := by decide
  obtain ⟨q, M', b1, b2, b3, b4, b5⟩ := hv.fail 1 0 (by omega) rfl
  obtain ⟨c, r, u1, u2⟩ := b3
  obtain ⟨n9, w1, w2, w3, w4, w5, w6⟩ := R_mg m q b4
  have e83 : f_R_text_83 m = some n9 := by
    unfold f_R_text_83
    rw [if_neg (show ¬ xw (m 1 2) = 0 by rw [h.isK.1, b_xw (by omega)]; exact h0), b1, Option.bind_some]
    dsimp only
    rw [w1]
  refine ⟨?_, n9, e83, by rw [w2]; exact u1.1⟩
  unfold f_R_clause f_R_number
  rw [z 12, Option.bind_some, if_pos y0, z 16, Option.bind_some, if_pos y0, z 19, Option.bind_some, if_pos y0, z 13, Option.bind_some, if_pos y0, z 14, Option.bind_some, if_pos y0, z 15, Option.bind_some, if_pos y0, z 17, Option.bind_some, if_pos y0, z 18, Option.bind_some, if_pos y0, b1, Option.bind_some, Option.bind_some, e83]
  dsimp only
  rw [w1]
theorem no_all {B : Nat → Int} {L : Nat} {c : Int} {q : Nat} {M : xM} (h : bNoM B L c q M) (n : Nat) : f_m_readAll_86 (n + 1) M = some M := by
  rw [f_m_readAll_86, if_neg h.ne]
theorem R_text_54_sp {B : Nat → Int} {L : Nat} (hL : L ≤ 600) (n n' : Nat) : ∀ (k x s e : Nat) (m M : xM), L ≤ s + k → x + 1 ≤ s → bGo B L s e (m 1) (m 2) M → bDr m M → ∃ m' M' : xM, f_R_text_54 (n + k + 2) (x : Int) m = some m' ∧ f_m_readAll_86 (n' + k + 2) M = some M' ∧ bFR m m' ∧ bF2 M M' ∧ ((∃ s' e', bGo B L s' e' (m' 1) (m' 2) M' ∧ bDr m' M') ∨ bEr B L (m' 1) M') := by
  have stop : ∀ (N N' x s e : Nat) (m M : xM), bGo B L s e (m 1) (m 2) M → bDr m M → bK B L s ≠ 1 → ∃ m' M' : xM, f_R_text_54 (N + 1) (x : Int) m = some m' ∧ f_m_readAll_86 (N' + 2) M = some M' ∧ bFR m m' ∧ bF2 M M' ∧ ((∃ s' e', bGo B L s' e' (m' 1) (m' 2) M' ∧ bDr m' M') ∨ bEr B L (m' 1) M') := fun N N' x s e m M h hd h1 => by
    have kin := bK_in B L s
    have wk : xw (bK B L s) = bK B L s := b_xw (by omega)
    have ec : f_R_text_54 (N + 1) (x : Int) m = f_R_text_83 m := by
      rw [f_R_text_54, if_neg (show ¬ xw (m 1 2) = xw 1 by rw [h.isK.1, b_xw (by omega)]; exact h1)]
      split <;> rfl
    have w0 : xw (M 0 18) = 0 := by rw [h.err]; decide
    rw [ec, f_m_readAll_86, if_pos w0]
    by_cases h0 : bK B L s = 0
    · unfold f_R_text_83
      rw [if_pos (show xw (m 1 2) = 0 by rw [h.isK.1, h0]; decide), if_pos (show xw (M 0 17) = 0 by rw [h.isK.2, h0]; decide)]
      exact ⟨m, M, rfl, rfl, bFR.rfl, bF2.rfl, Or.inl ⟨s, e, h, hd⟩⟩
    · obtain ⟨e1, m9, e2, e3⟩ := R_clause_83 h h0 h1
      obtain ⟨m', M', a1, a2, a3, a4, a5⟩ := R_clause_sp h hd
      rw [if_neg (show ¬ xw (M 0 17) = 0 by rw [h.isK.2, wk]; exact h0), a2, Option.bind_some, ← e1, a1]
      have hm : m9 = m' := by rw [e1, e2] at a1; exact Option.some.inj a1
      rcases a5 with ⟨s', e', b1, b2, b3⟩ | ⟨c, r, u1, u2⟩
      · have := bK_in B L s'
        have h4 := b2.isK.1
        rw [← hm, e3] at h4
        omega
      · rw [show N' + 1 = N' + 1 from rfl, no_all u2 N']
        exact ⟨m', M', rfl, rfl, a3, a4, Or.inr ⟨c, r, u1, u2⟩⟩
  intro k
  induction k with
  | zero =>
    intro x s e m M hk hx h hd
    exact stop (n + 1) n' x s e m M h hd (by rw [bK_0 B (by omega)]; omega)
  | succ k ih =>
    intro x s e m M hk hx h hd
    by_cases h1 : bK B L s = 1
    · have hs := bK_lt B (show bK B L s ≠ 0 by omega)
      have w0 : xw (M 0 18) = 0 := by rw [h.err]; decide
      obtain ⟨m', M', a1, a2, a3, a4, a5⟩ := R_clause_sp h hd
      rw [show n + (k + 1) + 2 = (n + k + 2) + 1 by omega, show n' + (k + 1) + 2 = (n' + k + 2) + 1 by omega, f_R_text_54, f_m_readAll_86, if_pos (show xw (x : Int) < xw 600 by rw [b_xw (by omega), b_xw (by omega)]; omega), if_pos (show xw (m 1 2) = xw 1 by rw [h.isK.1, h1]), if_pos w0, if_neg (show ¬ xw (M 0 17) = 0 by rw [h.isK.2, h1]; decide), a1, a2, Option.bind_some, Option.bind_some, show (x : Int) + 1 = ((x + 1 : Nat) : Int) by omega]
      rcases a5 with ⟨s', e', b1, b2, b3⟩ | ⟨c, r, u1, u2⟩
      · obtain ⟨m1, M1, c1, c2, c3, c4, c5⟩ := ih (x + 1) s' e' m' M' (by omega) (by omega) b2 b3
        exact ⟨m1, M1, c1, c2, a3.trans c3, a4.trans c4, c5⟩
      · rw [show n + k + 2 = (n + k + 1) + 1 from rfl, show n' + k + 2 = (n' + k + 1) + 1 from rfl, R_text_54_no u1, no_all u2]
        exact ⟨m', M', rfl, rfl, a3, a4, Or.inr ⟨c, r, u1, u2⟩⟩
    · exact stop (n + (k + 1) + 1) (n' + (k + 1)) x s e m M h hd h1

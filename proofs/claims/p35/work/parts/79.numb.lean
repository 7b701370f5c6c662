/-! ===== numbers within limits ===== -/
theorem st_number {B : Nat → Int} {L f : Nat} {m M : xM} (a b : Int) (hab : 0 ≤ a ∧ a ≤ b ∧ b ≤ 99999) (h : bSs B L f (m 0) (m 1) M) : ∃ (m' M' : xM) (x X : Int), f_T_takeNumber a b m = some (x, m') ∧ f_m_readNumber a b M = some (X, M') ∧ bFc m m' ∧ bFm M M' ∧ ((x = X ∧ a ≤ x ∧ x ≤ b ∧ ∃ s' e', f < s' ∧ bGo B L s' e' (m' 0) (m' 1) M') ∨ (x = -1 ∧ X = a ∧ bEr B L (m' 0) M')) := by
  rcases h with ⟨s, e, hf, h⟩ | ⟨c, q, h1, h2⟩
  · have wa : xw a = a := b_xw (by omega)
    have wb : xw b = b := b_xw (by omega)
    unfold f_T_takeNumber f_T_hasNumber f_m_readNumber
    rw [h.err, if_pos (show xw 0 = 0 by decide), h.isK.1, h.isK.2]
    have kin := bK_in B L s
    rw [b_xw (show -2147483648 ≤ bK B L s ∧ bK B L s < 2147483648 by omega)]
    by_cases hk : bK B L s = 2
    · rw [if_pos (show bK B L s = xw 2 from hk), if_pos (show bK B L s = xw 2 from hk)]
      obtain ⟨V, v1, v2, v3⟩ := go_value h hk
      have wv : xw (m 0 5) = m 0 5 := b_xw (by rw [v3]; split <;> omega)
      unfold f_m_readNumber_16 f_m_readNumber_21
      rw [m_check_1, Option.bind_some, v1, Option.bind_some, h.err, if_pos (show xw 0 = 0 by decide), m_inR V a b _ ⟨by omega, by omega⟩ ⟨by omega, by omega⟩ ⟨by omega, by omega⟩, Option.bind_some, wv, wa, wb]
      by_cases hr : a ≤ V ∧ V ≤ b
      · have v5 : m 0 5 = V := by rw [v3, if_neg (by omega)]
        rw [if_pos hr, if_neg (show ¬ xw 1 = 0 by decide), v5, if_neg (show ¬ V < a by omega), if_neg (show ¬ b < V by omega)]
        unfold f_T_hasNumber_38 f_m_readNumber_47 f_m_readNumber_52
        rw [Option.bind_some, if_neg (show ¬ xw 1 = 0 by decide), m_check_1, Option.bind_some, m_advance_0 h.err]
        obtain ⟨m', M', s', e', b1, b2, b3, b4, b5, b6⟩ := h.next
        have := h.lt (by omega)
        rw [b1, b2, Option.bind_some, Option.bind_some, b3.err, if_pos (show xw 0 = 0 by decide)]
        exact ⟨m', M', V, V, by show some (m 0 5, m') = _; rw [v5], rfl, b4, b5, Or.inl ⟨rfl, hr.1, hr.2, s', e', by omega, b3⟩⟩
      · rw [if_neg hr, if_pos (show xw 0 = 0 by decide)]
        obtain ⟨m', M', b1, b2, b3, b4, b5⟩ := h.fail 2 0 (by omega) rfl
        have e30 : (if m 0 5 < a then f_T_hasNumber_30 a b m else if b < m 0 5 then f_T_hasNumber_30 a b m else f_T_hasNumber_38 a b m) = some (0, m') := by
          have e31 : f_T_hasNumber_30 a b m = some (0, m') := by
            unfold f_T_hasNumber_30
            rw [b1, Option.bind_some, if_pos (show xw 0 = 0 by decide)]
          rw [e31]
          by_cases c1 : m 0 5 < a
          · rw [if_pos c1]
          · rw [if_neg c1, if_pos]
            rw [v3] at c1 ⊢
            split at c1 <;> split <;> omega
        rw [e30, Option.bind_some, if_pos (show xw 0 = 0 by decide)]
        unfold f_m_readNumber_52
        obtain ⟨c, q, c1, c2⟩ := b3
        rw [b2, Option.bind_some, c2.advance, Option.bind_some, if_neg c2.ne]
        exact ⟨m', M', -1, a, rfl, rfl, b4, b5, Or.inr ⟨rfl, rfl, c, q, c1, c2⟩⟩
    · rw [if_neg (show ¬ bK B L s = xw 2 from hk), if_neg (show ¬ bK B L s = xw 2 from hk)]
      obtain ⟨m', M', b1, b2, b3, b4, b5⟩ := h.fail 1 0 (by omega) rfl
      rw [b1, Option.bind_some, if_pos (show xbz 0 by decide), Option.bind_some, if_pos (show xw 0 = 0 by decide)]
      obtain ⟨c, q, c1, c2⟩ := b3
      obtain ⟨V, v1, v2⟩ := no_value c2
      unfold f_m_readNumber_21
      rw [b2, Option.bind_some, v1, Option.bind_some, if_neg c2.ne]
      unfold f_m_readNumber_47 f_m_readNumber_52
      rw [c2.check, Option.bind_some, c2.advance, Option.bind_some, if_neg c2.ne]
      exact ⟨m', M', -1, a, rfl, rfl, b4, b5, Or.inr ⟨rfl, rfl, c, q, c1, c2⟩⟩
  · exact ⟨m, M, -1, a, h1.takeNumber, h2.number, bFc.rfl, bFm.rfl, Or.inr ⟨rfl, rfl, c, q, h1, h2⟩⟩
/-- a number that must be greater than t -/
theorem st_greater {B : Nat → Int} {L f : Nat} {m M : xM} (a b : Int) (hab : 0 ≤ a ∧ a ≤ b ∧ b ≤ 99999) (h : bSs B L f (m 0) (m 1) M) : (f_T_hasNumber a b m = some (1, m) ∧ ∃ V : Int, m 0 5 = V ∧ a ≤ V ∧ V ≤ b ∧ ∀ t : Int, 0 ≤ t → t ≤ 99999 → (t < V → ∃ (m' M' : xM), f_T_next m = some m' ∧ f_m_readGreater a b t M = some (V, M') ∧ bFc m m' ∧ bFm M M' ∧ ∃ s' e', f < s' ∧ bGo B L s' e' (m' 0) (m' 1) M') ∧ (¬ t < V → ∃ (m' M' : xM) (W : Int), f_T_fail 4 m = some (0, m') ∧ f_m_readGreater a b t M = some (W, M') ∧ bFc m m' ∧ bFm M M' ∧ bEr B L (m' 0) M')) ∨ (∃ m' : xM, f_T_hasNumber a b m = some (0, m') ∧ bFc m m' ∧ ∀ t : Int, ∃ (M' : xM) (W : Int), f_m_readGreater a b t M = some (W, M') ∧ bFm M M' ∧ bEr B L (m' 0) M') := by
  rcases h with ⟨s, e, hf, h⟩ | ⟨c, q, h1, h2⟩
  · have wa : xw a = a := b_xw (by omega)
    have wb : xw b = b := b_xw (by omega)
    unfold f_T_hasNumber f_m_readGreater
    rw [h.err, h.isK.1, h.isK.2]
    have kin := bK_in B L s
    rw [b_xw (show -2147483648 ≤ bK B L s ∧ bK B L s < 2147483648 by omega)]
    by_cases hk : bK B L s = 2
    · rw [if_pos (show bK B L s = xw 2 from hk)]
      obtain ⟨V, v1, v2, v3⟩ := go_value h hk
      have wv : xw (m 0 5) = m 0 5 := b_xw (by rw [v3]; split <;> omega)
      have eg : ∀ t, (if xw 0 = 0 then (if bK B L s = xw 2 then f_m_readGreater_16 a b t M else f_m_readGreater_21 a b t 0 M) else f_m_readGreater_16 a b t M) = (if a ≤ V ∧ V ≤ b then f_m_readGreater_45 a b t M else f_m_readGreater_50 a b t 0 M) := fun t => by
        rw [if_pos (show xw 0 = 0 by decide), if_pos (show bK B L s = xw 2 from hk)]
        unfold f_m_readGreater_16 f_m_readGreater_21
        rw [m_check_1, Option.bind_some, h.err, if_pos (show xw 0 = 0 by decide), v1, Option.bind_some, m_inR V a b _ ⟨by omega, by omega⟩ ⟨by omega, by omega⟩ ⟨by omega, by omega⟩, Option.bind_some]
        by_cases hr : a ≤ V ∧ V ≤ b
        · rw [if_pos hr, if_neg (show ¬ xw 1 = 0 by decide), if_pos hr]
        · rw [if_neg hr, if_pos (show xw 0 = 0 by decide), if_neg hr]
      rw [wv, wa, wb]
      by_cases hr : a ≤ V ∧ V ≤ b
      · left
        have v5 : m 0 5 = V := by rw [v3, if_neg (by omega)]
        refine ⟨?_, V, v5, hr.1, hr.2, fun t t0 t1 => ⟨fun htV => ?_, fun htV => ?_⟩⟩
        · rw [v5, if_neg (show ¬ V < a by omega), if_neg (show ¬ b < V by omega)]
          rfl
        · rw [eg t, if_pos hr]
          unfold f_m_readGreater_45 f_m_readGreater_50
          rw [m_check_1, Option.bind_some, h.err, if_pos (show xw 0 = 0 by decide), v1, Option.bind_some, if_pos (show xw t < xw V by rw [b_xw (by omega), b_xw (by omega)]; exact htV)]
          unfold f_m_readGreater_70 f_m_readGreater_75
          obtain ⟨m', M', s', e', b1, b2, b3, b4, b5, b6⟩ := h.next
          have := h.lt (by omega)
          rw [m_check_1, Option.bind_some, v1, Option.bind_some, m_advance_0 h.err, b2, Option.bind_some]
          exact ⟨m', M', b1, rfl, b4, b5, s', e', by omega, b3⟩
        · rw [eg t, if_pos hr]
          unfold f_m_readGreater_45 f_m_readGreater_50
          rw [m_check_1, Option.bind_some, h.err, if_pos (show xw 0 = 0 by decide), v1, Option.bind_some, if_neg (show ¬ xw t < xw V by rw [b_xw (by omega), b_xw (by omega)]; exact htV)]
          unfold f_m_readGreater_75
          obtain ⟨m', M', b1, b2, b3, b4, b5⟩ := h.fail 4 0 (by omega) rfl
          obtain ⟨c, q, c1, c2⟩ := b3
          obtain ⟨W, w1, w2⟩ := no_value c2
          rw [b2, Option.bind_some, w1, Option.bind_some, c2.advance, Option.bind_some]
          exact ⟨m', M', W, b1, rfl, b4, b5, c, q, c1, c2⟩
      · right
        obtain ⟨m', M', b1, b2, b3, b4, b5⟩ := h.fail 2 0 (by omega) rfl
        obtain ⟨c, q, c1, c2⟩ := b3
        refine ⟨m', ?_, b4, fun t => ?_⟩
        · have e31 : f_T_hasNumber_30 a b m = some (0, m') := by
            unfold f_T_hasNumber_30
            rw [b1, Option.bind_some, if_pos (show xw 0 = 0 by decide)]
          rw [e31]
          by_cases c1 : m 0 5 < a
          · rw [if_pos c1]
          · rw [if_neg c1, if_pos]
            rw [v3] at c1 ⊢
            split at c1 <;> split <;> omega
        · rw [eg t, if_neg hr]
          unfold f_m_readGreater_50
          rw [b2, Option.bind_some, if_neg c2.ne]
          unfold f_m_readGreater_70 f_m_readGreater_75
          obtain ⟨W, w1, w2⟩ := no_value c2
          rw [c2.check, Option.bind_some, w1, Option.bind_some, c2.advance, Option.bind_some]
          exact ⟨M', W, rfl, b5, c, q, c1, c2⟩
    · right
      obtain ⟨m', M', b1, b2, b3, b4, b5⟩ := h.fail 1 0 (by omega) rfl
      obtain ⟨c, q, c1, c2⟩ := b3
      refine ⟨m', ?_, b4, fun t => ?_⟩
      · rw [if_neg (show ¬ bK B L s = xw 2 from hk), b1, Option.bind_some, if_pos (show xbz 0 by decide)]
      · rw [if_pos (show xw 0 = 0 by decide), if_neg (show ¬ bK B L s = xw 2 from hk)]
        unfold f_m_readGreater_21
        rw [b2, Option.bind_some, if_neg c2.ne]
        unfold f_m_readGreater_45 f_m_readGreater_50
        rw [c2.check, Option.bind_some, if_neg c2.ne]
        unfold f_m_readGreater_70 f_m_readGreater_75
        obtain ⟨W, w1, w2⟩ := no_value c2
        rw [c2.check, Option.bind_some, w1, Option.bind_some, c2.advance, Option.bind_some]
        exact ⟨M', W, rfl, b5, c, q, c1, c2⟩
  · right
    refine ⟨m, h1.has, bFc.rfl, fun t => ?_⟩
    obtain ⟨W, w1, w2⟩ := h2.greater (a := a) (b := b) (t := t)
    exact ⟨M, W, w1, bFm.rfl, c, q, h1, h2⟩

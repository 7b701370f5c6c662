/-! ===== reading signs, words and numbers ===== -/
/-- the reading goes on together, or both have the same flaw -/
def bSs (B : Nat → Int) (L f : Nat) (A Y : Nat → Int) (M : xM) : Prop := (∃ s e, f ≤ s ∧ bGo B L s e A Y M) ∨ bEr B L A M
theorem m_check_1 (z : Int) (M : xM) : f_m_check 1 z M = some M := by
  unfold f_m_check
  rw [if_neg (by decide)]
theorem m_advance_0 {M : xM} (h : M 0 18 = 0) : f_m_advance M = f_m_scan M := by
  unfold f_m_advance
  rw [h, if_pos (by decide)]
  cases f_m_scan M <;> rfl
theorem bGo.err {B : Nat → Int} {L s e : Nat} {A Y : Nat → Int} {M : xM} (h : bGo B L s e A Y M) : M 0 18 = 0 := by
  obtain ⟨_, g2, g3, g4, g5, g6, g7, g8, g9, g10, g11, g12⟩ := h
  exact g12
theorem bGo.lt {B : Nat → Int} {L s e : Nat} {A Y : Nat → Int} {M : xM} (h : bGo B L s e A Y M) (hk : bK B L s ≠ 0) : s < e := by
  obtain ⟨_, g2, g3, _⟩ := h
  rw [g3]
  exact (bE_in B (by omega)).2.2.1 hk
theorem bGo.isK {B : Nat → Int} {L s e : Nat} {A Y : Nat → Int} {M : xM} (h : bGo B L s e A Y M) : A 2 = bK B L s ∧ M 0 17 = bK B L s := by
  obtain ⟨_, g2, g3, g4, g5, g6, g7, g8, g9, g10, g11, g12⟩ := h
  exact ⟨g4, g11⟩
/-- a sign -/
theorem st_sign {B : Nat → Int} {L f : Nat} {m M : xM} (z : Int) (hz : 0 ≤ z ∧ z ≤ 255) (h : bSs B L f (m 0) (m 1) M) : ∃ (m' M' : xM) (x : Int), f_T_takeSign z m = some (x, m') ∧ f_m_expect z M = some M' ∧ bFc m m' ∧ bFm M M' ∧ ((x = 1 ∧ ∃ s' e', f < s' ∧ bGo B L s' e' (m' 0) (m' 1) M') ∨ (x = 0 ∧ bEr B L (m' 0) M')) := by
  rcases h with ⟨s, e, hf, h⟩ | ⟨c, q, h1, h2⟩
  · obtain ⟨x, hx, a1, a2⟩ := h.sign z hz
    unfold f_T_takeSign f_m_expect
    rw [a1, a2, Option.bind_some, Option.bind_some]
    rcases hx with hx | hx
    · rw [hx, if_pos (by decide)]
      obtain ⟨m', M', b1, b2, b3, b4, b5⟩ := h.fail 1 0 (by omega) rfl
      rw [b1, b2, Option.bind_some, Option.bind_some, if_pos (show xbz 0 by decide)]
      obtain ⟨c, q, c1, c2⟩ := b3
      rw [c2.advance, Option.bind_some]
      exact ⟨m', M', 0, rfl, rfl, b4, b5, Or.inr ⟨rfl, c, q, c1, c2⟩⟩
    · have hk : bK B L s ≠ 0 := fun h0 => by
        unfold f_T_isSign at a1
        rw [h.isK.1, h0, if_neg (by decide)] at a1
        have := Option.some.inj a1
        omega
      rw [hx, if_neg (by decide), m_check_1, Option.bind_some, m_advance_0 h.err]
      obtain ⟨m', M', s', e', b1, b2, b3, b4, b5, b6⟩ := h.next
      rw [b1, b2, Option.bind_some, Option.bind_some]
      have := h.lt hk
      exact ⟨m', M', 1, rfl, rfl, b4, b5, Or.inl ⟨rfl, s', e', by omega, b3⟩⟩
  · exact ⟨m, M, 0, h1.takeSign, h2.expect, bFc.rfl, bFm.rfl, Or.inr ⟨rfl, c, q, h1, h2⟩⟩
/-- a word that must stand -/
theorem st_word {B : Nat → Int} {L f : Nat} {m M : xM} (w : Nat) (h : bSs B L f (m 0) (m 1) M) : ∃ (m' M' : xM) (x : Int), f_T_takeWord w m = some (x, m') ∧ f_m_expectWord w M = some M' ∧ bFc m m' ∧ bFm M M' ∧ ((x = 1 ∧ ∃ s' e', f < s' ∧ bGo B L s' e' (m' 0) (m' 1) M') ∨ (x = 0 ∧ bEr B L (m' 0) M')) := by
  rcases h with ⟨s, e, hf, h⟩ | ⟨c, q, h1, h2⟩
  · obtain ⟨x, hx, a1, a2, a3⟩ := h.word w
    unfold f_T_takeWord f_m_expectWord
    rw [a1, a2, Option.bind_some, Option.bind_some]
    rcases hx with hx | hx
    · rw [hx, if_pos (by decide)]
      obtain ⟨m', M', b1, b2, b3, b4, b5⟩ := h.fail 1 0 (by omega) rfl
      rw [b1, b2, Option.bind_some, Option.bind_some, if_pos (show xbz 0 by decide)]
      obtain ⟨c, q, c1, c2⟩ := b3
      rw [c2.advance, Option.bind_some]
      exact ⟨m', M', 0, rfl, rfl, b4, b5, Or.inr ⟨rfl, c, q, c1, c2⟩⟩
    · have hk : bK B L s ≠ 0 := by
        rw [bK_eq B (a3 hx)]
        have := bKd_in (B s)
        omega
      rw [hx, if_neg (by decide), m_check_1, Option.bind_some, m_advance_0 h.err]
      obtain ⟨m', M', s', e', b1, b2, b3, b4, b5, b6⟩ := h.next
      rw [b1, b2, Option.bind_some, Option.bind_some]
      have := h.lt hk
      exact ⟨m', M', 1, rfl, rfl, b4, b5, Or.inl ⟨rfl, s', e', by omega, b3⟩⟩
  · exact ⟨m, M, 0, h1.takeWord, h2.expectWord, bFc.rfl, bFm.rfl, Or.inr ⟨rfl, c, q, h1, h2⟩⟩
/-- a word that may stand -/
theorem go_accept {B : Nat → Int} {L s e : Nat} {m M : xM} (w : Nat) (h : bGo B L s e (m 0) (m 1) M) : (f_T_isWord w m = some 0 ∧ f_m_accept w M = some (0, M)) ∨ (f_T_isWord w m = some 1 ∧ ∃ (m' M' : xM) (s' e' : Nat), f_T_next m = some m' ∧ f_m_accept w M = some (1, M') ∧ bFc m m' ∧ bFm M M' ∧ s < s' ∧ bGo B L s' e' (m' 0) (m' 1) M') := by
  obtain ⟨x, hx, a1, a2, a3⟩ := h.word w
  unfold f_m_accept
  rcases hx with hx | hx
  · left
    rw [a2, hx, Option.bind_some, if_pos (by decide), if_pos (by decide)]
    rw [hx] at a1
    exact ⟨a1, rfl⟩
  · right
    have hk : bK B L s ≠ 0 := by
      rw [bK_eq B (a3 hx)]
      have := bKd_in (B s)
      omega
    rw [a2, hx, Option.bind_some, if_neg (by decide)]
    rw [hx] at a1
    obtain ⟨m', M', s', e', b1, b2, b3, b4, b5, b6⟩ := h.next
    rw [b2, Option.bind_some, if_pos (by decide)]
    have := h.lt hk
    exact ⟨a1, m', M', s', e', b1, rfl, b4, b5, by omega, b3⟩
/-! numbers -/
theorem bVal_min (B : Nat → Int) : ∀ (n p : Nat) (v1 v2 : Int), (∀ i, p ≤ i → i < p + n → 48 ≤ B i ∧ B i ≤ 57) → 0 ≤ v2 → v2 ≤ 2000000000 → v1 = (if 1000000 < v2 then 1000000 else v2) → (0 ≤ bVal B 2000000000 n p v2 ∧ bVal B 2000000000 n p v2 ≤ 2000000000) ∧ bVal B 1000000 n p v1 = (if 1000000 < bVal B 2000000000 n p v2 then 1000000 else bVal B 2000000000 n p v2) := by
  intro n
  induction n with
  | zero => intro p v1 v2 _ h1 h2 h3; exact ⟨⟨h1, h2⟩, h3⟩
  | succ n ih =>
    intro p v1 v2 hB h1 h2 h3
    obtain ⟨b1, b2⟩ := hB p (by omega) (by omega)
    unfold bVal
    refine ih (p + 1) _ _ (fun i g1 g2 => hB i (by omega) (by omega)) ?_ ?_ ?_
    · split <;> omega
    · split <;> omega
    · rw [h3]
      repeat' split
      all_goals omega
theorem bKd_2 {b : Int} (h : bKd b = 2) : 48 ≤ b ∧ b ≤ 57 := by
  unfold bKd at h
  split at h
  · assumption
  · split at h <;> omega
theorem m_value_7 (B : Nat → Int) (M : xM) (e : Nat) (he : e ≤ 600) (h15 : M 0 15 = e) (h17 : M 0 17 = 2) (q : Nat) : ∀ (n p : Nat) (v : Int), p + n = e → (∀ i, p ≤ i → i < e → M 8 i = B i ∧ 48 ≤ B i ∧ B i ≤ 57) → 0 ≤ v → v ≤ 2000000000 → f_m_value_7 M (q + n + 1) v (p : Int) = some (bVal B 2000000000 n p v) := by
  intro n
  induction n with
  | zero =>
    intro p v hp hB h1 h2
    rw [f_m_value_7, h15, if_neg (by rw [b_xw (by omega), b_xw (by omega)]; omega)]
    rfl
  | succ n ih =>
    intro p v hp hB h1 h2
    obtain ⟨b1, b2, b3⟩ := hB p (by omega) (by omega)
    have hx : xix (p : Int) = p := by rw [b_ix (by omega)]; exact Int.toNat_natCast _
    unfold bVal
    rw [show q + (n + 1) + 1 = (q + n + 1) + 1 by omega, f_m_value_7, h15, if_pos (show xw (p : Int) < xw (e : Int) by rw [b_xw (by omega), b_xw (by omega)]; omega), h17, if_pos (show xw 2 = xw 2 from rfl), if_pos (b_ib (by omega)), hx, b1, b_xw (show -2147483648 ≤ v ∧ v < 2147483648 by omega), b_xw (show -2147483648 ≤ B p ∧ B p < 2147483648 by omega), xwl_id (show -9223372036854775808 ≤ 10 * v + B p - 48 by omega) (by omega), show xwl 2000000000 = 2000000000 from by decide, show (p : Int) + 1 = ((p + 1 : Nat) : Int) by omega]
    have e1 : (if 10 * v + B p - 48 < 2000000000 then 10 * v + B p - 48 else 2000000000) = (if 2000000000 < v * 10 + B p - 48 then 2000000000 else v * 10 + B p - 48) := by
      split <;> split <;> omega
    rw [e1]
    refine ih (p + 1) _ (by omega) (fun i g1 g2 => hB i (by omega) (by omega)) ?_ ?_
    · split <;> omega
    · split <;> omega
/-- the value of a number, on both sides -/
theorem go_value {B : Nat → Int} {L s e : Nat} {m M : xM} (h : bGo B L s e (m 0) (m 1) M) (hk : bK B L s = 2) : ∃ V : Int, f_m_value M = some V ∧ (0 ≤ V ∧ V ≤ 2000000000) ∧ m 0 5 = (if 1000000 < V then 1000000 else V) := by
  obtain ⟨⟨t1, t2, t3, t4⟩, g2, g3, g4, g5, g6, g7, g8, g9, g10, g11, g12⟩ := h
  have hd : ∀ i, s ≤ i → i < s + (e - s) → 48 ≤ B i ∧ B i ≤ 57 := fun i h1 h2 => bKd_2 ((bE_in B (L := L) (s := s) (by omega)).2.2.2 hk i h1 (by rw [← g3]; omega))
  have hb := bVal_min B (e - s) s 0 0 hd (by omega) (by omega) rfl
  refine ⟨bVal B 2000000000 (e - s) s 0, ?_, hb.1, ?_⟩
  · unfold f_m_value
    rw [g10]
    have := m_value_7 B M e (by omega) g9 (by rw [g11, hk]) (4999 - (e - s)) (e - s) s 0 (by omega) (fun i h1 h2 => ⟨(t4 i (by omega)).2.1, hd i h1 (by omega)⟩) (by omega) (by omega)
    rw [show 4999 - (e - s) + (e - s) + 1 = fu by unfold fu; omega] at this
    exact this
  · rw [g7, if_pos hk]; exact hb.2
/-- in a flaw, the value still stands -/
theorem no_value {B : Nat → Int} {L : Nat} {c : Int} {q : Nat} {M : xM} (h : bNoM B L c q M) : ∃ V : Int, f_m_value M = some V ∧ 0 ≤ V ∧ V ≤ 2000000000 := by
  obtain ⟨h1, h2, h3, h4, h5, h6, s, e, h7, h8, h9, h10, h11, h12⟩ := h
  unfold f_m_value
  rw [h10]
  by_cases hk : bK B L s = 2
  · have hd : ∀ i, s ≤ i → i < s + (e - s) → 48 ≤ B i ∧ B i ≤ 57 := fun i g1 g2 => bKd_2 ((bE_in B (L := L) (s := s) (by omega)).2.2.2 hk i g1 (by rw [← h12]; omega))
    have hb := bVal_min B (e - s) s 0 0 hd (by omega) (by omega) rfl
    have := m_value_7 B M e (by omega) h9 (by rw [h11, hk]) (4999 - (e - s)) (e - s) s 0 (by omega) (fun i g1 g2 => ⟨(h6 i (by omega)).1, hd i g1 (by omega)⟩) (by omega) (by omega)
    rw [show 4999 - (e - s) + (e - s) + 1 = fu by unfold fu; omega] at this
    exact ⟨_, this, hb.1.1, hb.1.2⟩
  · have hq := bK_in B L s
    refine ⟨0, ?_, by omega, by omega⟩
    show f_m_value_7 M (4999 + 1) 0 (s : Int) = some 0
    rw [f_m_value_7, h9, h11]
    by_cases c1 : s < e
    · rw [if_pos (by rw [b_xw (by omega), b_xw (by omega)]; omega), if_neg (by rw [b_xw (by omega)]; exact hk)]
    · rw [if_neg (by rw [b_xw (by omega), b_xw (by omega)]; omega)]
theorem bNoM.number {B : Nat → Int} {L : Nat} {c a b : Int} {q : Nat} {M : xM} (h : bNoM B L c q M) : f_m_readNumber a b M = some (a, M) := by
  obtain ⟨V, v1, v2⟩ := no_value h
  unfold f_m_readNumber
  rw [if_neg h.ne]
  unfold f_m_readNumber_16 f_m_readNumber_21
  rw [h.check, Option.bind_some, v1, Option.bind_some, if_neg h.ne]
  unfold f_m_readNumber_47 f_m_readNumber_52
  rw [h.check, Option.bind_some, h.advance, Option.bind_some, if_neg h.ne]
theorem bNoM.greater {B : Nat → Int} {L : Nat} {c a b t : Int} {q : Nat} {M : xM} (h : bNoM B L c q M) : ∃ V : Int, f_m_readGreater a b t M = some (V, M) ∧ 0 ≤ V ∧ V ≤ 2000000000 := by
  obtain ⟨V, v1, v2⟩ := no_value h
  refine ⟨V, ?_, v2⟩
  unfold f_m_readGreater
  rw [if_neg h.ne]
  unfold f_m_readGreater_16 f_m_readGreater_21
  rw [h.check, Option.bind_some, if_neg h.ne]
  unfold f_m_readGreater_45 f_m_readGreater_50
  rw [h.check, Option.bind_some, if_neg h.ne]
  unfold f_m_readGreater_70 f_m_readGreater_75
  rw [h.check, Option.bind_some, v1, Option.bind_some, h.advance, Option.bind_some]

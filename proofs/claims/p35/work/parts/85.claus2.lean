/-! ===== any clause, all clauses ===== -/
theorem R_numd {B : Nat → Int} {L f0 : Nat} {m q6 M M6 : xM} (j f : Nat) (a b : Int) (hab : 0 ≤ a ∧ a ≤ b ∧ b ≤ 99999) (hf : 11 ≤ f ∧ f < 20) (hj : 7 ≤ j) (hjf : ∀ x, a ≤ x → x ≤ b → (j = 7 ∧ f = 12 ∧ 0 ≤ x ∧ x ≤ 9) ∨ (j = 8 ∧ f = 13 ∧ 0 ≤ x ∧ x ≤ 50) ∨ (j = 9 ∧ f = 14 ∧ 1 ≤ x ∧ x ≤ 7) ∨ (j = 12 ∧ f = 17 ∧ 1 ≤ x ∧ x ≤ 5) ∨ (j = 13 ∧ f = 18 ∧ 1 ≤ x ∧ x ≤ 50)) (hq : bFc (xvw [1, 2] m) q6) (hM : bFm M M6) (h : ∃ s e, f0 ≤ s ∧ bGo B L s e (q6 0) (q6 1) M6) (hd : bDr m M) : ∃ (m' M1 M' : xM), (Option.bind (f_T_takeLast a b (xvw [1, 2] (xmg [1, 2] 2 m q6))) fun q7 => some (xu (xmg [1, 2] 2 (xmg [1, 2] 2 m q6) q7.2) 3 j q7.1)) = some m' ∧ f_m_readOne (f : Int) a b M6 = some M1 ∧ f_m_expect 59 M1 = some M' ∧ bFR m m' ∧ bF2 M M' ∧ ((∃ s' e', f0 < s' ∧ bGo B L s' e' (m' 1) (m' 2) M' ∧ bDr m' M') ∨ bEr B L (m' 1) M') := by
  obtain ⟨m', M1, M', a1, a2, a3, a4, a5, a6, a7⟩ := R_numc j f a b hab (Or.inr hf) hq hM (Or.inl h)
  refine ⟨m', M1, M', a1, a2, a3, a4, a5, ?_⟩
  rcases a7 with ⟨s', e', b1, b2, b3, b4, b5, b6, b7⟩ | b
  · refine Or.inl ⟨s', e', b1, b2, ?_, by rw [a6 2 (by omega), b6 6 (by omega)]; exact hd.2.1, by rw [b6 6 (by omega)]; exact hd.2.2⟩
    exact hd.1.one j f (hjf (m' 3 j) b4 b5) rfl b3 (fun i _ hi => b6 i hi) (fun i hi => a6 i hi) (fun k h1 h2 => b7 (k - 30) (by omega))
  · exact Or.inr b
theorem R_clause_sp {B : Nat → Int} {L s e : Nat} {m M : xM} (h : bGo B L s e (m 1) (m 2) M) (hd : bDr m M) : ∃ (m' M' : xM), f_R_clause m = some m' ∧ f_m_readClause M = some M' ∧ bFR m m' ∧ bF2 M M' ∧ ((∃ s' e', s < s' ∧ bGo B L s' e' (m' 1) (m' 2) M' ∧ bDr m' M') ∨ bEr B L (m' 1) M') := by
  have hv : bGo B L s e ((xvw [1, 2] m) 0) ((xvw [1, 2] m) 1) M := h
  obtain ⟨X, hX, hu⟩ := go_words hv
  obtain ⟨q6, M6, s6, e6, n1, n2, n3, n4, n5, n6⟩ := hv.next
  have hse : s ≤ e := by obtain ⟨_, g2, _⟩ := h; exact g2.2.1
  have hgo : ∃ s' e', s ≤ s' ∧ bGo B L s' e' (q6 0) (q6 1) M6 := ⟨s6, e6, by omega, n3⟩
  have z : ∀ v, X v ≠ 1 → f_T_isWord v (xvw [1, 2] m) = some 0 ∧ f_m_accept v M = some (0, M) := fun v hv0 => by
    obtain ⟨x1, x2, x3⟩ := hX v
    have x0 : X v = 0 := by omega
    rw [x0] at x2 x3
    exact ⟨x2, m_accept_0 x3⟩
  have o : ∀ v, X v = 1 → f_T_isWord v (xvw [1, 2] m) = some 1 ∧ f_m_accept v M = some (1, M6) := fun v hv1 => by
    obtain ⟨x1, x2, x3⟩ := hX v
    rw [hv1] at x2 x3
    exact ⟨x2, m_accept_1 x3 n2⟩
  have n0 : ¬ xw 1 = 0 := by decide
  have y0 : xw 0 = 0 := by decide
  unfold f_R_clause f_m_readClause
  by_cases c0 : X 12 = 1
  · obtain ⟨m', M1, M', r1, r2, r3, r4⟩ := R_train n4 n5 hgo hd
    rw [(o 12 c0).1, (o 12 c0).2, Option.bind_some, Option.bind_some]
    dsimp only
    rw [if_neg n0, if_neg n0]
    unfold f_R_steps f_m_readClause_154
    rw [n1, Option.bind_some, r1, r2, Option.bind_some, Option.bind_some, r3, Option.bind_some]
    exact ⟨m', M', rfl, rfl, r4⟩
  rw [(z 12 c0).1, (z 12 c0).2, Option.bind_some, Option.bind_some]
  dsimp only
  rw [if_pos y0, if_pos y0]
  by_cases c1 : X 13 = 1
  · have d16 : X 16 ≠ 1 := fun g => absurd (hu 1 4 (by omega) (by omega) c1 g) (by omega)
    have d19 : X 19 ≠ 1 := fun g => absurd (hu 1 7 (by omega) (by omega) c1 g) (by omega)
    obtain ⟨m', M1, M', r1, r2, r3, r4⟩ := R_numd 7 12 0 9 (by omega) (by omega) (by omega) (fun x g1 g2 => by omega) n4 n5 hgo hd
    rw [(z 16 d16).1, Option.bind_some, if_pos y0, (z 19 d19).1, Option.bind_some, if_pos y0]
    unfold f_R_number f_m_readClause_154
    rw [(o 13 c1).1, (o 13 c1).2, Option.bind_some, Option.bind_some]
    dsimp only
    rw [if_neg n0, if_neg n0, n1, Option.bind_some, r1, Option.bind_some]
    have r2' : f_m_readOne 12 0 9 M6 = some M1 := r2
    rw [r2', Option.bind_some, r3, Option.bind_some]
    exact ⟨m', M', rfl, rfl, r4⟩
  by_cases c2 : X 14 = 1
  · have d16 : X 16 ≠ 1 := fun g => absurd (hu 2 4 (by omega) (by omega) c2 g) (by omega)
    have d19 : X 19 ≠ 1 := fun g => absurd (hu 2 7 (by omega) (by omega) c2 g) (by omega)
    obtain ⟨m', M1, M', r1, r2, r3, r4⟩ := R_numd 8 13 0 50 (by omega) (by omega) (by omega) (fun x g1 g2 => by omega) n4 n5 hgo hd
    rw [(z 16 d16).1, Option.bind_some, if_pos y0, (z 19 d19).1, Option.bind_some, if_pos y0, (z 13 c1).2, Option.bind_some]
    dsimp only
    unfold f_R_number f_m_readClause_154
    rw [if_pos y0, (z 13 c1).1, Option.bind_some, if_pos y0, (o 14 c2).1, (o 14 c2).2, Option.bind_some, Option.bind_some]
    dsimp only
    rw [if_neg n0, if_neg n0, n1, Option.bind_some, r1, Option.bind_some]
    have r2' : f_m_readOne 13 0 50 M6 = some M1 := r2
    rw [r2', Option.bind_some, r3, Option.bind_some]
    exact ⟨m', M', rfl, rfl, r4⟩
  by_cases c3 : X 15 = 1
  · have d16 : X 16 ≠ 1 := fun g => absurd (hu 3 4 (by omega) (by omega) c3 g) (by omega)
    have d19 : X 19 ≠ 1 := fun g => absurd (hu 3 7 (by omega) (by omega) c3 g) (by omega)
    obtain ⟨m', M1, M', r1, r2, r3, r4⟩ := R_numd 9 14 1 7 (by omega) (by omega) (by omega) (fun x g1 g2 => by omega) n4 n5 hgo hd
    rw [(z 16 d16).1, Option.bind_some, if_pos y0, (z 19 d19).1, Option.bind_some, if_pos y0, (z 13 c1).2, Option.bind_some]
    dsimp only
    rw [if_pos y0, (z 14 c2).2, Option.bind_some]
    dsimp only
    unfold f_R_number f_m_readClause_154
    rw [if_pos y0, (z 13 c1).1, Option.bind_some, if_pos y0, (z 14 c2).1, Option.bind_some, if_pos y0, (o 15 c3).1, (o 15 c3).2, Option.bind_some, Option.bind_some]
    dsimp only
    rw [if_neg n0, if_neg n0, n1, Option.bind_some, r1, Option.bind_some]
    have r2' : f_m_readOne 14 1 7 M6 = some M1 := r2
    rw [r2', Option.bind_some, r3, Option.bind_some]
    exact ⟨m', M', rfl, rfl, r4⟩
  rw [(z 13 c1).2, Option.bind_some]
  dsimp only
  rw [if_pos y0, (z 14 c2).2, Option.bind_some]
  dsimp only
  rw [if_pos y0, (z 15 c3).2, Option.bind_some]
  dsimp only
  rw [if_pos y0]
  by_cases c4 : X 16 = 1
  · obtain ⟨m', M1, M', r1, r2, r3, r4⟩ := R_delay_sp n1 n4 n5 hgo hd
    rw [(o 16 c4).1, (o 16 c4).2, Option.bind_some, Option.bind_some]
    dsimp only
    unfold f_m_readClause_154
    rw [if_neg n0, if_neg n0, r1, r2, Option.bind_some, Option.bind_some, r3, Option.bind_some]
    exact ⟨m', M', rfl, rfl, r4⟩
  rw [(z 16 c4).1, (z 16 c4).2, Option.bind_some, Option.bind_some]
  dsimp only
  rw [if_pos y0, if_pos y0]
  by_cases c5 : X 17 = 1
  · have d19 : X 19 ≠ 1 := fun g => absurd (hu 5 7 (by omega) (by omega) c5 g) (by omega)
    obtain ⟨m', M1, M', r1, r2, r3, r4⟩ := R_numd 12 17 1 5 (by omega) (by omega) (by omega) (fun x g1 g2 => by omega) n4 n5 hgo hd
    unfold f_R_number f_m_readClause_154
    rw [(z 19 d19).1, Option.bind_some, if_pos y0, (z 13 c1).1, Option.bind_some, if_pos y0, (z 14 c2).1, Option.bind_some, if_pos y0, (z 15 c3).1, Option.bind_some, if_pos y0, (o 17 c5).1, (o 17 c5).2, Option.bind_some, Option.bind_some]
    dsimp only
    rw [if_neg n0, if_neg n0, n1, Option.bind_some, r1, Option.bind_some]
    have r2' : f_m_readOne 17 1 5 M6 = some M1 := r2
    rw [r2', Option.bind_some, r3, Option.bind_some]
    exact ⟨m', M', rfl, rfl, r4⟩
  by_cases c6 : X 18 = 1
  · have d19 : X 19 ≠ 1 := fun g => absurd (hu 6 7 (by omega) (by omega) c6 g) (by omega)
    obtain ⟨m', M1, M', r1, r2, r3, r4⟩ := R_numd 13 18 1 50 (by omega) (by omega) (by omega) (fun x g1 g2 => by omega) n4 n5 hgo hd
    rw [(z 17 c5).2, Option.bind_some]
    dsimp only
    unfold f_R_number f_m_readClause_154
    rw [if_pos y0, (z 19 d19).1, Option.bind_some, if_pos y0, (z 13 c1).1, Option.bind_some, if_pos y0, (z 14 c2).1, Option.bind_some, if_pos y0, (z 15 c3).1, Option.bind_some, if_pos y0, (z 17 c5).1, Option.bind_some, if_pos y0, (o 18 c6).1, (o 18 c6).2, Option.bind_some, Option.bind_some]
    dsimp only
    rw [if_neg n0, if_neg n0, n1, Option.bind_some, r1, Option.bind_some]
    have r2' : f_m_readOne 18 1 50 M6 = some M1 := r2
    rw [r2', Option.bind_some, r3, Option.bind_some]
    exact ⟨m', M', rfl, rfl, r4⟩
  rw [(z 17 c5).2, Option.bind_some]
  dsimp only
  rw [if_pos y0, (z 18 c6).2, Option.bind_some]
  dsimp only
  unfold f_m_expectWord f_m_readClause_154
  rw [if_pos y0, (hX 19).2.2, Option.bind_some]
  by_cases c7 : X 19 = 1
  · obtain ⟨m', M1, M', r1, r2, r3, r4⟩ := R_noises_sp n1 n4 n5 hgo hd
    rw [(o 19 c7).1, Option.bind_some, if_neg n0, c7, m_check_1, Option.bind_some, m_advance_0 h.err, n2, Option.bind_some, Option.bind_some, r1, r2, Option.bind_some, Option.bind_some, r3, Option.bind_some]
    exact ⟨m', M', rfl, rfl, r4⟩
  · have x0 : X 19 = 0 := by have := (hX 19).1; omega
    obtain ⟨q, M', b1, b2, b3, b4, b5⟩ := hv.fail 1 0 (by omega) rfl
    obtain ⟨c, r, u1, u2⟩ := b3
    obtain ⟨n9, w1, w2, w3, w4, w5, w6⟩ := R_mg m q b4
    unfold f_R_number
    rw [(z 19 c7).1, Option.bind_some, if_pos y0, (z 13 c1).1, Option.bind_some, if_pos y0, (z 14 c2).1, Option.bind_some, if_pos y0, (z 15 c3).1, Option.bind_some, if_pos y0, (z 17 c5).1, Option.bind_some, if_pos y0, (z 18 c6).1, Option.bind_some, if_pos y0, b1, Option.bind_some, Option.bind_some]
    dsimp only
    rw [w1, x0, b2, Option.bind_some, u2.advance, Option.bind_some, Option.bind_some]
    have er : bEr B L (q 0) (xu M' 2 19 0) := bEr.cgM ⟨c, r, u1, u2⟩ (xu_K (by omega)) (xu_K (by omega))
    obtain ⟨c', r', u1', u2'⟩ := er
    have hn : f_m_readNoise M' = some (xu M' 2 19 0) := by
      unfold f_m_readNoise
      rw [if_pos (b_ib (by omega)), if_neg u2.ne]
      unfold f_m_readNoise_24 f_m_readNoise_29
      rw [m_check_1, Option.bind_some]
      exact no_noise u2' 4999
    rw [hn, Option.bind_some, u2'.expect, Option.bind_some]
    exact ⟨n9, _, rfl, rfl, ⟨fun k hk => w4 k (by omega), w5, w6⟩, b5.to.trans (bF2.put (by decide)), Or.inr ⟨c', r', by rw [w2]; exact u1', u2'⟩⟩

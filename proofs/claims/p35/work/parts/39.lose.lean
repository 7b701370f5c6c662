theorem L_loseCarrier_sp (m M : xM) (h : bRL 0 m (M 1)) (hB : bB m) (h1 : m 0 8 = 2) : ∃ m' M' : xM, f_L_loseCarrier m = some m' ∧ f_m_loseCarrier M = some M' ∧ bRL 0 m' (M' 1) ∧ bB m' ∧ M' 1 20 = m' 23 5 ∧ m' 0 8 ≠ 2 ∧ bKeep m m' ∧ ∀ k, k ≠ 1 → M' k = M k := by
  have hh := h
  obtain ⟨r1, r2, r3, r4, r5, r6⟩ := h
  obtain ⟨s0, s1, s2, s3, s4, s5, s6, s7, s8, s9, s10⟩ := r6
  have hP := r5
  obtain ⟨-, -, ⟨y1, y2, y3⟩, -, -, -, -, -, -, k1, -, -⟩ := hP
  obtain ⟨m1, hm1⟩ : ∃ Z, Z = xu (xu (xu (xu m 0 8 3) 0 14 1) 23 5 0) 30 6 (m 30 6 + 1) := ⟨_, rfl⟩
  obtain ⟨M1, hM1⟩ : ∃ Z, Z = xu (xu (xu (xu M 1 1 3) 1 7 1) 1 20 0) 1 51 (M 1 51 + 1) := ⟨_, rfl⟩
  have eC : f_L_loseCarrier m = (f_L_note 4 (-1) m1).bind fun q0 => (f_L_hold q0).bind fun q1 => some q1 := by
    unfold f_L_loseCarrier f_L_loseCarrier_29
    rw [if_pos (b_ib (by omega)), if_pos (b_ib (by omega)), ← hm1]
  have eM : f_m_loseCarrier M = (f_m_tellEvent 4 (-1) M1).bind fun q0 => (if xib 13 3530 then (if xw (q0 1 13) < xw 1 then (f_m_hang q0).bind fun q1 => some q1 else some q0) else none) := by
    unfold f_m_loseCarrier
    rw [if_pos (b_ib (by omega)), if_pos (b_ib (by omega)), if_pos (b_ib (by omega)), if_pos (b_ib (by omega)), if_pos (b_ib (by omega)), ← hM1]
  have g1 : ∀ k, k ≠ 0 → k ≠ 23 → k ≠ 30 → m1 k = m k := fun k a b c => by rw [hm1, xu_K c, xu_K b, xu_K a, xu_K a]
  have g2 : ∀ j, j ≠ 8 → j ≠ 14 → m1 0 j = m 0 j := fun j a b => by rw [hm1, xu_k (by omega), xu_k (by omega), xu_d b, xu_d a]
  have g8 : m1 0 8 = 3 := by rw [hm1, xu_k (by omega), xu_k (by omega), xu_d (by omega), xu_s rfl]
  have g14 : m1 0 14 = 1 := by rw [hm1, xu_k (by omega), xu_k (by omega), xu_s rfl]
  have g23 : m1 23 5 = 0 := by rw [hm1, xu_k (by omega), xu_s rfl]
  have g30 : ∀ j, j ≠ 6 → m1 30 j = m 30 j := fun j a => by rw [hm1, xu_d a, xu_k (by omega), xu_k (by omega), xu_k (by omega)]
  have g306 : m1 30 6 = m 30 6 + 1 := by rw [hm1, xu_s rfl]
  have G : ∀ i, i ≠ 1 → i ≠ 7 → i ≠ 20 → i ≠ 51 → M1 1 i = M 1 i := fun i a b c d => by rw [hM1, xu_d d, xu_d c, xu_d b, xu_d a]
  have G1 : M1 1 1 = 3 := by rw [hM1, xu_d (by omega), xu_d (by omega), xu_d (by omega), xu_s rfl]
  have G7 : M1 1 7 = 1 := by rw [hM1, xu_d (by omega), xu_d (by omega), xu_s rfl]
  have G20 : M1 1 20 = 0 := by rw [hM1, xu_d (by omega), xu_s rfl]
  have G51 : M1 1 51 = M 1 51 + 1 := by rw [hM1, xu_s rfl]
  have GK : ∀ k, k ≠ 1 → M1 k = M k := fun k hk => by rw [hM1, xu_K hk, xu_K hk, xu_K hk, xu_K hk]
  obtain ⟨m2, M2, p1, p2, p3, p4, p5, p6⟩ := L_note 4 (-1) m1 M1 (r3.cg (g1 28 (by omega) (by omega) (by omega)) (g1 29 (by omega) (by omega) (by omega)) (G 10 (by omega) (by omega) (by omega) (by omega)) (fun i a b => G i (by omega) (by omega) (by omega) (by omega)))
    (by rw [G 0 (by omega) (by omega) (by omega) (by omega), g2 7 (by omega) (by omega), s0]) (by rw [G1, g8]) (by rw [G 3 (by omega) (by omega) (by omega) (by omega), g2 10 (by omega) (by omega), s3]) (by omega)
  have d0 : m2 0 = m1 0 := p4 0 (by omega) (by omega)
  have dk : ∀ k, k ≠ 0 → k ≠ 23 → k ≠ 30 → k ≠ 28 → k ≠ 29 → m2 k = m k := fun k a b c d e => by rw [p4 k d e, g1 k a b c]
  have hL : bRL 0 m2 (M2 1) := by
    refine ⟨r1.cg (fun i a b => dk i (by omega) (by omega) (by omega) (by omega) (by omega)) (fun i a b => by rw [p5 i (by omega) (by omega), G i (by omega) (by omega) (by omega) (by omega)]), r2.cg (fun i a b => dk i (by omega) (by omega) (by omega) (by omega) (by omega)) (fun i a b => by rw [p5 i (by omega) (by omega), G i (by omega) (by omega) (by omega) (by omega)]), p3, ?_, ?_, ?_⟩
    · exact r4.up (j := 6) (by rw [p4 30 (by omega) (by omega), g306]) (fun w hw => by rw [p4 30 (by omega) (by omega), g30 w hw]) (by rw [p5 _ (by omega) (by omega), G51, r4 6 (by omega)]) (fun i a b c => by rw [p5 i (by omega) (by omega), G i (by omega) (by omega) (by omega) (by omega)])
    · exact r5.cg (fun k a b => dk k (by omega) (by omega) (by omega) (by omega) (by omega)) (fun i a b c => by rw [p5 i (by omega) (by omega), G i (by omega) (by omega) c (by omega)])
    · unfold bRSc
      rw [d0, g2 7 (by omega) (by omega), g8, g2 9 (by omega) (by omega), g2 10 (by omega) (by omega), g2 11 (by omega) (by omega), g2 12 (by omega) (by omega), g2 13 (by omega) (by omega), g14, g2 15 (by omega) (by omega), g2 16 (by omega) (by omega), dk 33 (by omega) (by omega) (by omega) (by omega) (by omega),
        p5 0 (by omega) (by omega), p5 1 (by omega) (by omega), p5 2 (by omega) (by omega), p5 3 (by omega) (by omega), p5 4 (by omega) (by omega), p5 5 (by omega) (by omega), p5 6 (by omega) (by omega), p5 7 (by omega) (by omega), p5 8 (by omega) (by omega), p5 9 (by omega) (by omega),
        G 0 (by omega) (by omega) (by omega) (by omega), G1, G 2 (by omega) (by omega) (by omega) (by omega), G 3 (by omega) (by omega) (by omega) (by omega), G 4 (by omega) (by omega) (by omega) (by omega), G 5 (by omega) (by omega) (by omega) (by omega), G 6 (by omega) (by omega) (by omega) (by omega), G7, G 8 (by omega) (by omega) (by omega) (by omega), G 9 (by omega) (by omega) (by omega) (by omega)]
      exact ⟨s0, rfl, s2, s3, s4, s5, fun h => by omega, fun _ => rfl, by omega, s9, s10⟩
  have hB2 : bB m2 := by
    obtain ⟨⟨t1, t2⟩, ⟨u1, u2⟩, ⟨a1, a2, a3, a4, a5, a6, a7, a8⟩, ⟨b1, b2, b3, b4, b5, b6, b7, b8⟩, w⟩ := hB
    unfold bB bBe
    rw [d0, g2 7 (by omega) (by omega), g8, p4 30 (by omega) (by omega), g30 0 (by omega), dk 4 (by omega) (by omega) (by omega) (by omega) (by omega), dk 12 (by omega) (by omega) (by omega) (by omega) (by omega), dk 1 (by omega) (by omega) (by omega) (by omega) (by omega), dk 15 (by omega) (by omega) (by omega) (by omega) (by omega), p4 23 (by omega) (by omega), g23]
    exact ⟨⟨t1, t2⟩, ⟨u1, u2⟩, ⟨a1, a2, a3, fun _ => a4 (by omega), fun h => by omega, a6, a7, a8⟩, ⟨b1, b2, b3, fun _ => b4 (by omega), fun h => by omega, b6, b7, b8⟩, fun _ => rfl⟩
  have e13 : M2 1 13 = m 33 8 := by rw [p5 13 (by omega) (by omega), G 13 (by omega) (by omega) (by omega) (by omega), y1]
  have e33 : m2 33 = m 33 := dk 33 (by omega) (by omega) (by omega) (by omega) (by omega)
  rw [eC, eM, p1, p2, b_bs, b_bs, if_pos (b_ib (by omega)), e13]
  unfold f_L_hold
  rw [d0, g14, e33]
  by_cases hr : xw (m 33 8) < xw 1
  · rw [if_pos hr, if_pos hr]
    obtain ⟨m', M', q1, q2, q3, q4, q5, q6⟩ := L_cut_sp m2 M2 hL
    rw [q1, q2, b_bs, b_bs, b_bs]
    obtain ⟨⟨c1, c2⟩, c3, -, -, -, -, c4⟩ := id q4
    exact ⟨m', M', rfl, rfl, q3, hB2.cut q4, by rw [q5, c3], by omega, ⟨by rw [c2 7 (by omega), d0, g2 7 (by omega) (by omega)], fun k hk => by rw [c4 k (by omega) (by omega) (by omega) (by omega) (by omega) (by omega) (by omega) (by omega) (by omega), dk k (by omega) (by omega) (by omega) (by omega) (by omega)]⟩, fun k hk => by rw [q6 k hk, p6 k hk, GK k hk]⟩
  · rw [if_neg hr, if_neg hr, b_bs]
    exact ⟨m2, M2, rfl, rfl, hL, hB2, by rw [p5 20 (by omega) (by omega), G20, p4 23 (by omega) (by omega), g23], by rw [d0, g8]; omega, ⟨by rw [d0, g2 7 (by omega) (by omega)], fun k hk => dk k (by omega) (by omega) (by omega) (by omega) (by omega)⟩, fun k hk => by rw [p6 k hk, GK k hk]⟩

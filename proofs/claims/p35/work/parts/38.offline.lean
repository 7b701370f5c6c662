/-! ===== one tick off the line ===== -/
/-- what a tick keeps, wherever the line is -/
def bKeep (m m' : xM) : Prop := m' 0 7 = m 0 7 ∧ ∀ k, 33 ≤ k → m' k = m k
theorem L_train_sp (m M : xM) (h : bRL 0 m (M 1)) (hB : bB m) (h1 : m 0 8 = 1) (h20 : M 1 20 = m 23 5) : ∃ m' M' : xM, f_L_train m = some m' ∧ f_m_passTraining M = some M' ∧ bRL 0 m' (M' 1) ∧ bB m' ∧ M' 1 20 = m' 23 5 ∧ (m' 0 8 = 2 → bFresh m') ∧ bKeep m m' ∧ ∀ k, k ≠ 1 → M' k = M k := by
  have hh := h
  obtain ⟨r1, r2, r3, r4, r5, r6⟩ := h
  have r6' := r6
  obtain ⟨s0, s1, s2, s3, s4, s5, s6, s7, s8, s9, s10⟩ := r6
  obtain ⟨⟨n4, n5, n6⟩, z0, z3⟩ := s6 h1
  obtain ⟨z, hz⟩ : ∃ z : Nat, m 0 11 = z := ⟨(m 0 11).toNat, by omega⟩
  have hz4 : z < 4 := by omega
  have hP := r5
  obtain ⟨-, ⟨y1, y2, y3⟩, -, -, -, -, -, -, -, k1, -, -⟩ := hP
  have k1z := (k1 z hz4).1
  have w := hB.2.2.2.2 (by omega)
  unfold f_L_train f_m_passTraining
  rw [if_pos (b_ib (by omega)), s2, n4, n5, n6, hz]
  by_cases hq : m 0 9 = 0
  · have hq' : xw (m 0 9) = 0 := by rw [b_xw (by omega)]; exact hq
    rw [if_pos hq', if_pos hq', L_beginStep z m (M 1) hz4 r5, b_bs, if_pos (b_ib (by omega)), if_pos (b_ib (by omega)), if_pos (b_ib (by omega)), if_pos (b_ib (by omega)), if_pos (b_ib (by omega)), if_pos (b_ib (by omega)), if_pos (b_ib (by omega)), b_ix (by omega), show ((21 : Int) + (z : Int)).toNat = 21 + z by omega, k1z, y1]
    obtain ⟨m1, hm1⟩ : ∃ Z, Z = xu (xu (xu m 0 11 z) 0 12 (m 36 z)) 0 13 (m 0 13 + 1) := ⟨_, rfl⟩
    obtain ⟨M1, hM1⟩ : ∃ Z, Z = xu (xu M 1 5 (m 36 z)) 1 6 (m 0 13 + 1) := ⟨_, rfl⟩
    have e13 : xu (xu m 0 11 z) 0 12 (m 36 z) 0 13 = m 0 13 := by rw [xu_d (by omega), xu_d (by omega)]
    have e33 : xu (xu m 0 11 z) 0 12 (m 36 z) 33 7 = m 33 7 := by rw [xu_k (by omega), xu_k (by omega)]
    rw [e13, e33, ← hm1, ← hM1]
    have g1 : ∀ k, k ≠ 0 → m1 k = m k := fun k hk => by rw [hm1, xu_K hk, xu_K hk, xu_K hk]
    have g2 : ∀ j, j ≠ 11 → j ≠ 12 → j ≠ 13 → m1 0 j = m 0 j := fun j a b c => by rw [hm1, xu_d c, xu_d b, xu_d a]
    have g11 : m1 0 11 = z := by rw [hm1, xu_d (by omega), xu_d (by omega), xu_s rfl]
    have g12 : m1 0 12 = m 36 z := by rw [hm1, xu_d (by omega), xu_s rfl]
    have g13 : m1 0 13 = m 0 13 + 1 := by rw [hm1, xu_s rfl]
    have G : ∀ i, i ≠ 5 → i ≠ 6 → M1 1 i = M 1 i := fun i a b => by rw [hM1, xu_d b, xu_d a]
    have G5 : M1 1 5 = m 36 z := by rw [hM1, xu_d (by omega), xu_s rfl]
    have G6 : M1 1 6 = m 0 13 + 1 := by rw [hM1, xu_s rfl]
    have GK : ∀ k, k ≠ 1 → M1 k = M k := fun k hk => by rw [hM1, xu_K hk, xu_K hk]
    have hs : bRSc m1 (M1 1) := by
      unfold bRSc
      rw [g2 7 (by omega) (by omega) (by omega), g2 8 (by omega) (by omega) (by omega), g2 9 (by omega) (by omega) (by omega), g2 10 (by omega) (by omega) (by omega), g11, g12, g13, g2 14 (by omega) (by omega) (by omega), g2 15 (by omega) (by omega) (by omega), g2 16 (by omega) (by omega) (by omega), g1 33 (by omega),
        G 0 (by omega) (by omega), G 1 (by omega) (by omega), G 2 (by omega) (by omega), G 3 (by omega) (by omega), G 4 (by omega) (by omega), G5, G6, G 7 (by omega) (by omega), G 8 (by omega) (by omega), G 9 (by omega) (by omega)]
      exact ⟨s0, s1, s2, s3, s4, s5, fun _ => ⟨⟨by omega, rfl, rfl⟩, by omega, by omega⟩, s7, s8, s9, s10⟩
    have hL : bRL 0 m1 (M1 1) := hh.sc (by omega) g1 (fun i a b c => G i (by omega) (by omega)) hs
    have hB1 : bB m1 := hB.sc g1 (g2 7 (by omega) (by omega) (by omega)) ⟨by omega, by rw [g2 8 (by omega) (by omega) (by omega)]; omega⟩ (fun _ => w)
    by_cases hr : xw (m 33 7) < xw (m 0 13 + 1)
    · rw [if_pos hr, if_pos hr]
      obtain ⟨m', M', p1, p2, p3, p4, p5, p6⟩ := L_cut_sp m1 M1 hL
      rw [p1, p2, b_bs, b_bs]
      obtain ⟨⟨c1, c2⟩, c3, -, -, -, -, c4⟩ := id p4
      exact ⟨m', M', rfl, rfl, p3, hB1.cut p4, by rw [p5, c3], fun h => by omega, ⟨by rw [c2 7 (by omega), g2 7 (by omega) (by omega) (by omega)], fun k hk => by rw [c4 k (by omega) (by omega) (by omega) (by omega) (by omega) (by omega) (by omega) (by omega) (by omega), g1 k (by omega)]⟩, fun k hk => by rw [p6 k hk, GK k hk]⟩
    · rw [if_neg hr, if_neg hr]
      have g8 := g2 8 (by omega) (by omega) (by omega)
      exact ⟨m1, M1, rfl, rfl, hL, hB1, by rw [G 20 (by omega) (by omega), g1 23 (by omega), h20], fun h => by omega, ⟨g2 7 (by omega) (by omega) (by omega), fun k hk => g1 k (by omega)⟩, GK⟩
  · have hq' : ¬ xw (m 0 9) = 0 := by rw [b_xw (by omega)]; exact hq
    rw [if_neg hq', if_neg hq', if_pos (b_ib (by omega)), if_pos (b_ib (by omega)), if_pos (b_ib (by omega))]
    obtain ⟨m1, hm1⟩ : ∃ Z, Z = xu m 0 12 (m 0 12 - 1) := ⟨_, rfl⟩
    obtain ⟨M1, hM1⟩ : ∃ Z, Z = xu M 1 5 (m 0 12 - 1) := ⟨_, rfl⟩
    rw [← hm1, ← hM1]
    have g1 : ∀ k, k ≠ 0 → m1 k = m k := fun k hk => by rw [hm1, xu_K hk]
    have g2 : ∀ j, j ≠ 12 → m1 0 j = m 0 j := fun j a => by rw [hm1, xu_d a]
    have g12 : m1 0 12 = m 0 12 - 1 := by rw [hm1, xu_s rfl]
    have G : ∀ i, i ≠ 5 → M1 1 i = M 1 i := fun i a => by rw [hM1, xu_d a]
    have G5 : M1 1 5 = m 0 12 - 1 := by rw [hM1, xu_s rfl]
    have GK : ∀ k, k ≠ 1 → M1 k = M k := fun k hk => by rw [hM1, xu_K hk]
    have hs : bRSc m1 (M1 1) := by
      unfold bRSc
      rw [g2 7 (by omega), g2 8 (by omega), g2 9 (by omega), g2 10 (by omega), g2 11 (by omega), g12, g2 13 (by omega), g2 14 (by omega), g2 15 (by omega), g2 16 (by omega), g1 33 (by omega),
        G 0 (by omega), G 1 (by omega), G 2 (by omega), G 3 (by omega), G 4 (by omega), G5, G 6 (by omega), G 7 (by omega), G 8 (by omega), G 9 (by omega)]
      exact ⟨s0, s1, s2, s3, s4, s5, fun _ => ⟨⟨n4, rfl, n6⟩, z0, z3⟩, s7, s8, s9, s10⟩
    have hL : bRL 0 m1 (M1 1) := hh.sc (by omega) g1 (fun i a b c => G i (by omega)) hs
    have hB1 : bB m1 := hB.sc g1 (g2 7 (by omega)) ⟨by omega, by rw [g2 8 (by omega)]; omega⟩ (fun _ => w)
    have g8 := g2 8 (by omega)
    by_cases hl : 0 < xw (m 0 12 - 1)
    · rw [if_pos hl, if_pos hl]
      exact ⟨m1, M1, rfl, rfl, hL, hB1, by rw [G 20 (by omega), g1 23 (by omega), h20], fun h => by omega, ⟨g2 7 (by omega), fun k hk => g1 k (by omega)⟩, GK⟩
    · rw [if_neg hl, if_neg hl, if_pos (b_ib (by omega))]
      by_cases h3 : z < 3
      · rw [if_pos (show xw ((z : Int) + 1) < xw 4 by rw [b_xw (by omega), b_xw (by omega)]; omega), if_neg (show ¬ xw (z : Int) = xw 3 by rw [b_xw (by omega), b_xw (by omega)]; omega), show (z : Int) + 1 = ((z + 1 : Nat) : Int) by omega, L_beginStep (z + 1) m1 (M1 1) (by omega) hL.2.2.2.2.1, b_bs, if_pos (b_ib (by omega)), if_pos (b_ib (by omega)), if_pos (b_ib (by omega)), if_pos (b_ib (by omega)), if_pos (b_ib (by omega)), b_ix (by omega), show ((21 : Int) + ((z + 1 : Nat) : Int)).toNat = 21 + (z + 1) by omega]
        have k2 := (k1 (z + 1) (by omega)).1
        have eR : xu M1 1 4 (((z + 1 : Nat)) : Int) 1 (21 + (z + 1)) = m 36 (z + 1) := by rw [xu_d (by omega), G _ (by omega), k2]
        rw [eR]
        obtain ⟨m2, hm2⟩ : ∃ Z, Z = xu (xu m1 0 11 (((z + 1 : Nat)) : Int)) 0 12 (m1 36 (z + 1)) := ⟨_, rfl⟩
        obtain ⟨M2, hM2⟩ : ∃ Z, Z = xu (xu M1 1 4 (((z + 1 : Nat)) : Int)) 1 5 (m 36 (z + 1)) := ⟨_, rfl⟩
        rw [← hm2, ← hM2]
        have f1 : ∀ k, k ≠ 0 → m2 k = m1 k := fun k hk => by rw [hm2, xu_K hk, xu_K hk]
        have f2 : ∀ j, j ≠ 11 → j ≠ 12 → m2 0 j = m1 0 j := fun j a b => by rw [hm2, xu_d b, xu_d a]
        have F : ∀ i, i ≠ 4 → i ≠ 5 → M2 1 i = M1 1 i := fun i a b => by rw [hM2, xu_d b, xu_d a]
        have hs2 : bRSc m2 (M2 1) := by
          unfold bRSc at hs ⊢
          obtain ⟨q0, q1, q2, q3, q4, q5, q6, q7, q8, q9, q10⟩ := hs
          rw [f2 7 (by omega) (by omega), f2 8 (by omega) (by omega), f2 9 (by omega) (by omega), f2 10 (by omega) (by omega), f2 13 (by omega) (by omega), f2 14 (by omega) (by omega), f2 15 (by omega) (by omega), f2 16 (by omega) (by omega), f1 33 (by omega),
            F 0 (by omega) (by omega), F 1 (by omega) (by omega), F 2 (by omega) (by omega), F 3 (by omega) (by omega), F 6 (by omega) (by omega), F 7 (by omega) (by omega), F 8 (by omega) (by omega), F 9 (by omega) (by omega)]
          refine ⟨q0, q1, q2, q3, q4, q5, fun hx => ⟨⟨?_, ?_, (q6 hx).1.2.2⟩, ?_, ?_⟩, q7, q8, q9, q10⟩
          · rw [hM2, hm2, xu_d (by omega), xu_s rfl, xu_d (by omega), xu_s rfl]
          · rw [hM2, hm2, xu_s rfl, xu_s rfl, g1 36 (by omega)]
          · rw [hm2, xu_d (by omega), xu_s rfl]; omega
          · rw [hm2, xu_d (by omega), xu_s rfl]; omega
        have f8 := f2 8 (by omega) (by omega)
        exact ⟨m2, M2, rfl, rfl, hL.sc (by omega) f1 (fun i a b c => F i (by omega) (by omega)) hs2, hB1.sc f1 (f2 7 (by omega) (by omega)) ⟨by omega, by omega⟩ (fun _ => by rw [g1 23 (by omega)]; exact w), by rw [F 20 (by omega) (by omega), f1 23 (by omega), G 20 (by omega), g1 23 (by omega), h20], fun h => by omega, ⟨by rw [f2 7 (by omega) (by omega), g2 7 (by omega)], fun k hk => by rw [f1 k (by omega), g1 k (by omega)]⟩, fun k hk => by rw [hM2, xu_K hk, xu_K hk, GK k hk]⟩
      · rw [if_neg (show ¬ xw ((z : Int) + 1) < xw 4 by rw [b_xw (by omega), b_xw (by omega)]; omega), if_pos (show xw (z : Int) = xw 3 by rw [b_xw (by omega), b_xw (by omega)]; omega)]
        obtain ⟨m', M', p1, p2, p3, p4, p5, p6, ⟨p7, p8, p9⟩, p10⟩ := L_comeOnline_sp m1 M1 hL hB1 (by rw [g8, h1]) (by rw [G 20 (by omega), g1 23 (by omega), h20])
        rw [p1, p2, b_bs, b_bs]
        exact ⟨m', M', rfl, rfl, p3, p4, p5, p6, ⟨by rw [p7, g2 7 (by omega)], fun k hk => by rw [p9 k hk, g1 k (by omega)]⟩, fun k hk => by rw [p10 k hk, GK k hk]⟩
theorem L_wait_sp (m M : xM) (h : bRL 0 m (M 1)) (hB : bB m) (h1 : m 0 8 = 3) (h20 : M 1 20 = m 23 5) : ∃ m' M' : xM, f_L_wait m = some m' ∧ f_m_passLoss M = some M' ∧ bRL 0 m' (M' 1) ∧ bB m' ∧ M' 1 20 = m' 23 5 ∧ m' 0 8 ≠ 2 ∧ bKeep m m' ∧ ∀ k, k ≠ 1 → M' k = M k := by
  have hh := h
  obtain ⟨r1, r2, r3, r4, r5, r6⟩ := h
  obtain ⟨s0, s1, s2, s3, s4, s5, s6, s7, s8, s9, s10⟩ := r6
  have n7 := s7 h1
  have w := hB.2.2.2.2 (by omega)
  have hP := r5
  obtain ⟨-, -, ⟨y1, y2, y3⟩, -, -, -, -, -, -, k1, -, -⟩ := hP
  unfold f_L_wait f_m_passLoss
  rw [if_pos (b_ib (by omega)), s2, n7, y1]
  by_cases hq : m 0 9 = 0
  · rw [if_pos (show xw (m 0 9) = 0 by rw [b_xw (by omega)]; exact hq), if_neg (show ¬ 0 < xw (m 0 9) by rw [b_xw (by omega)]; omega), if_pos (b_ib (by omega)), if_pos (b_ib (by omega)), if_pos (b_ib (by omega)), if_pos (b_ib (by omega))]
    obtain ⟨m1, hm1⟩ : ∃ Z, Z = xu m 0 14 (m 0 14 + 1) := ⟨_, rfl⟩
    obtain ⟨M1, hM1⟩ : ∃ Z, Z = xu M 1 7 (m 0 14 + 1) := ⟨_, rfl⟩
    rw [← hm1, ← hM1]
    have g1 : ∀ k, k ≠ 0 → m1 k = m k := fun k hk => by rw [hm1, xu_K hk]
    have g2 : ∀ j, j ≠ 14 → m1 0 j = m 0 j := fun j a => by rw [hm1, xu_d a]
    have g14 : m1 0 14 = m 0 14 + 1 := by rw [hm1, xu_s rfl]
    have G : ∀ i, i ≠ 7 → M1 1 i = M 1 i := fun i a => by rw [hM1, xu_d a]
    have G7 : M1 1 7 = m 0 14 + 1 := by rw [hM1, xu_s rfl]
    have GK : ∀ k, k ≠ 1 → M1 k = M k := fun k hk => by rw [hM1, xu_K hk]
    have hs : bRSc m1 (M1 1) := by
      unfold bRSc
      rw [g2 7 (by omega), g2 8 (by omega), g2 9 (by omega), g2 10 (by omega), g2 11 (by omega), g2 12 (by omega), g2 13 (by omega), g14, g2 15 (by omega), g2 16 (by omega), g1 33 (by omega),
        G 0 (by omega), G 1 (by omega), G 2 (by omega), G 3 (by omega), G 4 (by omega), G 5 (by omega), G 6 (by omega), G7, G 8 (by omega), G 9 (by omega)]
      exact ⟨s0, s1, s2, s3, s4, s5, s6, fun _ => rfl, s8, s9, s10⟩
    have hL : bRL 0 m1 (M1 1) := hh.sc (by omega) g1 (fun i a b c => G i (by omega)) hs
    have g8 := g2 8 (by omega)
    have hB1 : bB m1 := hB.sc g1 (g2 7 (by omega)) ⟨by omega, by omega⟩ (fun _ => w)
    unfold f_L_hold
    rw [g14, g1 33 (by omega)]
    by_cases hr : xw (m 33 8) < xw (m 0 14 + 1)
    · rw [if_pos hr, if_pos hr]
      obtain ⟨m', M', p1, p2, p3, p4, p5, p6⟩ := L_cut_sp m1 M1 hL
      rw [p1, p2, b_bs, b_bs, b_bs]
      obtain ⟨⟨c1, c2⟩, c3, -, -, -, -, c4⟩ := id p4
      exact ⟨m', M', rfl, rfl, p3, hB1.cut p4, by rw [p5, c3], by omega, ⟨by rw [c2 7 (by omega), g2 7 (by omega)], fun k hk => by rw [c4 k (by omega) (by omega) (by omega) (by omega) (by omega) (by omega) (by omega) (by omega) (by omega), g1 k (by omega)]⟩, fun k hk => by rw [p6 k hk, GK k hk]⟩
    · rw [if_neg hr, if_neg hr, b_bs]
      exact ⟨m1, M1, rfl, rfl, hL, hB1, by rw [G 20 (by omega), g1 23 (by omega), h20], by omega, ⟨g2 7 (by omega), fun k hk => g1 k (by omega)⟩, GK⟩
  · rw [if_neg (show ¬ xw (m 0 9) = 0 by rw [b_xw (by omega)]; exact hq), if_pos (show 0 < xw (m 0 9) by rw [b_xw (by omega)]; omega)]
    unfold f_L_beginTraining f_m_train f_m_train_29
    have hP2 : bRP (xu (xu m 0 8 1) 0 13 0) (M 1) := r5.cg (fun k a b => by rw [xu_K (by omega), xu_K (by omega)]) (fun _ _ _ _ => rfl)
    have k2 := (k1 2 (by omega)).1
    rw [show (2 : Int) = ((2 : Nat) : Int) from rfl, L_beginStep 2 _ (M 1) (by omega) hP2, b_bs, b_bs, if_pos (b_ib (by omega)), if_pos (b_ib (by omega)), if_pos (b_ib (by omega)), if_pos (b_ib (by omega)), if_pos (b_ib (by omega)), b_bs, b_ix (by omega), show ((21 : Int) + ((2 : Nat) : Int)).toNat = 21 + 2 from rfl, xu_d (by omega), xu_d (by omega), k2, xu_K (k' := 36) (by omega), xu_K (k' := 36) (by omega)]
    obtain ⟨m1, hm1⟩ : ∃ Z, Z = xu (xu (xu (xu m 0 8 1) 0 13 0) 0 11 (((2 : Nat)) : Int)) 0 12 (m 36 2) := ⟨_, rfl⟩
    obtain ⟨M1, hM1⟩ : ∃ Z, Z = xu (xu (xu (xu M 1 1 1) 1 4 (((2 : Nat)) : Int)) 1 5 (m 36 2)) 1 6 0 := ⟨_, rfl⟩
    rw [← hm1, ← hM1]
    have g1 : ∀ k, k ≠ 0 → m1 k = m k := fun k hk => by rw [hm1, xu_K hk, xu_K hk, xu_K hk, xu_K hk]
    have g2 : ∀ j, j ≠ 8 → j ≠ 11 → j ≠ 12 → j ≠ 13 → m1 0 j = m 0 j := fun j a b c d => by rw [hm1, xu_d c, xu_d b, xu_d d, xu_d a]
    have g8 : m1 0 8 = 1 := by rw [hm1, xu_d (by omega), xu_d (by omega), xu_d (by omega), xu_s rfl]
    have g11 : m1 0 11 = 2 := by rw [hm1, xu_d (by omega), xu_s rfl]; rfl
    have g12 : m1 0 12 = m 36 2 := by rw [hm1, xu_s rfl]
    have g13 : m1 0 13 = 0 := by rw [hm1, xu_d (by omega), xu_d (by omega), xu_s rfl]
    have G : ∀ i, i ≠ 1 → i ≠ 4 → i ≠ 5 → i ≠ 6 → M1 1 i = M 1 i := fun i a b c d => by rw [hM1, xu_d d, xu_d c, xu_d b, xu_d a]
    have G1 : M1 1 1 = 1 := by rw [hM1, xu_d (by omega), xu_d (by omega), xu_d (by omega), xu_s rfl]
    have G4 : M1 1 4 = 2 := by rw [hM1, xu_d (by omega), xu_d (by omega), xu_s rfl]; rfl
    have G5 : M1 1 5 = m 36 2 := by rw [hM1, xu_d (by omega), xu_s rfl]
    have G6 : M1 1 6 = 0 := by rw [hM1, xu_s rfl]
    have GK : ∀ k, k ≠ 1 → M1 k = M k := fun k hk => by rw [hM1, xu_K hk, xu_K hk, xu_K hk, xu_K hk]
    have hs : bRSc m1 (M1 1) := by
      unfold bRSc
      rw [g2 7 (by omega) (by omega) (by omega) (by omega), g8, g2 9 (by omega) (by omega) (by omega) (by omega), g2 10 (by omega) (by omega) (by omega) (by omega), g11, g12, g13, g2 14 (by omega) (by omega) (by omega) (by omega), g2 15 (by omega) (by omega) (by omega) (by omega), g2 16 (by omega) (by omega) (by omega) (by omega), g1 33 (by omega),
        G 0 (by omega) (by omega) (by omega) (by omega), G1, G 2 (by omega) (by omega) (by omega) (by omega), G 3 (by omega) (by omega) (by omega) (by omega), G4, G5, G6, G 7 (by omega) (by omega) (by omega) (by omega), G 8 (by omega) (by omega) (by omega) (by omega), G 9 (by omega) (by omega) (by omega) (by omega)]
      exact ⟨s0, rfl, s2, s3, s4, s5, fun _ => ⟨⟨rfl, rfl, rfl⟩, by omega, by omega⟩, fun h => by omega, by omega, s9, s10⟩
    exact ⟨m1, M1, rfl, rfl, hh.sc (by omega) g1 (fun i a b c => G i (by omega) (by omega) (by omega) (by omega)) hs, hB.sc g1 (g2 7 (by omega) (by omega) (by omega) (by omega)) ⟨by omega, by omega⟩ (fun _ => w), by rw [G 20 (by omega) (by omega) (by omega) (by omega), g1 23 (by omega), h20], by omega, ⟨g2 7 (by omega) (by omega) (by omega) (by omega), fun k hk => g1 k (by omega)⟩, GK⟩

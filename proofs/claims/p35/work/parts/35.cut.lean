abbrev bT1 : List Nat := [1, 2, 3, 4, 5, 6, 7, 8, 9, 10, 11]
abbrev bT2 : List Nat := [12, 13, 14, 15, 16, 17, 18, 19, 20, 21, 22]
theorem b_11 {P : Nat → Prop} (h0 : P 0) (h1 : P 1) (h2 : P 2) (h3 : P 3) (h4 : P 4) (h5 : P 5) (h6 : P 6) (h7 : P 7) (h8 : P 8) (h9 : P 9) (h10 : P 10) : ∀ i, i ≤ 10 → P i := fun i hi => by
  rcases (by omega : i = 0 ∨ i = 1 ∨ i = 2 ∨ i = 3 ∨ i = 4 ∨ i = 5 ∨ i = 6 ∨ i = 7 ∨ i = 8 ∨ i = 9 ∨ i = 10) with rfl | rfl | rfl | rfl | rfl | rfl | rfl | rfl | rfl | rfl | rfl <;> assumption
theorem bg1 (m q : xM) : ∀ i, i ≤ 10 → xmg bT1 11 m q (1 + i) = q i := b_11 rfl rfl rfl rfl rfl rfl rfl rfl rfl rfl rfl
theorem bg2 (m q : xM) : ∀ i, i ≤ 10 → xmg bT2 11 m q (12 + i) = q i := b_11 rfl rfl rfl rfl rfl rfl rfl rfl rfl rfl rfl
theorem bv1 (m : xM) : ∀ i, i ≤ 10 → xvw bT1 m i = m (1 + i) := b_11 rfl rfl rfl rfl rfl rfl rfl rfl rfl rfl rfl
theorem bv2 (m : xM) : ∀ i, i ≤ 10 → xvw bT2 m i = m (12 + i) := b_11 rfl rfl rfl rfl rfl rfl rfl rfl rfl rfl rfl
theorem bg1n (m q : xM) {k : Nat} (h : k < 1 ∨ 11 < k) : xmg bT1 11 m q k = m k := xmg_no _ _ (xpos_not (by
  intro e
  rw [show bT1.take 11 = bT1 from rfl] at e
  simp only [bT1, List.mem_cons, List.not_mem_nil, or_false] at e
  omega))
theorem bg2n (m q : xM) {k : Nat} (h : k < 12 ∨ 22 < k) : xmg bT2 11 m q k = m k := xmg_no _ _ (xpos_not (by
  intro e
  rw [show bT2.take 11 = bT2 from rfl] at e
  simp only [bT2, List.mem_cons, List.not_mem_nil, or_false] at e
  omega))
theorem hang_17 (n : Nat) (M : xM) : f_m_hang_17 (n + 3) 0 M = f_m_hang_50 (xu (xu (xu (xu M 1 56 0) 1 57 0) 1 773 0) 1 774 0) := by
  rw [f_m_hang_17, if_pos (by rw [b_xw (by omega), b_xw (by omega)]; omega), m_endAt (i := 56) _ (by omega), b_bs, if_pos (b_ib (by omega)), b_ix (by omega), Int.toNat_natCast, m_endAt (i := 57) _ (by omega), b_bs, if_pos (b_ib (by omega)), b_ix (by omega), Int.toNat_natCast,
    f_m_hang_17, if_pos (by rw [b_xw (by omega), b_xw (by omega)]; omega), m_endAt (i := 773) _ (by omega), b_bs, if_pos (b_ib (by omega)), b_ix (by omega), Int.toNat_natCast, m_endAt (i := 774) _ (by omega), b_bs, if_pos (b_ib (by omega)), b_ix (by omega), Int.toNat_natCast,
    f_m_hang_17, if_neg (by rw [b_xw (by omega), b_xw (by omega)]; omega)]
/-- what a cut leaves, of the class's line alone -/
def bCut (m m' : xM) : Prop := (m' 0 8 = 0 ∧ ∀ j, j ≠ 8 → m' 0 j = m 0 j) ∧ m' 23 5 = 0 ∧ (m' 1 5 = 0 ∧ m' 12 5 = 0 ∧ (∀ j, j ≠ 5 → m' 1 j = m 1 j) ∧ ∀ j, j ≠ 5 → m' 12 j = m 12 j) ∧ (m' 4 3 = m 4 3 + m 4 4 ∧ m' 4 4 = 0 ∧ m' 4 5 = 0) ∧ (m' 15 3 = m 15 3 + m 15 4 ∧ m' 15 4 = 0 ∧ m' 15 5 = 0) ∧ (∀ j, j ≠ 7 → m' 30 j = m 30 j) ∧ ∀ k, k ≠ 0 → k ≠ 1 → k ≠ 12 → k ≠ 4 → k ≠ 15 → k ≠ 23 → k ≠ 28 → k ≠ 29 → k ≠ 30 → m' k = m k
/-- hanging up -/
theorem L_cut_sp (m M : xM) (h : bRL 0 m (M 1)) : ∃ m' M' : xM, f_L_cut m = some m' ∧ f_m_hang M = some M' ∧ bRL 0 m' (M' 1) ∧ bCut m m' ∧ M' 1 20 = 0 ∧ ∀ k, k ≠ 1 → M' k = M k := by
  obtain ⟨r1, r2, r3, r4, r5, r6⟩ := h
  have hsc := r6
  obtain ⟨s0, s1, s2, s3, s4, s5, s6, s7, s8, s9, s10⟩ := r6
  -- the reference's numbers ahead of the event
  obtain ⟨M3, hM3⟩ : ∃ Z, Z = xu (xu (xu (xu (xu (xu (xu M 1 1 0) 1 20 0) 1 56 0) 1 57 0) 1 773 0) 1 774 0) 1 52 (M 1 52 + 1) := ⟨_, rfl⟩
  have hN : ∀ i, i ≠ 1 → i ≠ 20 → i ≠ 56 → i ≠ 57 → i ≠ 773 → i ≠ 774 → i ≠ 52 → M3 1 i = M 1 i := fun i h1 h2 h3 h4 h5 h6 h7 => by
    rw [hM3, xu_d h7, xu_d h6, xu_d h5, xu_d h4, xu_d h3, xu_d h2, xu_d h1]
  have n1 : M3 1 1 = 0 := by rw [hM3, xu_d (by omega), xu_d (by omega), xu_d (by omega), xu_d (by omega), xu_d (by omega), xu_d (by omega), xu_s rfl]
  have n20 : M3 1 20 = 0 := by rw [hM3, xu_d (by omega), xu_d (by omega), xu_d (by omega), xu_d (by omega), xu_d (by omega), xu_s rfl]
  have n56 : M3 1 56 = 0 := by rw [hM3, xu_d (by omega), xu_d (by omega), xu_d (by omega), xu_d (by omega), xu_s rfl]
  have n57 : M3 1 57 = 0 := by rw [hM3, xu_d (by omega), xu_d (by omega), xu_d (by omega), xu_s rfl]
  have n773 : M3 1 773 = 0 := by rw [hM3, xu_d (by omega), xu_d (by omega), xu_s rfl]
  have n774 : M3 1 774 = 0 := by rw [hM3, xu_d (by omega), xu_s rfl]
  have n52 : M3 1 52 = M 1 52 + 1 := by rw [hM3, xu_s rfl]
  have hK : ∀ k, k ≠ 1 → M3 k = M k := fun k hk => by rw [hM3, xu_K hk, xu_K hk, xu_K hk, xu_K hk, xu_K hk, xu_K hk, xu_K hk]
  have eM : f_m_hang M = (f_m_tellEvent 5 (-1) M3).bind fun q0 => some q0 := by
    unfold f_m_hang
    rw [if_pos (b_ib (by omega)), if_pos (b_ib (by omega)), show fu = 4997 + 3 from rfl, hang_17]
    unfold f_m_hang_50
    rw [if_pos (b_ib (by omega)), if_pos (b_ib (by omega)), xu_d (by omega), xu_d (by omega), xu_d (by omega), xu_d (by omega), xu_d (by omega), xu_d (by omega), ← hM3]
  -- the class's ends
  obtain ⟨q0, e1, e2, e3, e4, e5, e6, e7, e8⟩ := RE_lose (xvw bT1 (xu m 0 8 0)) 56 (M 1) (M3 1) (r1.tr (k' := 0) (fun i hi => by rw [Nat.zero_add, bv1 _ i hi, xu_K (by omega)])) n56 n57 (fun i h1 h2 h3 h4 => hN i (by omega) (by omega) (by omega) (by omega) (by omega) (by omega) (by omega))
  obtain ⟨q1, f1, f2, f3, f4, f5, f6, f7, f8⟩ := RE_lose (xvw bT2 (xmg bT1 11 (xu m 0 8 0) q0)) 773 (M 1) (M3 1) (r2.tr (k' := 0) (fun i hi => by rw [Nat.zero_add, bv2 _ i hi, bg1n _ _ (by omega), xu_K (by omega)])) n773 n774 (fun i h1 h2 h3 h4 => hN i (by omega) (by omega) (by omega) (by omega) (by omega) (by omega) (by omega))
  obtain ⟨m2, hm2⟩ : ∃ Z, Z = xmg bT2 11 (xmg bT1 11 (xu m 0 8 0) q0) q1 := ⟨_, rfl⟩
  have a1 : ∀ i, i ≤ 10 → m2 (1 + i) = q0 i := fun i hi => by rw [hm2, bg2n _ _ (by omega), bg1 _ _ i hi]
  have a2 : ∀ i, i ≤ 10 → m2 (12 + i) = q1 i := fun i hi => by rw [hm2, bg2 _ _ i hi]
  have a3 : ∀ k, k < 1 ∨ 22 < k → m2 k = xu m 0 8 0 k := fun k hk => by rw [hm2, bg2n _ _ (by omega), bg1n _ _ (by omega)]
  obtain ⟨m3, hm3⟩ : ∃ Z, Z = xu (xu m2 23 5 0) 30 7 (m2 30 7 + 1) := ⟨_, rfl⟩
  have c1 : ∀ k, k ≠ 23 → k ≠ 30 → m3 k = m2 k := fun k h1 h2 => by rw [hm3, xu_K h2, xu_K h1]
  have eC : f_L_cut m = (f_L_note 5 (-1) m3).bind fun q2 => some q2 := by
    unfold f_L_cut f_L_cut_19
    rw [e1, b_bs, f1, b_bs, if_pos (b_ib (by omega)), if_pos (b_ib (by omega)), ← hm2, ← hm3]
  have g8 : m3 0 8 = 0 := by rw [c1 0 (by omega) (by omega), a3 0 (by omega), xu_s rfl]
  have g0 : ∀ j, j ≠ 8 → m3 0 j = m 0 j := fun j hj => by rw [c1 0 (by omega) (by omega), a3 0 (by omega), xu_d hj]
  have gk : ∀ k, 23 < k → k ≠ 30 → m3 k = m k := fun k h1 h2 => by rw [c1 k (by omega) h2, a3 k (by omega), xu_K (by omega)]
  have g30 : ∀ j, j ≠ 7 → m3 30 j = m 30 j := fun j hj => by rw [hm3, xu_d hj, xu_K (by omega), a3 30 (by omega), xu_K (by omega)]
  have g307 : m3 30 7 = m 30 7 + 1 := by rw [hm3, xu_s rfl, a3 30 (by omega), xu_K (by omega)]
  obtain ⟨m', M', p1, p2, p3, p4, p5, p6⟩ := L_note 5 (-1) m3 M3 (r3.cg (gk 28 (by omega) (by omega)) (gk 29 (by omega) (by omega)) (hN 10 (by omega) (by omega) (by omega) (by omega) (by omega) (by omega) (by omega)) (fun i h1 h2 => hN i (by omega) (by omega) (by omega) (by omega) (by omega) (by omega) (by omega)))
    (by rw [hN 0 (by omega) (by omega) (by omega) (by omega) (by omega) (by omega) (by omega), g0 7 (by omega), s0]) (by rw [n1, g8]) (by rw [hN 3 (by omega) (by omega) (by omega) (by omega) (by omega) (by omega) (by omega), g0 10 (by omega), s3]) (by omega)
  have d1 : ∀ i, i ≤ 10 → m' (1 + i) = q0 i := fun i hi => by rw [p4 _ (by omega) (by omega), c1 _ (by omega) (by omega), a1 i hi]
  have d2 : ∀ i, i ≤ 10 → m' (12 + i) = q1 i := fun i hi => by rw [p4 _ (by omega) (by omega), c1 _ (by omega) (by omega), a2 i hi]
  have v1 : ∀ i, i ≤ 10 → xvw bT1 (xu m 0 8 0) i = m (1 + i) := fun i hi => by rw [bv1 _ i hi, xu_K (by omega)]
  have v2 : ∀ i, i ≤ 10 → xvw bT2 (xmg bT1 11 (xu m 0 8 0) q0) i = m (12 + i) := fun i hi => by rw [bv2 _ i hi, bg1n _ _ (by omega), xu_K (by omega)]
  refine ⟨m', M', by rw [eC, p1, b_bs], by rw [eM, p2, b_bs], ⟨?_, ?_, p3, ?_, ?_, ?_⟩, ⟨⟨?_, fun j hj => ?_⟩, ?_, ⟨?_, ?_, fun j hj => ?_, fun j hj => ?_⟩, ⟨?_, ?_, ?_⟩, ⟨?_, ?_, ?_⟩, fun j hj => ?_, fun k h0 h1 h12 h4 h15 h23 h28 h29 h30 => ?_⟩, ?_, fun k hk => by rw [p6 k hk, hK k hk]⟩
  · exact (e2.tr (k' := 1) (m' := m') (fun i hi => by rw [d1 i hi, Nat.zero_add])).cg (fun _ _ _ => rfl) (fun i h1 h2 => p5 i (by omega) (by omega))
  · exact (f2.tr (k' := 12) (m' := m') (fun i hi => by rw [d2 i hi, Nat.zero_add])).cg (fun _ _ _ => rfl) (fun i h1 h2 => p5 i (by omega) (by omega))
  · exact r4.up (j := 7) rfl (fun w hw => by rw [p4 30 (by omega) (by omega), g30 w hw]) (by rw [p5 _ (by omega) (by omega), n52, p4 30 (by omega) (by omega), g307, r4 7 (by omega)]) (fun i h1 h2 h3 => by rw [p5 i (by omega) (by omega), hN i (by omega) (by omega) (by omega) (by omega) (by omega) (by omega) (by omega)])
  · exact r5.cg (fun k h1 h2 => by rw [p4 k (by omega) (by omega), gk k (by omega) (by omega)]) (fun i h1 h2 h3 => by rw [p5 i (by omega) (by omega), hN i (by omega) (by omega) (by omega) (by omega) (by omega) (by omega) (by omega)])
  · have z0 : ∀ j, j ≠ 8 → m' 0 j = m 0 j := fun j hj => by rw [p4 0 (by omega) (by omega), g0 j hj]
    have z8 : m' 0 8 = 0 := by rw [p4 0 (by omega) (by omega), g8]
    have zN : ∀ i, i < 10 → i ≠ 1 → M' 1 i = M 1 i := fun i h1 h2 => by rw [p5 i (by omega) (by omega), hN i (by omega) (by omega) (by omega) (by omega) (by omega) (by omega) (by omega)]
    have z33 : m' 33 = m 33 := by rw [p4 33 (by omega) (by omega), gk 33 (by omega) (by omega)]
    unfold bRSc
    rw [z8, z0 7 (by omega), z0 9 (by omega), z0 10 (by omega), z0 11 (by omega), z0 12 (by omega), z0 13 (by omega), z0 14 (by omega), z0 15 (by omega), z0 16 (by omega), zN 0 (by omega) (by omega), zN 2 (by omega) (by omega), zN 3 (by omega) (by omega), zN 8 (by omega) (by omega), zN 9 (by omega) (by omega), z33, p5 1 (by omega) (by omega), n1]
    exact ⟨s0, rfl, s2, s3, s4, s5, fun h => by omega, fun h => by omega, by omega, s9, s10⟩
  · rw [p4 0 (by omega) (by omega), g8]
  · rw [p4 0 (by omega) (by omega), g0 j hj]
  · rw [p4 23 (by omega) (by omega), hm3, xu_k (by omega), xu_s rfl]
  · rw [d1 0 (by omega), e3]
  · rw [d2 0 (by omega), f3]
  · rw [d1 0 (by omega), e4 j hj, v1 0 (by omega)]
  · rw [d2 0 (by omega), f4 j hj, v2 0 (by omega)]
  · rw [d1 3 (by omega), e5, v1 3 (by omega)]
  · rw [d1 3 (by omega), e6]
  · rw [d1 3 (by omega), e7]
  · rw [d2 3 (by omega), f5, v2 3 (by omega)]
  · rw [d2 3 (by omega), f6]
  · rw [d2 3 (by omega), f7]
  · rw [p4 30 (by omega) (by omega), g30 j hj]
  · rw [p4 k h28 h29]
    by_cases hk1 : k ≤ 11
    · obtain ⟨i, rfl⟩ : ∃ i, k = 1 + i := ⟨k - 1, by omega⟩
      rw [c1 _ h23 h30, a1 i (by omega), e8 i (by omega) (by omega), v1 i (by omega)]
    · by_cases hk2 : k ≤ 22
      · obtain ⟨i, rfl⟩ : ∃ i, k = 12 + i := ⟨k - 12, by omega⟩
        rw [c1 _ h23 h30, a2 i (by omega), f8 i (by omega) (by omega), v2 i (by omega)]
      · exact gk k (by omega) h30
  · rw [p5 20 (by omega) (by omega), n20]

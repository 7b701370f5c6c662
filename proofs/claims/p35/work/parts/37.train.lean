/-! ===== training, loss, and the bounds that hold at every tick ===== -/
theorem bRL.sc {e : Nat} {m m' : xM} {N N' : Nat → Int} (h : bRL e m N) (he : e < 2) (hm : ∀ k, k ≠ 0 → m' k = m k) (hN : ∀ i, 10 ≤ i → i < 1730 → i ≠ 20 → N' i = N i) (hs : bRSc m' N') : bRL e m' N' := by
  obtain ⟨r1, r2, r3, r4, r5, -⟩ := h
  exact ⟨r1.cg (fun i h1 h2 => hm i (by omega)) (fun i h1 h2 => hN i (by omega) (by omega) (by omega)), r2.cg (fun i h1 h2 => hm i (by omega)) (fun i h1 h2 => hN i (by omega) (by omega) (by omega)), r3.cg (hm _ (by omega)) (hm _ (by omega)) (hN _ (by omega) (by omega) (by omega)) (fun i h1 h2 => hN i (by omega) (by omega) (by omega)), r4.cg (hm _ (by omega)) (fun i h1 h2 => hN i (by omega) (by omega) (by omega)), r5.cg (fun k h1 h2 => hm k (by omega)) (fun i h1 h2 h3 => hN i (by omega) (by omega) h3), hs⟩
/-- the bounds of a direction: sender k with frames kf, receiver kx -/
def bBe (k kf kx : Nat) (m : xM) : Prop := m kf 3 + m kf 4 ≤ 7 * m 0 7 ∧ 0 ≤ m kx 7 ∧ m kx 7 ≤ m kf 3 + m kf 4 ∧ (m 0 8 ≠ 0 → m kf 3 ≤ m kx 7) ∧ (m 0 8 = 0 → m kf 4 = 0 ∧ m k 5 = 0) ∧ m k 6 ≤ 512 * m 0 7 ∧ 0 ≤ m k 8 ∧ m k 8 ≤ 108
def bB (m : xM) : Prop := (0 ≤ m 0 7 ∧ m 0 7 ≤ 1000000) ∧ (0 ≤ m 30 0 ∧ m 30 0 ≤ 14 * m 0 7) ∧ bBe 1 4 12 m ∧ bBe 12 15 1 m ∧ (m 0 8 ≠ 2 → m 23 5 = 0)
theorem bB.cut {m m' : xM} (h : bB m) (hc : bCut m m') : bB m' := by
  obtain ⟨⟨t1, t2⟩, ⟨s1, s2⟩, ⟨a1, a2, a3, a4, a5, a6, a7, a8⟩, ⟨b1, b2, b3, b4, b5, b6, b7, b8⟩, w⟩ := h
  obtain ⟨⟨p1, p2⟩, p3, ⟨p4, p5, p6, p7⟩, ⟨p8, p9, p10⟩, ⟨p11, p12, p13⟩, p14, p15⟩ := hc
  unfold bB bBe
  rw [p2 7 (by omega), p1, p14 0 (by omega), p8, p9, p11, p12, p6 7 (by omega), p7 7 (by omega), p6 6 (by omega), p7 6 (by omega), p6 8 (by omega), p7 8 (by omega), p3, p4, p5]
  exact ⟨⟨t1, t2⟩, ⟨s1, s2⟩, ⟨by omega, a2, by omega, fun h => absurd rfl h, fun _ => ⟨rfl, rfl⟩, a6, a7, a8⟩, ⟨by omega, b2, by omega, fun h => absurd rfl h, fun _ => ⟨rfl, rfl⟩, b6, b7, b8⟩, fun _ => rfl⟩
/-- bounds that a change of the line's own numbers leaves -/
theorem bB.sc {m m' : xM} (h : bB m) (hm : ∀ k, k ≠ 0 → m' k = m k) (h7 : m' 0 7 = m 0 7) (h8 : (m 0 8 ≠ 0 ∧ m' 0 8 ≠ 0)) (hw : m' 0 8 ≠ 2 → m 23 5 = 0) : bB m' := by
  obtain ⟨⟨t1, t2⟩, ⟨s1, s2⟩, ⟨a1, a2, a3, a4, a5, a6, a7, a8⟩, ⟨b1, b2, b3, b4, b5, b6, b7, b8⟩, w⟩ := h
  unfold bB bBe
  rw [h7, hm 30 (by omega), hm 4 (by omega), hm 12 (by omega), hm 1 (by omega), hm 15 (by omega), hm 23 (by omega)]
  exact ⟨⟨t1, t2⟩, ⟨s1, s2⟩, ⟨a1, a2, a3, fun _ => a4 h8.1, fun h => absurd h h8.2, a6, a7, a8⟩, ⟨b1, b2, b3, fun _ => b4 h8.1, fun h => absurd h h8.2, b6, b7, b8⟩, hw⟩
/-- what holds where a line has just come online -/
def bFresh (m : xM) : Prop := m 23 5 = 0 ∧ m 4 5 = 0 ∧ m 15 5 = 0 ∧ m 4 3 = m 12 7 ∧ m 15 3 = m 1 7
theorem L_beginStep (z : Nat) (m : xM) (N : Nat → Int) (hz : z < 4) (h : bRP m N) : f_L_beginStep (z : Int) m = some (xu (xu m 0 11 z) 0 12 (m 36 z)) := by
  have hv : xvw bT5 (xu m 0 11 z) 3 = m 36 := rfl
  unfold f_L_beginStep f_S_step
  rw [if_neg (by rw [b_xw (by omega)]; omega), if_pos (by rw [b_xw (by omega), b_xw (by omega)]; omega), if_pos (b_ib (by omega)), b_ix (by omega), Int.toNat_natCast, hv, b_bs]
/-- coming online, or a hang-up where no rate will do -/
theorem L_comeOnline_sp (m M : xM) (h : bRL 0 m (M 1)) (hB : bB m) (h1 : m 0 8 = 1) (h20 : M 1 20 = m 23 5) : ∃ m' M' : xM, f_L_comeOnline m = some m' ∧ f_m_comeOnline M = some M' ∧ bRL 0 m' (M' 1) ∧ bB m' ∧ M' 1 20 = m' 23 5 ∧ (m' 0 8 = 2 → bFresh m') ∧ (m' 0 7 = m 0 7 ∧ (m' 0 8 = 0 ∨ m' 0 8 = 2) ∧ ∀ k, 33 ≤ k → m' k = m k) ∧ ∀ k, k ≠ 1 → M' k = M k := by
  have hh := h
  obtain ⟨r1, r2, r3, r4, r5, r6⟩ := h
  obtain ⟨s0, s1, s2, s3, s4, s5, s6, s7, s8, s9, s10⟩ := r6
  obtain ⟨g, g1, g2, g3, g4⟩ := L_greatest (m 0 9) m M r5
  unfold f_L_comeOnline f_m_comeOnline
  rw [g1, b_bs, if_pos (b_ib (by omega)), s2, g2, b_bs]
  have hg5 : g < 5 := by
    obtain ⟨⟨-, -, a3⟩, -⟩ := r5
    omega
  by_cases hg : g = -1
  · obtain ⟨m', M', p1, p2, p3, p4, p5, p6⟩ := L_cut_sp m M hh
    rw [if_pos (by rw [b_xw (by omega), b_xw (by omega)]; exact hg), if_pos (by rw [b_xw (by omega), b_xw (by omega)]; exact hg), p1, p2, b_bs, b_bs]
    obtain ⟨⟨c1, c2⟩, c3, -, -, -, -, c4⟩ := id p4
    exact ⟨m', M', rfl, rfl, p3, hB.cut p4, by rw [p5, c3], fun h => by omega, ⟨c2 7 (by omega), Or.inl c1, fun k hk => c4 k (by omega) (by omega) (by omega) (by omega) (by omega) (by omega) (by omega) (by omega) (by omega)⟩, p6⟩
  · have hng : ¬ xw g = xw (-1) := by rw [b_xw (by omega), b_xw (by omega)]; exact hg
    rw [if_neg hng, if_neg hng, if_pos (b_ib (by omega)), if_pos (b_ib (by omega)), if_pos (b_ib (by omega)), if_pos (b_ib (by omega)), if_pos (b_ib (by omega))]
    obtain ⟨M1, hM1⟩ : ∃ Z, Z = xu (xu (xu (xu (xu M 1 1 2) 1 3 g) 1 8 0) 1 9 0) 1 20 0 := ⟨_, rfl⟩
    have hN : ∀ i, i ≠ 1 → i ≠ 3 → i ≠ 8 → i ≠ 9 → i ≠ 20 → M1 1 i = M 1 i := fun i h1 h2 h3 h4 h5 => by rw [hM1, xu_d h5, xu_d h4, xu_d h3, xu_d h2, xu_d h1]
    have hK : ∀ k, k ≠ 1 → M1 k = M k := fun k hk => by rw [hM1, xu_K hk, xu_K hk, xu_K hk, xu_K hk, xu_K hk]
    have n1 : M1 1 1 = 2 := by rw [hM1, xu_d (by omega), xu_d (by omega), xu_d (by omega), xu_d (by omega), xu_s rfl]
    have n3 : M1 1 3 = g := by rw [hM1, xu_d (by omega), xu_d (by omega), xu_d (by omega), xu_s rfl]
    have n8 : M1 1 8 = 0 := by rw [hM1, xu_d (by omega), xu_d (by omega), xu_s rfl]
    have n9 : M1 1 9 = 0 := by rw [hM1, xu_d (by omega), xu_s rfl]
    have n20 : M1 1 20 = 0 := by rw [hM1, xu_s rfl]
    rw [← hM1]
    obtain ⟨m1, hm1⟩ : ∃ Z, Z = xu (xu (xu (xu m 0 8 2) 0 10 g) 0 15 0) 0 16 0 := ⟨_, rfl⟩
    rw [← hm1]
    have k1 : ∀ k, k ≠ 0 → m1 k = m k := fun k hk => by rw [hm1, xu_K hk, xu_K hk, xu_K hk, xu_K hk]
    have j1 : ∀ j, j ≠ 8 → j ≠ 10 → j ≠ 15 → j ≠ 16 → m1 0 j = m 0 j := fun j h1 h2 h3 h4 => by rw [hm1, xu_d h4, xu_d h3, xu_d h2, xu_d h1]
    have j8 : m1 0 8 = 2 := by rw [hm1, xu_d (by omega), xu_d (by omega), xu_d (by omega), xu_s rfl]
    have j10 : m1 0 10 = g := by rw [hm1, xu_d (by omega), xu_d (by omega), xu_s rfl]
    have j15 : m1 0 15 = 0 := by rw [hm1, xu_d (by omega), xu_s rfl]
    have j16 : m1 0 16 = 0 := by rw [hm1, xu_s rfl]
    obtain ⟨⟨t1, t2⟩, ⟨u1, u2⟩, ⟨a1, a2, a3, a4, a5, a6, a7, a8⟩, ⟨b1, b2, b3, b4, b5, b6, b7, b8⟩, w⟩ := hB
    have x12 : M1 1 (56 + 717 * (1 - 0) + 3) = m 12 7 := by rw [hN _ (by omega) (by omega) (by omega) (by omega) (by omega)]; exact r2.2.2.2.2.2.1
    have x1 : M1 1 (56 + 717 * 0 + 3) = m 1 7 := by rw [hN _ (by omega) (by omega) (by omega) (by omega) (by omega)]; exact r1.2.2.2.2.2.1
    obtain ⟨q0, M2, e1, e2, e3, ⟨e4, e5, e6⟩, ⟨e7, e8, e9, e10⟩, e11, e12, e13⟩ := RE_online (xvw bT1 m1) M1 0 56 (m 12 7) (by omega) (by omega)
      ((r1.tr (k' := 0) (m' := xvw bT1 m1) (fun i hi => by rw [Nat.zero_add, bv1 _ i hi, k1 _ (by omega)])).cg (fun _ _ _ => rfl) (fun i h1 h2 => hN i (by omega) (by omega) (by omega) (by omega) (by omega))) x12 (by omega)
    have v1 : ∀ i, i ≤ 10 → xvw bT1 m1 i = m (1 + i) := fun i hi => by rw [bv1 _ i hi, k1 _ (by omega)]
    rw [v1 3 (by omega), show 1 + 3 = 4 from rfl] at e4 e5
    obtain ⟨m2, hm2⟩ : ∃ Z, Z = xmg bT1 11 m1 q0 := ⟨_, rfl⟩
    have k2 : ∀ i, i ≤ 10 → m2 (1 + i) = q0 i := fun i hi => by rw [hm2, bg1 _ _ i hi]
    have k2n : ∀ k, k < 1 ∨ 11 < k → m2 k = m1 k := fun k hk => by rw [hm2, bg1n _ _ hk]
    have m17 : m2 1 7 = m 1 7 := by rw [k2 0 (by omega), e10 7 (by omega), v1 0 (by omega)]
    obtain ⟨q1, M3, f1, f2, f3, ⟨f4, f5, f6⟩, ⟨f7, f8, f9, f10⟩, f11, f12, f13⟩ := RE_online (xvw bT2 m2) M2 1 773 (m 1 7) (by omega) (by omega)
      ((r2.tr (k' := 0) (m' := xvw bT2 m2) (fun i hi => by rw [Nat.zero_add, bv2 _ i hi, k2n _ (by omega), k1 _ (by omega)])).cg (fun _ _ _ => rfl) (fun i h1 h2 => by rw [e12 i (by omega), hN i (by omega) (by omega) (by omega) (by omega) (by omega)]))
      (by
        show M2 1 (56 + 717 * 0 + 3) = m 1 7
        rw [← v1 0 (by omega), ← e10 7 (by omega)]
        exact e3.2.2.2.2.2.1) (by omega)
    have v2 : ∀ i, i ≤ 10 → xvw bT2 m2 i = m (12 + i) := fun i hi => by rw [bv2 _ i hi, k2n _ (by omega), k1 _ (by omega)]
    rw [v2 3 (by omega), show 12 + 3 = 15 from rfl] at f4 f5
    obtain ⟨m3, hm3⟩ : ∃ Z, Z = xmg bT2 11 m2 q1 := ⟨_, rfl⟩
    have k3 : ∀ i, i ≤ 10 → m3 (12 + i) = q1 i := fun i hi => by rw [hm3, bg2 _ _ i hi]
    have k3n : ∀ k, k < 12 ∨ 22 < k → m3 k = m2 k := fun k hk => by rw [hm3, bg2n _ _ hk]
    obtain ⟨m4, hm4⟩ : ∃ Z, Z = xu m3 30 8 (m3 30 8 + 1) := ⟨_, rfl⟩
    obtain ⟨M4, hM4⟩ : ∃ Z, Z = xu M3 1 53 (M3 1 53 + 1) := ⟨_, rfl⟩
    have k4 : ∀ k, k ≠ 30 → m4 k = m3 k := fun k hk => by rw [hm4, xu_K hk]
    have kN : ∀ i, i ≠ 53 → (i < 56 ∨ 1490 ≤ i) → M4 1 i = M1 1 i := fun i h1 h2 => by rw [hM4, xu_d h1, f12 i (by omega), e12 i (by omega)]
    have kK : ∀ k, k ≠ 1 → M4 k = M k := fun k hk => by rw [hM4, xu_K hk, f13 k hk, e13 k hk, hK k hk]
    have k40 : m4 0 = m1 0 := by rw [k4 0 (by omega), k3n 0 (by omega), k2n 0 (by omega)]
    have k4h : ∀ k, 22 < k → k ≠ 30 → m4 k = m k := fun k h1 h2 => by rw [k4 k h2, k3n k (by omega), k2n k (by omega), k1 k (by omega)]
    have eC : (f_E_online (m 12 7) (xvw bT1 m1)).bind (fun q1 => f_L_comeOnline_56 (xmg bT1 11 m1 q1)) = f_L_comeOnline_81 m4 := by
      rw [e1, b_bs, ← hm2]
      unfold f_L_comeOnline_56
      rw [m17, f1, b_bs, if_pos (b_ib (by omega)), if_pos (b_ib (by omega)), ← hm3, ← hm4]
    have eM : f_m_comeOnline_61 fu 0 M1 = (f_m_tellEvent 1 (-1) M4).bind fun q1 => some q1 := by
      have e2' : f_m_beginAgain 0 M1 = some M2 := e2
      have f2' : f_m_beginAgain (0 + 1) M2 = some M3 := f2
      rw [show fu = 4997 + 3 from rfl, f_m_comeOnline_61, if_pos (by rw [b_xw (by omega), b_xw (by omega)]; omega), e2', b_bs, f_m_comeOnline_61, if_pos (by rw [b_xw (by omega), b_xw (by omega)]; omega), f2', b_bs, f_m_comeOnline_61, if_neg (by rw [b_xw (by omega), b_xw (by omega)]; omega)]
      unfold f_m_comeOnline_77
      rw [if_pos (b_ib (by omega)), if_pos (b_ib (by omega)), ← hM4]
    have N4 : ∀ i, i < 56 → i ≠ 1 → i ≠ 3 → i ≠ 8 → i ≠ 9 → i ≠ 20 → i ≠ 53 → M4 1 i = M 1 i := fun i h h1 h3 h8 h9 h20 h53 => by rw [kN i h53 (by omega), hN i h1 h3 h8 h9 h20]
    obtain ⟨m5, M5, p1, p2, p3, p4, p5, p6⟩ := L_note 1 (-1) m4 M4 (r3.cg (k4h 28 (by omega) (by omega)) (k4h 29 (by omega) (by omega)) (N4 10 (by omega) (by omega) (by omega) (by omega) (by omega) (by omega) (by omega)) (fun i h1 h2 => by rw [kN i (by omega) (by omega), hN i (by omega) (by omega) (by omega) (by omega) (by omega)]))
      (by rw [N4 0 (by omega) (by omega) (by omega) (by omega) (by omega) (by omega) (by omega), k40, j1 7 (by omega) (by omega) (by omega) (by omega), s0]) (by rw [kN 1 (by omega) (by omega), n1, k40, j8]) (by rw [kN 3 (by omega) (by omega), n3, k40, j10]) (by rw [k40, j8]; omega)
    have d1 : ∀ i, i ≤ 10 → m5 (1 + i) = q0 i := fun i hi => by rw [p4 _ (by omega) (by omega), k4 _ (by omega), k3n _ (by omega), k2 i hi]
    have d2 : ∀ i, i ≤ 10 → m5 (12 + i) = q1 i := fun i hi => by rw [p4 _ (by omega) (by omega), k4 _ (by omega), k3 i hi]
    have d0 : m5 0 = m1 0 := by rw [p4 0 (by omega) (by omega), k40]
    have dh : ∀ k, 22 < k → k ≠ 28 → k ≠ 29 → k ≠ 30 → m5 k = m k := fun k h1 h2 h3 h4 => by rw [p4 k h2 h3, k4h k h1 h4]
    have n53 : M4 1 53 = M 1 53 + 1 := by rw [hM4, xu_s rfl, f12 53 (by omega), e12 53 (by omega), hN 53 (by omega) (by omega) (by omega) (by omega) (by omega)]
    have t30 : ∀ j, j ≠ 8 → m5 30 j = m 30 j := fun j hj => by rw [p4 30 (by omega) (by omega), hm4, xu_d hj, k3n 30 (by omega), k2n 30 (by omega), k1 30 (by omega)]
    have t308 : m5 30 8 = m 30 8 + 1 := by rw [p4 30 (by omega) (by omega), hm4, xu_s rfl, k3n 30 (by omega), k2n 30 (by omega), k1 30 (by omega)]
    have dE1 : ∀ j, m5 1 j = q0 0 j := fun j => by rw [show (1 : Nat) = 1 + 0 from rfl, d1 0 (by omega)]
    have dE2 : ∀ j, m5 12 j = q1 0 j := fun j => by rw [show (12 : Nat) = 12 + 0 from rfl, d2 0 (by omega)]
    have dF1 : ∀ j, m5 4 j = q0 3 j := fun j => by rw [show (4 : Nat) = 1 + 3 from rfl, d1 3 (by omega)]
    have dF2 : ∀ j, m5 15 j = q1 3 j := fun j => by rw [show (15 : Nat) = 12 + 3 from rfl, d2 3 (by omega)]
    have w1 : ∀ j, xvw bT1 m1 0 j = m 1 j := fun j => by rw [v1 0 (by omega)]
    have w2 : ∀ j, xvw bT2 m2 0 j = m 12 j := fun j => by rw [v2 0 (by omega)]
    rw [eC, eM, p2, b_bs]
    unfold f_L_comeOnline_81
    rw [p1, b_bs]
    have hw23 : m5 23 = m 23 := dh 23 (by omega) (by omega) (by omega) (by omega)
    have w0 := w (by omega)
    refine ⟨m5, M5, rfl, rfl, ⟨?_, ?_, p3, ?_, ?_, ?_⟩, ?_, ?_, fun _ => ⟨?_, ?_, ?_, ?_, ?_⟩, ⟨?_, ?_, fun k hk => dh k (by omega) (by omega) (by omega) (by omega)⟩, fun k hk => by rw [p6 k hk, kK k hk]⟩
    · exact (e3.tr (k' := 1) (m' := m5) (fun i hi => by rw [d1 i hi, Nat.zero_add])).cg (fun _ _ _ => rfl) (fun i h1 h2 => by rw [p5 i (by omega) (by omega), hM4, xu_d (by omega), f12 i (by omega)])
    · exact (f3.tr (k' := 12) (m' := m5) (fun i hi => by rw [d2 i hi, Nat.zero_add])).cg (fun _ _ _ => rfl) (fun i h1 h2 => by rw [p5 i (by omega) (by omega), hM4, xu_d (by omega)])
    · exact r4.up (j := 8) t308 t30 (by rw [p5 _ (by omega) (by omega), n53, r4 8 (by omega)]) (fun i h1 h2 h3 => by rw [p5 i (by omega) (by omega), N4 i (by omega) (by omega) (by omega) (by omega) (by omega) (by omega) (by omega)])
    · exact r5.cg (fun k h1 h2 => dh k (by omega) (by omega) (by omega) (by omega)) (fun i h1 h2 h3 => by rw [p5 i (by omega) (by omega), N4 i (by omega) (by omega) (by omega) (by omega) (by omega) h3 (by omega)])
    · unfold bRSc
      rw [d0, j8, j10, j15, j16, j1 7 (by omega) (by omega) (by omega) (by omega), j1 9 (by omega) (by omega) (by omega) (by omega), dh 33 (by omega) (by omega) (by omega) (by omega), p5 0 (by omega) (by omega), p5 1 (by omega) (by omega), p5 2 (by omega) (by omega), p5 3 (by omega) (by omega), p5 8 (by omega) (by omega), p5 9 (by omega) (by omega),
        N4 0 (by omega) (by omega) (by omega) (by omega) (by omega) (by omega) (by omega), N4 2 (by omega) (by omega) (by omega) (by omega) (by omega) (by omega) (by omega), kN 1 (by omega) (by omega), kN 3 (by omega) (by omega), kN 8 (by omega) (by omega), kN 9 (by omega) (by omega), n1, n3, n8, n9]
      exact ⟨s0, rfl, s2, rfl, rfl, rfl, fun h => by omega, fun h => by omega, by omega, s9, by omega, g4⟩
    · unfold bB bBe
      rw [d0, j1 7 (by omega) (by omega) (by omega) (by omega), j8, t30 0 (by omega), dF1, dF1, dF2, dF2, dE1, dE1, dE1, dE1, dE2, dE2, dE2, dE2, hw23, e7, f7, e10 7 (by omega), f10 7 (by omega), e10 6 (by omega), f10 6 (by omega), w1, w1, w2, w2]
      refine ⟨⟨t1, t2⟩, ⟨u1, u2⟩, ⟨by omega, a2, by omega, fun _ => ?_, fun h => by omega, a6, by omega, by omega⟩, ⟨by omega, b2, by omega, fun _ => ?_, fun h => by omega, b6, by omega, by omega⟩, fun h => by omega⟩
      · have := a4 (by omega)
        rw [e5]; split <;> (try split) <;> omega
      · have := b4 (by omega)
        rw [f5]; split <;> (try split) <;> omega
    · rw [p5 20 (by omega) (by omega), kN 20 (by omega) (by omega), n20, hw23, w0]
    · rw [hw23, w0]
    · rw [dF1, e6]
    · rw [dF2, f6]
    · have := a4 (by omega)
      rw [dF1, dE2, f10 7 (by omega), w2, e5]; split <;> (try split) <;> omega
    · have := b4 (by omega)
      rw [dF2, dE1, e10 7 (by omega), w1, f5]; split <;> (try split) <;> omega
    · rw [d0, j1 7 (by omega) (by omega) (by omega) (by omega)]
    · rw [d0, j8]; exact Or.inr rfl

/-! ===== the frame that is expected arrives ===== -/
abbrev bT4 : List Nat := [23, 24, 25, 26, 27]
theorem L_take_sp (m m1 M : xM) (e f c : Nat) (lo hi : Int) (he : e < 2) (h : bRL e m (M 1)) (hw : bWire e m (M 1) lo hi f (c + 1)) (hc : c ≤ 60) (hm1 : ∀ k, k ≠ 23 → m1 k = m k) (hf1 : m1 23 4 = ((f % 64 + 1 : Nat) : Int)) (hc1 : m1 23 5 = c) (hs : m 25 (f % 64) = (e : Int)) (ht : m 27 (f % 64) ≠ 1)
    (hX : 0 ≤ m 12 7 ∧ m 12 7 ≤ 1000000000) (hr9 : m 12 6 ≤ 900000000) (htime : 0 ≤ m 0 7 ∧ lo ≤ m 0 7) (htick : m 24 (f % 64) + m 33 10 = m 0 7) (hn : ¬ (m 27 (f % 64) = 2 ∨ m 27 (f % 64) = 6)) (hn2 : m 26 (f % 64) = m 12 7) :
    ∃ m' M1 M' : xM, f_L_frame (e : Int) (m 26 (f % 64)) (m 27 (f % 64)) m1 = some m' ∧ f_m_arriveFrame 0 M = some M1 ∧ f_m_land 0 M1 = some M' ∧ bRL e m' (M' 1) ∧ bWire e m' (M' 1) lo hi (f % 64 + 1) (c + 1) ∧ bArr m m' ∧ bTk m m' f c (c + 1) ∧ (m' 12 7 = m 12 7 + 1 ∧ ∀ j, j ≠ 6 → j ≠ 7 → m' 12 j = m 12 j) ∧ ∀ k, k ≠ 1 → M' k = M k := by
  have hh := h
  obtain ⟨r1, r2, r3, r4, r5, r6⟩ := h
  obtain ⟨⟨v1, v2, v3, v4⟩, we, ws, d1, d2⟩ := hw
  have hs0 : bSq m 25 f 0 = (e : Int) := hs
  have ht0 : bSq m 27 f 0 ≠ 1 := ht
  obtain ⟨⟨-, -, e2, e3⟩, -, etr, -, e5⟩ := we 0 (by omega)
  obtain ⟨-, e6, e7, e8, -⟩ := e5 ht0
  obtain ⟨e8a, e8b⟩ := e8 hs0
  obtain ⟨a1, a2⟩ := d1.2.1 0 (by omega) hs0 ht0
  rw [show 1730 + 15 * 0 + 2 = 1732 from rfl, hs0] at e2
  rw [show 1730 + 15 * 0 + 3 = 1733 from rfl] at e3
  rw [show 1730 + 15 * 0 + 5 = 1735 from rfl] at e6
  rw [show 1730 + 15 * 0 + 6 = 1736 from rfl] at e7
  rw [show 1730 + 15 * 0 + 4 = 1734 from rfl] at e8a
  have etr' : m 27 (f % 64) = 0 ∨ m 27 (f % 64) = 1 ∨ m 27 (f % 64) = 2 ∨ m 27 (f % 64) = 4 ∨ m 27 (f % 64) = 6 := etr
  obtain ⟨z2, z4⟩ := (b_tr _ etr').2 ht
  have e6' : M 1 1735 = (if m 27 (f % 64) = 2 ∨ m 27 (f % 64) = 6 then 1 else 0) := e6
  have e7' : M 1 1736 = (if m 27 (f % 64) = 4 ∨ m 27 (f % 64) = 6 then 1 else 0) := e7
  have e3' : M 1 1733 = m 12 7 := (show M 1 1733 = m 26 (f % 64) from e3).trans hn2
  rw [if_neg hn] at e6'
  obtain ⟨F, C, S, b1, b2, b3, b4, b5, b6, b7, b8, b9⟩ := id r1.1
  rw [show (1 + 3 : Nat) = 4 from rfl] at b1 b2 b3
  have a1' : m 4 3 ≤ m 12 7 := d1.1.2.2.2.1
  have a2' : m 26 (f % 64) < m 4 3 + m 4 4 := a2
  obtain ⟨p0, hp0⟩ : ∃ p0 : Nat, m 12 7 = ((F + p0 : Nat) : Int) := ⟨(m 12 7 - F).toNat, by omega⟩
  have hpC : p0 < C := by omega
  obtain ⟨-, -, ⟨g1, g2⟩, -, -, -⟩ := b9 p0 hpC
  rw [show (1 + 3 + 2 : Nat) = 6 from rfl] at g1 g2
  obtain ⟨slot, hslot⟩ : ∃ s, s = (F + p0) % 7 := ⟨_, rfl⟩
  have hsl : slot < 7 := by omega
  rw [← hslot] at g1 g2
  obtain ⟨size, hsize⟩ : ∃ s : Nat, m 6 slot = (s : Int) := ⟨(m 6 slot).toNat, by omega⟩
  have hbn : (bSq m 26 f 0 % 7).toNat = slot := by
    show (m 26 (f % 64) % 7).toNat = slot
    rw [hn2, hp0]; omega
  rw [hbn, show (4 + 2 : Nat) = 6 from rfl, hsize] at e8a
  have e8c : ∀ j, j < size → M 1 (1737 + j) = m 5 (slot * 8 + j) := fun j hj => by
    have := e8b j (by omega) (by rw [hbn]; show (j : Int) < m 6 slot; omega)
    rw [hbn] at this
    exact this
  have hx : M 1 (56 + 717 * (1 - e) + 3) = m 12 7 := r2.2.2.2.2.2.1
  obtain ⟨o, ho⟩ : ∃ o, o = 56 + 717 * (1 - e) := ⟨_, rfl⟩
  rw [← ho] at r2 hx
  have hr : ((1 - e : Nat) : Int) = 1 - (e : Int) := by omega
  obtain ⟨s0, s1, s2, s3, s4, s5, s6, s7, s8, s9, s10⟩ := id r6
  have q23 : ∀ k, k ≠ 23 → k ≠ 21 → xu m1 21 1 0 k = m k := fun k y1 y2 => by rw [xu_K y2, hm1 k y1]
  -- both ahead of the bytes
  obtain ⟨mk, ma, Mb, i1, i2, i3, i4, i5, i6, i7, i8⟩ : ∃ (mk : Int) (ma Mb : xM), f_L_frame (e : Int) (m 26 (f % 64)) (m 27 (f % 64)) m1 = f_L_frame_120 (e : Int) (m 26 (f % 64)) (m 27 (f % 64)) fu mk (slot : Int) ((0 : Nat) : Int) ma ∧
      f_m_arriveFrame 0 M = f_m_arriveFrame_95 0 fu ((1 - e : Nat) : Int) (m 12 7) ((0 : Nat) : Int) Mb ∧ bRE 12 ma o (Mb 1) ∧ (∀ k, k ≠ 21 → ma k = m1 k) ∧ (∀ i, i ≠ 10 → i ≠ o + 8 → (i < 1490 ∨ 1730 ≤ i) → Mb 1 i = M 1 i) ∧ (∀ k, k ≠ 1 → Mb k = M k) ∧ (mk = 0 ∨ mk = 1) ∧
      ∀ m5 : xM, m5 28 = m 28 → m5 29 = m 29 → m5 0 = m 0 → ∃ m6 : xM, (if xw mk = 0 then some m5 else (f_L_note 7 (1 - (e : Int)) m5).bind fun q4 => some q4) = some m6 ∧ bREv 28 m6 (Mb 1) ∧ ∀ k, k ≠ 28 → k ≠ 29 → m6 k = m5 k := by
    have hsl2 : ∀ P : xM, P 4 = m 4 → f_F_slot (m 26 (f % 64) - m1 4 3) (xvw [4, 5, 6, 7] P) = some (slot : Int) := fun P hP => by
      unfold f_F_slot
      have hz : xvw [4, 5, 6, 7] P 0 3 + (m 26 (f % 64) - m1 4 3) = ((F + p0 : Nat) : Int) := by
        have : xvw [4, 5, 6, 7] P 0 = m 4 := hP
        rw [this, hm1 4 (by omega), hn2]; omega
      rw [hz, show (7 : Int) = ((7 : Nat) : Int) from rfl, b_floorMod _ 7 _ (by omega) (by decide) (by decide), b_bs, hslot]
    have h48 : f_L_frame (e : Int) (m 26 (f % 64)) (m 27 (f % 64)) m1 = (if xw (xiand (m 27 (f % 64)) 4) = 0 then f_L_frame_92 (e : Int) (m 26 (f % 64)) (m 27 (f % 64)) (m 26 (f % 64) - m1 4 3) 0 m1 else f_L_frame_92 (e : Int) (m 26 (f % 64)) (m 27 (f % 64)) (m 26 (f % 64) - m1 4 3) 1 m1) := by
      unfold f_L_frame
      rw [if_neg (show ¬ xw (m 26 (f % 64) - m1 4 3) < 0 by rw [hm1 4 (by omega), b_xw (by omega)]; omega), if_pos (show xw (m 26 (f % 64) - m1 4 3) < xw (m1 4 4) by rw [hm1 4 (by omega), b_xw (by omega), b_xw (by omega)]; omega)]
      unfold f_L_frame_48
      rw [if_pos (z2.mpr hn), hm1 12 (by omega), if_pos (show xw (m 26 (f % 64)) = xw (m 12 7) by rw [hn2]), if_neg (show ¬ xw 1 = 0 by decide)]
    have hM : ∀ P : xM, f_m_arriveFrame 0 M = (if xw (M 1 1736) = xw 1 then (f_m_endAt (((1 - e : Nat)) : Int) 8 (xvw [] M)).bind fun q10 => (if xib q10 3530 then (f_m_tellEvent 7 ((1 - e : Nat) : Int) (xu M 1 (xix q10) 0)).bind fun q11 => f_m_arriveFrame_92 0 ((1 - e : Nat) : Int) (m 12 7) q11 else none) else f_m_arriveFrame_92 0 ((1 - e : Nat) : Int) (m 12 7) M) := fun _ => by
      unfold f_m_arriveFrame
      rw [m_flyAt (i := 1732) _ (by omega), b_bs, if_pos (b_ib (by omega)), m_flyAt (i := 1733) _ (by omega), b_bs, if_pos (b_ib (by omega)), m_flyAt (i := 1735) _ (by omega), b_bs, if_pos (b_ib (by omega)), b_ix (by omega), b_ix (by omega), b_ix (by omega), Int.toNat_natCast, Int.toNat_natCast, Int.toNat_natCast, e6', e2, e3', if_neg (show ¬ xw 0 = xw 1 by decide), m_of (i := o + 3) M (by omega) (by omega), b_bs, hx, if_pos rfl, m_flyAt (i := 1736) _ (by omega), b_bs, if_pos (b_ib (by omega)), b_ix (by omega), Int.toNat_natCast, hr]
    by_cases hz : m 27 (f % 64) = 4 ∨ m 27 (f % 64) = 6
    · rw [if_pos hz] at e7'
      obtain ⟨Ma, hMa⟩ : ∃ Z, Z = xu M 1 (o + 8) 0 := ⟨_, rfl⟩
      have hA : ∀ i, i ≠ o + 8 → Ma 1 i = M 1 i := fun i hi => by rw [hMa, xu_d hi]
      have hev : ∀ m5 : xM, m5 28 = m 28 → m5 29 = m 29 → m5 0 = m 0 → ∃ m6 M6 : xM, f_L_note 7 ((1 - e : Nat) : Int) m5 = some m6 ∧ f_m_tellEvent 7 ((1 - e : Nat) : Int) Ma = some M6 ∧ bREv 28 m6 (M6 1) ∧ (∀ k, k ≠ 28 → k ≠ 29 → m6 k = m5 k) ∧ (∀ i, i ≠ 10 → (i < 1490 ∨ 1730 ≤ i) → M6 1 i = Ma 1 i) ∧ ∀ k, k ≠ 1 → M6 k = Ma k := fun m5 y1 y2 y3 =>
        L_note 7 ((1 - e : Nat) : Int) m5 Ma (r3.cg y1 y2 (hA 10 (by omega)) (fun i q1 q2 => hA i (by omega))) (by rw [y3, hA 0 (by omega), s0]) (by rw [y3, hA 1 (by omega), s1]) (by rw [y3, hA 3 (by omega), s3]) (by rw [y3]; exact s8)
      obtain ⟨-, Mb, -, t2, -, -, t5, t6⟩ := hev m rfl rfl rfl
      refine ⟨1, xu m1 21 1 0, Mb, ?_, ?_, ?_, fun k hk => by rw [xu_K hk], fun i y1 y2 y3 => by rw [t5 i y1 y3, hA i y2], fun k hk => by rw [t6 k hk, hMa, xu_K hk], Or.inr rfl, fun m5 y1 y2 y3 => ?_⟩
      · rw [h48, if_neg (fun hx => (z4.mp hx) hz)]
        unfold f_L_frame_92 f_L_frame_108
        rw [if_neg (show ¬ xw 1 = 0 by decide), hsl2 _ (by rw [xu_K (by omega), hm1 4 (by omega)]), b_bs]
        rfl
      · rw [hM M, e7', if_pos rfl, m_endAt (i := o + 8) _ (by omega), b_bs, if_pos (b_ib (by omega)), b_ix (by omega), Int.toNat_natCast, ← hMa, t2, b_bs]
        rfl
      · obtain ⟨u1, u2, u3, u4, u5, u6⟩ := r2
        have hB : ∀ i, i ≠ 10 → i ≠ o + 8 → (i < 1490 ∨ 1730 ≤ i) → Mb 1 i = M 1 i := fun i y1 y2 y3 => by rw [t5 i y1 y3, hA i y2]
        refine ⟨u1.cg (q23 _ (by omega) (by omega)) (q23 _ (by omega) (by omega)) (q23 _ (by omega) (by omega)) (q23 _ (by omega) (by omega)) (hB _ (by omega) (by omega) (by omega)) (hB _ (by omega) (by omega) (by omega)) (fun i q1 q2 => hB _ (by omega) (by omega) (by omega)), u2.cg (by rw [q23 _ (by omega) (by omega)]) (q23 _ (by omega) (by omega)) (hB _ (by omega) (by omega) (by omega)) (fun j hj => hB _ (by omega) (by omega) (by omega)), ⟨0, by omega, ?_, ?_, fun j hj => by omega⟩, u4.cg (by rw [q23 12 (by omega) (by omega)]) (q23 _ (by omega) (by omega)) (hB _ (by omega) (by omega) (by omega)) (fun i q1 q2 => hB _ (by omega) (by omega) (by omega)), u5.cg (by rw [q23 12 (by omega) (by omega)]) (q23 _ (by omega) (by omega)) (hB _ (by omega) (by omega) (by omega)) (fun i q1 q2 => hB _ (by omega) (by omega) (by omega)), u6.cg (by rw [q23 12 (by omega) (by omega)]) (by rw [q23 12 (by omega) (by omega)]) (by rw [q23 12 (by omega) (by omega)]) (by rw [q23 12 (by omega) (by omega)]) (fun i q1 => hB _ (by omega) (by omega) (by omega))⟩
        · rw [show 12 + 9 = 21 from rfl, xu_s rfl]; rfl
        · rw [t5 _ (by omega) (by omega), hMa, xu_s rfl]; rfl
      · obtain ⟨m6, M6, n1, n2, n3, n4, -, -⟩ := hev m5 y1 y2 y3
        have hMM : M6 = Mb := Option.some.inj (n2.symm.trans t2)
        subst hMM
        rw [hr] at n1
        exact ⟨m6, by rw [if_neg (show ¬ xw 1 = 0 by decide), n1, b_bs], n3, n4⟩
    · rw [if_neg hz] at e7'
      refine ⟨0, m1, M, ?_, ?_, r2.cg (fun i q1 q2 => hm1 i (by omega)) (fun _ _ _ => rfl), fun _ _ => rfl, fun _ _ _ _ => rfl, fun _ _ => rfl, Or.inl rfl, fun m5 y1 y2 y3 => ⟨m5, by rw [if_pos (show xw 0 = 0 by decide)], r3.cg y1 y2 rfl (fun _ _ _ => rfl), fun _ _ _ => rfl⟩⟩
      · rw [h48, if_pos (z4.mpr hz)]
        unfold f_L_frame_92 f_L_frame_108
        rw [if_pos (show xw 0 = 0 by decide), hsl2 _ (hm1 4 (by omega)), b_bs]
        rfl
      · rw [hM M, e7', if_neg (show ¬ xw 0 = xw 1 by decide)]
        rfl
  -- the bytes
  have mak : ∀ k, k ≠ 21 → k ≠ 23 → ma k = m k := fun k y1 y2 => by rw [i4 k y1, hm1 k y2]
  obtain ⟨m2, M2, j1, j2, j3, j4, ⟨j5, j6, j7⟩, j8, j9, j10⟩ := L_reads (m 26 (f % 64)) (m 27 (f % 64)) mk (m 12 7) e (1 - e) o slot size (fun i => m 5 (slot * 8 + i)) (by omega) ho hsl (by omega) size 0 fu fu ma Mb (by omega) (by show _ < 5000; omega) (by show _ < 5000; omega) i3 (by rw [mak 6 (by omega) (by omega), hsize]) (by rw [i5 1734 (by omega) (by omega) (by omega), e8a]) (fun i hi => by rw [mak 5 (by omega) (by omega)]) (fun i hi => by rw [i5 _ (by omega) (by omega) (by omega), e8c i hi]) (by rw [mak 12 (by omega) (by omega)]; omega)
  rw [j1] at i1
  rw [j2] at i2
  rw [mak 12 (by omega) (by omega)] at j5 j6
  have m2k : ∀ k, (k < 12 ∨ 23 < k) → m2 k = m k := fun k hk => by rw [j4 k (by omega), mak k (by omega) (by omega)]
  have m223 : m2 23 = m1 23 := by rw [j4 23 (by omega), i4 23 (by omega)]
  -- behind the bytes
  obtain ⟨m3, hm3⟩ : ∃ Z, Z = xu (xu m2 30 10 (m2 30 10 + m2 6 slot)) 12 7 (m2 12 7 + 1) := ⟨_, rfl⟩
  obtain ⟨M3, hM3⟩ : ∃ Z, Z = xu M2 1 (o + 3) (M2 1 (o + 3) + 1) := ⟨_, rfl⟩
  have m3k : ∀ k, (k < 12 ∨ 23 < k) → k ≠ 30 → m3 k = m k := fun k h1 h2 => by rw [hm3, xu_K (by omega), xu_K h2, m2k k h1]
  have m323 : m3 23 = m1 23 := by rw [hm3, xu_K (by omega), xu_K (by omega), m223]
  obtain ⟨Q, w1, w2, w3, w4, w5, w6, w7, w8, w9⟩ := W_put_sp (m3 0 7) (1 - (e : Int)) (m 26 (f % 64)) 1 (xvw bT4 m3) (f % 64 + 1) c (by omega) (by omega) (by rw [show xvw bT4 m3 0 = m3 23 from rfl, m323, hf1]) (by rw [show xvw bT4 m3 0 = m3 23 from rfl, m323, hc1])
  have hN2 : ∀ i, i ≠ 10 → i ≠ 55 → (i < 1490 ∨ 1730 ≤ i) → (i < o ∨ o + 717 ≤ i) → M2 1 i = M 1 i := fun i y1 y2 y3 y4 => by rw [j9 i y2 y4, i5 i y1 (by omega) y3]
  have n20 : M3 1 20 = ((c + 1 : Nat) : Int) := by rw [hM3, xu_d (by omega), hN2 20 (by omega) (by omega) (by omega) (by omega), v4]
  obtain ⟨M4, u1, u2, u3, u4, u5, u6, u7, u8⟩ := m_fly_sp 1 (e : Int) (m 12 7) M3 (c + 1) (by omega) n20
  have eM : f_m_arriveFrame 0 M = some M4 := by
    rw [i2]
    unfold f_m_arriveFrame_135
    rw [m_endAt (i := o + 3) _ (by omega), b_bs, if_pos (b_ib (by omega)), if_pos (b_ib (by omega)), b_ix (by omega), Int.toNat_natCast, ← hM3, show (1 : Int) - ((1 - e : Nat) : Int) = (e : Int) by omega, u1, b_bs]
  obtain ⟨m4, hm4⟩ : ∃ Z, Z = xmg bT4 5 m3 Q := ⟨_, rfl⟩
  have m4k : ∀ k, (k < 23 ∨ 27 < k) → m4 k = m3 k := fun k hk => by
    rw [hm4]
    refine xmg_no _ _ (xpos_not ?_)
    intro e9
    rw [show bT4.take 5 = bT4 from rfl] at e9
    simp only [bT4, List.mem_cons, List.not_mem_nil, or_false] at e9
    omega
  have m423 : m4 23 = Q 0 := by rw [hm4]; rfl
  have m424 : m4 24 = Q 1 := by rw [hm4]; rfl
  have m425 : m4 25 = Q 2 := by rw [hm4]; rfl
  have m426 : m4 26 = Q 3 := by rw [hm4]; rfl
  have m427 : m4 27 = Q 4 := by rw [hm4]; rfl
  obtain ⟨m', n1, n2, n3⟩ := i8 m4 (by rw [m4k 28 (by omega), m3k 28 (by omega) (by omega)]) (by rw [m4k 29 (by omega), m3k 29 (by omega) (by omega)]) (by rw [m4k 0 (by omega), m3k 0 (by omega) (by omega)])
  have eC : f_L_frame (e : Int) (m 26 (f % 64)) (m 27 (f % 64)) m1 = some m' := by
    rw [i1]
    unfold f_L_frame_165 f_L_frame_194
    rw [if_pos (b_ib (by omega)), if_pos (b_ib (by omega)), if_pos (b_ib (by omega)), b_ix (by omega), Int.toNat_natCast, ← hm3, w1, b_bs, ← hm4, n1]
  obtain ⟨M', l1, l2, l3, l4, l5⟩ := m_land_sp M4 (c + 1) (by omega) (by rw [u6])
  -- what it all comes to
  have yk : ∀ k, (k < 12 ∨ 27 < k) → k ≠ 28 → k ≠ 29 → k ≠ 30 → m' k = m k := fun k y1 y2 y3 y4 => by rw [n3 k y2 y3, m4k k (by omega), m3k k (by omega) y4]
  have yE : ∀ k, k ≠ 12 → 12 ≤ k → k ≤ 22 → m' k = m2 k := fun k y1 y2 y3 => by rw [n3 k (by omega) (by omega), m4k k (by omega), hm3, xu_K y1, xu_K (by omega)]
  have y12 : ∀ j, j ≠ 7 → m' 12 j = m2 12 j := fun j y1 => by rw [n3 12 (by omega) (by omega), m4k 12 (by omega), hm3, xu_d y1, xu_k (by omega)]
  have y127 : m' 12 7 = m 12 7 + 1 := by rw [n3 12 (by omega) (by omega), m4k 12 (by omega), hm3, xu_s rfl, j6 7 (by omega)]
  have y30 : ∀ j, j ≠ 10 → m' 30 j = m 30 j := fun j y1 => by rw [n3 30 (by omega) (by omega), m4k 30 (by omega), hm3, xu_k (by omega), xu_d y1, m2k 30 (by omega)]
  have y3010 : m' 30 10 = m 30 10 + size := by rw [n3 30 (by omega) (by omega), m4k 30 (by omega), hm3, xu_k (by omega), xu_s rfl, m2k 30 (by omega), m2k 6 (by omega), hsize]
  have y23 : m' 23 = Q 0 := by rw [n3 23 (by omega) (by omega), m423]
  have y24 : m' 24 = Q 1 := by rw [n3 24 (by omega) (by omega), m424]
  have y25 : m' 25 = Q 2 := by rw [n3 25 (by omega) (by omega), m425]
  have y26 : m' 26 = Q 3 := by rw [n3 26 (by omega) (by omega), m426]
  have y27 : m' 27 = Q 4 := by rw [n3 27 (by omega) (by omega), m427]
  have m30 : m3 0 = m 0 := m3k 0 (by omega) (by omega)
  have N4 : ∀ i, i ≠ 20 → i < 1730 → M' 1 i = M3 1 i := fun i y1 y2 => by rw [l4 i y1 y2, u7 i y1 (by omega)]
  have N3 : ∀ i, i ≠ o + 3 → M3 1 i = M2 1 i := fun i y1 => by rw [hM3, xu_d y1]
  have oN : ∀ i, i ≠ 20 → i ≠ 10 → i ≠ 55 → i < 1490 → (i < o ∨ o + 717 ≤ i) → M' 1 i = M 1 i := fun i y1 y2 y3 y4 y5 => by rw [N4 i y1 (by omega), N3 i (by omega), hN2 i y2 y3 (by omega) y5]
  have sq24 : ∀ i, i < c → m' 24 ((f % 64 + 1 + i) % 64) = m 24 ((f + (i + 1)) % 64) := fun i hi => by rw [y24, w8 1 _ (by omega) (by omega), show xvw bT4 m3 1 = m3 24 from rfl, m3k 24 (by omega) (by omega), show (f % 64 + 1 + i) % 64 = (f + (i + 1)) % 64 by omega]
  have sq25 : ∀ i, i < c → m' 25 ((f % 64 + 1 + i) % 64) = m 25 ((f + (i + 1)) % 64) := fun i hi => by rw [y25, w8 2 _ (by omega) (by omega), show xvw bT4 m3 2 = m3 25 from rfl, m3k 25 (by omega) (by omega), show (f % 64 + 1 + i) % 64 = (f + (i + 1)) % 64 by omega]
  have sq26 : ∀ i, i < c → m' 26 ((f % 64 + 1 + i) % 64) = m 26 ((f + (i + 1)) % 64) := fun i hi => by rw [y26, w8 3 _ (by omega) (by omega), show xvw bT4 m3 3 = m3 26 from rfl, m3k 26 (by omega) (by omega), show (f % 64 + 1 + i) % 64 = (f + (i + 1)) % 64 by omega]
  have sq27 : ∀ i, i < c → m' 27 ((f % 64 + 1 + i) % 64) = m 27 ((f + (i + 1)) % 64) := fun i hi => by rw [y27, w8 4 _ (by omega) (by omega), show xvw bT4 m3 4 = m3 27 from rfl, m3k 27 (by omega) (by omega), show (f % 64 + 1 + i) % 64 = (f + (i + 1)) % 64 by omega]
  have nw24 : bSq m' 24 (f % 64 + 1) c = m 0 7 := by show m' 24 _ = _; rw [y24, w2, m30]
  have nw25 : bSq m' 25 (f % 64 + 1) c = 1 - (e : Int) := by show m' 25 _ = _; rw [y25, w3]
  have nw26 : bSq m' 26 (f % 64 + 1) c = m 12 7 := by show m' 26 _ = _; rw [y26, w4, hn2]
  have nw27 : bSq m' 27 (f % 64 + 1) c = 1 := by show m' 27 _ = _; rw [y27, w5]
  have hP := r5
  obtain ⟨-, -, -, -, ⟨y15, -, -⟩, -⟩ := hP
  have wpart : ∀ i, i < c → bWe e m' (M' 1) lo hi (f % 64 + 1) i := fun i hi => by
    have h9 := we (i + 1) (by omega)
    have hNx : ∀ x, x < 15 → M' 1 (1730 + 15 * i + x) = M 1 (1730 + 15 * (i + 1) + x) := fun x hx => by
      rw [l3 _ (by omega) (by omega), u7 _ (by omega) (by omega), N3 _ (by omega), hN2 _ (by omega) (by omega) (by omega) (by omega), show 1730 + 15 * i + x + 15 = 1730 + 15 * (i + 1) + x by omega]
    unfold bWe bWc bSq at h9 ⊢
    rw [show 4 + 1 = 5 from rfl, show 4 + 2 = 6 from rfl, show 15 + 1 = 16 from rfl, show 15 + 2 = 17 from rfl] at h9 ⊢
    rw [sq24 i hi, sq25 i hi, sq26 i hi, sq27 i hi, yk 33 (by omega) (by omega) (by omega) (by omega), yk 0 (by omega) (by omega) (by omega) (by omega), yk 5 (by omega) (by omega) (by omega) (by omega), yk 6 (by omega) (by omega) (by omega) (by omega), yE 16 (by omega) (by omega) (by omega), yE 17 (by omega) (by omega) (by omega), j7 16 (by omega) (by omega) (by omega), j7 17 (by omega) (by omega) (by omega), mak 16 (by omega) (by omega), mak 17 (by omega) (by omega)]
    rw [show 1730 + 15 * i = 1730 + 15 * i + 0 from rfl, hNx 0 (by omega), hNx 1 (by omega), hNx 2 (by omega), hNx 3 (by omega), hNx 4 (by omega), hNx 5 (by omega), hNx 6 (by omega)]
    obtain ⟨c1, c2, c3, c4, c5⟩ := h9
    refine ⟨c1, c2, c3, c4, fun hx => ?_⟩
    obtain ⟨t1, t2, t3, t4, t5⟩ := c5 hx
    refine ⟨t1, t2, t3, fun hy => ⟨(t4 hy).1, fun j hj hj2 => ?_⟩, fun hy => ⟨(t5 hy).1, fun j hj hj2 => ?_⟩⟩
    · rw [show 1730 + 15 * i + 0 + 7 + j = 1730 + 15 * i + (7 + j) by omega, hNx (7 + j) (by omega), ← (t4 hy).2 j hj hj2, show 1730 + 15 * (i + 1) + (7 + j) = 1730 + 15 * (i + 1) + 7 + j by omega]
    · rw [show 1730 + 15 * i + 0 + 7 + j = 1730 + 15 * i + (7 + j) by omega, hNx (7 + j) (by omega), ← (t5 hy).2 j hj hj2, show 1730 + 15 * (i + 1) + (7 + j) = 1730 + 15 * (i + 1) + 7 + j by omega]
  have hst7 : bSt m' 7 = bSt m 7 := by funext n; show m' 7 _ = m 7 _; rw [yk 7 (by omega) (by omega) (by omega) (by omega)]
  have hst18 : bSt m' 18 = bSt m 18 := by funext n; show m' 18 _ = m 18 _; rw [yE 18 (by omega) (by omega) (by omega), j7 18 (by omega) (by omega) (by omega), mak 18 (by omega) (by omega)]
  have y15' : m' 15 = m 15 := by rw [yE 15 (by omega) (by omega) (by omega), j7 15 (by omega) (by omega) (by omega), mak 15 (by omega) (by omega)]
  refine ⟨m', M4, M', eC, eM, l1, ⟨?_, ?_, ?_, ?_, ?_, ?_⟩, ⟨⟨?_, by omega, ?_, l2⟩, fun i hi => ?_, fun i j hij hj => ?_, ?_, ?_⟩, ⟨fun j _ _ => ?_, ⟨?_, ?_⟩, ⟨?_, ?_, ?_, ?_⟩, ⟨?_, ?_, ?_, ?_⟩, ?_, fun k hk => yk k (by omega) (by omega) (by omega) (by omega)⟩, ⟨fun i hi => sq24 i hi, fun i h1 h2 => by rw [show i = c by omega]; exact nw24⟩, ⟨y127, fun j q1 q2 => by rw [y12 j q2, j6 j q1]⟩, fun k hk => by rw [l5 k hk, u8 k hk, hM3, xu_K hk, j10 k hk, i6 k hk]⟩
  · exact r1.cg (fun i q1 q2 => yk i (by omega) (by omega) (by omega) (by omega)) (fun i q1 q2 => oN i (by omega) (by omega) (by omega) (by omega) (by omega))
  · rw [← ho]
    obtain ⟨f1, f2, f3, f4, f5, f6⟩ := j3
    have nn : ∀ i, i ≠ o + 3 → o ≤ i → i < o + 717 → M' 1 i = M2 1 i := fun i y1 y2 y3 => by rw [N4 i (by omega) (by omega), N3 i y1]
    refine ⟨f1.cg (yE _ (by omega) (by omega) (by omega)) (yE _ (by omega) (by omega) (by omega)) (yE _ (by omega) (by omega) (by omega)) (yE _ (by omega) (by omega) (by omega)) (nn _ (by omega) (by omega) (by omega)) (nn _ (by omega) (by omega) (by omega)) (fun i q1 q2 => nn _ (by omega) (by omega) (by omega)), f2.cg (by rw [yE _ (by omega) (by omega) (by omega)]) (yE _ (by omega) (by omega) (by omega)) (nn _ (by omega) (by omega) (by omega)) (fun j hj => nn _ (by omega) (by omega) (by omega)), f3.cg (by rw [yE _ (by omega) (by omega) (by omega)]) (yE _ (by omega) (by omega) (by omega)) (nn _ (by omega) (by omega) (by omega)) (fun j hj => nn _ (by omega) (by omega) (by omega)), f4.cg (y12 5 (by omega)) (yE _ (by omega) (by omega) (by omega)) (nn _ (by omega) (by omega) (by omega)) (fun i q1 q2 => nn _ (by omega) (by omega) (by omega)), f5.cg (y12 6 (by omega)) (yE _ (by omega) (by omega) (by omega)) (nn _ (by omega) (by omega) (by omega)) (fun i q1 q2 => nn _ (by omega) (by omega) (by omega)), ?_⟩
    obtain ⟨p1, p2, p3, p4, p5, p6⟩ := f6
    refine ⟨?_, ?_, ?_, ?_, ?_, ?_⟩
    · rw [N4 _ (by omega) (by omega), hM3, xu_s rfl, p1, y127, j6 7 (by omega)]
    · rw [nn _ (by omega) (by omega) (by omega), p2, y12 8 (by omega)]
    · rw [nn _ (by omega) (by omega) (by omega), p3, y12 9 (by omega)]
    · rw [nn _ (by omega) (by omega) (by omega), p4, y12 10 (by omega)]
    · rw [y12 9 (by omega)]; exact p5
    · rw [y12 10 (by omega)]; exact p6
  · exact n2.cg rfl rfl (by rw [N4 10 (by omega) (by omega), N3 10 (by omega), j9 10 (by omega) (by omega)]) (fun i q1 q2 => by rw [N4 i (by omega) (by omega), N3 i (by omega), j9 i (by omega) (by omega)])
  · exact r4.up (j := 10) y3010 y30 (by rw [N4 _ (by omega) (by omega), N3 _ (by omega), show 45 + 10 = 55 from rfl, j8, i5 55 (by omega) (by omega) (by omega), ← r4 10 (by omega)]) (fun i q1 q2 q3 => oN i (by omega) (by omega) (by omega) (by omega) (by omega))
  · exact r5.cg (fun k q1 q2 => yk k (by omega) (by omega) (by omega) (by omega)) (fun i q1 q2 q3 => oN i (by omega) (by omega) (by omega) (by omega) (by omega))
  · exact r6.cg (fun j q1 q2 => by rw [yk 0 (by omega) (by omega) (by omega) (by omega)]) (by rw [yk 33 (by omega) (by omega) (by omega) (by omega)]) (fun i q1 => oN i (by omega) (by omega) (by omega) (by omega) (by omega))
  · rw [y23, w7 4 (by omega), show xvw bT4 m3 0 = m3 23 from rfl, m323, hf1]
  · rw [y23, w6]
  · by_cases hi2 : i = c
    · subst hi2
      have hNx : ∀ x, x < 15 → M' 1 (1730 + 15 * i + x) = M4 1 (1730 + 15 * (i + 1) + x) := fun x hx => by
        rw [l3 _ (by omega) (by omega), show 1730 + 15 * i + x + 15 = 1730 + 15 * (i + 1) + x by omega]
      refine ⟨⟨?_, ?_, ?_, ?_⟩, ?_, ?_, ⟨?_, ?_⟩, fun hx => absurd nw27 hx⟩
      · rw [nw24, yk 33 (by omega) (by omega) (by omega) (by omega), show 1730 + 15 * i = 1730 + 15 * i + 0 from rfl, hNx 0 (by omega), Nat.add_zero, u2, N3 0 (by omega), N3 15 (by omega), hN2 0 (by omega) (by omega) (by omega) (by omega), hN2 15 (by omega) (by omega) (by omega) (by omega), s0, y15]
      · rw [nw27, if_pos rfl, hNx 1 (by omega), u3]
      · rw [nw25, hNx 2 (by omega), u4]; omega
      · rw [nw26, hNx 3 (by omega), u5]
      · rw [nw25]; omega
      · rw [nw27]; omega
      · rw [nw24]; exact htime.2
      · rw [nw24, yk 0 (by omega) (by omega) (by omega) (by omega)]; omega
    · exact wpart i (by omega)
  · have hi : i < c := by omega
    show m' 24 _ ≤ m' 24 _
    rw [sq24 i hi]
    by_cases hj2 : j = c
    · have h9 := (we (i + 1) (by omega)).2.2.2.1.2
      rw [hj2]
      exact Int.le_trans h9 (Int.le_of_eq nw24.symm)
    · rw [sq24 j (by omega)]
      exact ws (i + 1) (j + 1) (by omega) (by omega)
  · have hX9 : bSq m 26 f 0 = m 12 7 := hn2
    have hT9 : bSq m 24 f 0 + m 33 10 = m 0 7 := htick
    rw [yk 4 (by omega) (by omega) (by omega) (by omega), y127, hst7, yk 0 (by omega) (by omega) (by omega) (by omega), yk 33 (by omega) (by omega) (by omega) (by omega)]
    exact d1.take hs0 ht0 hX9 hT9 (fun i hi => ⟨sq24 i hi, sq25 i hi, sq26 i hi, sq27 i hi⟩) ⟨nw24, nw25, nw26, nw27⟩
  · rw [y15', yk 1 (by omega) (by omega) (by omega) (by omega), hst18, yk 0 (by omega) (by omega) (by omega) (by omega), yk 33 (by omega) (by omega) (by omega) (by omega)]
    exact (d2.shift (fun hz => ht0 hz.2)).app (fun i hi => ⟨sq24 i hi, sq25 i hi, sq26 i hi, sq27 i hi⟩) (fun hz => hz.2 nw27) (fun hz => by have := hz.1; rw [nw25] at this; omega)
  · rw [yk 0 (by omega) (by omega) (by omega) (by omega)]
  · rw [yk 4 (by omega) (by omega) (by omega) (by omega)]
  · rw [y15']
  · rw [yk 1 (by omega) (by omega) (by omega) (by omega)]
  · rw [y12 5 (by omega), j6 5 (by omega)]
  · rw [yk 1 (by omega) (by omega) (by omega) (by omega)]
  · rw [y12 8 (by omega), j6 8 (by omega)]
  · rw [yk 1 (by omega) (by omega) (by omega) (by omega)]; omega
  · rw [yk 1 (by omega) (by omega) (by omega) (by omega)]; omega
  · rw [y12 6 (by omega), j5]; omega
  · rw [y12 6 (by omega), j5]; omega
  · rw [y30 0 (by omega)]

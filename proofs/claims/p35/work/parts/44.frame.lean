/-! ===== a frame arrives ===== -/
theorem b_tr (z : Int) (h : z = 0 ∨ z = 1 ∨ z = 2 ∨ z = 4 ∨ z = 6) : (xw (xiand z 1) = 0 ↔ z ≠ 1) ∧ (z ≠ 1 → (xw (xiand z 2) = 0 ↔ ¬ (z = 2 ∨ z = 6)) ∧ (xw (xiand z 4) = 0 ↔ ¬ (z = 4 ∨ z = 6))) := by
  rcases h with rfl | rfl | rfl | rfl | rfl <;> decide
/-- the wire behind its oldest, the frames untouched -/
theorem bSq.next {m m' : xM} {k f : Nat} (h : m' k = m k) : bSq m' k (f % 64 + 1) = fun i => bSq m k f (i + 1) := by
  funext i
  show m' k ((f % 64 + 1 + i) % 64) = m k ((f + (i + 1)) % 64)
  rw [h, show (f % 64 + 1 + i) % 64 = (f + (i + 1)) % 64 by omega]
theorem L_thrown_sp (m m1 M : xM) (e f c : Nat) (lo hi : Int) (he : e < 2) (h : bRL e m (M 1)) (hw : bWire e m (M 1) lo hi f (c + 1)) (hc : c ≤ 100) (hm1 : ∀ k, k ≠ 23 → m1 k = m k) (hf1 : m1 23 4 = ((f % 64 + 1 : Nat) : Int)) (hc1 : m1 23 5 = c) (hs : m 25 (f % 64) = (e : Int)) (ht : m 27 (f % 64) ≠ 1)
    (hX : 0 ≤ m 12 7 ∧ m 12 7 ≤ 1000000000) (hn : (m 27 (f % 64) = 2 ∨ m 27 (f % 64) = 6) ∨ m 26 (f % 64) ≠ m 12 7) :
    ∃ m' M1 M' : xM, f_L_frame (e : Int) (m 26 (f % 64)) (m 27 (f % 64)) m1 = some m' ∧ f_m_arriveFrame 0 M = some M1 ∧ f_m_land 0 M1 = some M' ∧ bRL e m' (M' 1) ∧ bWire e m' (M' 1) lo hi (f % 64 + 1) c ∧ bArr m m' ∧ bTk m m' f c c ∧ ∀ k, k ≠ 1 → M' k = M k := by
  obtain ⟨r1, r2, r3, r4, r5, r6⟩ := h
  obtain ⟨⟨v1, v2, v3, v4⟩, we, ws, d1, d2⟩ := hw
  have hs0 : bSq m 25 f 0 = (e : Int) := hs
  have ht0 : bSq m 27 f 0 ≠ 1 := ht
  obtain ⟨⟨-, -, e2, e3⟩, -, etr, -, e5⟩ := we 0 (by omega)
  obtain ⟨-, e6, -, -, -⟩ := e5 ht0
  obtain ⟨a1, a2⟩ := d1.2.1 0 (by omega) hs0 ht0
  rw [show 1730 + 15 * 0 + 2 = 1732 from rfl, hs0] at e2
  rw [show 1730 + 15 * 0 + 3 = 1733 from rfl] at e3
  rw [show 1730 + 15 * 0 + 5 = 1735 from rfl] at e6
  have etr' : m 27 (f % 64) = 0 ∨ m 27 (f % 64) = 1 ∨ m 27 (f % 64) = 2 ∨ m 27 (f % 64) = 4 ∨ m 27 (f % 64) = 6 := etr
  have z2 := ((b_tr _ etr').2 ht).1
  have e6' : M 1 1735 = (if m 27 (f % 64) = 2 ∨ m 27 (f % 64) = 6 then 1 else 0) := e6
  have e3' : M 1 1733 = m 26 (f % 64) := e3
  have a1' : m 12 7 ≤ m 26 (f % 64) := a1
  have a2' : m 26 (f % 64) < m 4 3 + m 4 4 := a2
  obtain ⟨F, C, S, b1, b2, b3, b4, b5, b6, b7, b8, b9⟩ := id r1.1
  rw [show (1 + 3 : Nat) = 4 from rfl] at b1 b2 b3
  have hx : M 1 (56 + 717 * (1 - e) + 3) = m 12 7 := r2.2.2.2.2.2.1
  -- the class
  have hthr : ∀ (x6 : Int) (P : xM), f_L_frame_70 (e : Int) (m 26 (f % 64)) (m 27 (f % 64)) P = some (xu P 30 2 (P 30 2 + 1)) := fun _ P => by
    unfold f_L_frame_70
    rw [if_pos (b_ib (by omega)), if_pos (b_ib (by omega))]
  have h48 : ∀ x6 s0 : Int, f_L_frame_48 (e : Int) (m 26 (f % 64)) (m 27 (f % 64)) x6 s0 m1 = some (xu m1 30 2 (m1 30 2 + 1)) := fun x6 s0 => by
    unfold f_L_frame_48
    by_cases hd : m 27 (f % 64) = 2 ∨ m 27 (f % 64) = 6
    · rw [if_neg (fun hz => (z2.mp hz) hd), hthr x6]
    · rw [if_pos (z2.mpr hd), hm1 12 (by omega), if_neg (by rw [b_xw (by omega), b_xw (by omega)]; omega), hthr x6]
  have eC : f_L_frame (e : Int) (m 26 (f % 64)) (m 27 (f % 64)) m1 = some (xu m1 30 2 (m1 30 2 + 1)) := by
    unfold f_L_frame f_L_frame_47
    split
    · exact h48 _ _
    · split
      · exact h48 _ _
      · exact h48 _ _
  -- the reference
  have eM : f_m_arriveFrame 0 M = some (xu M 1 47 (M 1 47 + 1)) := by
    have h46 : f_m_arriveFrame_46 0 M = some (xu M 1 47 (M 1 47 + 1)) := by
      unfold f_m_arriveFrame_46
      rw [if_pos (b_ib (by omega)), if_pos (b_ib (by omega))]
    unfold f_m_arriveFrame
    rw [m_flyAt (i := 1732) _ (by omega), b_bs, if_pos (b_ib (by omega)), m_flyAt (i := 1733) _ (by omega), b_bs, if_pos (b_ib (by omega)), m_flyAt (i := 1735) _ (by omega), b_bs, if_pos (b_ib (by omega)), b_ix (by omega), b_ix (by omega), b_ix (by omega), Int.toNat_natCast, Int.toNat_natCast, Int.toNat_natCast, e6', e2, e3']
    by_cases hd : m 27 (f % 64) = 2 ∨ m 27 (f % 64) = 6
    · rw [if_pos (show xw (if m 27 (f % 64) = 2 ∨ m 27 (f % 64) = 6 then 1 else 0) = xw 1 by rw [if_pos hd]), h46]
    · rw [if_neg (show ¬ xw (if m 27 (f % 64) = 2 ∨ m 27 (f % 64) = 6 then 1 else 0) = xw 1 by rw [if_neg hd]; decide), m_of (i := 56 + 717 * (1 - e) + 3) M (by omega) (by omega), b_bs, hx, if_neg (show ¬ xw (m 26 (f % 64)) = xw (m 12 7) by rw [b_xw (by omega), b_xw (by omega)]; omega), h46]
  obtain ⟨M3, hM3⟩ : ∃ Z, Z = xu M 1 47 (M 1 47 + 1) := ⟨_, rfl⟩
  rw [← hM3] at eM
  obtain ⟨m', hm'⟩ : ∃ Z, Z = xu m1 30 2 (m1 30 2 + 1) := ⟨_, rfl⟩
  rw [← hm'] at eC
  obtain ⟨M', l1, l2, l3, l4, l5⟩ := m_land_sp M3 c (by omega) (by rw [hM3, xu_d (by omega), v4])
  have yk : ∀ k, k ≠ 23 → k ≠ 30 → m' k = m k := fun k y1 y2 => by rw [hm', xu_K y2, hm1 k y1]
  have y23 : m' 23 = m1 23 := by rw [hm', xu_K (by omega)]
  have oN : ∀ i, i ≠ 20 → i ≠ 47 → i < 1730 → M' 1 i = M 1 i := fun i y1 y2 y3 => by rw [l4 i y1 y3, hM3, xu_d y2]
  have y302 : m' 30 2 = m 30 2 + 1 := by rw [hm', xu_s rfl, hm1 30 (by omega)]
  have y30 : ∀ j, j ≠ 2 → m' 30 j = m 30 j := fun j y1 => by rw [hm', xu_d y1, hm1 30 (by omega)]
  refine ⟨m', M3, M', eC, eM, l1, ⟨?_, ?_, ?_, ?_, ?_, ?_⟩, ⟨⟨?_, by omega, ?_, l2⟩, fun i hi => ?_, fun i j hij hj => ?_, ?_, ?_⟩, ⟨fun j _ _ => ?_, ⟨?_, ?_⟩, ⟨?_, ?_, ?_, ?_⟩, ⟨?_, ?_, ?_, ?_⟩, ?_, fun k hk => yk k (by omega) (by omega)⟩, ⟨fun i hi => by rw [bSq.next (yk 24 (by omega) (by omega))], fun i h1 h2 => by omega⟩, fun k hk => by rw [l5 k hk, hM3, xu_K hk]⟩
  · exact r1.cg (fun i q1 q2 => yk i (by omega) (by omega)) (fun i q1 q2 => oN i (by omega) (by omega) (by omega))
  · exact r2.cg (fun i q1 q2 => yk i (by omega) (by omega)) (fun i q1 q2 => oN i (by omega) (by omega) (by omega))
  · exact r3.cg (yk _ (by omega) (by omega)) (yk _ (by omega) (by omega)) (oN _ (by omega) (by omega) (by omega)) (fun i q1 q2 => oN _ (by omega) (by omega) (by omega))
  · exact r4.up (j := 2) y302 y30 (by rw [l4 _ (by omega) (by omega), hM3, xu_s rfl, ← r4 2 (by omega)]) (fun i q1 q2 q3 => oN i (by omega) (by omega) (by omega))
  · exact r5.cg (fun k q1 q2 => yk k (by omega) (by omega)) (fun i q1 q2 q3 => oN i (by omega) (by omega) (by omega))
  · exact r6.cg (fun j q1 q2 => by rw [yk 0 (by omega) (by omega)]) (by rw [yk 33 (by omega) (by omega)]) (fun i q1 => oN i (by omega) (by omega) (by omega))
  · rw [y23, hf1]
  · rw [y23, hc1]
  · exact (we (i + 1) (by omega)).next (fun k z1 z2 => yk k (by omega) (by omega)) (by omega) (by rw [yk 33 (by omega) (by omega)]) (by rw [yk 0 (by omega) (by omega)]) ⟨yk _ (by omega) (by omega), yk _ (by omega) (by omega), yk _ (by omega) (by omega), yk _ (by omega) (by omega)⟩ (fun x hx => by
      rw [l3 _ (by omega) (by omega), hM3, xu_d (by omega), show 1730 + 15 * i + x + 15 = 1730 + 15 * (i + 1) + x by omega])
  · rw [bSq.next (yk 24 (by omega) (by omega))]
    exact ws (i + 1) (j + 1) (by omega) (by omega)
  · have hd := d1.shift (by rw [hs0]; omega)
    have hst : bSt m' 7 = bSt m 7 := by funext n; show m' 7 _ = m 7 _; rw [yk 7 (by omega) (by omega)]
    rw [yk 4 (by omega) (by omega), yk 12 (by omega) (by omega), hst, yk 0 (by omega) (by omega), yk 33 (by omega) (by omega), bSq.next (yk 24 (by omega) (by omega)), bSq.next (yk 25 (by omega) (by omega)), bSq.next (yk 26 (by omega) (by omega)), bSq.next (yk 27 (by omega) (by omega))]
    exact hd
  · have hd := d2.shift (fun hz => ht0 hz.2)
    have hst : bSt m' 18 = bSt m 18 := by funext n; show m' 18 _ = m 18 _; rw [yk 18 (by omega) (by omega)]
    rw [yk 15 (by omega) (by omega), yk 1 (by omega) (by omega), hst, yk 0 (by omega) (by omega), yk 33 (by omega) (by omega), bSq.next (yk 24 (by omega) (by omega)), bSq.next (yk 25 (by omega) (by omega)), bSq.next (yk 26 (by omega) (by omega)), bSq.next (yk 27 (by omega) (by omega))]
    exact hd
  · rw [yk 0 (by omega) (by omega)]
  · rw [yk 4 (by omega) (by omega)]
  · rw [yk 15 (by omega) (by omega)]
  · rw [yk 1 (by omega) (by omega)]
  · rw [yk 12 (by omega) (by omega)]
  · rw [yk 1 (by omega) (by omega)]
  · rw [yk 12 (by omega) (by omega)]
  · rw [yk 1 (by omega) (by omega)]; omega
  · rw [yk 1 (by omega) (by omega)]; omega
  · rw [yk 12 (by omega) (by omega)]; omega
  · rw [yk 12 (by omega) (by omega)]; omega
  · rw [y30 0 (by omega)]
/-- the bytes of a frame are read, in both -/
theorem L_reads (b z x8 num : Int) (e r o slot size : Nat) (V : Nat → Int) (hr : r < 2) (ho : o = 56 + 717 * r) (hsl : slot < 7) (hsz : size ≤ 8) : ∀ (k j n n' : Nat) (m M : xM), j + k = size → k < n → k < n' → bRE 12 m o (M 1) → m 6 slot = (size : Int) → M 1 1734 = (size : Int) → (∀ i, i < size → m 5 (slot * 8 + i) = V i) → (∀ i, i < size → M 1 (1737 + i) = V i) → m 12 6 + k ≤ 1000000000 →
    ∃ m' M' : xM, f_L_frame_120 (e : Int) b z n x8 (slot : Int) (j : Int) m = f_L_frame_165 (e : Int) b z x8 (slot : Int) m' ∧ f_m_arriveFrame_95 0 n' (r : Int) num (j : Int) M = f_m_arriveFrame_135 0 (r : Int) num M' ∧ bRE 12 m' o (M' 1) ∧ (∀ k, k < 12 ∨ 22 < k → m' k = m k) ∧ (m' 12 6 = m 12 6 + k ∧ (∀ j, j ≠ 6 → m' 12 j = m 12 j) ∧ ∀ i, 13 ≤ i → i ≤ 20 → i ≠ 14 → m' i = m i) ∧ M' 1 55 = M 1 55 + k ∧ (∀ i, i ≠ 55 → (i < o ∨ o + 717 ≤ i) → M' 1 i = M 1 i) ∧ ∀ k, k ≠ 1 → M' k = M k := by
  intro k
  induction k with
  | zero =>
    intro j n n' m M h1 h2 h3 h4 h5 h6 h7 h8 h9
    obtain ⟨n, rfl⟩ : ∃ z, n = z + 1 := ⟨n - 1, by omega⟩
    obtain ⟨n', rfl⟩ : ∃ z, n' = z + 1 := ⟨n' - 1, by omega⟩
    refine ⟨m, M, ?_, ?_, h4, fun _ _ => rfl, ⟨by omega, fun _ _ => rfl, fun _ _ _ _ => rfl⟩, by omega, fun _ _ _ => rfl, fun _ _ => rfl⟩
    · rw [f_L_frame_120, if_pos (b_ib (by omega)), b_ix (by omega), Int.toNat_natCast, h5, if_neg (by rw [b_xw (by omega), b_xw (by omega)]; omega)]
    · rw [f_m_arriveFrame_95, m_flyAt (i := 1734) _ (by omega), b_bs, if_pos (b_ib (by omega)), b_ix (by omega), Int.toNat_natCast, h6, if_neg (by rw [b_xw (by omega), b_xw (by omega)]; omega)]
  | succ k ih =>
    intro j n n' m M h1 h2 h3 h4 h5 h6 h7 h8 h9
    obtain ⟨n, rfl⟩ : ∃ z, n = z + 1 := ⟨n - 1, by omega⟩
    obtain ⟨n', rfl⟩ : ∃ z, n' = z + 1 := ⟨n' - 1, by omega⟩
    obtain ⟨q, M1, p1, p2, p3, p4, ⟨p5, p6, p7⟩, p8, p9, p10⟩ := RE_read (V j) (xvw bT2 m) M r o hr ho (by rw [bv2 m 0 (by omega)]; show m 12 6 < _; omega) (h4.tr (k' := 0) (fun i hi => by rw [Nat.zero_add, bv2 _ i hi]))
    have w0 : xvw bT2 m 0 = m 12 := bv2 m 0 (by omega)
    rw [w0] at p5 p6
    obtain ⟨m1, hm1⟩ : ∃ Z, Z = xmg bT2 11 m q := ⟨_, rfl⟩
    have g : ∀ i, i ≤ 10 → m1 (12 + i) = q i := fun i hi => by rw [hm1, bg2 _ _ i hi]
    have gn : ∀ k, k < 12 ∨ 22 < k → m1 k = m k := fun k hk => by rw [hm1, bg2n _ _ hk]
    have g12 : m1 12 = q 0 := g 0 (by omega)
    obtain ⟨m', M', e1, e2, e3, e4, ⟨e5, e6, e7⟩, e8, e9, e10⟩ := ih (j + 1) n n' m1 M1 (by omega) (by omega) (by omega) (p3.tr (k' := 12) (fun i hi => by rw [g i hi, Nat.zero_add])) (by rw [gn 6 (by omega), h5]) (by rw [p9 1734 (by omega) (by omega), h6]) (fun i hi => by rw [gn 5 (by omega), h7 i hi]) (fun i hi => by rw [p9 _ (by omega) (by omega), h8 i hi]) (by rw [g12, p5]; omega)
    refine ⟨m', M', ?_, ?_, e3, fun k hk => by rw [e4 k hk, gn k hk], ⟨by rw [e5, g12, p5]; omega, fun j hj => by rw [e6 j hj, g12, p6 j hj], fun i q1 q2 q3 => ?_⟩, by rw [e8, p8]; omega, fun i q1 q2 => by rw [e9 i q1 q2, p9 i q1 q2], fun k hk => by rw [e10 k hk, p10 k hk]⟩
    · rw [f_L_frame_120, if_pos (b_ib (by omega)), b_ix (by omega), Int.toNat_natCast, h5, if_pos (by rw [b_xw (by omega), b_xw (by omega)]; omega), if_pos (by rw [b_xw (by omega), b_xw (by omega)]; omega), if_pos (b_ib (by omega)), b_ix (by omega), show ((slot : Int) * 8 + (j : Int)).toNat = slot * 8 + j by omega, h7 j (by omega), p1, b_bs, ← hm1, show (j : Int) + 1 = ((j + 1 : Nat) : Int) by omega, e1]
    · rw [f_m_arriveFrame_95, m_flyAt (i := 1734) _ (by omega), b_bs, if_pos (b_ib (by omega)), b_ix (by omega), Int.toNat_natCast, h6, if_pos (by rw [b_xw (by omega), b_xw (by omega)]; omega), m_flyAt (i := 1737 + j) _ (by omega), b_bs, if_pos (b_ib (by omega)), b_ix (by omega), Int.toNat_natCast, h8 j (by omega), p2, b_bs, show (j : Int) + 1 = ((j + 1 : Nat) : Int) by omega, e2]
    · obtain ⟨x, rfl⟩ : ∃ x, i = 12 + x := ⟨i - 12, by omega⟩
      rw [e7 _ q1 q2 q3, g x (by omega), p7 x (by omega) (by omega) (by omega) (by omega), bv2 _ x (by omega)]

/-! ===== an acknowledgement arrives ===== -/
theorem bRF.tr {kf kf' : Nat} {m m' : xM} {o : Nat} {N : Nat → Int} (h : bRF kf m o N) (hm : ∀ i, i ≤ 3 → m' (kf' + i) = m (kf + i)) : bRF kf' m' o N := by
  have h0 : m' kf' = m kf := hm 0 (by omega)
  obtain ⟨F, C, S, a1, a2, a3, a4, a5, a6, a7, a8, a9⟩ := h
  refine ⟨F, C, S, by rw [h0, a1], by rw [h0, a2], by rw [h0, a3], a4, a5, a6, a7, a8, fun p hp => ?_⟩
  have h9 := a9 p hp
  unfold bFr at h9 ⊢
  rw [hm 1 (by omega), hm 2 (by omega), hm 3 (by omega)]
  exact h9
theorem arriveAck_tail (num : Int) (e o C' : Nat) (he : e < 2) (ho : o = 56 + 717 * e) (hC : C' ≤ 7) (M : xM) (hM : M 1 (o + 1) = C') : ∀ (k p n : Nat), C' ≤ p + k → k < n → p ≤ 7 → (∀ p', p ≤ p' → p' < C' → xw (M 1 (o + 26 + 13 * p')) ≠ xw num) → f_m_arriveAck_25 0 n (e : Int) num (p : Int) M = f_m_arriveAck_61 0 M := by
  intro k
  induction k with
  | zero =>
    intro p n h1 h2 h3 h4
    obtain ⟨n, rfl⟩ : ∃ z, n = z + 1 := ⟨n - 1, by omega⟩
    rw [f_m_arriveAck_25, m_of (i := o + 1) M (by omega) (by omega), b_bs, hM, if_neg (by rw [b_xw (by omega), b_xw (by omega)]; omega)]
  | succ k ih =>
    intro p n h1 h2 h3 h4
    obtain ⟨n, rfl⟩ : ∃ z, n = z + 1 := ⟨n - 1, by omega⟩
    rw [f_m_arriveAck_25, m_of (i := o + 1) M (by omega) (by omega), b_bs, hM]
    by_cases hp : p < C'
    · rw [if_pos (by rw [b_xw (by omega), b_xw (by omega)]; omega), m_ofFrame (i := o + 26 + 13 * p) M (by omega) (by omega), b_bs, if_neg (h4 p (Nat.le_refl _) hp)]
      unfold f_m_arriveAck_55
      rw [show (p : Int) + 1 = ((p + 1 : Nat) : Int) by omega]
      exact ih (p + 1) n (by omega) (by omega) (by omega) (fun p' q1 q2 => h4 p' (by omega) q2)
    · rw [if_neg (by rw [b_xw (by omega), b_xw (by omega)]; omega)]
/-- the ticks of what stays under way, and of what is new -/
def bTk (m m' : xM) (f c c' : Nat) : Prop := (∀ i, i < c → bSq m' 24 (f % 64 + 1) i = bSq m 24 f (i + 1)) ∧ ∀ i, c ≤ i → i < c' → bSq m' 24 (f % 64 + 1) i = m 0 7
/-- what an arrival leaves of the line -/
def bArr (m m' : xM) : Prop := (∀ j, j ≠ 15 → j ≠ 16 → m' 0 j = m 0 j) ∧ (m' 4 3 + m' 4 4 = m 4 3 + m 4 4 ∧ m' 15 3 + m' 15 4 = m 15 3 + m 15 4) ∧ (m' 1 5 = m 1 5 ∧ m' 12 5 = m 12 5 ∧ m' 1 8 = m 1 8 ∧ m' 12 8 = m 12 8) ∧ (m 1 6 ≤ m' 1 6 ∧ m' 1 6 ≤ m 1 6 + 8 ∧ m 12 6 ≤ m' 12 6 ∧ m' 12 6 ≤ m 12 6 + 8) ∧ m' 30 0 = m 30 0 ∧ ∀ k, 33 ≤ k → m' k = m k
theorem L_ack_sp (m m1 M : xM) (e f c : Nat) (lo hi : Int) (he : e < 2) (h : bRL e m (M 1)) (hw : bWire e m (M 1) lo hi f (c + 1)) (hc : c ≤ 100) (hm1 : ∀ k, k ≠ 23 → m1 k = m k) (hf1 : m1 23 4 = ((f % 64 + 1 : Nat) : Int)) (hc1 : m1 23 5 = c) (hs : m 25 (f % 64) = 1 - (e : Int)) (ht : m 27 (f % 64) = 1) :
    ∃ m' M1 M' : xM, f_L_ack (e : Int) (m 26 (f % 64)) m1 = some m' ∧ f_m_arriveAck 0 M = some M1 ∧ f_m_land 0 M1 = some M' ∧ bRL e m' (M' 1) ∧ bWire e m' (M' 1) lo hi (f % 64 + 1) c ∧ bArr m m' ∧ bTk m m' f c c ∧ ∀ k, k ≠ 1 → M' k = M k := by
  obtain ⟨r1, r2, r3, r4, r5, r6⟩ := h
  obtain ⟨⟨v1, v2, v3, v4⟩, we, ws, d1, d2⟩ := hw
  have hs0 : bSq m 25 f 0 = 1 - (e : Int) := hs
  have ht0 : bSq m 27 f 0 = 1 := ht
  obtain ⟨n1, n2, n3⟩ := d1.ackNo hs0 ht0
  have hb : m 26 (f % 64) = m 4 3 := n1
  have e0 := we 0 (by omega)
  obtain ⟨⟨-, -, e2, e3⟩, -⟩ := e0
  rw [show 1730 + 15 * 0 + 2 = 1732 from rfl, hs0] at e2
  rw [show 1730 + 15 * 0 + 3 = 1733 from rfl, n1] at e3
  have hF := r1.1
  obtain ⟨F, C, S, a1, a2, a3, a4, a5, a6, a7, a8, a9⟩ := hF
  rw [show (1 + 3 : Nat) = 4 from rfl] at a1 a2 a3
  rw [a3] at n3
  rw [a1] at e3 hb
  have hCpos : 0 < C := by omega
  have hrF : bRF 0 (xvw [4, 5, 6, 7] m1) (56 + 717 * e) (M 1) := r1.1.tr (fun i hi => by
    rcases (by omega : i = 0 ∨ i = 1 ∨ i = 2 ∨ i = 3) with rfl | rfl | rfl | rfl
    · exact hm1 4 (by omega)
    · exact hm1 5 (by omega)
    · exact hm1 6 (by omega)
    · exact hm1 7 (by omega))
  have x4 : xvw [4, 5, 6, 7] m1 0 = m 4 := hm1 4 (by omega)
  obtain ⟨q, Mf, p1, p2, p3, ⟨p4, p5, p6, p7⟩, p8, p9⟩ := RF_forget (xvw [4, 5, 6, 7] m1) M e (56 + 717 * e) he rfl hrF (by rw [x4, a2]; omega)
  rw [x4] at p4 p5 p6
  have q1 : q 1 = m 5 := (p7 1 (by omega)).trans (hm1 5 (by omega))
  have q2 : q 2 = m 6 := (p7 2 (by omega)).trans (hm1 6 (by omega))
  have q3 : q 3 = m 7 := (p7 3 (by omega)).trans (hm1 7 (by omega))
  have hnum := (a9 0 hCpos).1
  -- the reference
  have eM : f_m_arriveAck 0 M = some (xu (xu Mf 1 8 0) 1 9 (Mf 1 9 + 1)) := by
    unfold f_m_arriveAck
    rw [m_flyAt (i := 1732) _ (by omega), b_bs, if_pos (b_ib (by omega)), m_flyAt (i := 1733) _ (by omega), b_bs, if_pos (b_ib (by omega)), b_ix (by omega), b_ix (by omega), Int.toNat_natCast, Int.toNat_natCast, e2, e3, show (1 : Int) - (1 - (e : Int)) = (e : Int) by omega,
      show fu = 4999 + 1 from rfl, f_m_arriveAck_25, m_of (i := 56 + 717 * e + 1) M (by omega) (by omega), b_bs, a7, if_pos (by rw [b_xw (by omega), b_xw (by omega)]; omega), m_ofFrame (i := 56 + 717 * e + 26 + 13 * 0) M (by omega) (by omega), b_bs, hnum, if_pos (show xw ((F + 0 : Nat) : Int) = xw (F : Int) from rfl), p2, b_bs]
    unfold f_m_arriveAck_55
    have hq := p3
    obtain ⟨F2, C2, S2, b1, b2, b3, b4, b5, b6, b7, b8, b9⟩ := hq
    rw [show (0 : Int) + 1 = ((1 : Nat) : Int) from rfl, arriveAck_tail (F : Int) e (56 + 717 * e) C2 he rfl b5 Mf b7 7 1 4999 (by omega) (by omega) (by omega) (fun p' z1 z2 => by
      rw [(b9 p' z2).1, b_xw (by omega), b_xw (by omega)]
      rw [b1, a1] at p4
      omega)]
    unfold f_m_arriveAck_61
    rw [if_pos (b_ib (by omega)), if_pos (b_ib (by omega)), if_pos (b_ib (by omega))]
  obtain ⟨M3, hM3⟩ : ∃ Z, Z = xu (xu Mf 1 8 0) 1 9 (Mf 1 9 + 1) := ⟨_, rfl⟩
  rw [← hM3] at eM
  have k20 : M3 1 20 = ((c + 1 : Nat) : Int) := by rw [hM3, xu_d (by omega), xu_d (by omega), p8 20 (by omega) (by omega), v4]
  obtain ⟨M', l1, l2, l3, l4, l5⟩ := m_land_sp M3 c (by omega) k20
  have kN : ∀ i, i ≠ 8 → i ≠ 9 → M3 1 i = Mf 1 i := fun i z1 z2 => by rw [hM3, xu_d z2, xu_d z1]
  have k8 : M3 1 8 = 0 := by rw [hM3, xu_d (by omega), xu_s rfl]
  have k9 : M3 1 9 = M 1 9 + 1 := by rw [hM3, xu_s rfl, p8 9 (by omega) (by omega)]
  have lN : ∀ i, i ≠ 8 → i ≠ 9 → i ≠ 20 → i < 1730 → M' 1 i = Mf 1 i := fun i z1 z2 z3 z4 => by rw [l4 i z3 z4, kN i z1 z2]
  have oN : ∀ i, i ≠ 8 → i ≠ 9 → i ≠ 20 → i < 1730 → i ≠ 56 + 717 * e + 1 → (i < 56 + 717 * e + 26 ∨ 56 + 717 * e + 117 ≤ i) → M' 1 i = M 1 i := fun i z1 z2 z3 z4 z5 z6 => by rw [lN i z1 z2 z3 z4, p8 i z5 z6]
  -- the class
  obtain ⟨m2, hm2⟩ : ∃ Z, Z = xmg [4, 5, 6, 7] 4 m1 q := ⟨_, rfl⟩
  have g4 : m2 4 = q 0 := by rw [hm2]; rfl
  have g5 : m2 5 = m 5 := by rw [hm2, ← q1]; rfl
  have g6 : m2 6 = m 6 := by rw [hm2, ← q2]; rfl
  have g7 : m2 7 = m 7 := by rw [hm2, ← q3]; rfl
  have gk : ∀ k, k ≠ 4 → k ≠ 5 → k ≠ 6 → k ≠ 7 → m2 k = m1 k := fun k z1 z2 z3 z4 => by rw [hm2]; exact xmg_no _ _ (xpos_not (by simp [z1, z2, z3, z4]))
  obtain ⟨m', hm'⟩ : ∃ Z, Z = xu (xu m2 0 15 0) 0 16 (m2 0 16 + 1) := ⟨_, rfl⟩
  have eC : f_L_ack (e : Int) (m 26 (f % 64)) m1 = some m' := by
    unfold f_L_ack
    rw [hm1 4 (by omega), a2, a1, hb, if_pos (by rw [b_xw (by omega)]; omega), if_pos rfl, p1, b_bs, ← hm2, ← hm']
  have y0 : ∀ k, k ≠ 0 → m' k = m2 k := fun k hk => by rw [hm', xu_K hk, xu_K hk]
  have yk : ∀ k, k ≠ 0 → k ≠ 4 → k ≠ 23 → m' k = m k := fun k z0 z4 z23 => by
    rw [y0 k z0]
    by_cases z5 : k = 5
    · rw [z5, g5]
    · by_cases z6 : k = 6
      · rw [z6, g6]
      · by_cases z7 : k = 7
        · rw [z7, g7]
        · rw [gk k z4 z5 z6 z7, hm1 k z23]
  have y4 : m' 4 = q 0 := by rw [y0 4 (by omega), g4]
  have yz : ∀ j, j ≠ 15 → j ≠ 16 → m' 0 j = m 0 j := fun j z1 z2 => by rw [hm', xu_d z2, xu_d z1, gk 0 (by omega) (by omega) (by omega) (by omega), hm1 0 (by omega)]
  have y15 : m' 0 15 = 0 := by rw [hm', xu_d (by omega), xu_s rfl]
  have y16 : m' 0 16 = m 0 16 + 1 := by rw [hm', xu_s rfl, gk 0 (by omega) (by omega) (by omega) (by omega), hm1 0 (by omega)]
  have y23 : m' 23 = m1 23 := by rw [y0 23 (by omega), gk 23 (by omega) (by omega) (by omega) (by omega)]
  obtain ⟨s0, s1, s2, s3, s4, s5, s6, s7, s8, s9, s10⟩ := r6
  have hseq : ∀ k, 24 ≤ k → k ≤ 27 → bSq m' k (f % 64 + 1) = fun i => bSq m k f (i + 1) := fun k z1 z2 => by
    funext i
    show m' k ((f % 64 + 1 + i) % 64) = m k ((f + (i + 1)) % 64)
    rw [yk k (by omega) (by omega) (by omega), show (f % 64 + 1 + i) % 64 = (f + (i + 1)) % 64 by omega]
  refine ⟨m', M3, M', eC, eM, l1, ⟨?_, ?_, ?_, ?_, ?_, ?_⟩, ⟨⟨?_, by omega, ?_, l2⟩, fun i hi => ?_, fun i j hij hj => ?_, ?_, ?_⟩, ⟨yz, ⟨?_, ?_⟩, ⟨?_, ?_, ?_, ?_⟩, ⟨?_, ?_, ?_, ?_⟩, ?_, fun k hk => yk k (by omega) (by omega) (by omega)⟩, ⟨fun i hi => by rw [hseq 24 (by omega) (by omega)], fun i h1 h2 => by omega⟩, fun k hk => by rw [l5 k hk, hM3, xu_K hk, xu_K hk, p9 k hk]⟩
  · obtain ⟨z1, z2, z3, z4, z5, z6⟩ := r1
    refine ⟨?_, z2.cg (by rw [yk _ (by omega) (by omega) (by omega)]) (yk _ (by omega) (by omega) (by omega)) (oN _ (by omega) (by omega) (by omega) (by omega) (by omega) (by omega)) (fun j hj => oN _ (by omega) (by omega) (by omega) (by omega) (by omega) (by omega)), z3.cg (by rw [yk _ (by omega) (by omega) (by omega)]) (yk _ (by omega) (by omega) (by omega)) (oN _ (by omega) (by omega) (by omega) (by omega) (by omega) (by omega)) (fun j hj => oN _ (by omega) (by omega) (by omega) (by omega) (by omega) (by omega)), z4.cg (by rw [yk 1 (by omega) (by omega) (by omega)]) (yk _ (by omega) (by omega) (by omega)) (oN _ (by omega) (by omega) (by omega) (by omega) (by omega) (by omega)) (fun i q1 q2 => oN _ (by omega) (by omega) (by omega) (by omega) (by omega) (by omega)), z5.cg (by rw [yk 1 (by omega) (by omega) (by omega)]) (yk _ (by omega) (by omega) (by omega)) (oN _ (by omega) (by omega) (by omega) (by omega) (by omega) (by omega)) (fun i q1 q2 => oN _ (by omega) (by omega) (by omega) (by omega) (by omega) (by omega)), z6.cg (by rw [yk 1 (by omega) (by omega) (by omega)]) (by rw [yk 1 (by omega) (by omega) (by omega)]) (by rw [yk 1 (by omega) (by omega) (by omega)]) (by rw [yk 1 (by omega) (by omega) (by omega)]) (fun i q1 => oN _ (by omega) (by omega) (by omega) (by omega) (by omega) (by omega))⟩
    refine (p3.tr (kf' := 1 + 3) (m' := m') (fun i hi => ?_)).cg rfl rfl rfl rfl (lN _ (by omega) (by omega) (by omega) (by omega)) (lN _ (by omega) (by omega) (by omega) (by omega)) (fun i q1 q2 => lN _ (by omega) (by omega) (by omega) (by omega))
    rcases (by omega : i = 0 ∨ i = 1 ∨ i = 2 ∨ i = 3) with rfl | rfl | rfl | rfl
    · exact y4
    · rw [yk _ (by omega) (by omega) (by omega)]; exact q1.symm
    · rw [yk _ (by omega) (by omega) (by omega)]; exact q2.symm
    · rw [yk _ (by omega) (by omega) (by omega)]; exact q3.symm
  · exact r2.cg (fun i q1 q2 => yk i (by omega) (by omega) (by omega)) (fun i q1 q2 => oN _ (by omega) (by omega) (by omega) (by omega) (by omega) (by omega))
  · exact r3.cg (yk _ (by omega) (by omega) (by omega)) (yk _ (by omega) (by omega) (by omega)) (oN _ (by omega) (by omega) (by omega) (by omega) (by omega) (by omega)) (fun i q1 q2 => oN _ (by omega) (by omega) (by omega) (by omega) (by omega) (by omega))
  · exact r4.cg (yk _ (by omega) (by omega) (by omega)) (fun i q1 q2 => oN _ (by omega) (by omega) (by omega) (by omega) (by omega) (by omega))
  · exact r5.cg (fun k q1 q2 => yk _ (by omega) (by omega) (by omega)) (fun i q1 q2 q3 => oN _ (by omega) (by omega) (by omega) (by omega) (by omega) (by omega))
  · unfold bRSc
    rw [yz 7 (by omega) (by omega), yz 8 (by omega) (by omega), yz 9 (by omega) (by omega), yz 10 (by omega) (by omega), yz 11 (by omega) (by omega), yz 12 (by omega) (by omega), yz 13 (by omega) (by omega), yz 14 (by omega) (by omega), y15, y16, yk 33 (by omega) (by omega) (by omega),
      oN 0 (by omega) (by omega) (by omega) (by omega) (by omega) (by omega), oN 1 (by omega) (by omega) (by omega) (by omega) (by omega) (by omega), oN 2 (by omega) (by omega) (by omega) (by omega) (by omega) (by omega), oN 3 (by omega) (by omega) (by omega) (by omega) (by omega) (by omega), oN 4 (by omega) (by omega) (by omega) (by omega) (by omega) (by omega), oN 5 (by omega) (by omega) (by omega) (by omega) (by omega) (by omega), oN 6 (by omega) (by omega) (by omega) (by omega) (by omega) (by omega), oN 7 (by omega) (by omega) (by omega) (by omega) (by omega) (by omega),
      l4 8 (by omega) (by omega), l4 9 (by omega) (by omega), k8, k9]
    exact ⟨s0, s1, s2, s3, rfl, by omega, s6, s7, s8, s9, s10⟩
  · rw [y23, hf1]
  · rw [y23, hc1]
  · exact (we (i + 1) (by omega)).next (fun k z1 z2 => yk k (by omega) (by omega) (by omega)) (by omega) (by rw [yk 33 (by omega) (by omega) (by omega)]) (yz 7 (by omega) (by omega)) ⟨yk _ (by omega) (by omega) (by omega), yk _ (by omega) (by omega) (by omega), yk _ (by omega) (by omega) (by omega), yk _ (by omega) (by omega) (by omega)⟩ (fun x hx => by
      rw [l3 _ (by omega) (by omega), kN _ (by omega) (by omega), p8 _ (by omega) (by omega), show 1730 + 15 * i + x + 15 = 1730 + 15 * (i + 1) + x by omega])
  · rw [hseq 24 (by omega) (by omega)]
    exact ws (i + 1) (j + 1) (by omega) (by omega)
  · have hd := d1.ack hs0 ht0
    have hst : bSt m' 7 = bSt m 7 := by funext n; show m' 7 _ = m 7 _; rw [yk 7 (by omega) (by omega) (by omega)]
    have f3 : m' 4 3 = m 4 3 + 1 := by rw [y4, p4]
    have f4 : m' 4 4 = m 4 4 - 1 := by rw [y4, p5]
    have f5 : m' 4 5 = m 4 5 - 1 := by rw [y4, p6, if_neg (by rw [a3]; omega)]
    rw [f3, f4, f5, yk 12 (by omega) (by omega) (by omega), hst, yz 7 (by omega) (by omega), yk 33 (by omega) (by omega) (by omega), hseq 24 (by omega) (by omega), hseq 25 (by omega) (by omega), hseq 26 (by omega) (by omega), hseq 27 (by omega) (by omega)]
    exact hd
  · have hd := d2.shift (by rw [hs0]; omega)
    have hst : bSt m' 18 = bSt m 18 := by funext n; show m' 18 _ = m 18 _; rw [yk 18 (by omega) (by omega) (by omega)]
    rw [yk 15 (by omega) (by omega) (by omega), yk 1 (by omega) (by omega) (by omega), hst, yz 7 (by omega) (by omega), yk 33 (by omega) (by omega) (by omega), hseq 24 (by omega) (by omega), hseq 25 (by omega) (by omega), hseq 26 (by omega) (by omega), hseq 27 (by omega) (by omega)]
    exact hd
  · rw [y4, p4, p5]; omega
  · rw [yk 15 (by omega) (by omega) (by omega)]
  · rw [yk 1 (by omega) (by omega) (by omega)]
  · rw [yk 12 (by omega) (by omega) (by omega)]
  · rw [yk 1 (by omega) (by omega) (by omega)]
  · rw [yk 12 (by omega) (by omega) (by omega)]
  · rw [yk 1 (by omega) (by omega) (by omega)]; omega
  · rw [yk 1 (by omega) (by omega) (by omega)]; omega
  · rw [yk 12 (by omega) (by omega) (by omega)]; omega
  · rw [yk 12 (by omega) (by omega) (by omega)]; omega
  · rw [yk 30 (by omega) (by omega) (by omega)]

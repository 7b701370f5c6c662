/-! ===== bytes fed, bytes sent ===== -/
theorem b_byte (x : Int) : 0 ≤ xiand x 255 ∧ xiand x 255 ≤ 255 := by
  have e : Int32.ofInt (255 : Int) = Int32.ofInt ((255 : Nat) : Int) := rfl
  have h1 : (Int32.ofInt x &&& Int32.ofInt 255).toBitVec.toNat ≤ 255 := by
    rw [Int32.toBitVec_and, BitVec.toNat_and]
    exact Nat.le_trans Nat.and_le_right (by decide)
  have h2 : xiand x 255 = ((Int32.ofInt x &&& Int32.ofInt 255).toBitVec.toNat : Int) := by
    unfold xiand
    show (Int32.ofInt x &&& Int32.ofInt 255).toBitVec.toInt = _
    rw [BitVec.toInt_eq_toNat_of_lt (by omega)]
  omega
theorem b_and255 (x : Int) (h : 0 ≤ x ∧ x ≤ 255) : xiand x 255 = x := by
  obtain ⟨n, hn⟩ : ∃ n : Nat, x = n := ⟨x.toNat, by omega⟩
  rw [hn, b_iand255]
  omega
/-- byte i of a word, the most significant first -/
def bByte (a : Int) (i : Nat) : Int := xiand (xishr a (24 - 8 * (i : Int))) 255
theorem X_append_sp (a : Int) (n : Nat) (m : xM) (h : m 0 10 = n) (hn : n + 4 ≤ 600) : ∃ m' : xM, f_X_append a m = some m' ∧ m' 0 10 = ((n + 4 : Nat) : Int) ∧ (∀ i, i < 4 → m' 441 (n + i) = bByte a i) ∧ (∀ i, (i < n ∨ n + 4 ≤ i) → m' 441 i = m 441 i) ∧ (∀ j, j ≠ 10 → m' 0 j = m 0 j) ∧ ∀ k, k ≠ 0 → k ≠ 441 → m' k = m k := by
  have st : ∀ (q : Nat) (x : Int) (c : Nat) (P : xM), P 0 10 = (c : Int) → c < 600 → ¬ xw x < 0 → f_X_append_3 a (q + 1) x P = f_X_append_3 a q (x + (-8)) (xu (xu P 441 c (xiand (xishr a x) 255)) 0 10 ((c + 1 : Nat) : Int)) := fun q x c P hP hc hx => by
    have hb : xib (c : Int) 600 := b_ib (by omega)
    have hx2 : xix (c : Int) = c := by rw [b_ix (by omega)]; exact Int.toNat_natCast _
    rw [f_X_append_3, if_neg hx, hP, if_pos (show xw (c : Int) < xw 600 by rw [b_xw (by omega), b_xw (by omega)]; omega), if_pos hb, hx2]
    unfold f_X_append_43
    rw [show (c : Int) + 1 = ((c + 1 : Nat) : Int) by omega]
  obtain ⟨q, hq⟩ : ∃ q : Nat, fu = q + 5 := ⟨4995, rfl⟩
  have v0 : bByte a 0 = xiand (xishr a 24) 255 := rfl
  have v1 : bByte a 1 = xiand (xishr a (24 + (-8))) 255 := rfl
  have v2 : bByte a 2 = xiand (xishr a (24 + (-8) + (-8))) 255 := rfl
  have v3 : bByte a 3 = xiand (xishr a (24 + (-8) + (-8) + (-8))) 255 := rfl
  obtain ⟨m1, hm1⟩ : ∃ Z, Z = xu (xu m 441 n (bByte a 0)) 0 10 ((n + 1 : Nat) : Int) := ⟨_, rfl⟩
  obtain ⟨m2, hm2⟩ : ∃ Z, Z = xu (xu m1 441 (n + 1) (bByte a 1)) 0 10 ((n + 2 : Nat) : Int) := ⟨_, rfl⟩
  obtain ⟨m3, hm3⟩ : ∃ Z, Z = xu (xu m2 441 (n + 2) (bByte a 2)) 0 10 ((n + 3 : Nat) : Int) := ⟨_, rfl⟩
  obtain ⟨m4, hm4⟩ : ∃ Z, Z = xu (xu m3 441 (n + 3) (bByte a 3)) 0 10 ((n + 4 : Nat) : Int) := ⟨_, rfl⟩
  have k1 : m1 0 10 = ((n + 1 : Nat) : Int) := by rw [hm1, xu_s rfl]
  have k2 : m2 0 10 = ((n + 2 : Nat) : Int) := by rw [hm2, xu_s rfl]
  have k3 : m3 0 10 = ((n + 3 : Nat) : Int) := by rw [hm3, xu_s rfl]
  have k4 : m4 0 10 = ((n + 4 : Nat) : Int) := by rw [hm4, xu_s rfl]
  have b1 : ∀ i, m1 441 i = if i = n then bByte a 0 else m 441 i := fun i => by
    rw [hm1, xu_k (by omega)]
    by_cases hi : i = n
    · rw [if_pos hi, xu_s hi]
    · rw [if_neg hi, xu_d hi]
  have b2 : ∀ i, m2 441 i = if i = n + 1 then bByte a 1 else m1 441 i := fun i => by
    rw [hm2, xu_k (by omega)]
    by_cases hi : i = n + 1
    · rw [if_pos hi, xu_s hi]
    · rw [if_neg hi, xu_d hi]
  have b3 : ∀ i, m3 441 i = if i = n + 2 then bByte a 2 else m2 441 i := fun i => by
    rw [hm3, xu_k (by omega)]
    by_cases hi : i = n + 2
    · rw [if_pos hi, xu_s hi]
    · rw [if_neg hi, xu_d hi]
  have b4 : ∀ i, m4 441 i = if i = n + 3 then bByte a 3 else m3 441 i := fun i => by
    rw [hm4, xu_k (by omega)]
    by_cases hi : i = n + 3
    · rw [if_pos hi, xu_s hi]
    · rw [if_neg hi, xu_d hi]
  refine ⟨m4, ?_, k4, fun i hi => ?_, fun i hi => ?_, fun j hj => ?_, fun k h0 h441 => ?_⟩
  · unfold f_X_append
    rw [hq, st (q + 4) 24 n m h (by omega) (by decide), ← v0, ← hm1, st (q + 3) _ (n + 1) m1 k1 (by omega) (by decide), ← v1, ← hm2, st (q + 2) _ (n + 2) m2 k2 (by omega) (by decide), ← v2, ← hm3, st (q + 1) _ (n + 3) m3 k3 (by omega) (by decide), ← v3, ← hm4, f_X_append_3, if_pos (by decide)]
  · rw [b4, b3, b2, b1]
    rcases (by omega : i = 0 ∨ i = 1 ∨ i = 2 ∨ i = 3) with rfl | rfl | rfl | rfl
    · rw [if_neg (by omega), if_neg (by omega), if_neg (by omega), if_pos (by omega)]
    · rw [if_neg (by omega), if_neg (by omega), if_pos (by omega)]
    · rw [if_neg (by omega), if_pos (by omega)]
    · rw [if_pos (by omega)]
  · rw [b4, b3, b2, b1, if_neg (by omega), if_neg (by omega), if_neg (by omega), if_neg (by omega)]
  · rw [hm4, xu_d hj, xu_k (by omega), hm3, xu_d hj, xu_k (by omega), hm2, xu_d hj, xu_k (by omega), hm1, xu_d hj, xu_k (by omega)]
  · rw [hm4, xu_K h0, xu_K h441, hm3, xu_K h0, xu_K h441, hm2, xu_K h0, xu_K h441, hm1, xu_K h0, xu_K h441]
/-- the five words of a feed -/
def bWord (a b c d e : Int) (k : Nat) : Int := if k < 4 then a else if k < 8 then b else if k < 12 then c else if k < 16 then d else e
theorem m_feed_23 (a b c d e : Int) (n0 : Nat) (hn : n0 + 20 ≤ 600) : ∀ (k x n : Nat) (M : xM), x + k = 20 → k < n → M 0 13 = ((n0 + x : Nat) : Int) → ∃ M' : xM, f_m_feed_23 a b c d e n (x : Int) M = some (((n0 + 20 : Nat) : Int), M') ∧ M' 0 13 = ((n0 + 20 : Nat) : Int) ∧ (∀ i, x ≤ i → i < 20 → M' 8 (n0 + i) = bByte (bWord a b c d e i) (i % 4)) ∧ (∀ i, (i < n0 + x ∨ n0 + 20 ≤ i) → M' 8 i = M 8 i) ∧ (∀ j, j ≠ 13 → M' 0 j = M 0 j) ∧ ∀ k, k ≠ 0 → k ≠ 8 → M' k = M k := by
  intro k
  induction k with
  | zero =>
    intro x n M h1 h2 h3
    obtain ⟨n, rfl⟩ : ∃ z, n = z + 1 := ⟨n - 1, by omega⟩
    have hx : x = 20 := by omega
    subst hx
    rw [f_m_feed_23, if_neg (by decide)]
    unfold f_m_feed_120
    rw [h3]
    exact ⟨M, rfl, h3, fun i q1 q2 => by omega, fun _ _ => rfl, fun _ _ => rfl, fun _ _ _ => rfl⟩
  | succ k ih =>
    intro x n M h1 h2 h3
    obtain ⟨n, rfl⟩ : ∃ z, n = z + 1 := ⟨n - 1, by omega⟩
    have hx : xw (x : Int) < xw 20 := by rw [b_xw (by omega), b_xw (by omega)]; omega
    have c4 : (xw (x : Int) < xw 4) ↔ x < 4 := by rw [b_xw (by omega), b_xw (by omega)]; omega
    have c8 : (xw (x : Int) < xw 8) ↔ x < 8 := by rw [b_xw (by omega), b_xw (by omega)]; omega
    have c12 : (xw (x : Int) < xw 12) ↔ x < 12 := by rw [b_xw (by omega), b_xw (by omega)]; omega
    have c16 : (xw (x : Int) < xw 16) ↔ x < 16 := by rw [b_xw (by omega), b_xw (by omega)]; omega
    obtain ⟨M1, hM1⟩ : ∃ Z, Z = xu (xu M 8 (n0 + x) (bByte (bWord a b c d e x) (x % 4))) 0 13 ((n0 + x + 1 : Nat) : Int) := ⟨_, rfl⟩
    have e76 : ∀ s0 : Int, s0 = bWord a b c d e x → f_m_feed_76 a b c d e (f_m_feed_23 a b c d e n) (x : Int) s0 M = f_m_feed_23 a b c d e n ((x + 1 : Nat) : Int) M1 := fun s0 hs => by
      have hb : xib (((n0 + x : Nat)) : Int) 600 := b_ib (by omega)
      have hix : xix (((n0 + x : Nat)) : Int) = n0 + x := by rw [b_ix (by omega)]; exact Int.toNat_natCast _
      have h4 : xirem (x : Int) 4 = ((x % 4 : Nat) : Int) := by
        have := b_irem x 4 (by omega) (by omega) (by omega)
        exact this
      unfold f_m_feed_76 f_m_feed_104
      rw [if_neg (by decide), h3, if_pos hb, hix, h4, hs, show (x : Int) + 1 = ((x + 1 : Nat) : Int) by omega]
      have e13 : ∀ v : Int, xu M 8 (n0 + x) v 0 13 = ((n0 + x : Nat) : Int) := fun v => by rw [xu_k (by omega), h3]
      rw [e13, hM1]
      congr 2
    have e23 : f_m_feed_23 a b c d e (n + 1) (x : Int) M = f_m_feed_23 a b c d e n ((x + 1 : Nat) : Int) M1 := by
      rw [f_m_feed_23, if_pos hx]
      by_cases h4 : x < 4
      · rw [if_pos (c4.mpr h4)]; exact e76 a (by unfold bWord; rw [if_pos h4])
      · rw [if_neg (fun z => h4 (c4.mp z))]
        by_cases h8 : x < 8
        · rw [if_pos (c8.mpr h8)]; exact e76 b (by unfold bWord; rw [if_neg h4, if_pos h8])
        · rw [if_neg (fun z => h8 (c8.mp z))]
          by_cases h12 : x < 12
          · rw [if_pos (c12.mpr h12)]; exact e76 c (by unfold bWord; rw [if_neg h4, if_neg h8, if_pos h12])
          · rw [if_neg (fun z => h12 (c12.mp z))]
            by_cases h16 : x < 16
            · rw [if_pos (c16.mpr h16)]; exact e76 d (by unfold bWord; rw [if_neg h4, if_neg h8, if_neg h12, if_pos h16])
            · rw [if_neg (fun z => h16 (c16.mp z))]; exact e76 e (by unfold bWord; rw [if_neg h4, if_neg h8, if_neg h12, if_neg h16])
    obtain ⟨M', p1, p2, p3, p4, p5, p6⟩ := ih (x + 1) n M1 (by omega) (by omega) (by rw [hM1, xu_s rfl]; congr 1)
    have g8 : ∀ i, M1 8 i = if i = n0 + x then bByte (bWord a b c d e x) (x % 4) else M 8 i := fun i => by
      rw [hM1, xu_k (by omega)]
      by_cases hi : i = n0 + x
      · rw [if_pos hi, xu_s hi]
      · rw [if_neg hi, xu_d hi]
    refine ⟨M', by rw [e23, p1], p2, fun i q1 q2 => ?_, fun i hi => ?_, fun j hj => by rw [p5 j hj, hM1, xu_d hj, xu_k (by omega)], fun k k0 k8 => by rw [p6 k k0 k8, hM1, xu_K k0, xu_K k8]⟩
    · by_cases hi : i = x
      · rw [hi, p4 _ (by omega), g8, if_pos rfl]
      · exact p3 i (by omega) q2
    · rw [p4 i (by omega), g8, if_neg (by omega)]
theorem X_feed_sp {G : bGt} (a b c d e : Int) (m M : xM) (h : bX G m M) : bOk G (f_X_feed a b c d e m) (f_m_feed a b c d e M) := by
  have h0 := h.thr 0
  obtain ⟨M0, hM0⟩ : ∃ Z, Z = xu M 0 6 0 := ⟨_, rfl⟩
  rw [← hM0] at h0
  have t0 : M0 0 6 = 0 := by rw [hM0, xu_s rfl]
  obtain ⟨n, a1, a2, a3, a4⟩ := h0.2.2.2.1
  have a3' : M 0 13 = n := by rw [← a3, hM0, xu_d (by omega)]
  unfold f_X_feed f_m_feed
  rw [a2, a3', ← hM0]
  by_cases hf : n + 20 ≤ 600
  · rw [if_neg (show ¬ xw 600 < xw ((n : Int) + 20) by rw [b_xw (by omega), b_xw (by omega)]; omega), if_neg (show ¬ xw 600 < xw ((n : Int) + 20) by rw [b_xw (by omega), b_xw (by omega)]; omega)]
    obtain ⟨m1, p1, p2, p3, p4, p5, p6⟩ := X_append_sp a n m a2 (by omega)
    obtain ⟨m2, q1, q2, q3, q4, q5, q6⟩ := X_append_sp b (n + 4) m1 p2 (by omega)
    obtain ⟨m3, r1, r2, r3, r4, r5, r6⟩ := X_append_sp c (n + 4 + 4) m2 q2 (by omega)
    obtain ⟨m4, s1, s2, s3, s4, s5, s6⟩ := X_append_sp d (n + 4 + 4 + 4) m3 r2 (by omega)
    obtain ⟨m5, u1, u2, u3, u4, u5, u6⟩ := X_append_sp e (n + 4 + 4 + 4 + 4) m4 s2 (by omega)
    obtain ⟨M1, v1, v2, v3, v4, v5, v6⟩ := m_feed_23 a b c d e n hf 20 0 fu M0 (by omega) (by show _ < 5000; omega) (by rw [a3]; rfl)
    have v1' : f_m_feed_23 a b c d e fu 0 M0 = some (((n + 20 : Nat) : Int), M1) := v1
    have e10 : m5 0 10 = ((n + 20 : Nat) : Int) := by rw [u2]
    have gk : ∀ k, k ≠ 0 → k ≠ 441 → m5 k = m k := fun k k0 k1 => by rw [u6 k k0 k1, s6 k k0 k1, r6 k k0 k1, q6 k k0 k1, p6 k k0 k1]
    have g0 : ∀ j, j ≠ 10 → m5 0 j = m 0 j := fun j hj => by rw [u5 j hj, s5 j hj, r5 j hj, q5 j hj, p5 j hj]
    have gold : ∀ i, i < n → m5 441 i = m 441 i := fun i hi => by rw [u4 i (by omega), s4 i (by omega), r4 i (by omega), q4 i (by omega), p4 i (by omega)]
    have gnew : ∀ i, i < 20 → m5 441 (n + i) = bByte (bWord a b c d e i) (i % 4) := fun i hi => by
      unfold bWord
      by_cases h4 : i < 4
      · rw [if_pos h4, u4 _ (by omega), s4 _ (by omega), r4 _ (by omega), q4 _ (by omega), p3 i h4, Nat.mod_eq_of_lt h4]
      · rw [if_neg h4]
        by_cases h8 : i < 8
        · rw [if_pos h8, u4 _ (by omega), s4 _ (by omega), r4 _ (by omega), show n + i = n + 4 + (i - 4) by omega, q3 (i - 4) (by omega), show i % 4 = i - 4 by omega]
        · rw [if_neg h8]
          by_cases h12 : i < 12
          · rw [if_pos h12, u4 _ (by omega), s4 _ (by omega), show n + i = n + 4 + 4 + (i - 8) by omega, r3 (i - 8) (by omega), show i % 4 = i - 8 by omega]
          · rw [if_neg h12]
            by_cases h16 : i < 16
            · rw [if_pos h16, u4 _ (by omega), show n + i = n + 4 + 4 + 4 + (i - 12) by omega, s3 (i - 12) (by omega), show i % 4 = i - 12 by omega]
            · rw [if_neg h16, show n + i = n + 4 + 4 + 4 + 4 + (i - 16) by omega, u3 (i - 16) (by omega), show i % 4 = i - 16 by omega]
    rw [p1, b_bs, q1, b_bs, r1, b_bs, s1, b_bs, u1, b_bs, v1', e10]
    refine ⟨_, m5, M1, rfl, rfl, by rw [v5 6 (by omega), t0], ?_, ?_, ?_, ⟨n + 20, hf, e10, v2, fun i hi => ?_⟩, ?_, h0.2.2.2.2.2.cg (v5 11 (by omega)) (v6 7 (by omega) (by omega))⟩
    · exact h0.1.cg (bV_eq (by omega) (fun k k1 k2 => gk k (by omega) (by omega)) (fun k k1 k2 => gk k (by omega) (by omega))) (fun i hi => by rw [v6 1 (by omega) (by omega)])
    · exact h0.2.1.cg ⟨g0 8 (by omega), g0 7 (by omega)⟩ (fun k k1 k2 => gk k (by omega) (by omega)) (fun k k1 k2 => gk k (by omega) (by omega)) (v5 5 (by omega)) (v6 5 (by omega) (by omega))
    · exact h0.2.2.1.cg (g0 5 (by omega)) (fun k k1 k2 => gk k (by omega) (by omega)) (fun k k1 k2 => gk k (by omega) (by omega)) (v5 7 (by omega)) (v6 4 (by omega) (by omega))
    · by_cases hi2 : i < n
      · rw [gold i hi2, v4 i (by omega)]; exact a4 i hi2
      · have e1 := gnew (i - n) (by omega)
        have e2 := v3 (i - n) (by omega) (by omega)
        rw [show n + (i - n) = i by omega] at e1 e2
        rw [e1, e2]
        exact ⟨rfl, b_byte _⟩
    · rw [g0 11 (by omega), v5 20 (by omega), h0.2.2.2.2.1]
  · rw [if_pos (show xw 600 < xw ((n : Int) + 20) by rw [b_xw (by omega), b_xw (by omega)]; omega), if_pos (show xw 600 < xw ((n : Int) + 20) by rw [b_xw (by omega), b_xw (by omega)]; omega)]
    exact ⟨-1, m, M0, rfl, rfl, t0, h0⟩

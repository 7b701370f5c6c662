/-! ===== what is under way when a frame goes out ===== -/
/-- an old entry -/
theorem bWe.keep {e F C f i : Nat} {m m' : xM} {N N' : Nat → Int} {lo hi : Int} (h : bWe e m N lo hi f i) (hd : bSq m 25 f i = (e : Int) → bSq m 27 f i ≠ 1 → ∃ p : Nat, p < C ∧ bSq m 26 f i = ((F + p : Nat) : Int)) (q24 : bSq m' 24 f i = bSq m 24 f i) (q25 : bSq m' 25 f i = bSq m 25 f i) (q26 : bSq m' 26 f i = bSq m 26 f i) (q27 : bSq m' 27 f i = bSq m 27 f i)
    (k0 : m' 0 7 = m 0 7) (k33 : m' 33 10 = m 33 10) (k16 : m' 16 = m 16) (k17 : m' 17 = m 17) (g6 : ∀ p, p < C → m' 6 ((F + p) % 7) = m 6 ((F + p) % 7) ∧ ∀ j, j < 8 → m' 5 ((F + p) % 7 * 8 + j) = m 5 ((F + p) % 7 * 8 + j))
    (hN : ∀ x, x < 15 → N' (1730 + 15 * i + x) = N (1730 + 15 * i + x)) : bWe e m' N' lo hi f i := by
  obtain ⟨c1, c2, c3, c4, c5⟩ := h
  have e0 : N' (1730 + 15 * i) = N (1730 + 15 * i) := hN 0 (by omega)
  unfold bWe
  rw [q24, q25, q26, q27, k0, k33, e0, hN 1 (by omega), hN 2 (by omega), hN 3 (by omega), hN 5 (by omega), hN 6 (by omega)]
  refine ⟨c1, c2, c3, c4, fun hx => ?_⟩
  obtain ⟨x1, x2, x3, x4, x5⟩ := c5 hx
  have hB : ∀ j, j < 8 → N' (1730 + 15 * i + 7 + j) = N (1730 + 15 * i + 7 + j) := fun j hj => by
    have := hN (7 + j) (by omega)
    rw [← Nat.add_assoc] at this
    exact this
  refine ⟨x1, x2, x3, fun hy => ?_, fun hy => ?_⟩
  · obtain ⟨y1, y2⟩ := x4 hy
    obtain ⟨p, hp1, hp⟩ := hd hy hx
    have hm : ((((F + p : Nat) : Int)) % 7).toNat = (F + p) % 7 := by omega
    unfold bWc
    rw [hp, hm] at y1 y2 ⊢
    obtain ⟨g61, g62⟩ := g6 p hp1
    have y1' : N (1730 + 15 * i + 4) = m 6 ((F + p) % 7) := y1
    have y2' : ∀ j : Nat, j < 8 → (j : Int) < m 6 ((F + p) % 7) → N (1730 + 15 * i + 7 + j) = m 5 ((F + p) % 7 * 8 + j) := y2
    refine ⟨?_, fun j hj hj2 => ?_⟩
    · show _ = m' 6 _
      rw [hN 4 (by omega), y1', g61]
    · have hj3 : (j : Int) < m' 6 ((F + p) % 7) := hj2
      rw [g61] at hj3
      show _ = m' 5 _
      rw [hB j hj, y2' j hj hj3, g62 j hj]
  · obtain ⟨y1, y2⟩ := x5 hy
    have y1' : N (1730 + 15 * i + 4) = m 17 (bSq m 26 f i % 7).toNat := y1
    have y2' : ∀ j : Nat, j < 8 → (j : Int) < m 17 (bSq m 26 f i % 7).toNat → N (1730 + 15 * i + 7 + j) = m 16 ((bSq m 26 f i % 7).toNat * 8 + j) := y2
    refine ⟨?_, fun j hj hj2 => ?_⟩
    · show _ = m' 17 _
      rw [hN 4 (by omega), y1', k17]
    · have hj3 : (j : Int) < m' 17 (bSq m 26 f i % 7).toNat := hj2
      rw [k17] at hj3
      show _ = m' 16 _
      rw [hB j hj, y2' j hj hj3, k16]
/-- the new entry, in the reference -/
def bEnt (e c F S : Nat) (z : Int) (m m' : xM) (N' : Nat → Int) : Prop :=
  (N' (1730 + 15 * c) = m 0 7 + m 33 10 ∧ N' (1730 + 15 * c + 1) = 0 ∧ N' (1730 + 15 * c + 2) = 1 - (e : Int) ∧ N' (1730 + 15 * c + 3) = ((F + S : Nat) : Int)) ∧ (N' (1730 + 15 * c + 5) = if z = 2 ∨ z = 6 then 1 else 0) ∧ (N' (1730 + 15 * c + 6) = if z = 4 ∨ z = 6 then 1 else 0) ∧
    N' (1730 + 15 * c + 4) = m' 6 ((F + S) % 7) ∧ ∀ j : Nat, j < 8 → (j : Int) < m' 6 ((F + S) % 7) → N' (1730 + 15 * c + 7 + j) = m' 5 ((F + S) % 7 * 8 + j)
theorem bWe.new {e F S f c : Nat} {z : Int} {m m' : xM} {N' : Nat → Int} {lo hi : Int} (he : e < 2) (ht : m 0 7 < hi) (hlo : lo ≤ m 0 7) (b24 : bSq m' 24 f c = m 0 7) (b25 : bSq m' 25 f c = e) (b26 : bSq m' 26 f c = ((F + S : Nat) : Int)) (b27 : bSq m' 27 f c = z) (hz : z = 0 ∨ z = 2 ∨ z = 4 ∨ z = 6) (k0 : m' 0 7 = m 0 7) (k33 : m' 33 10 = m 33 10) (hn : bEnt e c F S z m m' N') : bWe e m' N' lo hi f c := by
  have hz1 : z ≠ 1 := by omega
  have hz2 : z = 0 ∨ z = 1 ∨ z = 2 ∨ z = 4 ∨ z = 6 := by omega
  have he2 : (e : Int) = 0 ∨ (e : Int) = 1 := by omega
  have hne : ¬ (e : Int) = 1 - (e : Int) := by omega
  have hm : ((((F + S : Nat) : Int)) % 7).toNat = (F + S) % 7 := by omega
  obtain ⟨⟨n0, n1, n2, n3⟩, n5, n6, n4, n7⟩ := hn
  unfold bWe
  rw [b24, b25, b26, b27, k0, k33]
  refine ⟨⟨n0, by rw [n1, if_neg hz1], n2, n3⟩, he2, hz2, ⟨hlo, Int.le_refl _⟩, fun _ => ⟨ht, n5, n6, fun _ => ?_, fun hx => absurd hx hne⟩⟩
  unfold bWc
  rw [hm]
  exact ⟨n4, n7⟩
theorem bWire.send {e F C C' S f c : Nat} {z : Int} {m m' : xM} {N N' : Nat → Int} {lo hi : Int} (h : bWire e m N lo hi f c) (he : e < 2) (ht : 0 ≤ m 0 7 ∧ m 0 7 < hi) (hlo : lo ≤ m 0 7)
    (h3 : m 4 3 = F) (h4 : m 4 4 = C) (h5 : m 4 5 = S) (hC : C ≤ C' ∧ S < C' ∧ C' ≤ 7 ∧ C' ≤ C + 1)
    (k0 : m' 0 7 = m 0 7) (k33 : m' 33 10 = m 33 10) (k17 : m' 1 7 = m 1 7) (k12 : m' 12 7 = m 12 7) (k15 : m' 15 = m 15) (k16 : m' 16 = m 16) (k17' : m' 17 = m 17) (k18 : m' 18 = m 18)
    (g3 : m' 4 3 = F) (g4 : m' 4 4 = C') (g5 : m' 4 5 = ((S + 1 : Nat) : Int)) (g7 : m' 7 ((F + S) % 7) = m 0 7 ∧ ∀ j, j < 7 → j ≠ (F + S) % 7 → m' 7 j = m 7 j)
    (g6 : ∀ p, p < C → m' 6 ((F + p) % 7) = m 6 ((F + p) % 7) ∧ ∀ j, j < 8 → m' 5 ((F + p) % 7 * 8 + j) = m 5 ((F + p) % 7 * 8 + j))
    (w : m' 24 ((f + c) % 64) = m 0 7 ∧ m' 25 ((f + c) % 64) = e ∧ m' 26 ((f + c) % 64) = ((F + S : Nat) : Int) ∧ m' 27 ((f + c) % 64) = z ∧ m' 23 5 = ((c + 1 : Nat) : Int) ∧ m' 23 4 = m 23 4 ∧ ∀ k i, 24 ≤ k → k ≤ 27 → i ≠ (f + c) % 64 → m' k i = m k i) (hz : z = 0 ∨ z = 2 ∨ z = 4 ∨ z = 6) (hc : c < 60)
    (hN : ∀ i, 1730 ≤ i → i < 1730 + 15 * c → N' i = N i) (h20 : N' 20 = ((c + 1 : Nat) : Int)) (hn : bEnt e c F S z m m' N') : bWire e m' N' lo hi f (c + 1) := by
  obtain ⟨⟨v1, v2, v3, v4⟩, we, ws, d1, d2⟩ := h
  obtain ⟨w24, w25, w26, w27, w5, w4, wo⟩ := w
  have q24 : ∀ i, i < c → bSq m' 24 f i = bSq m 24 f i := fun i hi => wo 24 _ (by omega) (by omega) (by omega)
  have q25 : ∀ i, i < c → bSq m' 25 f i = bSq m 25 f i := fun i hi => wo 25 _ (by omega) (by omega) (by omega)
  have q26 : ∀ i, i < c → bSq m' 26 f i = bSq m 26 f i := fun i hi => wo 26 _ (by omega) (by omega) (by omega)
  have q27 : ∀ i, i < c → bSq m' 27 f i = bSq m 27 f i := fun i hi => wo 27 _ (by omega) (by omega) (by omega)
  have b24 : bSq m' 24 f c = m 0 7 := w24
  have b25 : bSq m' 25 f c = e := w25
  have b26 : bSq m' 26 f c = ((F + S : Nat) : Int) := w26
  have b27 : bSq m' 27 f c = z := w27
  have hz1 : z ≠ 1 := by omega
  have hT : ∀ i, i < c → bSq m' 24 f i = bSq m 24 f i ∧ bSq m' 25 f i = bSq m 25 f i ∧ bSq m' 26 f i = bSq m 26 f i ∧ bSq m' 27 f i = bSq m 27 f i := fun i hi => ⟨q24 i hi, q25 i hi, q26 i hi, q27 i hi⟩
  refine ⟨⟨by rw [w4, v1], v2, w5, h20⟩, fun i hi => ?_, fun i j hij hj => ?_, ?_, ?_⟩
  · by_cases hic : i = c
    · subst hic
      exact bWe.new he ht.2 hlo b24 b25 b26 b27 hz k0 k33 hn
    · have hi2 : i < c := by omega
      refine (we i hi2).keep (F := F) (C := C) (fun hy hx => ?_) (q24 i hi2) (q25 i hi2) (q26 i hi2) (q27 i hi2) k0 k33 k16 k17' g6 (fun x hx => hN _ (by omega) (by omega))
      obtain ⟨⟨t1, t2, t3, t4, t5⟩, dd, -⟩ := d1
      have hn := dd i hi2 hy hx
      rw [h3, h4] at *
      exact ⟨(bSq m 26 f i - F).toNat, by omega, by omega⟩
  · by_cases hjc : j = c
    · subst hjc
      rw [b24, q24 i hij]
      exact (we i hij).2.2.2.1.2
    · rw [q24 i (by omega), q24 j (by omega)]
      exact ws i j hij (by omega)
  · rw [g3, g4, g5, k12, k0, k33]
    rw [h3, h4, h5] at d1
    have hm : (((F : Int) + (S : Int)) % 7).toNat = (F + S) % 7 := by omega
    have := d1.send (C' := (C' : Int)) (st' := bSt m' 7) (T' := bSq m' 24 f) (Sn' := bSq m' 25 f) (Nn' := bSq m' 26 f) (Tr' := bSq m' 27 f) (by omega) (by show m' 7 _ = _; rw [hm]; exact g7.1) (fun n q1 q2 q3 => by
      show m' 7 _ = m 7 _
      exact g7.2 _ (by omega) (by omega)) ht.1 (fun i hi => (we i hi).2.2.2.1.2) hT ⟨b24, b25, by rw [b26]; omega, by rw [b27]; exact hz1⟩
    rw [show ((S + 1 : Nat) : Int) = (S : Int) + 1 by omega]
    exact this
  · have x18 : bSt m' 18 = bSt m 18 := by funext n; show m' 18 _ = m 18 _; rw [k18]
    rw [k15, k17, x18, k0, k33]
    exact d2.app hT (by rw [b25]; omega) (by rw [b27]; omega)
/-- the reference's queue moves up -/
theorem sendNew_204 (e o z q' : Nat) (he : e < 2) (ho : o = 56 + 717 * e) (hz : z ≤ 8) (hq : q' + z ≤ 200) : ∀ (k p n : Nat) (M : xM), M 1 o = q' → p + k = q' → k < n → ∃ M' : xM, f_m_sendNew_204 (e : Int) n (z : Int) (p : Int) M = some (1, M') ∧ (∀ i, p ≤ i → i < q' → M' 1 (o + 117 + i) = M 1 (o + 117 + i + z)) ∧ (∀ i, (i < o + 117 + p ∨ o + 117 + q' ≤ i) → M' 1 i = M 1 i) ∧ ∀ k, k ≠ 1 → M' k = M k := by
  intro k
  induction k with
  | zero =>
    intro p n M h0 h1 h2
    obtain ⟨n, rfl⟩ : ∃ z, n = z + 1 := ⟨n - 1, by omega⟩
    rw [f_m_sendNew_204, m_of (i := o) M (by omega) (by omega), b_bs, h0, if_neg (by rw [b_xw (by omega), b_xw (by omega)]; omega)]
    exact ⟨M, rfl, fun i h3 h4 => by omega, fun _ _ => rfl, fun _ _ => rfl⟩
  | succ k ih =>
    intro p n M h0 h1 h2
    obtain ⟨n, rfl⟩ : ∃ z, n = z + 1 := ⟨n - 1, by omega⟩
    rw [f_m_sendNew_204, m_of (i := o) M (by omega) (by omega), b_bs, h0, if_pos (by rw [b_xw (by omega), b_xw (by omega)]; omega), m_endAt (i := o + 117 + p) _ (by omega), b_bs, m_of (i := o + 117 + p + z) M (by omega) (by omega), b_bs, if_pos (b_ib (by omega)), b_ix (by omega), Int.toNat_natCast, show (p : Int) + 1 = ((p + 1 : Nat) : Int) by omega]
    obtain ⟨M', e1, e2, e3, e4⟩ := ih (p + 1) n (xu M 1 (o + 117 + p) (M 1 (o + 117 + p + z))) (by rw [xu_d (by omega), h0]) (by omega) (by omega)
    refine ⟨M', e1, fun i h3 h4 => ?_, fun i h3 => ?_, fun k hk => by rw [e4 k hk, xu_K hk]⟩
    · by_cases h5 : i = p
      · rw [h5, e3 _ (by omega), xu_s rfl]
      · rw [e2 i (by omega) h4, xu_d (by omega)]
    · rw [e3 i (by omega), xu_d (by omega)]
theorem sendNew_123 (e o z C : Nat) (he : e < 2) (ho : o = 56 + 717 * e) (hz : z ≤ 8) (hC : C < 7) : ∀ (k p n : Nat) (M : xM), p + k = z → k < n → ∃ M' : xM, f_m_sendNew_123 (e : Int) n (z : Int) (C : Int) (p : Int) M = f_m_sendNew_159 (e : Int) (z : Int) M' ∧ (∀ i, p ≤ i → i < z → M' 1 (o + 26 + 13 * C + 4 + i) = M 1 (o + 117 + i)) ∧ (∀ i, (i < o + 26 + 13 * C + 4 + p ∨ o + 26 + 13 * C + 4 + z ≤ i) → M' 1 i = M 1 i) ∧ ∀ k, k ≠ 1 → M' k = M k := by
  intro k
  induction k with
  | zero =>
    intro p n M h1 h2
    obtain ⟨n, rfl⟩ : ∃ z, n = z + 1 := ⟨n - 1, by omega⟩
    rw [f_m_sendNew_123, if_neg (by rw [b_xw (by omega), b_xw (by omega)]; omega)]
    exact ⟨M, rfl, fun i h3 h4 => by omega, fun _ _ => rfl, fun _ _ => rfl⟩
  | succ k ih =>
    intro p n M h1 h2
    obtain ⟨n, rfl⟩ : ∃ z, n = z + 1 := ⟨n - 1, by omega⟩
    rw [f_m_sendNew_123, if_pos (by rw [b_xw (by omega), b_xw (by omega)]; omega), m_frameAt (i := o + 26 + 13 * C + 4 + p) _ (by omega), b_bs, m_of (i := o + 117 + p) M (by omega) (by omega), b_bs, if_pos (b_ib (by omega)), b_ix (by omega), Int.toNat_natCast, show (p : Int) + 1 = ((p + 1 : Nat) : Int) by omega]
    obtain ⟨M', e1, e2, e3, e4⟩ := ih (p + 1) n (xu M 1 (o + 26 + 13 * C + 4 + p) (M 1 (o + 117 + p))) (by omega) (by omega)
    refine ⟨M', e1, fun i h3 h4 => ?_, fun i h3 => ?_, fun k hk => by rw [e4 k hk, xu_K hk]⟩
    · by_cases h5 : i = p
      · rw [h5, e3 _ (by omega), xu_s rfl]
      · rw [e2 i (by omega) h4, xu_d (by omega)]
    · rw [e3 i (by omega), xu_d (by omega)]
/-- the reference's new frame, behind the launch -/
theorem sendNew_91_sp (e o z C q : Nat) (M : xM) (he : e < 2) (ho : o = 56 + 717 * e) (hz : z ≤ 8) (hzq : z ≤ q) (hq : q ≤ 200) (hC : C < 7) (h0 : M 1 o = q) (h1 : M 1 (o + 1) = C) : ∃ M' : xM, f_m_sendNew_91 (e : Int) (z : Int) (C : Int) M = some (1, M') ∧
    (M' 1 (o + 26 + 13 * C + 2) = M 1 0 ∧ M' 1 (o + 26 + 13 * C + 3) = 0 ∧ ∀ i, i < z → M' 1 (o + 26 + 13 * C + 4 + i) = M 1 (o + 117 + i)) ∧ (M' 1 o = ((q - z : Nat) : Int) ∧ M' 1 (o + 1) = ((C + 1 : Nat) : Int) ∧ M' 1 (o + 2) = M 1 (o + 2) + 1) ∧ (∀ i, i < q - z → M' 1 (o + 117 + i) = M 1 (o + 117 + i + z)) ∧
    (∀ i, i ≠ o → i ≠ o + 1 → i ≠ o + 2 → (i < o + 26 + 13 * C + 2 ∨ o + 26 + 13 * C + 4 + z ≤ i) → (i < o + 117 ∨ o + 317 ≤ i) → M' 1 i = M 1 i) ∧ ∀ k, k ≠ 1 → M' k = M k := by
  obtain ⟨M1, hM1⟩ : ∃ Z, Z = xu (xu M 1 (o + 26 + 13 * C + 2) (M 1 0)) 1 (o + 26 + 13 * C + 3) 0 := ⟨_, rfl⟩
  obtain ⟨M2, t1, t2, t3, t4⟩ := sendNew_123 e o z C he ho hz hC z 0 fu M1 (by omega) (by show _ < 5000; omega)
  have t1' : f_m_sendNew_123 (e : Int) fu (z : Int) (C : Int) 0 M1 = f_m_sendNew_159 (e : Int) (z : Int) M2 := t1
  have g : ∀ i, i ≠ o + 26 + 13 * C + 2 → i ≠ o + 26 + 13 * C + 3 → M1 1 i = M 1 i := fun i q1 q2 => by rw [hM1, xu_d q2, xu_d q1]
  have g2 : M1 1 (o + 26 + 13 * C + 2) = M 1 0 := by rw [hM1, xu_d (by omega), xu_s rfl]
  have g3 : M1 1 (o + 26 + 13 * C + 3) = 0 := by rw [hM1, xu_s rfl]
  obtain ⟨M3, hM3⟩ : ∃ Z, Z = xu (xu (xu M2 1 (o + 1) (M2 1 (o + 1) + 1)) 1 (o + 2) (M2 1 (o + 2) + 1)) 1 o (M2 1 o - (z : Int)) := ⟨_, rfl⟩
  have w : ∀ i, i ≠ o → i ≠ o + 1 → i ≠ o + 2 → M3 1 i = M2 1 i := fun i q1 q2 q3 => by rw [hM3, xu_d q1, xu_d q3, xu_d q2]
  have w0 : M3 1 o = ((q - z : Nat) : Int) := by rw [hM3, xu_s rfl, t3 _ (by omega), g _ (by omega) (by omega), h0]; omega
  have w1 : M3 1 (o + 1) = ((C + 1 : Nat) : Int) := by rw [hM3, xu_d (by omega), xu_d (by omega), xu_s rfl, t3 _ (by omega), g _ (by omega) (by omega), h1]; omega
  have w2 : M3 1 (o + 2) = M 1 (o + 2) + 1 := by rw [hM3, xu_d (by omega), xu_s rfl, t3 _ (by omega), g _ (by omega) (by omega)]
  obtain ⟨M', u1, u2, u3, u4⟩ := sendNew_204 e o z (q - z) he ho hz (by omega) (q - z) 0 fu M3 w0 (by omega) (by show _ < 5000; omega)
  have u1' : f_m_sendNew_204 (e : Int) fu (z : Int) 0 M3 = some (1, M') := u1
  refine ⟨M', ?_, ⟨?_, ?_, fun i hi => ?_⟩, ⟨?_, ?_, ?_⟩, fun i hi => ?_, fun i q1 q2 q3 q4 q5 => ?_, fun k hk => ?_⟩
  · unfold f_m_sendNew_91
    rw [m_frameAt (i := o + 26 + 13 * C + 2) _ (by omega), b_bs, if_pos (show xib 0 3530 from b_ib (by omega)), if_pos (b_ib (by omega)), b_ix (by omega), Int.toNat_natCast, m_frameAt (i := o + 26 + 13 * C + 3) _ (by omega), b_bs, if_pos (b_ib (by omega)), b_ix (by omega), Int.toNat_natCast, ← hM1, t1']
    unfold f_m_sendNew_159
    rw [m_endAt (i := o + 1) _ (by omega), b_bs, if_pos (b_ib (by omega)), if_pos (b_ib (by omega)), b_ix (by omega), Int.toNat_natCast, m_endAt (i := o + 2) _ (by omega), b_bs, if_pos (b_ib (by omega)), if_pos (b_ib (by omega)), b_ix (by omega), Int.toNat_natCast]
    unfold f_m_sendNew_187
    have y1 : xu M2 1 (o + 1) (M2 1 (o + 1) + 1) 1 (o + 2) = M2 1 (o + 2) := xu_d (by omega)
    have y2 : xu (xu M2 1 (o + 1) (M2 1 (o + 1) + 1)) 1 (o + 2) (M2 1 (o + 2) + 1) 1 o = M2 1 o := by rw [xu_d (by omega), xu_d (by omega)]
    rw [m_endAt (i := o) _ (by omega), b_bs, if_pos (b_ib (by omega)), if_pos (b_ib (by omega)), b_ix (by omega), Int.toNat_natCast, y1, y2, ← hM3, u1']
  · rw [u3 _ (by omega), w _ (by omega) (by omega) (by omega), t3 _ (by omega), g2]
  · rw [u3 _ (by omega), w _ (by omega) (by omega) (by omega), t3 _ (by omega), g3]
  · rw [u3 _ (by omega), w _ (by omega) (by omega) (by omega), t2 i (by omega) hi, g _ (by omega) (by omega)]
  · rw [u3 _ (by omega), w0]
  · rw [u3 _ (by omega), w1]
  · rw [u3 _ (by omega), w2]
  · rw [u2 i (by omega) hi, w _ (by omega) (by omega) (by omega), t3 _ (by omega), g _ (by omega) (by omega)]
  · rw [u3 _ (by omega), w _ (by omega) (by omega) (by omega), t3 _ (by omega), g _ (by omega) (by omega)]
  · rw [u4 k hk, hM3, xu_K hk, xu_K hk, xu_K hk, t4 k hk, hM1, xu_K hk, xu_K hk]

/-! ===== dialling, hanging up, what the operations change of a line ===== -/
theorem bWire.of20 {e : Nat} {m : xM} {N : Nat → Int} {lo hi : Int} {f c : Nat} (h : bWire e m N lo hi f c) : N 20 = m 23 5 := by rw [h.1.2.2.2, h.1.2.2.1]
/-- the sum of g from p on, k of them -/
def bSum (g : Nat → Int) : Nat → Nat → Int
  | 0, _ => 0
  | k + 1, p => g p + bSum g k (p + 1)
theorem F_bytes_4 (X : Int) (F C : Nat) (m : xM) (hX : -1000000000 ≤ X ∧ X ≤ 2000000000) (h3 : m 0 3 = F) (h4 : m 0 4 = C) (hC : C ≤ 7) (hF : F ≤ 1000000000) : ∀ (k p n : Nat) (x : Int), p + k = C → k < n → f_F_bytes_4 X m n x (p : Int) = some (x + bSum (fun p => if ((F + p : Nat) : Int) < X then 0 else m 2 ((F + p) % 7)) k p) := by
  intro k
  induction k with
  | zero =>
    intro p n x h1 h2
    obtain ⟨n, rfl⟩ : ∃ z, n = z + 1 := ⟨n - 1, by omega⟩
    rw [f_F_bytes_4, h4, if_neg (by rw [b_xw (by omega), b_xw (by omega)]; omega)]
    unfold bSum
    congr 1; omega
  | succ k ih =>
    intro p n x h1 h2
    obtain ⟨n, rfl⟩ : ∃ z, n = z + 1 := ⟨n - 1, by omega⟩
    rw [f_F_bytes_4, h4, if_pos (by rw [b_xw (by omega), b_xw (by omega)]; omega), h3]
    unfold f_F_bytes_35
    have hs : f_F_slot (p : Int) m = some (((F + p) % 7 : Nat) : Int) := F_slot_sp F p _ m (by rw [h3]; omega) (by omega)
    have hl : (F + p) % 7 < 7 := Nat.mod_lt _ (by decide)
    unfold bSum
    by_cases hc : ((F + p : Nat) : Int) < X
    · rw [if_pos (show xw ((F : Int) + (p : Int)) < xw X by rw [b_xw (by omega), b_xw (by omega)]; omega), show (p : Int) + 1 = ((p + 1 : Nat) : Int) by omega, ih (p + 1) n x (by omega) (by omega), if_pos hc]
      congr 1; omega
    · rw [if_neg (show ¬ xw ((F : Int) + (p : Int)) < xw X by rw [b_xw (by omega), b_xw (by omega)]; omega), hs, b_bs, if_pos (b_ib (by omega)), b_ix (by omega), Int.toNat_natCast, show (p : Int) + 1 = ((p + 1 : Nat) : Int) by omega, ih (p + 1) n _ (by omega) (by omega), if_neg hc]
      congr 1; omega
theorem m_losing_20 (k4 : Int → Int → Option Int) (e o F C : Nat) (X : Int) (g : Nat → Int) (M : xM) (he : e < 2) (ho : o = 56 + 717 * e) (hX : -1000000000 ≤ X ∧ X ≤ 2000000000) (hC : C ≤ 7) (hF : F ≤ 1000000000) (h1 : M 1 (o + 1) = C) (h3 : M 1 (56 + 717 * (1 - e) + 3) = X) (hn : ∀ p, p < C → M 1 (o + 26 + 13 * p) = ((F + p : Nat) : Int) ∧ M 1 (o + 26 + 13 * p + 1) = g p) : ∀ (k p n : Nat) (x : Int), p + k = C → k < n → f_m_losing_20 M k4 n x (e : Int) (p : Int) = k4 (x + bSum (fun p => if ((F + p : Nat) : Int) < X then 0 else g p) k p) ((e : Int) + 1) := by
  intro k
  induction k with
  | zero =>
    intro p n x e1 e2
    obtain ⟨n, rfl⟩ : ∃ z, n = z + 1 := ⟨n - 1, by omega⟩
    rw [f_m_losing_20, m_of (i := o + 1) M (by omega) (by omega), b_bs, h1, if_neg (by rw [b_xw (by omega), b_xw (by omega)]; omega)]
    unfold bSum f_m_losing_68
    rw [Int.add_zero]
  | succ k ih =>
    intro p n x e1 e2
    obtain ⟨n, rfl⟩ : ∃ z, n = z + 1 := ⟨n - 1, by omega⟩
    obtain ⟨g1, g2⟩ := hn p (by omega)
    rw [f_m_losing_20, m_of (i := o + 1) M (by omega) (by omega), b_bs, h1, if_pos (by rw [b_xw (by omega), b_xw (by omega)]; omega), m_ofFrame (i := o + 26 + 13 * p) M (by omega) (by omega), b_bs, m_of (i := 56 + 717 * (1 - e) + 3) M (by omega) (by omega), b_bs, g1, h3]
    unfold bSum f_m_losing_60
    by_cases hc : ((F + p : Nat) : Int) < X
    · rw [if_pos (show xw ((F + p : Nat) : Int) < xw X by rw [b_xw (by omega), b_xw (by omega)]; exact hc), show (p : Int) + 1 = ((p + 1 : Nat) : Int) by omega, ih (p + 1) n _ (by omega) (by omega), if_pos hc]
      congr 1; omega
    · rw [if_neg (show ¬ xw ((F + p : Nat) : Int) < xw X by rw [b_xw (by omega), b_xw (by omega)]; exact hc), m_ofFrame (i := o + 26 + 13 * p + 1) M (by omega) (by omega), b_bs, g2, show (p : Int) + 1 = ((p + 1 : Nat) : Int) by omega, ih (p + 1) n _ (by omega) (by omega), if_neg hc]
      congr 1; omega
theorem L_lost_sp (m M : xM) (h : bLine m M) : ∃ r : Int, f_L_unreceived m = some r ∧ f_m_losing M = some r := by
  obtain ⟨hR, ⟨-, -, ⟨a1, a2, a3, -⟩, ⟨b1, b2, b3, -⟩, -⟩, -⟩ := h
  obtain ⟨F, C, S, v1, v2, v3, v4, v5, v6, v7, v8, v9⟩ := hR.1.1
  obtain ⟨F', C', S', w1, w2, w3, w4, w5, w6, w7, w8, w9⟩ := hR.2.1.1
  rw [show (1 + 3 : Nat) = 4 from rfl] at v1 v2 v3
  rw [show (12 + 3 : Nat) = 15 from rfl] at w1 w2 w3
  obtain ⟨q, q1, q2, q3, -⟩ := hR.1.2.2.2.1
  obtain ⟨p, p1, p2, p3, -⟩ := hR.2.1.2.2.2.1
  have x0 : M 1 59 = m 1 7 := hR.1.2.2.2.2.2.1
  have x1 : M 1 776 = m 12 7 := hR.2.1.2.2.2.2.2.1
  have n0 : M 1 56 = q := q3
  have n1 : M 1 773 = p := p3
  obtain ⟨A, hA⟩ : ∃ A, A = bSum (fun p => if ((F + p : Nat) : Int) < m 12 7 then 0 else m 6 ((F + p) % 7)) C 0 := ⟨_, rfl⟩
  obtain ⟨B, hB⟩ : ∃ B, B = bSum (fun p => if ((F' + p : Nat) : Int) < m 1 7 then 0 else m 17 ((F' + p) % 7)) C' 0 := ⟨_, rfl⟩
  have e0 : f_F_bytes_4 (m 12 7) (xvw [4, 5, 6, 7] m) fu 0 0 = some (0 + A) := by
    rw [hA]; exact F_bytes_4 (m 12 7) F C (xvw [4, 5, 6, 7] m) (by omega) v1 v2 v5 (by omega) C 0 fu 0 (by omega) (by show _ < 5000; omega)
  have e1 : f_F_bytes_4 (m 1 7) (xvw [15, 16, 17, 18] m) fu 0 0 = some (0 + B) := by
    rw [hB]; exact F_bytes_4 (m 1 7) F' C' (xvw [15, 16, 17, 18] m) (by omega) w1 w2 w5 (by omega) C' 0 fu 0 (by omega) (by show _ < 5000; omega)
  have z0 : xw (0 : Int) < xw 2 := by decide
  have z1 : xw ((0 : Int) + 1) < xw 2 := by decide
  have z2 : ¬ xw ((0 : Int) + 1 + 1) < xw 2 := by decide
  have f0 : ∀ k4 x, f_m_losing_20 M k4 fu x 0 0 = k4 (x + A) (0 + 1) := fun k4 x => by
    rw [hA]; exact m_losing_20 k4 0 56 F C (m 12 7) (fun p => m 6 ((F + p) % 7)) M (by omega) rfl (by omega) v5 (by omega) v7 x1 (fun p hp => ⟨(v9 p hp).1, (v9 p hp).2.1⟩) C 0 fu x (by omega) (by show _ < 5000; omega)
  have f1 : ∀ k4 x, f_m_losing_20 M k4 fu x (0 + 1) 0 = k4 (x + B) (0 + 1 + 1) := fun k4 x => by
    rw [hB]; exact m_losing_20 k4 1 773 F' C' (m 1 7) (fun p => m 17 ((F' + p) % 7)) M (by omega) rfl (by omega) w5 (by omega) w7 x0 (fun p hp => ⟨(w9 p hp).1, (w9 p hp).2.1⟩) C' 0 fu x (by omega) (by show _ < 5000; omega)
  have h5 : ∃ n : Nat, fu = n + 3 := ⟨4997, rfl⟩
  obtain ⟨n5, h5⟩ := h5
  refine ⟨((q : Int) + A + p) + B, ?_, ?_⟩
  · unfold f_L_unreceived f_F_bytes
    rw [e0, e1, b_bs, b_bs, q2, p2]
    congr 1; omega
  · have g0 : f_m_losing_4 M (n5 + 3) 0 0 = f_m_losing_4 M (n5 + 2) (0 + (q : Int) + A) (0 + 1) := by
      rw [f_m_losing_4, if_pos z0, m_of (i := 56) M (by omega) (by omega), b_bs, n0, f0]
    have g1 : ∀ x : Int, f_m_losing_4 M (n5 + 2) x (0 + 1) = f_m_losing_4 M (n5 + 1) (x + (p : Int) + B) (0 + 1 + 1) := fun x => by
      rw [f_m_losing_4, if_pos z1, m_of (i := 773) M (by omega) (by omega), b_bs, n1, f1]
    have g2 : ∀ x : Int, f_m_losing_4 M (n5 + 1) x (0 + 1 + 1) = some x := fun x => by
      rw [f_m_losing_4, if_neg z2]
    unfold f_m_losing
    rw [h5, g0, g1, g2]
    congr 1; omega
/-- hanging up, a whole line -/
theorem L_hang_sp (m M : xM) (h : bLine m M) : ∃ m' M' : xM, f_L_cut m = some m' ∧ f_m_hang M = some M' ∧ bLine m' M' ∧ m' 0 7 = m 0 7 ∧ (∀ k, 33 ≤ k → k ≤ 37 → m' k = m k) ∧ bMK M M' := by
  obtain ⟨hR, hB, h20, hf, hW⟩ := h
  obtain ⟨m', M', p1, p2, p3, p4, p5, p6⟩ := L_cut_sp m M hR
  have h0 := p4.1.1
  exact ⟨m', M', p1, p2, ⟨p3, hB.cut p4, by rw [p5, p4.2.1], by rw [N_cut p1]; exact hf, fun z => by rw [h0] at z; exact absurd z (by decide)⟩, p4.1.2 7 (by omega), fun k k1 k2 => p4.2.2.2.2.2.2 k (by omega) (by omega) (by omega) (by omega) (by omega) (by omega) (by omega) (by omega) (by omega), bMK.of p6⟩
/-- the quality is set -/
theorem bLine.qual {m M : xM} (q : Int) (h : bLine m M) (hq : 0 ≤ q ∧ q ≤ 9) : bLine (xu m 0 9 q) (xu M 1 2 q) := by
  obtain ⟨⟨r1, r2, r3, r4, r5, r6⟩, hB, h20, hf, hW⟩ := h
  have gk : ∀ k, k ≠ 0 → xu m 0 9 q k = m k := fun k hk => xu_K hk
  have gj : ∀ j, j ≠ 9 → xu m 0 9 q 0 j = m 0 j := fun j hj => xu_d hj
  have gN : ∀ i, i ≠ 2 → xu M 1 2 q 1 i = M 1 i := fun i hi => xu_d hi
  refine ⟨⟨r1.cg (fun i h1 h2 => gk i (by omega)) (fun i h1 h2 => gN i (by omega)), r2.cg (fun i h1 h2 => gk i (by omega)) (fun i h1 h2 => gN i (by omega)), r3.cg (gk _ (by omega)) (gk _ (by omega)) (gN _ (by omega)) (fun i h1 h2 => gN i (by omega)), r4.cg (gk _ (by omega)) (fun i h1 h2 => gN i (by omega)), r5.cg (fun k h1 h2 => gk k (by omega)) (fun i h1 h2 h3 => gN i (by omega)), ?_⟩, ?_, by rw [gN 20 (by omega), gk 23 (by omega), h20], by rw [gk 23 (by omega)]; exact hf, fun h2 => ?_⟩
  · obtain ⟨s0, s1, s2, s3, s4, s5, s6, s7, s8, s9, s10⟩ := r6
    unfold bRSc
    rw [gk 33 (by omega), gj 7 (by omega), gj 8 (by omega), gj 10 (by omega), gj 11 (by omega), gj 12 (by omega), gj 13 (by omega), gj 14 (by omega), gj 15 (by omega), gj 16 (by omega), gN 0 (by omega), gN 1 (by omega), gN 3 (by omega), gN 4 (by omega), gN 5 (by omega), gN 6 (by omega), gN 7 (by omega), gN 8 (by omega), gN 9 (by omega), xu_s rfl, xu_s rfl]
    exact ⟨s0, s1, rfl, s3, s4, s5, s6, s7, s8, hq, s10⟩
  · unfold bB bBe at hB ⊢
    rw [gj 7 (by omega), gj 8 (by omega), gk 30 (by omega), gk 4 (by omega), gk 12 (by omega), gk 15 (by omega), gk 1 (by omega), gk 23 (by omega)]
    exact hB
  · rw [gj 8 (by omega)] at h2
    obtain ⟨f, c, hw⟩ := hW h2
    rw [gj 7 (by omega), gk 33 (by omega)]
    exact ⟨f, c, hw.cg (fun k hk => gk k (by omega)) (gj 7 (by omega)) ⟨by rw [gk 12 (by omega)], by rw [gk 1 (by omega)]⟩ (fun j _ _ => ⟨by rw [gk 4 (by omega)], by rw [gk 15 (by omega)]⟩) (fun i hi => gN i (by omega)) (gN 20 (by omega))⟩
/-- an end escapes or resumes -/
theorem bRE.esc {k : Nat} {m m' : xM} {o : Nat} {N N' : Nat → Int} {b : Int} (h : bRE k m o N) (hb : b = 0 ∨ b = 1) (hm : ∀ i, k < i → i ≤ k + 10 → m' i = m i) (hj : ∀ j, j ≠ 9 → m' k j = m k j) (h9 : m' k 9 = b) (hN : ∀ i, i ≠ o + 6 → o ≤ i → i < o + 717 → N' i = N i) (hN6 : N' (o + 6) = b) : bRE k m' o N' := by
  obtain ⟨a1, a2, a3, a4, a5, t1, t2, t3, t4, t5, t6⟩ := h
  refine ⟨a1.cg (hm _ (by omega) (by omega)) (hm _ (by omega) (by omega)) (hm _ (by omega) (by omega)) (hm _ (by omega) (by omega)) (hN _ (by omega) (by omega) (by omega)) (hN _ (by omega) (by omega) (by omega)) (fun i h1 h2 => hN i (by omega) (by omega) (by omega)), a2.cg (by rw [hm _ (by omega) (by omega)]) (hm _ (by omega) (by omega)) (hN _ (by omega) (by omega) (by omega)) (fun j hj => hN _ (by omega) (by omega) (by omega)), a3.cg (by rw [hm _ (by omega) (by omega)]) (hm _ (by omega) (by omega)) (hN _ (by omega) (by omega) (by omega)) (fun j hj => hN _ (by omega) (by omega) (by omega)), a4.cg (hj 5 (by omega)) (hm _ (by omega) (by omega)) (hN _ (by omega) (by omega) (by omega)) (fun i h1 h2 => hN i (by omega) (by omega) (by omega)), a5.cg (hj 6 (by omega)) (hm _ (by omega) (by omega)) (hN _ (by omega) (by omega) (by omega)) (fun i h1 h2 => hN i (by omega) (by omega) (by omega)), ?_⟩
  exact ⟨by rw [hN _ (by omega) (by omega) (by omega), hj 7 (by omega), t1], by rw [hN _ (by omega) (by omega) (by omega), hj 8 (by omega), t2], by rw [hN6, h9], by rw [hN _ (by omega) (by omega) (by omega), hj 10 (by omega), t4], by rw [h9]; exact hb, by rw [hj 10 (by omega)]; exact t6⟩
theorem bLine.escp {m M : xM} (e : Nat) (b : Int) (he : e < 2) (h : bLine m M) (hb : b = 0 ∨ b = 1) : bLine (xu m (1 + 11 * e) 9 b) (xu M 1 (56 + 717 * e + 6) b) := by
  obtain ⟨⟨r1, r2, r3, r4, r5, r6⟩, hB, h20, hf, hW⟩ := h
  obtain ⟨k0, hk0⟩ : ∃ k0, k0 = 1 + 11 * e := ⟨_, rfl⟩
  obtain ⟨i0, hi0⟩ : ∃ i0, i0 = 56 + 717 * e + 6 := ⟨_, rfl⟩
  rw [← hk0, ← hi0]
  have gk : ∀ k, k ≠ k0 → xu m k0 9 b k = m k := fun k hk => xu_K hk
  have gj : ∀ k j, j ≠ 9 → xu m k0 9 b k j = m k j := fun k j hj => by
    by_cases hk : k = k0
    · rw [hk, xu_d hj]
    · rw [xu_k hk]
  have g9 : xu m k0 9 b k0 9 = b := xu_s rfl
  have gN : ∀ i, i ≠ i0 → xu M 1 i0 b 1 i = M 1 i := fun i hi => xu_d hi
  have gN0 : xu M 1 i0 b 1 i0 = b := xu_s rfl
  refine ⟨⟨?_, ?_, r3.cg (gk _ (by omega)) (gk _ (by omega)) (gN _ (by omega)) (fun i h1 h2 => gN i (by omega)), r4.cg (gk _ (by omega)) (fun i h1 h2 => gN i (by omega)), r5.cg (fun k h1 h2 => gk k (by omega)) (fun i h1 h2 h3 => gN i (by omega)), r6.cg (fun j h1 h2 => by rw [gk 0 (by omega)]) (by rw [gk 33 (by omega)]) (fun i h1 => gN i (by omega))⟩, ?_, by rw [gN 20 (by omega), gk 23 (by omega), h20], by rw [gk 23 (by omega)]; exact hf, fun h2 => ?_⟩
  · by_cases h0 : e = 0
    · subst h0
      have e1 : k0 = 1 := by omega
      subst e1
      exact r1.esc hb (fun i h1 h2 => gk i (by omega)) (fun j hj => gj 1 j hj) g9 (fun i h1 h2 h3 => gN i (by omega)) (by rw [show 56 + 717 * 0 + 6 = i0 by omega]; exact gN0)
    · exact r1.cg (fun i h1 h2 => gk i (by omega)) (fun i h1 h2 => gN i (by omega))
  · by_cases h0 : e = 0
    · exact r2.cg (fun i h1 h2 => gk i (by omega)) (fun i h1 h2 => gN i (by omega))
    · have e1 : k0 = 12 := by omega
      subst e1
      exact r2.esc hb (fun i h1 h2 => gk i (by omega)) (fun j hj => gj 12 j hj) g9 (fun i h1 h2 h3 => gN i (by omega)) (by rw [show 56 + 717 * (1 - 0) + 6 = i0 by omega]; exact gN0)
  · unfold bB bBe at hB ⊢
    rw [gj 0 7 (by omega), gj 0 8 (by omega), gk 30 (by omega), gk 4 (by omega), gk 15 (by omega), gj 12 7 (by omega), gj 1 7 (by omega), gj 12 5 (by omega), gj 1 5 (by omega), gj 12 6 (by omega), gj 1 6 (by omega), gj 12 8 (by omega), gj 1 8 (by omega), gk 23 (by omega)]
    exact hB
  · rw [gj 0 8 (by omega)] at h2
    obtain ⟨f, c, hw⟩ := hW h2
    rw [gj 0 7 (by omega), gk 33 (by omega)]
    exact ⟨f, c, hw.cg (fun k hk => gk k (by omega)) (gj 0 7 (by omega)) ⟨gj 12 7 (by omega), gj 1 7 (by omega)⟩ (fun j _ _ => ⟨by rw [gk 4 (by omega)], by rw [gk 15 (by omega)]⟩) (fun i hi => gN i (by omega)) (gN 20 (by omega))⟩
/-- bytes come into a queue -/
theorem bRE.enq {k : Nat} {m m' : xM} {o : Nat} {N N' : Nat → Int} {q z : Nat} {V : Nat → Int} (h : bRE k m o N) (hq : m k 5 = q) (hqz : q + z ≤ 200) (hm : ∀ i, i ≠ k → i ≠ k + 1 → k ≤ i → i ≤ k + 10 → m' i = m i) (hj : ∀ j, j ≠ 5 → m' k j = m k j) (h5 : m' k 5 = ((q + z : Nat) : Int)) (hb : ∀ i, i < q → m' (k + 1) i = m (k + 1) i) (hb2 : ∀ i, i < z → m' (k + 1) (q + i) = V i)
    (hN0 : N' o = ((q + z : Nat) : Int)) (hNv : ∀ i, i < z → N' (o + 117 + q + i) = V i) (hN : ∀ i, i ≠ o → (i < o + 117 + q ∨ o + 117 + q + z ≤ i) → o ≤ i → i < o + 717 → N' i = N i) : bRE k m' o N' := by
  obtain ⟨a1, a2, a3, ⟨q', b1, b2, b3, b4⟩, a5, a6⟩ := h
  obtain rfl : q' = q := by omega
  refine ⟨a1.cg (hm _ (by omega) (by omega) (by omega) (by omega)) (hm _ (by omega) (by omega) (by omega) (by omega)) (hm _ (by omega) (by omega) (by omega) (by omega)) (hm _ (by omega) (by omega) (by omega) (by omega)) (hN _ (by omega) (by omega) (by omega) (by omega)) (hN _ (by omega) (by omega) (by omega) (by omega)) (fun i h1 h2 => hN i (by omega) (by omega) (by omega) (by omega)), a2.cg (by rw [hm _ (by omega) (by omega) (by omega) (by omega)]) (hm _ (by omega) (by omega) (by omega) (by omega)) (hN _ (by omega) (by omega) (by omega) (by omega)) (fun j hj => hN _ (by omega) (by omega) (by omega) (by omega)), a3.cg (by rw [hm _ (by omega) (by omega) (by omega) (by omega)]) (hm _ (by omega) (by omega) (by omega) (by omega)) (hN _ (by omega) (by omega) (by omega) (by omega)) (fun j hj => hN _ (by omega) (by omega) (by omega) (by omega)), ⟨q' + z, hqz, h5, hN0, fun i hi => ?_⟩, a5.cg (hj 6 (by omega)) (hm _ (by omega) (by omega) (by omega) (by omega)) (hN _ (by omega) (by omega) (by omega) (by omega)) (fun i h1 h2 => hN i (by omega) (by omega) (by omega) (by omega)), a6.cg (hj 7 (by omega)) (hj 8 (by omega)) (hj 9 (by omega)) (hj 10 (by omega)) (fun i hi => hN i (by omega) (by omega) (by omega) (by omega))⟩
  by_cases hi2 : i < q'
  · rw [hN _ (by omega) (by omega) (by omega) (by omega), b4 i hi2, hb i hi2]
  · have e1 := hNv (i - q') (by omega)
    have e2 := hb2 (i - q') (by omega)
    rw [show o + 117 + q' + (i - q') = o + 117 + i by omega] at e1
    rw [show q' + (i - q') = i by omega] at e2
    rw [e1, e2]
theorem bLine.enq {m m' M M' : xM} {q z : Nat} {V : Nat → Int} (e k o : Nat) (he : e < 2) (hk : k = 1 + 11 * e) (ho : o = 56 + 717 * e) (h : bLine m M) (hph : m 0 8 ≠ 0) (hq : m k 5 = q) (hqz : q + z ≤ 200) (hm : ∀ i, i ≠ k → i ≠ k + 1 → i ≤ 37 → m' i = m i) (hj : ∀ j, j ≠ 5 → m' k j = m k j) (h5 : m' k 5 = ((q + z : Nat) : Int)) (hb : ∀ i, i < q → m' (k + 1) i = m (k + 1) i) (hb2 : ∀ i, i < z → m' (k + 1) (q + i) = V i)
    (hN0 : M' 1 o = ((q + z : Nat) : Int)) (hNv : ∀ i, i < z → M' 1 (o + 117 + q + i) = V i) (hN : ∀ i, i ≠ o → (i < o + 117 + q ∨ o + 117 + q + z ≤ i) → M' 1 i = M 1 i) : bLine m' M' := by
  obtain ⟨⟨r1, r2, r3, r4, r5, r6⟩, hB, h20, hf, hW⟩ := h
  have h0 : m' 0 = m 0 := hm 0 (by omega) (by omega) (by omega)
  have h4 : m' 4 = m 4 := hm 4 (by omega) (by omega) (by omega)
  have h15 : m' 15 = m 15 := hm 15 (by omega) (by omega) (by omega)
  have h23 : m' 23 = m 23 := hm 23 (by omega) (by omega) (by omega)
  have h30 : m' 30 = m 30 := hm 30 (by omega) (by omega) (by omega)
  have h33 : m' 33 = m 33 := hm 33 (by omega) (by omega) (by omega)
  have g1 : ∀ j, j ≠ 5 → m' 1 j = m 1 j := fun j hj2 => by
    by_cases hk1 : k = 1
    · rw [← hk1]; exact hj j hj2
    · rw [hm 1 (by omega) (by omega) (by omega)]
  have g12 : ∀ j, j ≠ 5 → m' 12 j = m 12 j := fun j hj2 => by
    by_cases hk1 : k = 12
    · rw [← hk1]; exact hj j hj2
    · rw [hm 12 (by omega) (by omega) (by omega)]
  have gN : ∀ i, (i < 56 ∨ 1490 ≤ i) → M' 1 i = M 1 i := fun i hi => hN i (by omega) (by omega)
  refine ⟨⟨?_, ?_, r3.cg (hm _ (by omega) (by omega) (by omega)) (hm _ (by omega) (by omega) (by omega)) (gN _ (by omega)) (fun i h1 h2 => gN i (by omega)), r4.cg h30 (fun i h1 h2 => gN i (by omega)), r5.cg (fun k h1 h2 => hm k (by omega) (by omega) (by omega)) (fun i h1 h2 h3 => gN i (by omega)), r6.cg (fun j h1 h2 => by rw [h0]) (by rw [h33]) (fun i h1 => gN i (by omega))⟩, ?_, by rw [gN 20 (by omega), h23, h20], by rw [h23]; exact hf, fun h2 => ?_⟩
  · by_cases e0 : e = 0
    · subst e0
      have e1 : k = 1 := by omega
      subst e1
      have e2 : o = 56 := by omega
      subst e2
      exact r1.enq hq hqz (fun i h1 h2 h3 h4 => hm i h1 h2 (by omega)) hj h5 hb hb2 hN0 hNv (fun i h1 h2 h3 h4 => hN i h1 h2)
    · exact r1.cg (fun i h1 h2 => hm i (by omega) (by omega) (by omega)) (fun i h1 h2 => hN i (by omega) (by omega))
  · by_cases e0 : e = 0
    · exact r2.cg (fun i h1 h2 => hm i (by omega) (by omega) (by omega)) (fun i h1 h2 => hN i (by omega) (by omega))
    · have e1 : k = 12 := by omega
      subst e1
      have e2 : o = 773 := by omega
      subst e2
      exact r2.enq hq hqz (fun i h1 h2 h3 h4 => hm i h1 h2 (by omega)) hj h5 hb hb2 hN0 hNv (fun i h1 h2 h3 h4 => hN i h1 h2)
  · obtain ⟨t, u, ⟨a1, a2, a3, a4, a5, a6, a7, a8⟩, ⟨b1, b2, b3, b4, b5, b6, b7, b8⟩, w⟩ := hB
    unfold bB bBe
    rw [h0, h30, h4, h15, h23, g1 7 (by omega), g1 6 (by omega), g1 8 (by omega), g12 7 (by omega), g12 6 (by omega), g12 8 (by omega)]
    exact ⟨t, u, ⟨a1, a2, a3, a4, fun z => absurd z hph, a6, a7, a8⟩, ⟨b1, b2, b3, b4, fun z => absurd z hph, b6, b7, b8⟩, w⟩
  · rw [h0] at h2
    obtain ⟨f, c, hw⟩ := hW h2
    rw [h0, h33]
    exact ⟨f, c, hw.cg (fun k hk => hm k (by omega) (by omega) (by omega)) (by rw [h0]) ⟨g12 7 (by omega), g1 7 (by omega)⟩ (fun j _ _ => ⟨by rw [h4], by rw [h15]⟩) (fun i hi => gN i (by omega)) (gN 20 (by omega))⟩

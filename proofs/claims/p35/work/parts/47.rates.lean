/-! ===== falls, rises, timers ===== -/
/-- a change of the line's own numbers with an event and a total, the phase as it was -/
def bSame (m m' : xM) : Prop := (∀ j, j ≠ 10 → j ≠ 15 → j ≠ 16 → m' 0 j = m 0 j) ∧ m' 30 0 = m 30 0 ∧ ∀ k, k ≠ 0 → k ≠ 28 → k ≠ 29 → k ≠ 30 → m' k = m k
/-- rate, failures, acknowledgements are set anew, a total grows, an event is told -/
theorem L_rate_sp (kd rt fl ak : Int) (w : Nat) (m M : xM) (h : bRL 0 m (M 1)) (h1 : m 0 8 = 2) (hw : w < 11) (hw0 : w ≠ 0) (hrt : 0 ≤ rt ∧ rt < m 33 4) : ∃ m' M' : xM, f_L_note kd (-1) (xu (xu (xu (xu m 0 10 rt) 0 15 fl) 0 16 ak) 30 w (m 30 w + 1)) = some m' ∧ f_m_tellEvent kd (-1) (xu (xu (xu (xu M 1 3 rt) 1 8 fl) 1 9 ak) 1 (45 + w) (M 1 (45 + w) + 1)) = some M' ∧ bRL 0 m' (M' 1) ∧ bSame m m' ∧ (∀ i, 1730 ≤ i → M' 1 i = M 1 i) ∧ M' 1 20 = M 1 20 ∧ ∀ k, k ≠ 1 → M' k = M k := by
  obtain ⟨r1, r2, r3, r4, r5, r6⟩ := h
  obtain ⟨s0, s1, s2, s3, s4, s5, s6, s7, s8, s9, s10⟩ := id r6
  obtain ⟨m1, hm1⟩ : ∃ Z, Z = xu (xu (xu (xu m 0 10 rt) 0 15 fl) 0 16 ak) 30 w (m 30 w + 1) := ⟨_, rfl⟩
  obtain ⟨M1, hM1⟩ : ∃ Z, Z = xu (xu (xu (xu M 1 3 rt) 1 8 fl) 1 9 ak) 1 (45 + w) (M 1 (45 + w) + 1) := ⟨_, rfl⟩
  rw [← hm1, ← hM1]
  have g1 : ∀ k, k ≠ 0 → k ≠ 30 → m1 k = m k := fun k a b => by rw [hm1, xu_K b, xu_K a, xu_K a, xu_K a]
  have g0 : ∀ j, j ≠ 10 → j ≠ 15 → j ≠ 16 → m1 0 j = m 0 j := fun j a b c => by rw [hm1, xu_k (by omega), xu_d c, xu_d b, xu_d a]
  have g10 : m1 0 10 = rt := by rw [hm1, xu_k (by omega), xu_d (by omega), xu_d (by omega), xu_s rfl]
  have g15 : m1 0 15 = fl := by rw [hm1, xu_k (by omega), xu_d (by omega), xu_s rfl]
  have g16 : m1 0 16 = ak := by rw [hm1, xu_k (by omega), xu_s rfl]
  have g30 : ∀ j, j ≠ w → m1 30 j = m 30 j := fun j a => by rw [hm1, xu_d a, xu_k (by omega), xu_k (by omega), xu_k (by omega)]
  have g30w : m1 30 w = m 30 w + 1 := by rw [hm1, xu_s rfl]
  have G : ∀ i, i ≠ 3 → i ≠ 8 → i ≠ 9 → i ≠ 45 + w → M1 1 i = M 1 i := fun i a b c d => by rw [hM1, xu_d d, xu_d c, xu_d b, xu_d a]
  have G3 : M1 1 3 = rt := by rw [hM1, xu_d (by omega), xu_d (by omega), xu_d (by omega), xu_s rfl]
  have G8 : M1 1 8 = fl := by rw [hM1, xu_d (by omega), xu_d (by omega), xu_s rfl]
  have G9 : M1 1 9 = ak := by rw [hM1, xu_d (by omega), xu_s rfl]
  have Gw : M1 1 (45 + w) = M 1 (45 + w) + 1 := by rw [hM1, xu_s rfl]
  have GK : ∀ k, k ≠ 1 → M1 k = M k := fun k hk => by rw [hM1, xu_K hk, xu_K hk, xu_K hk, xu_K hk]
  obtain ⟨m2, M2, p1, p2, p3, p4, p5, p6⟩ := L_note kd (-1) m1 M1 (r3.cg (g1 28 (by omega) (by omega)) (g1 29 (by omega) (by omega)) (G 10 (by omega) (by omega) (by omega) (by omega)) (fun i a b => G i (by omega) (by omega) (by omega) (by omega)))
    (by rw [G 0 (by omega) (by omega) (by omega) (by omega), g0 7 (by omega) (by omega) (by omega), s0]) (by rw [G 1 (by omega) (by omega) (by omega) (by omega), g0 8 (by omega) (by omega) (by omega), s1]) (by rw [G3, g10]) (by rw [g0 8 (by omega) (by omega) (by omega)]; exact s8)
  have d0 : m2 0 = m1 0 := p4 0 (by omega) (by omega)
  have dk : ∀ k, k ≠ 0 → k ≠ 30 → k ≠ 28 → k ≠ 29 → m2 k = m k := fun k a b c d => by rw [p4 k c d, g1 k a b]
  have dN : ∀ i, i ≠ 3 → i ≠ 8 → i ≠ 9 → i ≠ 45 + w → i ≠ 10 → (i < 1490 ∨ 1730 ≤ i) → M2 1 i = M 1 i := fun i a b c d e f => by rw [p5 i e f, G i a b c d]
  refine ⟨m2, M2, p1, p2, ⟨?_, ?_, p3, ?_, ?_, ?_⟩, ⟨fun j a b c => by rw [d0, g0 j a b c], by rw [p4 30 (by omega) (by omega), g30 0 (by omega)], fun k a b c d => dk k a d b c⟩, fun i hi => dN i (by omega) (by omega) (by omega) (by omega) (by omega) (by omega), dN 20 (by omega) (by omega) (by omega) (by omega) (by omega) (by omega), fun k hk => by rw [p6 k hk, GK k hk]⟩
  · exact r1.cg (fun i a b => dk i (by omega) (by omega) (by omega) (by omega)) (fun i a b => dN i (by omega) (by omega) (by omega) (by omega) (by omega) (by omega))
  · exact r2.cg (fun i a b => dk i (by omega) (by omega) (by omega) (by omega)) (fun i a b => dN i (by omega) (by omega) (by omega) (by omega) (by omega) (by omega))
  · exact r4.up (j := w) (by rw [p4 30 (by omega) (by omega), g30w]) (fun v hv => by rw [p4 30 (by omega) (by omega), g30 v hv]) (by rw [p5 _ (by omega) (by omega), Gw, r4 w hw]) (fun i a b c => dN i (by omega) (by omega) (by omega) a (by omega) (by omega))
  · exact r5.cg (fun k a b => dk k (by omega) (by omega) (by omega) (by omega)) (fun i a b c => dN i (by omega) (by omega) (by omega) (by omega) (by omega) (by omega))
  · unfold bRSc
    rw [d0, g0 7 (by omega) (by omega) (by omega), g0 8 (by omega) (by omega) (by omega), g0 9 (by omega) (by omega) (by omega), g10, g0 11 (by omega) (by omega) (by omega), g0 12 (by omega) (by omega) (by omega), g0 13 (by omega) (by omega) (by omega), g0 14 (by omega) (by omega) (by omega), g15, g16, dk 33 (by omega) (by omega) (by omega) (by omega),
      dN 0 (by omega) (by omega) (by omega) (by omega) (by omega) (by omega), dN 1 (by omega) (by omega) (by omega) (by omega) (by omega) (by omega), dN 2 (by omega) (by omega) (by omega) (by omega) (by omega) (by omega), dN 4 (by omega) (by omega) (by omega) (by omega) (by omega) (by omega), dN 5 (by omega) (by omega) (by omega) (by omega) (by omega) (by omega), dN 6 (by omega) (by omega) (by omega) (by omega) (by omega) (by omega), dN 7 (by omega) (by omega) (by omega) (by omega) (by omega) (by omega),
      p5 3 (by omega) (by omega), p5 8 (by omega) (by omega), p5 9 (by omega) (by omega), G3, G8, G9]
    exact ⟨s0, s1, s2, rfl, rfl, rfl, s6, s7, s8, s9, hrt⟩
theorem L_fall_sp (m M : xM) (h : bRL 0 m (M 1)) (h1 : m 0 8 = 2) : ∃ m' M' : xM, f_L_fall m = some m' ∧ f_m_fall M = some M' ∧ bRL 0 m' (M' 1) ∧ ((bSame m m' ∧ (∀ i, 1730 ≤ i → M' 1 i = M 1 i) ∧ M' 1 20 = M 1 20) ∨ (bCut m m' ∧ M' 1 20 = 0)) ∧ ∀ k, k ≠ 1 → M' k = M k := by
  have hh := h
  obtain ⟨r1, r2, r3, r4, r5, r6⟩ := h
  obtain ⟨s0, s1, s2, s3, s4, s5, s6, s7, s8, s9, s10⟩ := id r6
  have hrc : m 33 4 ≤ 5 := r5.1.2.2
  unfold f_L_fall f_m_fall
  rw [if_pos (show xib 3 3530 from b_ib (by omega)), s3]
  by_cases hr : m 0 10 = 0
  · obtain ⟨m', M', p1, p2, p3, p4, p5, p6⟩ := L_cut_sp m M hh
    rw [if_neg (show ¬ 0 < xw (m 0 10) by rw [b_xw (by omega)]; omega), if_pos (show xw (m 0 10) = 0 by rw [b_xw (by omega)]; exact hr), p1, p2, b_bs, b_bs]
    exact ⟨m', M', rfl, rfl, p3, Or.inr ⟨p4, p5⟩, p6⟩
  · obtain ⟨m', M', p1, p2, p3, p4, p5, p6, p7⟩ := L_rate_sp 2 (m 0 10 - 1) 0 0 4 m M hh h1 (by omega) (by omega) (by omega)
    unfold f_L_fall_42 f_m_fall_51
    rw [if_pos (show 0 < xw (m 0 10) by rw [b_xw (by omega)]; omega), if_neg (show ¬ xw (m 0 10) = 0 by rw [b_xw (by omega)]; exact hr), if_pos (show xib 4 11 from b_ib (by omega)), if_pos (show xib 4 11 from b_ib (by omega)), if_pos (show xib 3 3530 from b_ib (by omega)), if_pos (show xib 3 3530 from b_ib (by omega)), if_pos (show xib 8 3530 from b_ib (by omega)), if_pos (show xib 9 3530 from b_ib (by omega)), if_pos (show xib 49 3530 from b_ib (by omega)), if_pos (show xib 49 3530 from b_ib (by omega)), p1, p2, b_bs, b_bs]
    exact ⟨m', M', rfl, rfl, p3, Or.inl ⟨p4, p5, p6⟩, p7⟩
theorem L_rise_sp (m M : xM) (h : bRL 0 m (M 1)) (h1 : m 0 8 = 2) : ∃ m' M' : xM, f_L_rise m = some m' ∧ f_m_rise M = some M' ∧ bRL 0 m' (M' 1) ∧ bSame m m' ∧ (∀ i, 1730 ≤ i → M' 1 i = M 1 i) ∧ M' 1 20 = M 1 20 ∧ ∀ k, k ≠ 1 → M' k = M k := by
  have hh := h
  obtain ⟨r1, r2, r3, r4, r5, r6⟩ := h
  obtain ⟨s0, s1, s2, s3, s4, s5, s6, s7, s8, s9, s10⟩ := id r6
  have hP := r5
  obtain ⟨⟨y1, y2, y3⟩, -, -, -, -, -, -, ⟨y18, -, -⟩, -, -, -, yn⟩ := hP
  have refl : bSame m m := ⟨fun _ _ _ _ => rfl, rfl, fun _ _ _ _ _ => rfl⟩
  obtain ⟨z, hz⟩ : ∃ z : Nat, m 0 10 = z := ⟨(m 0 10).toNat, by omega⟩
  have hv0 : xvw bT5 m 0 = m 33 := rfl
  have hv2 : xvw bT5 m 2 = m 35 := rfl
  unfold f_L_rise f_m_rise
  rw [if_pos (show xib 3 3530 from b_ib (by omega)), if_pos (show xib 9 3530 from b_ib (by omega)), if_pos (show xib 18 3530 from b_ib (by omega)), s5, y18, s3]
  by_cases ha : xw (m 0 16) < xw (m 33 13)
  · rw [if_pos ha, if_pos ha]
    exact ⟨m, M, rfl, rfl, hh, refl, fun _ _ => rfl, rfl, fun _ _ => rfl⟩
  · rw [if_neg ha, if_neg ha]
    unfold f_S_rise f_m_isRate f_m_inRange
    rw [hv0, hv2, y1, s2, hz, if_pos (show xib 11 3530 from b_ib (by omega))]
    by_cases hr : (z : Int) + 1 < m 33 4
    · have hy := (yn (z + 1) (by omega)).2.1
      rw [if_neg (show ¬ xw ((z : Int) + 1) < 0 by rw [b_xw (by omega)]; omega), if_pos (show xw ((z : Int) + 1) < xw (m 33 4) by rw [b_xw (by omega), b_xw (by omega)]; omega), if_pos (show xw ((z : Int) + 1) < xw 5 by rw [b_xw (by omega), b_xw (by omega)]; omega), if_pos (show xib ((z : Int) + 1) 5 from b_ib (by omega)), if_neg (show ¬ xw ((z : Int) + 1) < xw 0 by rw [b_xw (by omega), b_xw (by omega)]; omega), if_neg (show ¬ xw (m 33 4 - 1) < xw ((z : Int) + 1) by rw [b_xw (by omega), b_xw (by omega)]; omega), b_bs, if_pos (show xbz 1 by decide), b_bs, if_neg (show ¬ xw 1 = 0 by decide), if_pos (show xib (40 + ((z : Int) + 1)) 3530 from b_ib (by omega)), if_pos (show xib 2 3530 from b_ib (by omega)),
        b_ix (i := (z : Int) + 1) (by omega), b_ix (i := 40 + ((z : Int) + 1)) (by omega), show ((z : Int) + 1).toNat = z + 1 by omega, show ((40 : Int) + ((z : Int) + 1)).toNat = 40 + (z + 1) by omega, hy]
      by_cases hq : xw (m 0 9) < xw (m 35 (z + 1))
      · rw [if_pos hq, if_pos hq, b_bs, if_pos (show xw 0 = 0 by decide)]
        exact ⟨m, M, rfl, rfl, hh, refl, fun _ _ => rfl, rfl, fun _ _ => rfl⟩
      · have e15 : xu (xu (xu (xu m 0 10 ((z : Int) + 1)) 0 15 (m 0 15)) 0 16 0) 30 5 (m 30 5 + 1) = xu (xu (xu m 0 10 ((z : Int) + 1)) 0 16 0) 30 5 (m 30 5 + 1) := by
          congr 2
          funext k j
          by_cases hk : k = 0
          · subst hk
            by_cases hj : j = 15
            · rw [hj, xu_s rfl, xu_d (by omega)]
            · rw [xu_d hj]
          · rw [xu_K hk]
        have e8 : xu (xu (xu (xu M 1 3 ((z : Int) + 1)) 1 8 (m 0 15)) 1 9 0) 1 (45 + 5) (M 1 (45 + 5) + 1) = xu (xu (xu M 1 3 ((z : Int) + 1)) 1 9 0) 1 50 (M 1 50 + 1) := by
          congr 2
          funext k j
          by_cases hk : k = 1
          · subst hk
            by_cases hj : j = 8
            · rw [hj, xu_s rfl, xu_d (by omega), s4]
            · rw [xu_d hj]
          · rw [xu_K hk]
        obtain ⟨m', M', p1, p2, p3, p4, p5, p6, p7⟩ := L_rate_sp 3 ((z : Int) + 1) (m 0 15) 0 5 m M hh h1 (by omega) (by omega) (by omega)
        rw [e15] at p1
        rw [e8] at p2
        unfold f_L_rise_58
        rw [if_neg hq, if_neg hq, b_bs, if_neg (show ¬ xw 1 = 0 by decide), if_pos (show xib 5 11 from b_ib (by omega)), if_pos (show xib 5 11 from b_ib (by omega)), if_pos (show xib 3 3530 from b_ib (by omega)), if_pos (show xib 9 3530 from b_ib (by omega)), if_pos (show xib 50 3530 from b_ib (by omega)), if_pos (show xib 50 3530 from b_ib (by omega)), p1, p2, b_bs, b_bs]
        exact ⟨m', M', rfl, rfl, p3, p4, p5, p6, p7⟩
    · rw [if_neg (show ¬ xw ((z : Int) + 1) < 0 by rw [b_xw (by omega)]; omega), if_neg (show ¬ xw ((z : Int) + 1) < xw (m 33 4) by rw [b_xw (by omega), b_xw (by omega)]; omega), if_neg (show ¬ xw ((z : Int) + 1) < xw 0 by rw [b_xw (by omega), b_xw (by omega)]; omega), if_pos (show xw (m 33 4 - 1) < xw ((z : Int) + 1) by rw [b_xw (by omega), b_xw (by omega)]; omega), b_bs, b_bs, if_pos (show xbz 0 by decide), b_bs, if_pos (show xw 0 = 0 by decide), if_pos (show xw 0 = 0 by decide)]
      exact ⟨m, M, rfl, rfl, hh, refl, fun _ _ => rfl, rfl, fun _ _ => rfl⟩
/-- the first frame with a flag -/
theorem firstThat_sp (a : Int) (e o C q : Nat) (M : xM) (he : e < 2) (ho : o = 56 + 717 * e) (hC : C ≤ 7) (hM : M 1 (o + 1) = C) (hq : q ≤ C) (ha : a = 0 ∨ a = 1) (hb : ∀ p, p < C → M 1 (o + 26 + 13 * p + 3) = 0 ∨ M 1 (o + 26 + 13 * p + 3) = 1) (h1 : ∀ p, p < q → M 1 (o + 26 + 13 * p + 3) ≠ a) (h2 : q < C → M 1 (o + 26 + 13 * q + 3) = a) : f_m_firstThat (e : Int) a M = some (if q < C then (q : Int) else -1) := by
  have key : ∀ (k p n : Nat), p + k = q → k < n → f_m_firstThat_2 (e : Int) a M n (p : Int) = some (if q < C then (q : Int) else -1) := by
    intro k
    induction k with
    | zero =>
      intro p n e1 e2
      obtain ⟨n, rfl⟩ : ∃ z, n = z + 1 := ⟨n - 1, by omega⟩
      have hp : p = q := by omega
      subst hp
      rw [f_m_firstThat_2, m_of (i := o + 1) M (by omega) (by omega), b_bs, hM]
      by_cases hc : p < C
      · rw [if_pos (show xw (p : Int) < xw (C : Int) by rw [b_xw (by omega), b_xw (by omega)]; omega), m_ofFrame (i := o + 26 + 13 * p + 3) M (by omega) (by omega), b_bs, h2 hc, if_pos (show xw a = xw a from rfl), if_pos hc]
      · rw [if_neg (show ¬ xw (p : Int) < xw (C : Int) by rw [b_xw (by omega), b_xw (by omega)]; omega), if_neg hc]
    | succ k ih =>
      intro p n e1 e2
      obtain ⟨n, rfl⟩ : ∃ z, n = z + 1 := ⟨n - 1, by omega⟩
      have h3 := h1 p (by omega)
      have h4 := hb p (by omega)
      rw [f_m_firstThat_2, m_of (i := o + 1) M (by omega) (by omega), b_bs, hM, if_pos (show xw (p : Int) < xw (C : Int) by rw [b_xw (by omega), b_xw (by omega)]; omega), m_ofFrame (i := o + 26 + 13 * p + 3) M (by omega) (by omega), b_bs, if_neg (show ¬ xw (M 1 (o + 26 + 13 * p + 3)) = xw a by rw [b_xw (by omega), b_xw (by omega)]; exact h3), show (p : Int) + 1 = ((p + 1 : Nat) : Int) by omega]
      exact ih (p + 1) n (by omega) (by omega)
  unfold f_m_firstThat
  exact key q 0 fu (by omega) (by show _ < 5000; omega)

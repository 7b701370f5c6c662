/-! ===== the clauses train and delay ===== -/
theorem R_steps_no {c0 : Int} {q0 : Nat} (n : Nat) : ∀ (k p : Nat) (m : xM), p + k = 4 → bNo c0 q0 (m 1) → ∃ m1 : xM, f_R_steps_9 (n + k + 1) (p : Int) m = f_R_steps_36 m1 ∧ ∀ k, k ≠ 6 → m1 k = m k := by
  intro k
  induction k with
  | zero =>
    intro p m hp h
    exact ⟨m, by rw [f_R_steps_9, if_neg (show ¬ xw (p : Int) < xw 4 by rw [b_xw (by omega), b_xw (by omega)]; omega)], fun _ _ => rfl⟩
  | succ k ih =>
    intro p m hp h
    obtain ⟨n1, e1, e2, e3, e4, e5, e6⟩ := R_mg m (xvw [1, 2] m) bFc.rfl
    have hlt : xw (p : Int) < xw 4 := by rw [b_xw (by omega), b_xw (by omega)]; omega
    have hx1 : xix (p : Int) = p := by rw [b_ix (by omega)]; exact Int.toNat_natCast _
    have ht : f_T_takeNumber 1 20 (xvw [1, 2] m) = some (-1, xvw [1, 2] m) := bNo.takeNumber (m := xvw [1, 2] m) h
    rw [show n + (k + 1) + 1 = (n + k + 1) + 1 by omega, f_R_steps_9, if_pos hlt, ht, Option.bind_some]
    dsimp only
    rw [e1, if_pos (b_ib (by omega)), hx1, show (p : Int) + 1 = ((p + 1 : Nat) : Int) by omega]
    have en : n1 1 = m 1 := e2
    obtain ⟨m1, a1, a2⟩ := ih (p + 1) (xu n1 6 p (-1)) (by omega) (by rw [xu_K (by omega), en]; exact h)
    refine ⟨m1, a1, fun j hj => ?_⟩
    rw [a2 j hj, xu_K hj]
    by_cases h1 : j = 1
    · rw [h1, en]
    · exact e4 j h1
theorem R_train_no {B : Nat → Int} {L : Nat} {c0 : Int} {q0 : Nat} {M : xM} (h : bNoM B L c0 q0 M) (n : Nat) : ∀ (k p : Nat), p + k = 4 → f_m_readTrain_2 (n + k + 1) (p : Int) M = some M := by
  intro k
  induction k with
  | zero =>
    intro p hp
    rw [f_m_readTrain_2, if_neg (show ¬ xw (p : Int) < xw 4 by rw [b_xw (by omega), b_xw (by omega)]; omega)]
  | succ k ih =>
    intro p hp
    have hlt : xw (p : Int) < xw 4 := by rw [b_xw (by omega), b_xw (by omega)]; omega
    have e21 : (21 : Int) + (p : Int) = ((21 + p : Nat) : Int) := by omega
    have hx2 : xix ((21 + p : Nat) : Int) = 21 + p := by rw [b_ix (by omega)]; exact Int.toNat_natCast _
    rw [show n + (k + 1) + 1 = (n + k + 1) + 1 by omega, f_m_readTrain_2, if_pos hlt, h.number, Option.bind_some]
    dsimp only
    rw [if_neg h.ne, e21, if_pos (b_ib (by omega)), hx2]
    unfold f_m_readTrain_43
    rw [if_pos (b_ib (by omega)), hx2, xu_self, show (p : Int) + 1 = ((p + 1 : Nat) : Int) by omega]
    exact ih (p + 1) (by omega)
theorem R_steps_9_sp {B : Nat → Int} {L f0 : Nat} (n : Nat) : ∀ (k p : Nat) (m M : xM), p + k = 4 → (∃ s e, f0 ≤ s ∧ bGo B L s e (m 1) (m 2) M) → ∃ m1 M1 : xM, f_R_steps_9 (n + k + 1) (p : Int) m = f_R_steps_36 m1 ∧ f_m_readTrain_2 (n + k + 1) (p : Int) M = some M1 ∧ bFR m m1 ∧ (∀ k, k ≠ 1 → k ≠ 6 → m1 k = m k) ∧ bF2 M M1 ∧ (∀ i, (i < 21 + p ∨ 25 ≤ i) → M1 2 i = M 2 i) ∧ ((∃ s e, f0 ≤ s ∧ bGo B L s e (m1 1) (m1 2) M1 ∧ (∀ i, i < p → m1 6 i = m 6 i) ∧ ∀ i, p ≤ i → i < 4 → M1 2 (21 + i) = m1 6 i ∧ 1 ≤ m1 6 i ∧ m1 6 i ≤ 20) ∨ bEr B L (m1 1) M1) := by
  intro k
  induction k with
  | zero =>
    intro p m M hp h
    obtain ⟨s, e, h1, h2⟩ := h
    refine ⟨m, M, ?_, ?_, bFR.rfl, fun _ _ _ => rfl, bF2.rfl, fun _ _ => rfl, Or.inl ⟨s, e, h1, h2, fun _ _ => rfl, fun i h3 h4 => by omega⟩⟩
    · rw [f_R_steps_9, if_neg (show ¬ xw (p : Int) < xw 4 by rw [b_xw (by omega), b_xw (by omega)]; omega)]
    · rw [f_m_readTrain_2, if_neg (show ¬ xw (p : Int) < xw 4 by rw [b_xw (by omega), b_xw (by omega)]; omega)]
  | succ k ih =>
    intro p m M hp h
    obtain ⟨q, M2, x, X, a1, a2, a3, a4, a5⟩ := st_number (m := xvw [1, 2] m) (f := f0) (M := M) (B := B) (L := L) 1 20 (by omega) (Or.inl h)
    obtain ⟨n1, e1, e2, e3, e4, e5, e6⟩ := R_mg m q a3
    have hlt : xw (p : Int) < xw 4 := by rw [b_xw (by omega), b_xw (by omega)]; omega
    have hx1 : xix (p : Int) = p := by rw [b_ix (by omega)]; exact Int.toNat_natCast _
    have e21 : (21 : Int) + (p : Int) = ((21 + p : Nat) : Int) := by omega
    have hx2 : xix ((21 + p : Nat) : Int) = 21 + p := by rw [b_ix (by omega)]; exact Int.toNat_natCast _
    rw [show n + (k + 1) + 1 = (n + k + 1) + 1 by omega, f_R_steps_9, f_m_readTrain_2, if_pos hlt, if_pos hlt, a1, a2, Option.bind_some, Option.bind_some]
    dsimp only
    rw [e1, if_pos (b_ib (by omega)), hx1, e21, hx2]
    unfold f_m_readTrain_43
    rw [if_pos (b_ib (by omega)), if_pos (b_ib (by omega)), hx2, show (p : Int) + 1 = ((p + 1 : Nat) : Int) by omega, xu_self]
    obtain ⟨Y, hY⟩ : ∃ Y, Y = xu n1 6 p x := ⟨_, rfl⟩
    rw [← hY]
    have y1 : Y 1 = q 0 := by rw [hY, xu_K (by omega), e2]
    have y2 : Y 2 = q 1 := by rw [hY, xu_K (by omega), e3]
    have fr : bFR m Y := ⟨fun j hj => by rw [hY, xu_K (by omega), e4 j (by omega)], by rw [hY, xu_k (by omega), e5], by rw [hY, xu_k (by omega), e6]⟩
    have yk : ∀ j, j ≠ 1 → j ≠ 6 → Y j = m j := fun j h1 h6 => by rw [hY, xu_K h6, e4 j h1]
    have y6 : ∀ i, i ≠ p → Y 6 i = m 6 i := fun i hi => by rw [hY, xu_d hi, e4 6 (by omega)]
    have hput : 21 + p = 2 ∨ (11 ≤ 21 + p ∧ 21 + p < 20) ∨ (21 ≤ 21 + p ∧ 21 + p < 45) := by omega
    rcases a5 with ⟨b1, b2, b3, s, e, b4, b5⟩ | ⟨b1, b2, b3⟩
    · rw [if_pos (show xw (M2 0 18) = 0 by rw [b5.err]; decide)]
      obtain ⟨m1, M1, c1, c2, c3, c4, c5, c6, c8⟩ := ih (p + 1) Y (xu M2 2 (21 + p) X) (by omega) ⟨s, e, by omega, by rw [y1, y2]; exact b5.cgM (xu_K (by omega)) (xu_K (by omega))⟩
      refine ⟨m1, M1, c1, c2, fr.trans c3, fun j h1 h6 => by rw [c4 j h1 h6, yk j h1 h6], (a4.to.trans (bF2.put hput)).trans c5, fun i hi => by rw [c6 i (by omega), xu_d (by omega), a4.1 2 (by omega)], ?_⟩
      rcases c8 with ⟨s', e', d1, d2, d4, d3⟩ | d2
      · refine Or.inl ⟨s', e', d1, d2, fun i hi => by rw [d4 i (by omega), y6 i (by omega)], fun i h1 h2 => ?_⟩
        by_cases hi : i = p
        · rw [hi, c6 (21 + p) (by omega), xu_s rfl, d4 p (by omega), hY, xu_s rfl]
          exact ⟨b1.symm, b2, b3⟩
        · exact d3 i (by omega) h2
      · exact Or.inr d2
    · rw [if_neg b3.ne, if_pos (b_ib (by omega) : xib ((21 + p : Nat) : Int) 3530)]
      obtain ⟨c, r, u1, u2⟩ := b3
      obtain ⟨m1, c1, c2⟩ := R_steps_no n k (p + 1) Y (by omega) (by rw [y1]; exact u1)
      refine ⟨m1, M2, c1, R_train_no u2 n k (p + 1) (by omega), fr.trans ⟨fun j hj => c2 j (by omega), by rw [c2 1 (by omega)], by rw [c2 1 (by omega)]⟩, fun j h1 h6 => by rw [c2 j h6, yk j h1 h6], a4.to, fun i hi => by rw [a4.1 2 (by omega)], Or.inr ⟨c, r, by rw [c2 1 (by omega), y1]; exact u1, u2⟩⟩
/-- a sign, by the reader -/
theorem R_sign {B : Nat → Int} {L f : Nat} {m M : xM} (z : Int) (hz : 0 ≤ z ∧ z ≤ 255) (h : bSs B L f (m 1) (m 2) M) : ∃ (m' M' q : xM) (x : Int), f_T_takeSign z (xvw [1, 2] m) = some (x, q) ∧ xmg [1, 2] 2 m q = m' ∧ f_m_expect z M = some M' ∧ (m' 1 0 = m 1 0 ∧ m' 1 1 = m 1 1) ∧ (∀ k, k ≠ 1 → m' k = m k) ∧ bFm M M' ∧ ((x = 1 ∧ ∃ s' e', f < s' ∧ bGo B L s' e' (m' 1) (m' 2) M') ∨ (x = 0 ∧ bEr B L (m' 1) M')) := by
  obtain ⟨q, M', x, a1, a2, a3, a4, a5⟩ := st_sign (m := xvw [1, 2] m) z hz h
  obtain ⟨n1, e1, e2, e3, e4, e5, e6⟩ := R_mg m q a3
  refine ⟨n1, M', q, x, a1, e1, a2, ⟨e5, e6⟩, e4, a4, ?_⟩
  rw [e2, e3]
  exact a5
/-- the clause train -/
theorem R_train {B : Nat → Int} {L f0 : Nat} {m q6 M M6 : xM} (hq : bFc (xvw [1, 2] m) q6) (hM : bFm M M6) (h : ∃ s e, f0 ≤ s ∧ bGo B L s e (q6 0) (q6 1) M6) (hd : bDr m M) : ∃ (m' M1 M' : xM), f_R_steps_9 fu 0 (xmg [1, 2] 2 m q6) = some m' ∧ f_m_readTrain M6 = some M1 ∧ f_m_expect 59 M1 = some M' ∧ bFR m m' ∧ bF2 M M' ∧ ((∃ s' e', f0 < s' ∧ bGo B L s' e' (m' 1) (m' 2) M' ∧ bDr m' M') ∨ bEr B L (m' 1) M') := by
  obtain ⟨n1, e1, e2, e3, e4, e5, e6⟩ := R_mg m q6 hq
  rw [e1]
  obtain ⟨m1, M1, a1, a2, a3, a4, a5, a6, a7⟩ := R_steps_9_sp (f0 := f0) 4995 4 0 n1 M6 rfl (by rw [e2, e3]; exact h)
  have a1' : f_R_steps_9 fu 0 n1 = f_R_steps_36 m1 := a1
  have a2' : f_m_readTrain M6 = some M1 := a2
  rw [a1', a2']
  unfold f_R_steps_36
  have hst : bSs B L f0 (m1 1) (m1 2) M1 := by
    rcases a7 with ⟨s, e, u1, u2, _⟩ | u
    · exact Or.inl ⟨s, e, u1, u2⟩
    · exact Or.inr u
  obtain ⟨m', M', q, x, b1, b2, b3, b4, b5, b6, b7⟩ := R_sign 59 (by omega) hst
  rw [b1, Option.bind_some, b2]
  have f1 : bFR m n1 := ⟨fun k hk => e4 k (by omega), e5, e6⟩
  refine ⟨m', M1, M', rfl, rfl, b3, (f1.trans a3).trans ⟨fun k hk => b5 k (by omega), b4⟩, (hM.to.trans a5).trans b6.to, ?_⟩
  rcases b7 with ⟨_, s', e', c1, c2⟩ | ⟨_, c2⟩
  · left
    refine ⟨s', e', c1, c2, ?_⟩
    rcases a7 with ⟨s, e, u1, u2, u3, u4⟩ | u
    · have h3 : ∀ k, k ≠ 1 → k ≠ 6 → m' k = m k := fun k h1 h6 => by rw [b5 k h1, a4 k h1 h6, e4 k h1]
      have hN : ∀ i, (i < 21 ∨ 25 ≤ i) → M' 2 i = M 2 i := fun i hi => by rw [b6.1 2 (by omega), a6 i (by omega), hM.1 2 (by omega)]
      obtain ⟨⟨r1, r2, r3, r4, r5, r6, r7, r8, r9, k1, l1, n2⟩, r10, r11⟩ := hd
      have w33 : bUp m' 33 = bUp m 33 := h3 3 (by omega) (by omega)
      have w34 : bUp m' 34 = bUp m 34 := h3 4 (by omega) (by omega)
      have w35 : bUp m' 35 = bUp m 35 := h3 5 (by omega) (by omega)
      have w37 : bUp m' 37 = bUp m 37 := h3 7 (by omega) (by omega)
      refine ⟨?_, by rw [hN 2 (by omega), h3 3 (by omega) (by omega)]; exact r10, by rw [h3 3 (by omega) (by omega)]; exact r11⟩
      unfold bRP
      rw [w33, w34, w35, w37, hN 11 (by omega), hN 12 (by omega), hN 13 (by omega), hN 14 (by omega), hN 15 (by omega), hN 16 (by omega), hN 17 (by omega), hN 18 (by omega), hN 19 (by omega)]
      refine ⟨r1, r2, r3, r4, r5, r6, r7, r8, r9, fun i hi => ?_, fun i hi => by rw [hN _ (by omega)]; exact l1 i hi, fun i hi => by rw [hN _ (by omega), hN _ (by omega)]; exact n2 i hi⟩
      have w36 : bUp m' 36 = m1 6 := b5 6 (by omega)
      rw [w36, b6.1 2 (by omega)]
      exact u4 i (by omega) hi
    · exact absurd (show xw (M' 0 18) = 0 by rw [c2.err]; decide) (by
        obtain ⟨c, r, u5, u6⟩ := u
        rw [u6.expect] at b3
        rw [← Option.some.inj b3]
        exact u6.ne)
  · exact Or.inr c2

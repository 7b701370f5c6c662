/-! ===== looking ahead ===== -/
theorem bV44_0 (m : xM) {i : Nat} (hi : i < 33) : xvw (bV 44) m i = m (44 + i) := by show m (xT (bV 44) i) = _; rw [bV_lo 44 (by omega) hi]
theorem bV44_5 (m : xM) {i : Nat} (hi : 33 ≤ i ∧ i ≤ 37) : xvw (bV 44) m i = m (i - 32) := by show m (xT (bV 44) i) = _; rw [bV_hi 44 hi]
theorem bV44_u (m : xM) {k0 j : Nat} {v : Int} (h0 : k0 < 33) : ∀ k, k ≤ 37 → xvw (bV 44) (xu m (44 + k0) j v) k = xu (xvw (bV 44) m) k0 j v k := fun k hk => by
  by_cases h : k < 33
  · rw [bV44_0 _ h]
    by_cases hkk : k = k0
    · subst hkk
      unfold xu
      rw [if_pos rfl, if_pos rfl, bV44_0 m h]
    · rw [xu_K (by omega), xu_K hkk, bV44_0 m h]
  · rw [bV44_5 _ ⟨by omega, hk⟩, xu_K (by omega), xu_K (by omega), bV44_5 m ⟨by omega, hk⟩]
/-- the trial line takes what the line holds -/
theorem X_try {G : bGt} (m M : xM) (h : bX G m M) : ∃ q m1 : xM, f_L_cp (xvw xT_3 m) = some q ∧ m1 = xmg xT_3 66 m q ∧ bLine (xvw (bV 44) m1) M ∧ (∀ k, (k < 44 ∨ 77 ≤ k) → m1 k = m k) ∧ xvw (bV 44) m1 0 7 ≤ 99999 := by
  obtain ⟨q, q1, q2, q3⟩ := X_cp xT_3 44 11 m M (by decide) ⟨by omega, by omega, by omega, by omega⟩ (by omega) h.1.1
  refine ⟨q, _, q1, rfl, q2, fun k hk => q3 k (by omega), ?_⟩
  have a : M 1 0 = xvw (bV 44) (xmg xT_3 66 m q) 0 7 := q2.1.2.2.2.2.2.1
  have b : M 1 0 = xvw (bV 11) m 0 7 := h.1.1.1.2.2.2.2.2.1
  rw [← a, b]; exact h.1.2
/-- behind a look ahead all is as it was, the trial line aside -/
theorem X_tried {G : bGt} (m m1 q M M' : xM) (h : bX G m M) (h1 : ∀ k, (k < 44 ∨ 77 ≤ k) → m1 k = m k) (hq : ∀ k, 33 ≤ k → k ≤ 37 → q k = xvw (bV 44) m1 k) (hN : ∀ i, i < 3530 → M' 1 i = M 1 i) (hM : ∀ k, k ≠ 0 → k ≠ 1 → k ≠ 3 → k ≠ 6 → M' k = M k) (hM0 : ∀ j, j ≠ 6 → j ≠ 9 → M' 0 j = M 0 j) : bX G (xmg (bV 44) 38 m1 q) M' := by
  obtain ⟨p1, p2⟩ := bV_put (m := m1) (q := q) 44 (by omega) (by omega) hq bT44
  have hk : ∀ k, (k < 44 ∨ 77 ≤ k) → xmg (bV 44) 38 m1 q k = m k := fun k hk => by rw [p2 k (by omega), h1 k hk]
  refine h.line ?_ (fun k hk2 => hk k (by omega)) hM hM0
  exact h.1.cg (bV_eq (by omega) (fun k k1 k2 => hk k (by omega)) (fun k k1 k2 => hk k (by omega))) hN
theorem X_finish_sp {G : bGt} (m M : xM) (h : bX G m M) : bOk G (f_X_ticksToFinish m) (f_m_ticksToFinish M) := by
  have h0 := h.thr 0
  obtain ⟨M0, hM0⟩ : ∃ Z, Z = xu M 0 6 0 := ⟨_, rfl⟩
  rw [← hM0] at h0
  have t0 : M0 0 6 = 0 := by rw [hM0, xu_s rfl]
  obtain ⟨q, m1, q1, q2, q3, q4, q5⟩ := X_try m M0 h0
  obtain ⟨Q, c1, c2, c3⟩ := copyA_row 1 3 M0 (by omega) (Or.inl ⟨rfl, Or.inl rfl⟩)
  obtain ⟨M1, hM1⟩ : ∃ Z, Z = xmg [1, 3] 2 M0 Q := ⟨_, rfl⟩
  rw [← hM1] at c2 c3
  have hl1 : bLine (xvw (bV 44) m1) M1 := q3.cgN (fun i hi => by rw [c3 1 (by omega)])
  obtain ⟨r, m2, M2, p1, p2, p3, p4, p5⟩ := L_finish_sp 400 0 fu fu (xvw (bV 44) m1) M1 (by omega) (by show _ < 5000; omega) (by show _ < 5000; omega) hl1 (by omega)
  obtain ⟨Q2, d1, d2, d3⟩ := copyA_row 3 1 M2 (by omega) (Or.inr ⟨rfl, Or.inl rfl⟩)
  obtain ⟨M3, hM3⟩ : ∃ Z, Z = xmg [3, 1] 2 M2 Q2 := ⟨_, rfl⟩
  rw [← hM3] at d2 d3
  have p1' : f_L_runToFinish (xvw (bV 44) m1) = some (r, m2) := p1
  have p2' : f_m_finishOf M1 = some (r, M2) := p2
  have G : ∀ k, k ≠ 0 → k ≠ 1 → k ≠ 3 → k ≠ 6 → M3 k = M0 k := fun k k0 k1 k3 k6 => by rw [d3 k k1, p5.1 k k0 k1 k6, c3 k k3]
  have G0 : ∀ j, j ≠ 9 → M3 0 j = M0 0 j := fun j j9 => by rw [d3 0 (by omega), p5.2 j j9, c3 0 (by omega)]
  refine ⟨r, xmg (bV 44) 38 m1 m2, M3, ?_, ?_, by rw [G0 6 (by omega), t0], X_tried m m1 m2 M0 M3 h0 q4 p4 (fun i hi => by rw [d2 i hi, p5.1 3 (by omega) (by omega) (by omega), c2 i hi]) G (fun j _ j9 => G0 j j9)⟩
  · unfold f_X_ticksToFinish
    rw [q1, b_bs, ← q2, bV_4, p1', b_bs]
  · unfold f_m_ticksToFinish
    rw [← hM0, c1, b_bs, ← hM1, p2', b_bs, d1, b_bs, ← hM3]
theorem X_behind_sp {G : bGt} (e z : Int) (m M : xM) (h : bX G m M) (he : bI e) (hz : bI z) : bOk G (f_X_receivedBehind e z m) (f_m_receivedBehind e z M) ∨ bTh G (h_X_receivedBehind e z m) (f_m_receivedBehind e z M) 2 1 m ∨ bTh G (h_X_receivedBehind e z m) (f_m_receivedBehind e z M) 1 2 m := by
  have z0 : xw (0 : Int) = 0 := by decide
  have z1 : ¬ xw (1 : Int) = 0 := by decide
  have z2 : ¬ xw (2 : Int) = 0 := by decide
  by_cases hr : e = 0 ∨ e = 1
  · have cE : f_X_checkEnd e m = some 0 := by
      unfold f_X_checkEnd
      rcases hr with rfl | rfl
      · rw [if_pos z0]
      · rw [if_neg z1, if_pos rfl]
    have cH : h_X_checkEnd e m = none := by
      unfold h_X_checkEnd
      rcases hr with rfl | rfl
      · rw [if_pos z0]
      · rw [if_neg z1, if_pos rfl]
    by_cases hzr : 0 ≤ z ∧ z ≤ 400
    · left
      have h0 := h.thr 0
      obtain ⟨M0, hM0⟩ : ∃ Z, Z = xu M 0 6 0 := ⟨_, rfl⟩
      rw [← hM0] at h0
      have t0 : M0 0 6 = 0 := by rw [hM0, xu_s rfl]
      obtain ⟨en, hen⟩ : ∃ en : Nat, e = en := ⟨e.toNat, by omega⟩
      obtain ⟨zn, hzn⟩ : ∃ zn : Nat, z = zn := ⟨z.toNat, by omega⟩
      obtain ⟨q, m1, q1, q2, q3, q4, q5⟩ := X_try m M0 h0
      obtain ⟨Q, c1, c2, c3⟩ := copyA_row 1 3 M0 (by omega) (Or.inl ⟨rfl, Or.inl rfl⟩)
      obtain ⟨M1, hM1⟩ : ∃ Z, Z = xmg [1, 3] 2 M0 Q := ⟨_, rfl⟩
      rw [← hM1] at c2 c3
      have hl1 : bLine (xvw (bV 44) m1) M1 := q3.cgN (fun i hi => by rw [c3 1 (by omega)])
      obtain ⟨m2, M2, p1, p2, p3, p4, p5, p6⟩ := L_run_sp zn (by omega) zn 0 fu (xvw (bV 44) m1) M1 (by omega) (by show _ < 5000; omega) hl1 (by omega)
      have e1 := m_behind_55 e zn (by omega) zn 0 fu M1 M2 (by omega) (by show _ < 5000; omega) p2
      have e1' : f_m_receivedBehind_55 e z fu 0 M1 = f_m_receivedBehind_70 e z M2 := by rw [hzn]; exact e1
      obtain ⟨Q2, d1, d2, d3⟩ := copyA_row 3 1 M2 (by omega) (Or.inr ⟨rfl, Or.inl rfl⟩)
      obtain ⟨M3, hM3⟩ : ∃ Z, Z = xmg [3, 1] 2 M2 Q2 := ⟨_, rfl⟩
      rw [← hM3] at d2 d3
      have p1' : f_L_run z (xvw (bV 44) m1) = some m2 := by unfold f_L_run; rw [hzn]; exact p1
      have G : ∀ k, k ≠ 0 → k ≠ 1 → k ≠ 3 → k ≠ 6 → M3 k = M0 k := fun k k0 k1 k3 k6 => by rw [d3 k k1, p6.1 k k0 k1 k6, c3 k k3]
      have G0 : ∀ j, j ≠ 9 → M3 0 j = M0 0 j := fun j j9 => by rw [d3 0 (by omega), p6.2 j j9, c3 0 (by omega)]
      have hput := bV_put (m := m1) (q := m2) 44 (by omega) (by omega) p5 bT44
      have g45 : xmg (bV 44) 38 m1 m2 45 = m2 1 := by
        have := hput.1 1 (by omega)
        rw [bV44_0 _ (by omega)] at this; exact this
      have g56 : xmg (bV 44) 38 m1 m2 56 = m2 12 := by
        have := hput.1 12 (by omega)
        rw [bV44_0 _ (by omega)] at this; exact this
      have w1 : ¬ z < 0 := by omega
      have w2 : ¬ 400 < z := by omega
      have cw1 : ¬ xw z < 0 := by rw [b_xw hz]; exact w1
      have cw2 : ¬ xw 400 < xw z := by rw [b_xw hz, b_xw (by omega)]; exact w2
      have hm : f_m_receivedBehind e z M = (f_m_of e 4 M2).bind fun q3 => some (q3, M3) := by
        unfold f_m_receivedBehind f_m_receivedBehind_28
        rw [m_isEn e _ he, b_bs, if_pos hr, if_neg z1, m_inR z 0 400 _ hz (by unfold bI; omega) (by unfold bI; omega), b_bs, if_pos hzr, if_neg z1, if_pos z0, ← hM0, c1, b_bs, ← hM1, e1']
        unfold f_m_receivedBehind_70
        rw [d1, hM3]
        rfl
      have hx := X_tried m m1 m2 M0 M3 h0 q4 p5 (fun i hi => by rw [d2 i hi, p6.1 3 (by omega) (by omega) (by omega), c2 i hi]) G (fun j _ j9 => G0 j j9)
      have n0 : M2 1 (56 + 717 * en + 4) = (if en = 0 then m2 1 6 else m2 12 6) := by
        rcases (by omega : en = 0 ∨ en = 1) with rfl | rfl
        · obtain ⟨r, r1, r2, r3, -⟩ := p3.1.1.2.2.2.2.1
          have r3' : M2 1 60 = (r : Int) := r3
          rw [if_pos rfl, r2]; exact r3'
        · obtain ⟨r, r1, r2, r3, -⟩ := p3.1.2.1.2.2.2.2.1
          have r3' : M2 1 777 = (r : Int) := r3
          rw [if_neg (by omega), r2]; exact r3'
      have hcl : f_X_receivedBehind e z m = some ((if en = 0 then m2 1 6 else m2 12 6), xmg (bV 44) 38 m1 m2) := by
        unfold f_X_receivedBehind
        rw [cE, b_bs, if_neg cw1, if_neg cw2, q1, b_bs, ← q2, bV_4, p1', b_bs, g45, g56]
        rcases hr with rfl | rfl
        · rw [if_pos z0, if_pos (show en = 0 by omega)]
        · rw [if_neg z1, if_pos (show xw (1 : Int) = 1 by decide), if_neg (show ¬ en = 0 by omega)]
      refine ⟨_, _, M3, hcl, ?_, by rw [G0 6 (by omega), t0], hx⟩
      rw [hm, hen, m_of (i := 56 + 717 * en + 4) M2 (by omega) (by omega), b_bs, n0]
    · right; right
      refine ⟨?_, 0, xu M 0 6 2, ?_, by rw [xu_s rfl], h.thr 2⟩
      · unfold h_X_receivedBehind h_X_receivedBehind_16
        rw [cH, cE]
        show (if xw z < 0 then some 1 else if xw 400 < xw z then some 1 else none) = some 1
        by_cases w1 : xw z < 0
        · rw [if_pos w1]
        · rw [if_neg w1]
          by_cases w2 : xw 400 < xw z
          · rw [if_pos w2]
          · exfalso
            rw [b_xw hz] at w1
            rw [b_xw hz, b_xw (by omega)] at w2
            omega
      · unfold f_m_receivedBehind f_m_receivedBehind_28
        rw [m_isEn e _ he, b_bs, if_pos hr, if_neg z1, m_inR z 0 400 _ hz (by unfold bI; omega) (by unfold bI; omega), b_bs, if_neg hzr, if_pos z0, if_neg z2]
  · right; left
    have c0 : ¬ xw e = 0 := by rw [b_xw he]; omega
    have c1 : ¬ xw e = xw 1 := by rw [b_xw he, b_xw (by omega)]; omega
    refine ⟨?_, 0, xu M 0 6 1, ?_, by rw [xu_s rfl], h.thr 1⟩
    · unfold h_X_receivedBehind h_X_checkEnd
      rw [if_neg c0, if_neg c1]; rfl
    · unfold f_m_receivedBehind f_m_receivedBehind_28
      rw [m_isEn e _ he, b_bs, if_neg hr, if_pos z0, if_neg z1]
theorem X_least_loop {G : bGt} : ∀ (k x n n' : Nat) (m M : xM), x + k = 10 → k < n → k + 1 < n' → bX G m M → (∀ j, j < 3530 → M 3 j = M 1 j) → ∃ (r : Int) (m' M' : xM), f_X_leastQuality_2 n (x : Int) m = some (r, m') ∧ f_m_leastQuality_22 n' (-1) (x : Int) M = some (r, M') ∧ bX G m' M' ∧ M' 0 6 = M 0 6 := by
  intro k
  induction k with
  | zero =>
    intro x n n' m M h1 h2 h3 h h33
    obtain ⟨n, rfl⟩ : ∃ z, n = z + 1 := ⟨n - 1, by omega⟩
    obtain ⟨n', rfl⟩ : ∃ z, n' = z + 1 := ⟨n' - 1, by omega⟩
    have c : xw 9 < xw (x : Int) := by rw [b_xw (by omega), b_xw (by omega)]; omega
    rw [f_X_leastQuality_2, if_pos c, f_m_leastQuality_22, if_pos c]
    exact ⟨-1, m, M, rfl, rfl, h, rfl⟩
  | succ k ih =>
    intro x n n' m M h1 h2 h3 h h33
    obtain ⟨n, rfl⟩ : ∃ z, n = z + 1 := ⟨n - 1, by omega⟩
    obtain ⟨n', rfl⟩ : ∃ z, n' = z + 1 := ⟨n' - 1, by omega⟩
    obtain ⟨n', rfl⟩ : ∃ z, n' = z + 1 := ⟨n' - 1, by omega⟩
    have c : ¬ xw 9 < xw (x : Int) := by rw [b_xw (by omega), b_xw (by omega)]; omega
    have i2 : xib 2 3530 := b_ib (by omega)
    obtain ⟨q, m1, q1, q2, q3, q4, q5⟩ := X_try m M h
    obtain ⟨m2, hm2⟩ : ∃ Z, Z = xu m1 44 9 (x : Int) := ⟨_, rfl⟩
    have hu := bV44_u m1 (k0 := 0) (j := 9) (v := (x : Int)) (by omega)
    rw [show 44 + 0 = 44 from rfl, ← hm2] at hu
    have hl2 : bLine (xvw (bV 44) m2) (xu M 1 2 (x : Int)) := (q3.qual (x : Int) (by omega)).eqv hu
    have tm : xvw (bV 44) m2 0 7 ≤ 99999 := by rw [hu 0 (by omega), xu_d (by omega)]; exact q5
    obtain ⟨r, m3, M3, p1, p2, p3, p4, p5⟩ := L_finish_sp 400 0 fu fu (xvw (bV 44) m2) (xu M 1 2 (x : Int)) (by omega) (by show _ < 5000; omega) (by show _ < 5000; omega) hl2 (by omega)
    have p1' : f_L_runToFinish (xvw (bV 44) m2) = some (r, m3) := p1
    have p2' : f_m_finishOf (xu M 1 2 (x : Int)) = some (r, M3) := p2
    obtain ⟨Q2, d1, d2, d3⟩ := copyA_row 3 1 M3 (by omega) (Or.inr ⟨rfl, Or.inl rfl⟩)
    obtain ⟨M4, hM4⟩ : ∃ Z, Z = xmg [3, 1] 2 M3 Q2 := ⟨_, rfl⟩
    rw [← hM4] at d2 d3
    have e3 : M3 3 = M 3 := by rw [p5.1 3 (by omega) (by omega) (by omega), xu_K (by omega)]
    have G : ∀ k, k ≠ 0 → k ≠ 1 → k ≠ 6 → M4 k = M k := fun k k0 k1 k6 => by rw [d3 k k1, p5.1 k k0 k1 k6, xu_K k1]
    have G0 : ∀ j, j ≠ 9 → M4 0 j = M 0 j := fun j j9 => by rw [d3 0 (by omega), p5.2 j j9, xu_K (by omega)]
    have G1 : ∀ i, i < 3530 → M4 1 i = M 1 i := fun i hi => by rw [d2 i hi, e3, h33 i hi]
    have m2k : ∀ k, (k < 44 ∨ 77 ≤ k) → m2 k = m k := fun k hk => by rw [hm2, xu_K (by omega), q4 k hk]
    have hx := X_tried m m2 m3 M M4 h m2k p4 G1 (fun k k0 k1 _ k6 => G k k0 k1 k6) (fun j _ j9 => G0 j j9)
    rw [f_X_leastQuality_2, if_neg c, q1, b_bs, ← q2, ← hm2, bV_4, p1', b_bs, f_m_leastQuality_22, if_neg c, if_pos rfl, if_pos i2, p2', b_bs]
    dsimp only
    by_cases hr : xw r = xw (-1)
    · rw [if_pos hr, if_pos hr]
      unfold f_m_leastQuality_53
      rw [d1, b_bs, ← hM4, show (x : Int) + 1 = ((x + 1 : Nat) : Int) by omega]
      obtain ⟨r', m', M', w1, w2, w3, w4⟩ := ih (x + 1) n (n' + 1) (xmg (bV 44) 38 m2 m3) M4 (by omega) (by omega) (by omega) hx (fun j hj => by rw [G 3 (by omega) (by omega) (by omega), G1 j hj, h33 j hj])
      exact ⟨r', m', M', w1, w2, w3, by rw [w4, G0 6 (by omega)]⟩
    · rw [if_neg hr, if_neg hr]
      unfold f_m_leastQuality_53
      have cx : ¬ xw (x : Int) = xw (-1) := by rw [b_xw (by omega), b_xw (by omega)]; omega
      rw [d1, b_bs, ← hM4, f_m_leastQuality_22]
      refine ⟨x, _, M4, rfl, ?_, hx, G0 6 (by omega)⟩
      by_cases c9 : xw 9 < xw ((x : Int) + 1)
      · rw [if_pos c9]
      · rw [if_neg c9, if_neg cx]
theorem X_least_sp {G : bGt} (m M : xM) (h : bX G m M) : bOk G (f_X_leastQuality m) (f_m_leastQuality M) := by
  have h0 := h.thr 0
  obtain ⟨M0, hM0⟩ : ∃ Z, Z = xu M 0 6 0 := ⟨_, rfl⟩
  rw [← hM0] at h0
  have t0 : M0 0 6 = 0 := by rw [hM0, xu_s rfl]
  obtain ⟨Q, c1, c2, c3⟩ := copyA_row 1 3 M0 (by omega) (Or.inl ⟨rfl, Or.inl rfl⟩)
  obtain ⟨M1, hM1⟩ : ∃ Z, Z = xmg [1, 3] 2 M0 Q := ⟨_, rfl⟩
  rw [← hM1] at c2 c3
  have h1 : bX G m M1 := h0.line (by rw [c3 1 (by omega)]; exact h0.1) (fun _ _ => rfl) (fun k k0 k1 k3 k6 => c3 k k3) (fun j _ _ => by rw [c3 0 (by omega)])
  obtain ⟨r, m', M', w1, w2, w3, w4⟩ := X_least_loop 10 0 fu fu m M1 (by omega) (by show _ < 5000; omega) (by show _ < 5000; omega) h1 (fun j hj => by rw [c2 j hj, c3 1 (by omega)])
  refine ⟨r, m', M', w1, ?_, by rw [w4, c3 0 (by omega), t0], w3⟩
  unfold f_m_leastQuality
  rw [← hM0, c1, b_bs, ← hM1]
  exact w2

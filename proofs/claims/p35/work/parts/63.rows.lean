/-! ===== the reference's rows copied ===== -/
theorem fu_3530 : 3530 < fu := by unfold fu; omega
theorem copyA_3 (a b : Nat) (ha : 3530 * a + 3530 ≤ 3530) (hb : 3530 * b + 3530 ≤ 3530) : ∀ (k p n : Nat) (m : xM), p + k = 3530 → k < n → ∃ m' : xM, f_m_copyA_3 (a : Int) (b : Int) n (p : Int) m = some m' ∧ (∀ j, p ≤ j → j < 3530 → m' 1 (3530 * b + j) = m 0 (3530 * a + j)) ∧ (∀ i, (i < 3530 * b + p ∨ 3530 * b + 3530 ≤ i) → m' 1 i = m 1 i) ∧ ∀ k, k ≠ 1 → m' k = m k := by
  intro k
  induction k with
  | zero =>
    intro p n m h1 h2
    obtain ⟨n, rfl⟩ : ∃ z, n = z + 1 := ⟨n - 1, by omega⟩
    have hc : ¬ xw (p : Int) < xw 3530 := by rw [b_xw (by omega), b_xw (by omega)]; omega
    rw [f_m_copyA_3, if_neg hc]
    exact ⟨m, rfl, fun j h3 h4 => by omega, fun _ _ => rfl, fun _ _ => rfl⟩
  | succ k ih =>
    intro p n m h1 h2
    obtain ⟨n, rfl⟩ : ∃ z, n = z + 1 := ⟨n - 1, by omega⟩
    have hc : xw (p : Int) < xw 3530 := by rw [b_xw (by omega), b_xw (by omega)]; omega
    have x0 : xib (3530 * (a : Int) + (p : Int)) 3530 := b_ib (by omega)
    have x1 : xib (3530 * (b : Int) + (p : Int)) 3530 := b_ib (by omega)
    have y0 : xix (3530 * (a : Int) + (p : Int)) = 3530 * a + p := by rw [b_ix (by omega)]; omega
    have y1 : xix (3530 * (b : Int) + (p : Int)) = 3530 * b + p := by rw [b_ix (by omega)]; omega
    rw [f_m_copyA_3, if_pos hc, if_pos x0, if_pos x1, y0, y1]
    unfold f_m_copyA_31
    rw [show (p : Int) + 1 = ((p + 1 : Nat) : Int) by omega]
    obtain ⟨m', e1, e2, e3, e4⟩ := ih (p + 1) n (xu m 1 (3530 * b + p) (m 0 (3530 * a + p))) (by omega) (by omega)
    refine ⟨m', e1, fun j h3 h4 => ?_, fun i hi => ?_, fun k hk => by rw [e4 k hk, xu_K hk]⟩
    · by_cases h5 : j = p
      · rw [h5, e3 _ (by omega), xu_s rfl]
      · rw [e2 j (by omega) h4, xu_k (by omega)]
    · rw [e3 i (by omega), xu_d (by omega)]
theorem copyA_sp (a b : Nat) (ha : 3530 * a + 3530 ≤ 3530) (hb : 3530 * b + 3530 ≤ 3530) (m : xM) : ∃ m' : xM, f_m_copyA (a : Int) (b : Int) m = some m' ∧ (∀ j, j < 3530 → m' 1 (3530 * b + j) = m 0 (3530 * a + j)) ∧ (∀ i, (i < 3530 * b ∨ 3530 * b + 3530 ≤ i) → m' 1 i = m 1 i) ∧ ∀ k, k ≠ 1 → m' k = m k := by
  obtain ⟨m', e1, e2, e3, e4⟩ := copyA_3 a b ha hb 3530 0 fu m rfl fu_3530
  have e1' : f_m_copyA_3 (a : Int) (b : Int) fu 0 m = some m' := e1
  exact ⟨m', by unfold f_m_copyA; exact e1', fun j hj => e2 j (by omega) hj, fun i hi => e3 i (by omega), e4⟩
theorem copyB_3 (a b : Nat) (ha : 3530 * a + 3530 ≤ 3530) (hb : 3530 * b + 3530 ≤ 35300) : ∀ (k p n : Nat) (m : xM), p + k = 3530 → k < n → ∃ m' : xM, f_m_copyB_3 (a : Int) (b : Int) n (p : Int) m = some m' ∧ (∀ j, p ≤ j → j < 3530 → m' 1 (3530 * b + j) = m 0 (3530 * a + j)) ∧ (∀ i, (i < 3530 * b + p ∨ 3530 * b + 3530 ≤ i) → m' 1 i = m 1 i) ∧ ∀ k, k ≠ 1 → m' k = m k := by
  intro k
  induction k with
  | zero =>
    intro p n m h1 h2
    obtain ⟨n, rfl⟩ : ∃ z, n = z + 1 := ⟨n - 1, by omega⟩
    have hc : ¬ xw (p : Int) < xw 3530 := by rw [b_xw (by omega), b_xw (by omega)]; omega
    rw [f_m_copyB_3, if_neg hc]
    exact ⟨m, rfl, fun j h3 h4 => by omega, fun _ _ => rfl, fun _ _ => rfl⟩
  | succ k ih =>
    intro p n m h1 h2
    obtain ⟨n, rfl⟩ : ∃ z, n = z + 1 := ⟨n - 1, by omega⟩
    have hc : xw (p : Int) < xw 3530 := by rw [b_xw (by omega), b_xw (by omega)]; omega
    have x0 : xib (3530 * (a : Int) + (p : Int)) 3530 := b_ib (by omega)
    have x1 : xib (3530 * (b : Int) + (p : Int)) 35300 := b_ib (by omega)
    have y0 : xix (3530 * (a : Int) + (p : Int)) = 3530 * a + p := by rw [b_ix (by omega)]; omega
    have y1 : xix (3530 * (b : Int) + (p : Int)) = 3530 * b + p := by rw [b_ix (by omega)]; omega
    rw [f_m_copyB_3, if_pos hc, if_pos x0, if_pos x1, y0, y1]
    unfold f_m_copyB_31
    rw [show (p : Int) + 1 = ((p + 1 : Nat) : Int) by omega]
    obtain ⟨m', e1, e2, e3, e4⟩ := ih (p + 1) n (xu m 1 (3530 * b + p) (m 0 (3530 * a + p))) (by omega) (by omega)
    refine ⟨m', e1, fun j h3 h4 => ?_, fun i hi => ?_, fun k hk => by rw [e4 k hk, xu_K hk]⟩
    · by_cases h5 : j = p
      · rw [h5, e3 _ (by omega), xu_s rfl]
      · rw [e2 j (by omega) h4, xu_k (by omega)]
    · rw [e3 i (by omega), xu_d (by omega)]
theorem copyB_sp (a b : Nat) (ha : 3530 * a + 3530 ≤ 3530) (hb : 3530 * b + 3530 ≤ 35300) (m : xM) : ∃ m' : xM, f_m_copyB (a : Int) (b : Int) m = some m' ∧ (∀ j, j < 3530 → m' 1 (3530 * b + j) = m 0 (3530 * a + j)) ∧ (∀ i, (i < 3530 * b ∨ 3530 * b + 3530 ≤ i) → m' 1 i = m 1 i) ∧ ∀ k, k ≠ 1 → m' k = m k := by
  obtain ⟨m', e1, e2, e3, e4⟩ := copyB_3 a b ha hb 3530 0 fu m rfl fu_3530
  have e1' : f_m_copyB_3 (a : Int) (b : Int) fu 0 m = some m' := e1
  exact ⟨m', by unfold f_m_copyB; exact e1', fun j hj => e2 j (by omega) hj, fun i hi => e3 i (by omega), e4⟩
theorem copyC_3 (a b : Nat) (ha : 3530 * a + 3530 ≤ 35300) (hb : 3530 * b + 3530 ≤ 3530) : ∀ (k p n : Nat) (m : xM), p + k = 3530 → k < n → ∃ m' : xM, f_m_copyC_3 (a : Int) (b : Int) n (p : Int) m = some m' ∧ (∀ j, p ≤ j → j < 3530 → m' 1 (3530 * b + j) = m 0 (3530 * a + j)) ∧ (∀ i, (i < 3530 * b + p ∨ 3530 * b + 3530 ≤ i) → m' 1 i = m 1 i) ∧ ∀ k, k ≠ 1 → m' k = m k := by
  intro k
  induction k with
  | zero =>
    intro p n m h1 h2
    obtain ⟨n, rfl⟩ : ∃ z, n = z + 1 := ⟨n - 1, by omega⟩
    have hc : ¬ xw (p : Int) < xw 3530 := by rw [b_xw (by omega), b_xw (by omega)]; omega
    rw [f_m_copyC_3, if_neg hc]
    exact ⟨m, rfl, fun j h3 h4 => by omega, fun _ _ => rfl, fun _ _ => rfl⟩
  | succ k ih =>
    intro p n m h1 h2
    obtain ⟨n, rfl⟩ : ∃ z, n = z + 1 := ⟨n - 1, by omega⟩
    have hc : xw (p : Int) < xw 3530 := by rw [b_xw (by omega), b_xw (by omega)]; omega
    have x0 : xib (3530 * (a : Int) + (p : Int)) 35300 := b_ib (by omega)
    have x1 : xib (3530 * (b : Int) + (p : Int)) 3530 := b_ib (by omega)
    have y0 : xix (3530 * (a : Int) + (p : Int)) = 3530 * a + p := by rw [b_ix (by omega)]; omega
    have y1 : xix (3530 * (b : Int) + (p : Int)) = 3530 * b + p := by rw [b_ix (by omega)]; omega
    rw [f_m_copyC_3, if_pos hc, if_pos x0, if_pos x1, y0, y1]
    unfold f_m_copyC_31
    rw [show (p : Int) + 1 = ((p + 1 : Nat) : Int) by omega]
    obtain ⟨m', e1, e2, e3, e4⟩ := ih (p + 1) n (xu m 1 (3530 * b + p) (m 0 (3530 * a + p))) (by omega) (by omega)
    refine ⟨m', e1, fun j h3 h4 => ?_, fun i hi => ?_, fun k hk => by rw [e4 k hk, xu_K hk]⟩
    · by_cases h5 : j = p
      · rw [h5, e3 _ (by omega), xu_s rfl]
      · rw [e2 j (by omega) h4, xu_k (by omega)]
    · rw [e3 i (by omega), xu_d (by omega)]
theorem copyC_sp (a b : Nat) (ha : 3530 * a + 3530 ≤ 35300) (hb : 3530 * b + 3530 ≤ 3530) (m : xM) : ∃ m' : xM, f_m_copyC (a : Int) (b : Int) m = some m' ∧ (∀ j, j < 3530 → m' 1 (3530 * b + j) = m 0 (3530 * a + j)) ∧ (∀ i, (i < 3530 * b ∨ 3530 * b + 3530 ≤ i) → m' 1 i = m 1 i) ∧ ∀ k, k ≠ 1 → m' k = m k := by
  obtain ⟨m', e1, e2, e3, e4⟩ := copyC_3 a b ha hb 3530 0 fu m rfl fu_3530
  have e1' : f_m_copyC_3 (a : Int) (b : Int) fu 0 m = some m' := e1
  exact ⟨m', by unfold f_m_copyC; exact e1', fun j hj => e2 j (by omega) hj, fun i hi => e3 i (by omega), e4⟩
theorem copyD_3 (a b : Nat) (ha : 3530 * a + 3530 ≤ 35300) (hb : 3530 * b + 3530 ≤ 35300) (hab : a = b + 1) : ∀ (k p n : Nat) (m : xM), p + k = 3530 → k < n → ∃ m' : xM, f_m_copyD_3 (a : Int) (b : Int) n (p : Int) m = some m' ∧ (∀ j, p ≤ j → j < 3530 → m' 0 (3530 * b + j) = m 0 (3530 * a + j)) ∧ (∀ i, (i < 3530 * b + p ∨ 3530 * b + 3530 ≤ i) → m' 0 i = m 0 i) ∧ ∀ k, k ≠ 0 → m' k = m k := by
  intro k
  induction k with
  | zero =>
    intro p n m h1 h2
    obtain ⟨n, rfl⟩ : ∃ z, n = z + 1 := ⟨n - 1, by omega⟩
    have hc : ¬ xw (p : Int) < xw 3530 := by rw [b_xw (by omega), b_xw (by omega)]; omega
    rw [f_m_copyD_3, if_neg hc]
    exact ⟨m, rfl, fun j h3 h4 => by omega, fun _ _ => rfl, fun _ _ => rfl⟩
  | succ k ih =>
    intro p n m h1 h2
    obtain ⟨n, rfl⟩ : ∃ z, n = z + 1 := ⟨n - 1, by omega⟩
    have hc : xw (p : Int) < xw 3530 := by rw [b_xw (by omega), b_xw (by omega)]; omega
    have x0 : xib (3530 * (a : Int) + (p : Int)) 35300 := b_ib (by omega)
    have x1 : xib (3530 * (b : Int) + (p : Int)) 35300 := b_ib (by omega)
    have y0 : xix (3530 * (a : Int) + (p : Int)) = 3530 * a + p := by rw [b_ix (by omega)]; omega
    have y1 : xix (3530 * (b : Int) + (p : Int)) = 3530 * b + p := by rw [b_ix (by omega)]; omega
    rw [f_m_copyD_3, if_pos hc, if_pos x0, if_pos x1, y0, y1]
    unfold f_m_copyD_31
    rw [show (p : Int) + 1 = ((p + 1 : Nat) : Int) by omega]
    obtain ⟨m', e1, e2, e3, e4⟩ := ih (p + 1) n (xu m 0 (3530 * b + p) (m 0 (3530 * a + p))) (by omega) (by omega)
    refine ⟨m', e1, fun j h3 h4 => ?_, fun i hi => ?_, fun k hk => by rw [e4 k hk, xu_K hk]⟩
    · by_cases h5 : j = p
      · rw [h5, e3 _ (by omega), xu_s rfl]
      · rw [e2 j (by omega) h4, xu_d (by omega)]
    · rw [e3 i (by omega), xu_d (by omega)]
theorem copyD_sp (a b : Nat) (ha : 3530 * a + 3530 ≤ 35300) (hb : 3530 * b + 3530 ≤ 35300) (hab : a = b + 1) (m : xM) : ∃ m' : xM, f_m_copyD (a : Int) (b : Int) m = some m' ∧ (∀ j, j < 3530 → m' 0 (3530 * b + j) = m 0 (3530 * a + j)) ∧ (∀ i, (i < 3530 * b ∨ 3530 * b + 3530 ≤ i) → m' 0 i = m 0 i) ∧ ∀ k, k ≠ 0 → m' k = m k := by
  obtain ⟨m', e1, e2, e3, e4⟩ := copyD_3 a b ha hb hab 3530 0 fu m rfl fu_3530
  have e1' : f_m_copyD_3 (a : Int) (b : Int) fu 0 m = some m' := e1
  exact ⟨m', by unfold f_m_copyD; exact e1', fun j hj => e2 j (by omega) hj, fun i hi => e3 i (by omega), e4⟩
/-- a step further in the undo history of the reference: u rows are kept -/
def bRec (u : Nat) (M M' : xM) : Prop := (if u < 10 then M' 0 5 = ((u + 1 : Nat) : Int) ∧ (∀ i, i < 3530 * u → M' 5 i = M 5 i) ∧ ∀ j, j < 3530 → M' 5 (3530 * u + j) = M 1 j else M' 0 5 = 10 ∧ (∀ i, i < 3530 * 9 → M' 5 i = M 5 (i + 3530)) ∧ ∀ j, j < 3530 → M' 5 (3530 * 9 + j) = M 1 j) ∧ (∀ j, j ≠ 5 → M' 0 j = M 0 j) ∧ ∀ k, k ≠ 0 → k ≠ 5 → M' k = M k
theorem record_48 (u : Nat) (M : xM) (hu : u < 10) (h : M 0 5 = u) : ∃ M' : xM, f_m_record_48 M = some M' ∧ M' 0 5 = ((u + 1 : Nat) : Int) ∧ (∀ i, i < 3530 * u → M' 5 i = M 5 i) ∧ (∀ j, j < 3530 → M' 5 (3530 * u + j) = M 1 j) ∧ (∀ j, j ≠ 5 → M' 0 j = M 0 j) ∧ ∀ k, k ≠ 0 → k ≠ 5 → M' k = M k := by
  obtain ⟨q, e1, e2, e3, e4⟩ := copyB_sp 0 u (by omega) (by omega) (xvw [1, 5] M)
  obtain ⟨M1, hM1⟩ : ∃ Z, Z = xmg [1, 5] 2 M q := ⟨_, rfl⟩
  have g5 : M1 5 = q 1 := by rw [hM1]; rfl
  have g1 : M1 1 = M 1 := by rw [hM1]; show q 0 = _; rw [e4 0 (by omega)]; rfl
  have gk : ∀ k, k ≠ 1 → k ≠ 5 → M1 k = M k := fun k h1 h5 => by rw [hM1]; exact xmg_no _ _ (xpos_not (by simp [h1, h5]))
  have e1' : f_m_copyB 0 (M 0 5) (xvw [1, 5] M) = some q := by rw [h]; exact e1
  refine ⟨xu M1 0 5 (M1 0 5 + 1), ?_, ?_, fun i hi => ?_, fun j hj => ?_, fun j hj => ?_, fun k h0 h5 => ?_⟩
  · unfold f_m_record_48
    rw [e1', b_bs, ← hM1]
  · rw [xu_s rfl, gk 0 (by omega) (by omega), h]; omega
  · rw [xu_k (by omega), g5, e3 i (by omega)]; rfl
  · rw [xu_k (by omega), g5, e2 j hj, Nat.mul_zero, Nat.zero_add]; rfl
  · rw [xu_d hj, gk 0 (by omega) (by omega)]
  · rw [xu_K h0]
    by_cases h1 : k = 1
    · rw [h1, g1]
    · rw [gk k h1 h5]
theorem record_11 : ∀ (k x n : Nat) (M : xM), x + k = 10 → 1 ≤ x → k < n → ∃ M' : xM, f_m_record_11 n (x : Int) M = f_m_record_38 M' ∧ (∀ i, 3530 * (x - 1) ≤ i → i < 3530 * 9 → M' 5 i = M 5 (i + 3530)) ∧ (∀ i, i < 3530 * (x - 1) → M' 5 i = M 5 i) ∧ ∀ k, k ≠ 5 → M' k = M k := by
  intro k
  induction k with
  | zero =>
    intro x n M h1 h2 h3
    obtain ⟨n, rfl⟩ : ∃ z, n = z + 1 := ⟨n - 1, by omega⟩
    have hc : ¬ xw (x : Int) < xw 10 := by rw [b_xw (by omega), b_xw (by omega)]; omega
    rw [f_m_record_11, if_neg hc]
    exact ⟨M, rfl, fun i q1 q2 => by omega, fun _ _ => rfl, fun _ _ => rfl⟩
  | succ k ih =>
    intro x n M h1 h2 h3
    obtain ⟨n, rfl⟩ : ∃ z, n = z + 1 := ⟨n - 1, by omega⟩
    have hc : xw (x : Int) < xw 10 := by rw [b_xw (by omega), b_xw (by omega)]; omega
    obtain ⟨q, e1, e2, e3, e4⟩ := copyD_sp x (x - 1) (by omega) (by omega) (by omega) (xvw [5] M)
    rw [show ((x - 1 : Nat) : Int) = (x : Int) - 1 by omega] at e1
    obtain ⟨M1, hM1⟩ : ∃ Z, Z = xmg [5] 1 M q := ⟨_, rfl⟩
    have g5 : M1 5 = q 0 := by rw [hM1]; rfl
    have gk : ∀ k, k ≠ 5 → M1 k = M k := fun k h5 => by rw [hM1]; exact xmg_no _ _ (xpos_not (by simp [h5]))
    have v5 : xvw [5] M 0 = M 5 := rfl
    rw [v5] at e2 e3
    rw [f_m_record_11, if_pos hc, e1, b_bs, ← hM1, show (x : Int) + 1 = ((x + 1 : Nat) : Int) by omega]
    obtain ⟨M', p1, p2, p3, p4⟩ := ih (x + 1) n M1 (by omega) (by omega) (by omega)
    refine ⟨M', p1, fun i q1 q2 => ?_, fun i q1 => ?_, fun k hk => by rw [p4 k hk, gk k hk]⟩
    · by_cases hi : 3530 * x ≤ i
      · rw [p2 i (by omega) q2, g5, e3 _ (by omega)]
      · have := e2 (i - 3530 * (x - 1)) (by omega)
        rw [show 3530 * (x - 1) + (i - 3530 * (x - 1)) = i by omega, show 3530 * x + (i - 3530 * (x - 1)) = i + 3530 by omega] at this
        rw [p3 i (by omega), g5, this]
    · rw [p3 i (by omega), g5, e3 i (by omega)]
theorem record_sp (u : Nat) (M : xM) (hu : u ≤ 10) (h : M 0 5 = u) : ∃ M' : xM, f_m_record M = some M' ∧ bRec u M M' := by
  unfold f_m_record bRec
  by_cases h10 : u < 10
  · have hc : ¬ xw (M 0 5) = xw 10 := by rw [h, b_xw (by omega), b_xw (by omega)]; omega
    rw [if_neg hc]
    obtain ⟨M', e1, e2, e3, e4, e5, e6⟩ := record_48 u M h10 h
    exact ⟨M', e1, by rw [if_pos h10]; exact ⟨e2, e3, e4⟩, e5, e6⟩
  · have hu10 : u = 10 := by omega
    subst hu10
    have hc : xw (M 0 5) = xw 10 := by rw [h]; rfl
    rw [if_pos hc]
    obtain ⟨M1, p1, p2, p3, p4⟩ := record_11 9 1 fu M (by omega) (by omega) (by show _ < 5000; omega)
    have p1' : f_m_record_11 fu 1 M = f_m_record_38 M1 := p1
    have q0 : M1 0 = M 0 := p4 0 (by omega)
    obtain ⟨M', e1, e2, e3, e4, e5, e6⟩ := record_48 9 (xu M1 0 5 (M1 0 5 - 1)) (by omega) (by rw [xu_s rfl, q0, h]; rfl)
    have g1 : ∀ i, i < 3530 * 9 → M' 5 i = M 5 (i + 3530) := fun i hi => by rw [e3 i hi, xu_k (by omega), p2 i (by omega) hi]
    have g2 : ∀ j, j < 3530 → M' 5 (3530 * 9 + j) = M 1 j := fun j hj => by rw [e4 j hj, xu_k (by omega), p4 1 (by omega)]
    refine ⟨M', ?_, by rw [if_neg h10]; exact ⟨e2, g1, g2⟩, fun j hj => ?_, fun k h0 h5 => ?_⟩
    · rw [p1']
      unfold f_m_record_38
      exact e1
    · rw [e5 j hj, xu_d hj, q0]
    · rw [e6 k h0 h5, xu_K h0, p4 k h5]

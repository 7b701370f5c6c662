/-! ===== what is set by default ===== -/
theorem clear_2 : ∀ (k p n : Nat) (m : xM), p + k = 3530 → k < n → ∃ m' : xM, f_m_clear_2 n (p : Int) m = f_m_clear_19 m' ∧ (∀ j, p ≤ j → j < 3530 → m' 0 j = 0) ∧ (∀ j, j < p → m' 0 j = m 0 j) ∧ ∀ k, k ≠ 0 → m' k = m k := by
  intro k
  induction k with
  | zero =>
    intro p n m h1 h2
    obtain ⟨n, rfl⟩ : ∃ z, n = z + 1 := ⟨n - 1, by omega⟩
    have hc : ¬ xw (p : Int) < xw 3530 := by rw [b_xw (by omega), b_xw (by omega)]; omega
    rw [f_m_clear_2, if_neg hc]
    exact ⟨m, rfl, fun j h3 h4 => by omega, fun _ _ => rfl, fun _ _ => rfl⟩
  | succ k ih =>
    intro p n m h1 h2
    obtain ⟨n, rfl⟩ : ∃ z, n = z + 1 := ⟨n - 1, by omega⟩
    have hc : xw (p : Int) < xw 3530 := by rw [b_xw (by omega), b_xw (by omega)]; omega
    have x0 : xib (p : Int) 3530 := b_ib (by omega)
    have y0 : xix (p : Int) = p := by rw [b_ix (by omega)]; exact Int.toNat_natCast _
    rw [f_m_clear_2, if_pos hc, if_pos x0, y0, show (p : Int) + 1 = ((p + 1 : Nat) : Int) by omega]
    obtain ⟨m', e1, e2, e3, e4⟩ := ih (p + 1) n (xu m 0 p 0) (by omega) (by omega)
    refine ⟨m', e1, fun j h3 h4 => ?_, fun j hj => by rw [e3 j (by omega), xu_d (by omega)], fun k hk => by rw [e4 k hk, xu_K hk]⟩
    by_cases h5 : j = p
    · rw [h5, e3 p (by omega), xu_s rfl]
    · exact e2 j (by omega) h4
theorem clear_21 : ∀ (k p n : Nat) (m : xM), p + k = 4 → k < n → ∃ m' : xM, f_m_clear_21 n (p : Int) m = f_m_clear_39 m' ∧ (∀ j, 21 + p ≤ j → j < 25 → m' 0 j = 2) ∧ (∀ j, (j < 21 + p ∨ 25 ≤ j) → m' 0 j = m 0 j) ∧ ∀ k, k ≠ 0 → m' k = m k := by
  intro k
  induction k with
  | zero =>
    intro p n m h1 h2
    obtain ⟨n, rfl⟩ : ∃ z, n = z + 1 := ⟨n - 1, by omega⟩
    have hc : ¬ xw (p : Int) < xw 4 := by rw [b_xw (by omega), b_xw (by omega)]; omega
    rw [f_m_clear_21, if_neg hc]
    exact ⟨m, rfl, fun j h3 h4 => by omega, fun _ _ => rfl, fun _ _ => rfl⟩
  | succ k ih =>
    intro p n m h1 h2
    obtain ⟨n, rfl⟩ : ∃ z, n = z + 1 := ⟨n - 1, by omega⟩
    have hc : xw (p : Int) < xw 4 := by rw [b_xw (by omega), b_xw (by omega)]; omega
    have e21 : (21 : Int) + (p : Int) = ((21 + p : Nat) : Int) := by omega
    have x0 : xib ((21 + p : Nat) : Int) 3530 := b_ib (by omega)
    have y0 : xix ((21 + p : Nat) : Int) = 21 + p := by rw [b_ix (by omega)]; exact Int.toNat_natCast _
    rw [f_m_clear_21, if_pos hc, e21, if_pos x0, y0, show (p : Int) + 1 = ((p + 1 : Nat) : Int) by omega]
    obtain ⟨m', e1, e2, e3, e4⟩ := ih (p + 1) n (xu m 0 (21 + p) 2) (by omega) (by omega)
    refine ⟨m', e1, fun j h3 h4 => ?_, fun j hj => by rw [e3 j (by omega), xu_d (by omega)], fun k hk => by rw [e4 k hk, xu_K hk]⟩
    by_cases h5 : j = 21 + p
    · rw [h5, e3 (21 + p) (by omega), xu_s rfl]
    · exact e2 j (by omega) h4
theorem m_clear_sp (m : xM) : ∃ m' : xM, f_m_clear m = some m' ∧ (m' 0 12 = 2 ∧ m' 0 13 = 5 ∧ m' 0 14 = 4 ∧ m' 0 15 = 1 ∧ m' 0 16 = 3 ∧ m' 0 17 = 2 ∧ m' 0 18 = 8 ∧ m' 0 19 = 1) ∧ (∀ j, 21 ≤ j → j < 25 → m' 0 j = 2) ∧ (∀ j, (j < 12 ∨ j = 20 ∨ 25 ≤ j) → j < 3530 → m' 0 j = 0) ∧ ∀ k, k ≠ 0 → m' k = m k := by
  obtain ⟨m1, a1, a2, a3, a4⟩ := clear_2 3530 0 fu m rfl fu_3530
  obtain ⟨m2, b1, b2, b3, b4⟩ := clear_21 4 0 fu m1 rfl (by have := fu_3530; omega)
  have a1' : f_m_clear_2 fu 0 m = f_m_clear_19 m1 := a1
  have b1' : f_m_clear_21 fu 0 m1 = f_m_clear_39 m2 := b1
  unfold f_m_clear
  rw [a1']
  unfold f_m_clear_19
  rw [b1']
  unfold f_m_clear_39 f_m_clear_64
  rw [if_pos (b_ib (by omega)), if_pos (b_ib (by omega)), if_pos (b_ib (by omega)), if_pos (b_ib (by omega)), if_pos (b_ib (by omega)), if_pos (b_ib (by omega)), if_pos (b_ib (by omega)), if_pos (b_ib (by omega))]
  obtain ⟨Y, hY⟩ : ∃ Y, Y = xu (xu (xu (xu (xu m2 0 12 2) 0 13 5) 0 14 4) 0 15 1) 0 16 3 := ⟨_, rfl⟩
  rw [← hY]
  have y0 : ∀ j, (j < 12 ∨ 17 ≤ j) → Y 0 j = m2 0 j := fun j hj => by rw [hY, xu_d (by omega), xu_d (by omega), xu_d (by omega), xu_d (by omega), xu_d (by omega)]
  have y12 : Y 0 12 = 2 := by rw [hY, xu_d (by omega), xu_d (by omega), xu_d (by omega), xu_d (by omega), xu_s rfl]
  have y13 : Y 0 13 = 5 := by rw [hY, xu_d (by omega), xu_d (by omega), xu_d (by omega), xu_s rfl]
  have y14 : Y 0 14 = 4 := by rw [hY, xu_d (by omega), xu_d (by omega), xu_s rfl]
  have y15 : Y 0 15 = 1 := by rw [hY, xu_d (by omega), xu_s rfl]
  have y16 : Y 0 16 = 3 := by rw [hY, xu_s rfl]
  have yk : ∀ k, k ≠ 0 → Y k = m2 k := fun k hk => by rw [hY, xu_K hk, xu_K hk, xu_K hk, xu_K hk, xu_K hk]
  clear hY
  obtain ⟨Z, hZ⟩ : ∃ Z, Z = xu (xu (xu Y 0 17 2) 0 18 8) 0 19 1 := ⟨_, rfl⟩
  rw [← hZ]
  have z0 : ∀ j, (j < 17 ∨ 20 ≤ j) → Z 0 j = Y 0 j := fun j hj => by rw [hZ, xu_d (by omega), xu_d (by omega), xu_d (by omega)]
  refine ⟨Z, rfl, ⟨by rw [z0 12 (by omega), y12], by rw [z0 13 (by omega), y13], by rw [z0 14 (by omega), y14], by rw [z0 15 (by omega), y15], by rw [z0 16 (by omega), y16], by rw [hZ, xu_d (by omega), xu_d (by omega), xu_s rfl], by rw [hZ, xu_d (by omega), xu_s rfl], by rw [hZ, xu_s rfl]⟩, fun j h1 h2 => ?_, fun j h1 h2 => ?_, fun k hk => ?_⟩
  · rw [z0 j (by omega), y0 j (by omega)]; exact b2 j (by omega) h2
  · rw [z0 j (by omega), y0 j (by omega), b3 j (by omega)]; exact a2 j (by omega) h2
  · rw [hZ, xu_K hk, xu_K hk, xu_K hk, yk k hk, b4 k hk, a4 k hk]
theorem S_def_28 : ∀ (k p n : Nat) (m : xM), p + k = 4 → k < n → ∃ m' : xM, f_S_def_28 n (p : Int) m = f_S_def_50 m' ∧ (∀ j, p ≤ j → j < 4 → m' 3 j = 2) ∧ (∀ j, j < p → m' 3 j = m 3 j) ∧ ∀ k, k ≠ 3 → m' k = m k := by
  intro k
  induction k with
  | zero =>
    intro p n m h1 h2
    obtain ⟨n, rfl⟩ : ∃ z, n = z + 1 := ⟨n - 1, by omega⟩
    have hc : ¬ xw (p : Int) < xw 4 := by rw [b_xw (by omega), b_xw (by omega)]; omega
    rw [f_S_def_28, if_neg hc]
    exact ⟨m, rfl, fun j h3 h4 => by omega, fun _ _ => rfl, fun _ _ => rfl⟩
  | succ k ih =>
    intro p n m h1 h2
    obtain ⟨n, rfl⟩ : ∃ z, n = z + 1 := ⟨n - 1, by omega⟩
    have hc : xw (p : Int) < xw 4 := by rw [b_xw (by omega), b_xw (by omega)]; omega
    have x0 : xib (p : Int) 4 := b_ib (by omega)
    have y0 : xix (p : Int) = p := by rw [b_ix (by omega)]; exact Int.toNat_natCast _
    rw [f_S_def_28, if_pos hc, if_pos x0, y0, show (p : Int) + 1 = ((p + 1 : Nat) : Int) by omega]
    obtain ⟨m', e1, e2, e3, e4⟩ := ih (p + 1) n (xu m 3 p 2) (by omega) (by omega)
    refine ⟨m', e1, fun j h3 h4 => ?_, fun j hj => by rw [e3 j (by omega), xu_d (by omega)], fun k hk => by rw [e4 k hk, xu_K hk]⟩
    by_cases h5 : j = p
    · rw [h5, e3 p (by omega), xu_s rfl]
    · exact e2 j (by omega) h4
theorem S_def_sp (m : xM) : ∃ m' : xM, f_S_def m = some m' ∧ (m' 0 4 = 1 ∧ m' 0 5 = 1 ∧ m' 0 6 = 9 ∧ m' 0 7 = 2 ∧ m' 0 8 = 5 ∧ m' 0 9 = 4 ∧ m' 0 10 = 1 ∧ m' 0 11 = 3 ∧ m' 0 12 = 2 ∧ m' 0 13 = 8) ∧ (m' 1 0 = 8 ∧ m' 2 0 = 1 ∧ m' 4 0 = 0) ∧ (∀ j, j < 4 → m' 3 j = 2) ∧ (∀ j, j < 4 → m' 0 j = m 0 j) ∧ ∀ k, 5 ≤ k → m' k = m k := by
  unfold f_S_def
  rw [if_pos (b_ib (by omega)), if_pos (b_ib (by omega))]
  obtain ⟨Y, hY⟩ : ∃ Y, Y = xu (xu (xu (xu m 0 6 9) 0 4 1) 1 0 8) 2 0 1 := ⟨_, rfl⟩
  rw [← hY]
  obtain ⟨m1, a1, a2, a3, a4⟩ := S_def_28 4 0 fu Y rfl (by have := fu_3530; omega)
  have a1' : f_S_def_28 fu 0 Y = f_S_def_50 m1 := a1
  rw [a1']
  unfold f_S_def_50 f_S_def_80
  rw [if_pos (b_ib (by omega))]
  have p6 : m1 0 6 = 9 := by rw [a4 0 (by omega), hY, xu_k (by omega), xu_k (by omega), xu_d (by omega), xu_s rfl]
  have p4 : m1 0 4 = 1 := by rw [a4 0 (by omega), hY, xu_k (by omega), xu_k (by omega), xu_s rfl]
  have pj : ∀ j, j < 4 → m1 0 j = m 0 j := fun j hj => by rw [a4 0 (by omega), hY, xu_k (by omega), xu_k (by omega), xu_d (by omega), xu_d (by omega)]
  have p1 : m1 1 0 = 8 := by rw [a4 1 (by omega), hY, xu_k (by omega), xu_s rfl]
  have p2 : m1 2 0 = 1 := by rw [a4 2 (by omega), hY, xu_s rfl]
  have pk : ∀ k, 5 ≤ k → m1 k = m k := fun k hk => by rw [a4 k (by omega), hY, xu_K (by omega), xu_K (by omega), xu_K (by omega), xu_K (by omega)]
  obtain ⟨Z, hZ⟩ : ∃ Z, Z = xu (xu (xu (xu (xu (xu m1 0 7 2) 0 8 5) 0 9 4) 0 10 1) 0 11 3) 0 12 2 := ⟨_, rfl⟩
  rw [← hZ]
  have z0 : ∀ j, (j < 7 ∨ 13 ≤ j) → Z 0 j = m1 0 j := fun j hj => by rw [hZ, xu_d (by omega), xu_d (by omega), xu_d (by omega), xu_d (by omega), xu_d (by omega), xu_d (by omega)]
  have z7 : Z 0 7 = 2 := by rw [hZ, xu_d (by omega), xu_d (by omega), xu_d (by omega), xu_d (by omega), xu_d (by omega), xu_s rfl]
  have z8 : Z 0 8 = 5 := by rw [hZ, xu_d (by omega), xu_d (by omega), xu_d (by omega), xu_d (by omega), xu_s rfl]
  have z9 : Z 0 9 = 4 := by rw [hZ, xu_d (by omega), xu_d (by omega), xu_d (by omega), xu_s rfl]
  have z10 : Z 0 10 = 1 := by rw [hZ, xu_d (by omega), xu_d (by omega), xu_s rfl]
  have z11 : Z 0 11 = 3 := by rw [hZ, xu_d (by omega), xu_s rfl]
  have z12 : Z 0 12 = 2 := by rw [hZ, xu_s rfl]
  have zk : ∀ k, k ≠ 0 → Z k = m1 k := fun k hk => by rw [hZ, xu_K hk, xu_K hk, xu_K hk, xu_K hk, xu_K hk, xu_K hk]
  clear hZ
  obtain ⟨W, hW⟩ : ∃ W, W = xu (xu (xu Z 0 13 8) 0 5 1) 4 0 0 := ⟨_, rfl⟩
  rw [← hW]
  have w0 : ∀ j, j ≠ 5 → j ≠ 13 → W 0 j = Z 0 j := fun j h1 h2 => by rw [hW, xu_k (by omega), xu_d h1, xu_d h2]
  have wk : ∀ k, k ≠ 0 → k ≠ 4 → W k = Z k := fun k h1 h2 => by rw [hW, xu_K h2, xu_K h1, xu_K h1]
  refine ⟨W, rfl, ⟨by rw [w0 4 (by omega) (by omega), z0 4 (by omega), p4], by rw [hW, xu_k (by omega), xu_s rfl], by rw [w0 6 (by omega) (by omega), z0 6 (by omega), p6], by rw [w0 7 (by omega) (by omega), z7], by rw [w0 8 (by omega) (by omega), z8], by rw [w0 9 (by omega) (by omega), z9], by rw [w0 10 (by omega) (by omega), z10], by rw [w0 11 (by omega) (by omega), z11], by rw [w0 12 (by omega) (by omega), z12], by rw [hW, xu_k (by omega), xu_d (by omega), xu_s rfl]⟩, ⟨by rw [wk 1 (by omega) (by omega), zk 1 (by omega), p1], by rw [wk 2 (by omega) (by omega), zk 2 (by omega), p2], by rw [hW, xu_s rfl]⟩, fun j hj => by rw [wk 3 (by omega) (by omega), zk 3 (by omega)]; exact a2 j (by omega) hj, fun j hj => by rw [w0 j (by omega) (by omega), z0 j (by omega), pj j hj], fun k hk => by rw [wk k (by omega) (by omega), zk k (by omega), pk k hk]⟩

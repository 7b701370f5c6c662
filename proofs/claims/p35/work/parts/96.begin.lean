/-! ===== an end begun anew ===== -/
theorem F_mg (m q : xM) (hq : ∀ k, k ≠ 0 → q k = xvw [3, 4, 5, 6] m k) : ∃ m' : xM, xmg [3, 4, 5, 6] 4 m q = m' ∧ m' 3 = q 0 ∧ ∀ k, k ≠ 3 → m' k = m k := by
  refine ⟨_, rfl, rfl, fun k hk => ?_⟩
  by_cases h : k = 4 ∨ k = 5 ∨ k = 6
  · rcases h with h | h | h <;> rw [h]
    · exact hq 1 (by omega)
    · exact hq 2 (by omega)
    · exact hq 3 (by omega)
  · refine xmg_no _ _ ?_
    show xpos [3, 4, 5, 6] 0 k = none
    unfold xpos xpos xpos xpos xpos
    rw [if_neg (by omega), if_neg (by omega), if_neg (by omega), if_neg (by omega)]
theorem E_begin_sp (m : xM) : ∃ m' : xM, f_E_begin m = some m' ∧ (∀ j, 5 ≤ j → j ≤ 10 → m' 0 j = 0) ∧ (m' 3 3 = 0 ∧ m' 3 4 = 0 ∧ m' 3 5 = 0) ∧ m' 7 1 = 0 ∧ m' 9 1 = 0 ∧ (∀ j, j < 5 ∨ 10 < j → m' 0 j = m 0 j) ∧ ∀ k, k ≠ 0 → k ≠ 3 → k ≠ 7 → k ≠ 9 → m' k = m k := by
  unfold f_E_begin f_F_begin f_E_begin_33
  rw [Option.bind_some]
  obtain ⟨q, hq⟩ : ∃ Z, Z = xu (xu (xu (xvw [3, 4, 5, 6] m) 0 3 0) 0 4 0) 0 5 0 := ⟨_, rfl⟩
  rw [← hq]
  obtain ⟨n, e1, e2, e3⟩ := F_mg m q (fun k hk => by rw [hq, xu_K hk, xu_K hk, xu_K hk])
  rw [e1]
  have q3 : q 0 3 = 0 := by rw [hq, xu_d (by omega), xu_d (by omega), xu_s rfl]
  have q4 : q 0 4 = 0 := by rw [hq, xu_d (by omega), xu_s rfl]
  have q5 : q 0 5 = 0 := by rw [hq, xu_s rfl]
  obtain ⟨Y, hY⟩ : ∃ Z, Z = xu (xu (xu (xu n 7 1 0) 9 1 0) 0 5 0) 0 6 0 := ⟨_, rfl⟩
  rw [← hY]
  have y7 : Y 7 1 = 0 := by rw [hY, xu_k (by omega), xu_k (by omega), xu_k (by omega), xu_s rfl]
  have y9 : Y 9 1 = 0 := by rw [hY, xu_k (by omega), xu_k (by omega), xu_s rfl]
  have y5 : Y 0 5 = 0 := by rw [hY, xu_d (by omega), xu_s rfl]
  have y6 : Y 0 6 = 0 := by rw [hY, xu_s rfl]
  have yj : ∀ j, j ≠ 5 → j ≠ 6 → Y 0 j = m 0 j := fun j h1 h2 => by rw [hY, xu_d h2, xu_d h1, xu_k (by omega), xu_k (by omega), e3 0 (by omega)]
  have y3 : Y 3 = q 0 := by rw [hY, xu_K (by omega), xu_K (by omega), xu_K (by omega), xu_K (by omega), e2]
  have yk : ∀ k, k ≠ 0 → k ≠ 3 → k ≠ 7 → k ≠ 9 → Y k = m k := fun k h0 h3 h7 h9 => by rw [hY, xu_K h0, xu_K h0, xu_K h9, xu_K h7, e3 k h3]
  refine ⟨_, rfl, fun j h1 h2 => ?_, ?_, ?_, ?_, fun j hj => ?_, fun k h0 h3 h7 h9 => ?_⟩
  · rcases (by omega : j = 5 ∨ j = 6 ∨ j = 7 ∨ j = 8 ∨ j = 9 ∨ j = 10) with r | r | r | r | r | r <;> rw [r]
    · rw [xu_d (by omega), xu_d (by omega), xu_d (by omega), xu_d (by omega), y5]
    · rw [xu_d (by omega), xu_d (by omega), xu_d (by omega), xu_d (by omega), y6]
    · rw [xu_d (by omega), xu_d (by omega), xu_d (by omega), xu_s rfl]
    · rw [xu_d (by omega), xu_d (by omega), xu_s rfl]
    · rw [xu_d (by omega), xu_s rfl]
    · rw [xu_s rfl]
  · rw [xu_K (show 3 ≠ 0 by omega), xu_K (show 3 ≠ 0 by omega), xu_K (show 3 ≠ 0 by omega), xu_K (show 3 ≠ 0 by omega), y3]
    exact ⟨q3, q4, q5⟩
  · rw [xu_k (by omega), xu_k (by omega), xu_k (by omega), xu_k (by omega), y7]
  · rw [xu_k (by omega), xu_k (by omega), xu_k (by omega), xu_k (by omega), y9]
  · rw [xu_d (by omega), xu_d (by omega), xu_d (by omega), xu_d (by omega), yj j (by omega) (by omega)]
  · rw [xu_K h0, xu_K h0, xu_K h0, xu_K h0, yk k h0 h3 h7 h9]

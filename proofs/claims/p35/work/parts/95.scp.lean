/-! ===== the draft copied into the setup ===== -/
theorem S_cp_sp (m : xM) : ∃ m' : xM, f_S_cp m = some m' ∧ (∀ j, 4 ≤ j → j ≤ 13 → m' 0 j = m 5 j) ∧ (∀ i, i < 5 → m' 1 i = m 6 i) ∧ (∀ i, i < 5 → m' 2 i = m 7 i) ∧ (∀ i, i < 4 → m' 3 i = m 8 i) ∧ (∀ i, i < 10 → m' 4 i = m 9 i) ∧ ∀ k, 5 ≤ k → m' k = m k := by
  have cb5 : xcb 0 0 5 5 5 := by decide
  have cb4 : xcb 0 0 4 4 4 := by decide
  have cb10 : xcb 0 0 10 10 10 := by decide
  unfold f_S_cp f_S_cp_42
  rw [if_pos cb5, if_pos cb5, if_pos cb4, if_pos cb10]
  obtain ⟨Y, hY⟩ : ∃ Y, Y = xcp (xcp (xcp (xcp m 6 1 (0) (0) (5)) 7 2 (0) (0) (5)) 8 3 (0) (0) (4)) 9 4 (0) (0) (10) := ⟨_, rfl⟩
  rw [← hY]
  have yk : ∀ k, k = 0 ∨ 5 ≤ k → Y k = m k := fun k hk => by
    funext j
    rw [hY, xcp_K (by omega), xcp_K (by omega), xcp_K (by omega), xcp_K (by omega)]
  have y1 : ∀ i, i < 5 → Y 1 i = m 6 i := fun i hi => by
    rw [hY, xcp_K (by omega), xcp_K (by omega), xcp_K (by omega), xcp_at hi]
  have y2 : ∀ i, i < 5 → Y 2 i = m 7 i := fun i hi => by
    rw [hY, xcp_K (by omega), xcp_K (by omega), xcp_at hi, xcp_K (by omega)]
  have y3 : ∀ i, i < 4 → Y 3 i = m 8 i := fun i hi => by
    rw [hY, xcp_K (by omega), xcp_at hi, xcp_K (by omega), xcp_K (by omega)]
  have y4 : ∀ i, i < 10 → Y 4 i = m 9 i := fun i hi => by
    rw [hY, xcp_at hi, xcp_K (by omega), xcp_K (by omega), xcp_K (by omega)]
  have y5 : Y 5 = m 5 := yk 5 (by omega)
  unfold f_S_cp_65 f_S_cp_97 f_S_cp_129
  refine ⟨_, rfl, fun j h1 h2 => ?_, fun i hi => ?_, fun i hi => ?_, fun i hi => ?_, fun i hi => ?_, fun k hk => ?_⟩
  · rcases (by omega : j = 4 ∨ j = 5 ∨ j = 6 ∨ j = 7 ∨ j = 8 ∨ j = 9 ∨ j = 10 ∨ j = 11 ∨ j = 12 ∨ j = 13) with r | r | r | r | r | r | r | r | r | r <;> rw [r] <;> simp [xu, xup, y5]
  · rw [xu_k (by omega), xu_k (by omega), xu_k (by omega), xu_k (by omega), xu_k (by omega), xu_k (by omega), xu_k (by omega), xu_k (by omega), xu_k (by omega), xu_k (by omega), y1 i hi]
  · rw [xu_k (by omega), xu_k (by omega), xu_k (by omega), xu_k (by omega), xu_k (by omega), xu_k (by omega), xu_k (by omega), xu_k (by omega), xu_k (by omega), xu_k (by omega), y2 i hi]
  · rw [xu_k (by omega), xu_k (by omega), xu_k (by omega), xu_k (by omega), xu_k (by omega), xu_k (by omega), xu_k (by omega), xu_k (by omega), xu_k (by omega), xu_k (by omega), y3 i hi]
  · rw [xu_k (by omega), xu_k (by omega), xu_k (by omega), xu_k (by omega), xu_k (by omega), xu_k (by omega), xu_k (by omega), xu_k (by omega), xu_k (by omega), xu_k (by omega), y4 i hi]
  · rw [xu_K (by omega), xu_K (by omega), xu_K (by omega), xu_K (by omega), xu_K (by omega), xu_K (by omega), xu_K (by omega), xu_K (by omega), xu_K (by omega), xu_K (by omega), yk k (by omega)]

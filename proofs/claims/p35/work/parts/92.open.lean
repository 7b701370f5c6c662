/-! ===== a text opened ===== -/
theorem st_open (L : Nat) (hL : L ≤ 600) (m M : xM) (hB : ∀ i, i < L → m 1 i = M 8 i ∧ 0 ≤ M 8 i ∧ M 8 i ≤ 255) : ∃ m' M' : xM, f_T_open (L : Int) m = some m' ∧ f_m_startText (L : Int) M = some M' ∧ bSs (M 8) L 0 (m' 0) (m' 1) M' ∧ (∀ k, k ≠ 0 → m' k = m k) ∧ m' 0 0 = m 0 0 ∧ (∀ k, k ≠ 0 → M' k = M k) ∧ ∀ j, (j < 14 ∨ j = 20 ∨ 22 ≤ j) → M' 0 j = M 0 j := by
  unfold f_T_open f_T_open_23 f_m_startText
  have e600 : (if xw 600 < xw (L : Int) then 600 else (L : Int)) = L := by
    rw [if_neg]
    rw [b_xw (by omega), b_xw (by omega)]
    omega
  rw [e600]
  obtain ⟨Y, hY⟩ : ∃ Y, Y = xu (xu (xu (xu m 0 1 (L : Int)) 0 2 0) 0 4 0) 0 6 0 := ⟨_, rfl⟩
  obtain ⟨Z, hZ⟩ : ∃ Z, Z = xu (xu (xu (xu M 0 14 (L : Int)) 0 15 0) 0 18 0) 0 21 0 := ⟨_, rfl⟩
  rw [← hY, ← hZ]
  have y1 : Y 0 1 = L := by rw [hY, xu_d (by omega), xu_d (by omega), xu_d (by omega), xu_s rfl]
  have y2 : Y 0 2 = 0 := by rw [hY, xu_d (by omega), xu_d (by omega), xu_s rfl]
  have y4 : Y 0 4 = 0 := by rw [hY, xu_d (by omega), xu_s rfl]
  have y6 : Y 0 6 = 0 := by rw [hY, xu_s rfl]
  have y0 : Y 0 0 = m 0 0 := by rw [hY, xu_d (by omega), xu_d (by omega), xu_d (by omega), xu_d (by omega)]
  have yk : ∀ k, k ≠ 0 → Y k = m k := fun k hk => by rw [hY, xu_K hk, xu_K hk, xu_K hk, xu_K hk]
  have z14 : Z 0 14 = L := by rw [hZ, xu_d (by omega), xu_d (by omega), xu_d (by omega), xu_s rfl]
  have z15 : Z 0 15 = 0 := by rw [hZ, xu_d (by omega), xu_d (by omega), xu_s rfl]
  have z18 : Z 0 18 = 0 := by rw [hZ, xu_d (by omega), xu_s rfl]
  have zk : ∀ k, k ≠ 0 → Z k = M k := fun k hk => by rw [hZ, xu_K hk, xu_K hk, xu_K hk, xu_K hk]
  have zj : ∀ j, j ≠ 14 → j ≠ 15 → j ≠ 18 → j ≠ 21 → Z 0 j = M 0 j := fun j h1 h2 h3 h4 => by rw [hZ, xu_d h4, xu_d h3, xu_d h2, xu_d h1]
  obtain ⟨m', M', s, e, a1, a2, a3, a4, a5, a6⟩ := go_next (M 8) L 0 (by omega) Y Z ⟨hL, y1, z14, fun i hi => by rw [yk 1 (by omega), zk 8 (by omega)]; exact ⟨(hB i hi).1, rfl, (hB i hi).2⟩⟩ (by rw [y2]; omega) (by rw [y4]; rfl) y6 (by rw [z15]; rfl) z18
  rw [a1, a2, Option.bind_some, Option.bind_some]
  exact ⟨m', M', rfl, rfl, Or.inl ⟨s, e, by omega, a3⟩, fun k hk => by rw [a4.1 k hk, yk k hk], by rw [a4.2.1, y0], fun k hk => by rw [a5.1 k hk, zk k hk], fun j hj => by rw [a5.2 j (by omega), zj j (by omega) (by omega) (by omega) (by omega)]⟩
/-! the text closed, by the class and the reference -/
theorem X_close_sp (m : xM) (h6 : -10 ≤ m 442 6 ∧ m 442 6 ≤ 10) : ∃ m' : xM, f_X_closeText m = some m' ∧ m' 0 10 = 0 ∧ m' 0 11 = (if m 442 6 = 0 then -1 else m 442 3) ∧ (∀ j, j ≠ 10 → j ≠ 11 → m' 0 j = m 0 j) ∧ ∀ k, k ≠ 0 → m' k = m k := by
  unfold f_X_closeText f_X_closeText_27
  rw [b_xw (show -2147483648 ≤ m 442 6 ∧ m 442 6 < 2147483648 by omega)]
  by_cases c : m 442 6 = 0
  · rw [if_pos c, if_pos c]
    exact ⟨_, rfl, by rw [xu_d (by omega), xu_s rfl], xu_s rfl, fun j h1 h2 => by rw [xu_d h2, xu_d h1], fun k hk => by rw [xu_K hk, xu_K hk]⟩
  · rw [if_neg c, if_neg c]
    exact ⟨_, rfl, by rw [xu_d (by omega), xu_s rfl], xu_s rfl, fun j h1 h2 => by rw [xu_d h2, xu_d h1], fun k hk => by rw [xu_K hk, xu_K hk]⟩
theorem m_finish_sp (M : xM) (h18 : -10 ≤ M 0 18 ∧ M 0 18 ≤ 10) : ∃ M' : xM, f_m_finish M = some (M 0 18, M') ∧ M' 0 13 = 0 ∧ M' 0 20 = (if M 0 18 = 0 then -1 else M 0 19) ∧ (∀ j, j ≠ 13 → j ≠ 20 → M' 0 j = M 0 j) ∧ ∀ k, k ≠ 0 → M' k = M k := by
  unfold f_m_finish f_m_finish_21
  rw [b_xw (show -2147483648 ≤ M 0 18 ∧ M 0 18 < 2147483648 by omega)]
  by_cases c : M 0 18 = 0
  · rw [if_pos c, if_pos c]
    exact ⟨_, by rw [xu_d (by omega)], by rw [xu_d (by omega), xu_s rfl], xu_s rfl, fun j h1 h2 => by rw [xu_d h2, xu_d h1], fun k hk => by rw [xu_K hk, xu_K hk]⟩
  · rw [if_neg c, if_neg c]
    exact ⟨_, by rw [xu_d (by omega)], by rw [xu_d (by omega), xu_s rfl], xu_s rfl, fun j h1 h2 => by rw [xu_d h2, xu_d h1], fun k hk => by rw [xu_K hk, xu_K hk]⟩

/-! ===== a line begun anew ===== -/
theorem E1_mg (m q : xM) : ∃ m' : xM, xmg [1, 2, 3, 4, 5, 6, 7, 8, 9, 10, 11] 11 m q = m' ∧ (∀ i, i < 11 → m' (1 + i) = q i) ∧ ∀ k, (k < 1 ∨ 12 ≤ k) → m' k = m k := by
  refine ⟨_, rfl, fun i hi => ?_, fun k hk => xmg_no _ _ (xpos_not (fun hz => ?_))⟩
  · rcases (by omega : i = 0 ∨ i = 1 ∨ i = 2 ∨ i = 3 ∨ i = 4 ∨ i = 5 ∨ i = 6 ∨ i = 7 ∨ i = 8 ∨ i = 9 ∨ i = 10) with r | r | r | r | r | r | r | r | r | r | r <;> rw [r] <;> rfl
  · have hz' : k ∈ [1, 2, 3, 4, 5, 6, 7, 8, 9, 10, 11] := hz
    simp only [List.mem_cons, List.not_mem_nil, or_false] at hz'
    omega
theorem E12_mg (m q : xM) : ∃ m' : xM, xmg [12, 13, 14, 15, 16, 17, 18, 19, 20, 21, 22] 11 m q = m' ∧ (∀ i, i < 11 → m' (12 + i) = q i) ∧ ∀ k, (k < 12 ∨ 23 ≤ k) → m' k = m k := by
  refine ⟨_, rfl, fun i hi => ?_, fun k hk => xmg_no _ _ (xpos_not (fun hz => ?_))⟩
  · rcases (by omega : i = 0 ∨ i = 1 ∨ i = 2 ∨ i = 3 ∨ i = 4 ∨ i = 5 ∨ i = 6 ∨ i = 7 ∨ i = 8 ∨ i = 9 ∨ i = 10) with r | r | r | r | r | r | r | r | r | r | r <;> rw [r] <;> rfl
  · have hz' : k ∈ [12, 13, 14, 15, 16, 17, 18, 19, 20, 21, 22] := hz
    simp only [List.mem_cons, List.not_mem_nil, or_false] at hz'
    omega
theorem begin_40 : ∀ (k p n : Nat) (m : xM), p + k = 11 → k < n → ∃ m' : xM, f_L_begin_40 n (p : Int) m = f_L_begin_62 m' ∧ (∀ j, p ≤ j → j < 11 → m' 30 j = 0) ∧ (∀ j, j < p → m' 30 j = m 30 j) ∧ ∀ k, k ≠ 30 → m' k = m k := by
  intro k
  induction k with
  | zero =>
    intro p n m h1 h2
    obtain ⟨n, rfl⟩ : ∃ z, n = z + 1 := ⟨n - 1, by omega⟩
    have hc : ¬ xw (p : Int) < xw 11 := by rw [b_xw (by omega), b_xw (by omega)]; omega
    rw [f_L_begin_40, if_neg hc]
    exact ⟨m, rfl, fun j h3 h4 => by omega, fun _ _ => rfl, fun _ _ => rfl⟩
  | succ k ih =>
    intro p n m h1 h2
    obtain ⟨n, rfl⟩ : ∃ z, n = z + 1 := ⟨n - 1, by omega⟩
    have hc : xw (p : Int) < xw 11 := by rw [b_xw (by omega), b_xw (by omega)]; omega
    have x0 : xib (p : Int) 11 := b_ib (by omega)
    have y0 : xix (p : Int) = p := by rw [b_ix (by omega)]; exact Int.toNat_natCast _
    rw [f_L_begin_40, if_pos hc, if_pos x0, y0, show (p : Int) + 1 = ((p + 1 : Nat) : Int) by omega]
    obtain ⟨m', e1, e2, e3, e4⟩ := ih (p + 1) n (xu m 30 p 0) (by omega) (by omega)
    refine ⟨m', e1, fun j h3 h4 => ?_, fun j hj => by rw [e3 j (by omega), xu_d (by omega)], fun k hk => by rw [e4 k hk, xu_K hk]⟩
    by_cases h5 : j = p
    · rw [h5, e3 p (by omega), xu_s rfl]
    · exact e2 j (by omega) h4

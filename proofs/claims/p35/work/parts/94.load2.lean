/-! ===== load: a text with a flaw ===== -/
theorem X_load_bad {G : bGt} (L : Nat) (m M : xM) (h : bX G m M) (m2 M3 : xM) (hm : ∀ k, (k < 6 ∨ 11 ≤ k) → (k < 441 ∨ 444 ≤ k) → m2 k = m k) (h6 : M3 0 6 = 0) (hj : ∀ j, j ≠ 6 → (j < 14 ∨ j = 20 ∨ 22 ≤ j) → M3 0 j = M 0 j) (hk : ∀ k, k ≠ 0 → k ≠ 2 → M3 k = M k) (c : Int) (q : Nat) (hc : 1 ≤ c ∧ c ≤ 4) (e1 : M3 0 18 = c) (e2 : M3 0 19 = q) (e3 : m2 442 6 = c) (e4 : m2 442 3 = q) : bOk G (f_X_load_27 (L : Int) m2) (Option.bind (f_m_finish M3) fun q4 => (if xw q4.1 = 0 then (Option.bind (f_m_copyA 0 0 (xvw [2, 1] q4.2)) fun q5 => (if xib 11 3530 then some (((xmg [2, 1] 2 q4.2 q5) 1 11), (xu (xu (xmg [2, 1] 2 q4.2 q5) 0 5 0) 0 7 0)) else none)) else some ((-10) - (q4.2 0 18), q4.2))) := by
  obtain ⟨m3, a1, a2, a3, a4, a5⟩ := X_close_sp m2 (by omega)
  obtain ⟨M4, b1, b2, b3, b4, b5⟩ := m_finish_sp M3 (by omega)
  unfold f_X_load_27
  rw [a1, b1, Option.bind_some, Option.bind_some]
  dsimp only
  have m6 : m3 442 6 = c := by rw [a5 442 (by omega), e3]
  have M18 : M4 0 18 = c := by rw [b4 18 (by omega) (by omega), e1]
  rw [m6, e1, M18, if_neg (show ¬ xw c = 0 by rw [b_xw (by omega)]; omega), if_neg (show ¬ xw c = 0 by rw [b_xw (by omega)]; omega)]
  have mk : ∀ k, k ≠ 0 → (k < 6 ∨ 11 ≤ k) → (k < 441 ∨ 444 ≤ k) → m3 k = m k := fun k h0 h1 h2 => by rw [a5 k h0, hm k h1 h2]
  have m0 : ∀ j, j ≠ 10 → j ≠ 11 → m3 0 j = m 0 j := fun j h1 h2 => by rw [a4 j h1 h2, hm 0 (by omega) (by omega)]
  have M0 : ∀ j, j ≠ 6 → j ≠ 13 → j < 14 → M4 0 j = M 0 j := fun j h1 h2 h3 => by rw [b4 j h2 (by omega), hj j h1 (by omega)]
  have Mk : ∀ k, k ≠ 0 → k ≠ 2 → M4 k = M k := fun k h0 h2 => by rw [b5 k h0, hk k h0 h2]
  obtain ⟨x1, x2, x3, x4, x5, x6⟩ := h
  refine ⟨_, m3, M4, rfl, rfl, by rw [b4 6 (by omega) (by omega), h6], ?_, ?_, ?_, ?_, ?_, x6.cg (M0 11 (by omega) (by omega) (by omega)) (Mk 7 (by omega) (by omega))⟩
  · exact x1.cg (bV_eq (by omega) (fun k h1 h2 => mk k (by omega) (by omega) (by omega)) (fun k h1 h2 => mk k (by omega) (by omega) (by omega))) (fun i _ => by rw [Mk 1 (by omega) (by omega)])
  · exact x2.cg ⟨m0 8 (by omega) (by omega), m0 7 (by omega) (by omega)⟩ (fun k h1 h2 => mk k (by omega) (by omega) (by omega)) (fun k h1 h2 => mk k (by omega) (by omega) (by omega)) (M0 5 (by omega) (by omega) (by omega)) (Mk 5 (by omega) (by omega))
  · rcases x3 with ⟨y1, y2⟩ | ⟨y1, y2, y3⟩
    · exact Or.inl ⟨by rw [m0 5 (by omega) (by omega), y1], by rw [M0 7 (by omega) (by omega) (by omega), y2]⟩
    · exact Or.inr ⟨by rw [m0 5 (by omega) (by omega), y1], by rw [M0 7 (by omega) (by omega) (by omega), y2], y3.cg (bV_eq (by omega) (fun k h1 h2 => mk k (by omega) (by omega) (by omega)) (fun k h1 h2 => mk k (by omega) (by omega) (by omega))) (fun i _ => by rw [Mk 4 (by omega) (by omega)])⟩
  · exact ⟨0, by omega, by rw [a2]; rfl, by rw [b2]; rfl, fun i hi => by omega⟩
  · rw [a3, b3, e1, e2, e3, e4]

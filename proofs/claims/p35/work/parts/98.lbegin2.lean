/-- an end as it begins -/
def bE0 (k : Nat) (m : xM) : Prop := (∀ j, 5 ≤ j → j ≤ 10 → m k j = 0) ∧ (m (k + 3) 3 = 0 ∧ m (k + 3) 4 = 0 ∧ m (k + 3) 5 = 0) ∧ m (k + 7) 1 = 0 ∧ m (k + 9) 1 = 0
theorem L_begin_sp (m : xM) : ∃ m' : xM, f_L_begin m = some m' ∧ bE0 1 m' ∧ bE0 12 m' ∧ m' 23 5 = 0 ∧ m' 23 4 = m 23 4 ∧ (m' 28 1 = 0 ∧ m' 28 2 = 0) ∧ (∀ w, w < 11 → m' 30 w = 0) ∧ (m' 0 7 = 0 ∧ m' 0 8 = 0 ∧ m' 0 9 = m 33 6 ∧ m' 0 10 = 0 ∧ m' 0 15 = 0 ∧ m' 0 16 = 0) ∧ ∀ k, 33 ≤ k → m' k = m k := by
  obtain ⟨q0, a1, a2, a3, a4, a5, a6, a7⟩ := E_begin_sp (xvw [1, 2, 3, 4, 5, 6, 7, 8, 9, 10, 11] m)
  obtain ⟨n1, b1, b2, b3⟩ := E1_mg m q0
  obtain ⟨q1, c1, c2, c3, c4, c5, c6, c7⟩ := E_begin_sp (xvw [12, 13, 14, 15, 16, 17, 18, 19, 20, 21, 22] n1)
  obtain ⟨n2, d1, d2, d3⟩ := E12_mg n1 q1
  unfold f_L_begin f_L_begin_14
  rw [a1, Option.bind_some, b1, c1, Option.bind_some, d1]
  obtain ⟨Y, hY⟩ : ∃ Z, Z = xu (xu (xu n2 23 5 0) 28 1 0) 28 2 0 := ⟨_, rfl⟩
  rw [← hY]
  obtain ⟨n3, e1, e2, e3, e4⟩ := begin_40 11 0 fu Y rfl (by have := fu_3530; omega)
  have e1' : f_L_begin_40 fu 0 Y = f_L_begin_62 n3 := e1
  rw [e1']
  unfold f_L_begin_62 f_L_begin_93
  have yk : ∀ k, k ≠ 23 → k ≠ 28 → Y k = n2 k := fun k h1 h2 => by rw [hY, xu_K h2, xu_K h2, xu_K h1]
  have nk : ∀ k, k ≠ 23 → k ≠ 28 → k ≠ 30 → n3 k = n2 k := fun k h1 h2 h3 => by rw [e4 k h3, yk k h1 h2]
  have g1 : ∀ i, i < 11 → n3 (1 + i) = q0 i := fun i hi => by rw [nk _ (by omega) (by omega) (by omega), d3 _ (by omega), b2 i hi]
  have g2 : ∀ i, i < 11 → n3 (12 + i) = q1 i := fun i hi => by rw [nk _ (by omega) (by omega) (by omega), d2 i hi]
  have g33 : ∀ k, 33 ≤ k → n3 k = m k := fun k hk => by rw [nk k (by omega) (by omega) (by omega), d3 k (by omega), b3 k (by omega)]
  have g235 : n3 23 5 = 0 := by rw [e4 23 (by omega), hY, xu_k (by omega), xu_k (by omega), xu_s rfl]
  have g234 : n3 23 4 = m 23 4 := by rw [e4 23 (by omega), hY, xu_k (by omega), xu_k (by omega), xu_d (by omega), d3 23 (by omega), b3 23 (by omega)]
  have g281 : n3 28 1 = 0 := by rw [e4 28 (by omega), hY, xu_d (by omega), xu_s rfl]
  have g282 : n3 28 2 = 0 := by rw [e4 28 (by omega), hY, xu_s rfl]
  obtain ⟨W, hW⟩ : ∃ Z, Z = xu (xu (xu (xu (xu (xu n3 0 7 0) 0 8 0) 0 9 (n3 33 6)) 0 10 0) 0 15 0) 0 16 0 := ⟨_, rfl⟩
  have wk : ∀ k, k ≠ 0 → W k = n3 k := fun k hk => by rw [hW, xu_K hk, xu_K hk, xu_K hk, xu_K hk, xu_K hk, xu_K hk]
  have w336 : n3 33 6 = m 33 6 := by rw [g33 33 (by omega)]
  refine ⟨W, by rw [hW], ?_, ?_, by rw [wk 23 (by omega), g235], by rw [wk 23 (by omega), g234], ⟨by rw [wk 28 (by omega), g281], by rw [wk 28 (by omega), g282]⟩, fun w hw => by rw [wk 30 (by omega)]; exact e2 w (by omega) hw, ⟨?_, ?_, ?_, ?_, ?_, ?_⟩, fun k hk => by rw [wk k (by omega), g33 k hk]⟩
  · refine ⟨fun j h1 h2 => ?_, ?_, ?_, ?_⟩
    · rw [wk 1 (by omega), show n3 1 = q0 0 from g1 0 (by omega)]; exact a2 j h1 h2
    · rw [wk 4 (by omega), show n3 4 = q0 3 from g1 3 (by omega)]; exact a3
    · rw [wk 8 (by omega), show n3 8 = q0 7 from g1 7 (by omega)]; exact a4
    · rw [wk 10 (by omega), show n3 10 = q0 9 from g1 9 (by omega)]; exact a5
  · refine ⟨fun j h1 h2 => ?_, ?_, ?_, ?_⟩
    · rw [wk 12 (by omega), show n3 12 = q1 0 from g2 0 (by omega)]; exact c2 j h1 h2
    · rw [wk 15 (by omega), show n3 15 = q1 3 from g2 3 (by omega)]; exact c3
    · rw [wk 19 (by omega), show n3 19 = q1 7 from g2 7 (by omega)]; exact c4
    · rw [wk 21 (by omega), show n3 21 = q1 9 from g2 9 (by omega)]; exact c5
  · rw [hW, xu_d (by omega), xu_d (by omega), xu_d (by omega), xu_d (by omega), xu_d (by omega), xu_s rfl]
  · rw [hW, xu_d (by omega), xu_d (by omega), xu_d (by omega), xu_d (by omega), xu_s rfl]
  · rw [hW, xu_d (by omega), xu_d (by omega), xu_d (by omega), xu_s rfl, w336]
  · rw [hW, xu_d (by omega), xu_d (by omega), xu_s rfl]
  · rw [hW, xu_d (by omega), xu_s rfl]
  · rw [hW, xu_s rfl]

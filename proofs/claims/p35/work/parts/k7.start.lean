/-! ===== a new object of the class is a line as it begins ===== -/
def mM0 : xM := xu (fun _ _ => 0) 0 20 (-1)
def mMq : xM := (f_m_clear (xvw [1] mM0)).getD mM0
def mM9 : xM := xu (xu (xu (xu (xmg [1] 1 mM0 mMq) 1 2 9) 1 11 1) 1 35 8) 1 40 1
theorem mM9_1 : ∀ i, mM9 1 i = if i = 40 then 1 else if i = 35 then 8 else if i = 11 then 1 else if i = 2 then 9 else mMq 0 i := fun i => by
  unfold mM9
  by_cases h40 : i = 40
  · rw [h40, xu_s rfl, if_pos rfl]
  · rw [xu_d h40, if_neg h40]
    by_cases h35 : i = 35
    · rw [h35, xu_s rfl, if_pos rfl]
    · rw [xu_d h35, if_neg h35]
      by_cases h11 : i = 11
      · rw [h11, xu_s rfl, if_pos rfl]
      · rw [xu_d h11, if_neg h11]
        by_cases h2 : i = 2
        · rw [h2, xu_s rfl, if_pos rfl]
        · rw [xu_d h2, if_neg h2]; rfl
theorem mM9_0 : ∀ j, mM9 0 j = if j = 20 then -1 else 0 := fun j => by
  unfold mM9
  rw [xu_K (by omega), xu_K (by omega), xu_K (by omega), xu_K (by omega)]
  show mM0 0 j = _
  unfold mM0
  by_cases h : j = 20
  · rw [h, xu_s rfl, if_pos rfl]
  · rw [xu_d h, if_neg h]
theorem bX_start : bX (0, mM9 7) mX9 mM9 := by
  obtain ⟨q, q0, q1, q2, q3, q4⟩ := m_clear_sp (xvw [1] mM0)
  have hq : mMq = q := by unfold mMq; rw [q0]; rfl
  obtain ⟨s, s0, s1, s2, s3, s4, s5⟩ := S_def_sp (fun _ _ => 0)
  have hs : mS9 = s := by unfold mS9; rw [s0]; rfl
  obtain ⟨u, u0, u1, u2, u3, u4, u5, u6, u7, u8⟩ := L_begin_sp mL0
  have hu : mL9 = u := by unfold mL9; rw [u0]; rfl
  rw [← hq] at q1 q2 q3
  rw [← hs] at s1 s2 s3 s4
  rw [← hu] at u1 u2 u3 u4 u5 u6 u7 u8
  have n2 : mM9 1 2 = 9 := by rw [mM9_1]; rfl
  have nx : ∀ i, i ≠ 40 → i ≠ 35 → i ≠ 11 → i ≠ 2 → mM9 1 i = mMq 0 i := fun i a b c d => by
    rw [mM9_1, if_neg a, if_neg b, if_neg c, if_neg d]
  have l33 : ∀ k, 33 ≤ k → mL9 k = mS9 (k - 33) := mL9_hi
  have hP : bRP mL9 (mM9 1) := by
    have h := bRP_def (m := fun k => mS9 (k - 3)) (N := mM9 1) 1 (by omega) (by show mS9 0 4 = _; rw [s1.1]; rfl) (by rw [mM9_1]; rfl) (fun i hi => by
      obtain rfl : i = 0 := by omega
      have e1 : mM9 1 (35 + 0) = 8 := by rw [mM9_1]; rfl
      have e2 : mM9 1 (40 + 0) = 1 := by rw [mM9_1]; rfl
      have e3 : mS9 (4 - 3) 0 = 8 := s2.1
      have e4 : mS9 (5 - 3) 0 = 1 := s2.2.1
      refine ⟨by rw [e1]; exact e3.symm, by rw [e2]; exact e4.symm, ⟨?_, ?_⟩, ?_, ?_⟩
      · show 4 ≤ mS9 (4 - 3) 0; rw [e3]; decide
      · show mS9 (4 - 3) 0 ≤ 80; rw [e3]; decide
      · show 1 ≤ mS9 (5 - 3) 0; rw [e4]; decide
      · show mS9 (5 - 3) 0 ≤ 9; rw [e4]; decide) ⟨s1.2.1, s1.2.2.2.1, s1.2.2.2.2.1, s1.2.2.2.2.2.1, s1.2.2.2.2.2.2.1, s1.2.2.2.2.2.2.2.1, s1.2.2.2.2.2.2.2.2.1, s1.2.2.2.2.2.2.2.2.2⟩ s2.2.2 (fun j hj => s3 j hj)
      ⟨by rw [nx 12 (by omega) (by omega) (by omega) (by omega)]; exact q1.1, by rw [nx 13 (by omega) (by omega) (by omega) (by omega)]; exact q1.2.1, by rw [nx 14 (by omega) (by omega) (by omega) (by omega)]; exact q1.2.2.1, by rw [nx 15 (by omega) (by omega) (by omega) (by omega)]; exact q1.2.2.2.1, by rw [nx 16 (by omega) (by omega) (by omega) (by omega)]; exact q1.2.2.2.2.1, by rw [nx 17 (by omega) (by omega) (by omega) (by omega)]; exact q1.2.2.2.2.2.1, by rw [nx 18 (by omega) (by omega) (by omega) (by omega)]; exact q1.2.2.2.2.2.2.1, by rw [nx 19 (by omega) (by omega) (by omega) (by omega)]; exact q1.2.2.2.2.2.2.2⟩
      (fun j h1 h2 => by rw [nx j (by omega) (by omega) (by omega) (by omega)]; exact q2 j h1 h2) (by rw [nx 25 (by omega) (by omega) (by omega) (by omega)]; exact q3 25 (by omega) (by omega))
    refine h.cg (fun k h1 h2 => ?_) (fun _ _ _ _ => rfl)
    rw [l33 k h1]
    show _ = mS9 (k - 30 - 3)
    congr 1
  have h6 : mL0 33 6 = 9 := by
    show (if 33 < 33 then fun _ => 0 else mS9 (33 - 33)) 6 = 9
    rw [if_neg (by omega)]
    exact s1.2.2.1
  have hl : bLn mL9 (mM9 1) := by
    refine bLn_begin u1 u2 u3 ⟨?_, ?_⟩ u5 u6 ⟨u7.1, u7.2.1, by rw [u7.2.2.1, h6, n2], u7.2.2.2.1, u7.2.2.2.2.1, u7.2.2.2.2.2⟩ (by rw [n2]; decide) hP (fun i hi h => ?_)
    · rw [u4]; show 0 ≤ (if 23 < 33 then fun _ => (0 : Int) else mS9 (23 - 33)) 4; rw [if_pos (by omega)]; decide
    · rw [u4]; show (if 23 < 33 then fun _ => (0 : Int) else mS9 (23 - 33)) 4 ≤ 64; rw [if_pos (by omega)]; decide
    · by_cases e40 : i = 40
      · omega
      · by_cases e35 : i = 35
        · omega
        · rw [nx i e40 e35 (by omega) (by omega)]
          exact q3 i (by omega) hi
  have hv : ∀ k, k ≤ 37 → xvw (bV 11) mX9 k = mL9 k := fun k hk => by
    by_cases h : k < 33
    · rw [bV11_0 mX9 h]
      unfold mX9
      rw [if_neg (by omega), if_neg (by omega), if_neg (by omega), if_pos (by omega), show 11 + k - 11 = k by omega]
    · rw [bV11_5 mX9 ⟨by omega, hk⟩, l33 k (by omega)]
      unfold mX9
      rw [if_neg (by omega), if_pos (by omega), show k - 32 - 1 = k - 33 by omega]
  have z0 : ∀ j, mX9 0 j = if j = 11 then -1 else 0 := fun j => by unfold mX9; rw [if_pos rfl]
  refine ⟨hl.cg hv (fun _ _ => rfl), ⟨0, 0, ⟨by rw [z0]; rfl, by omega⟩, ⟨by rw [z0]; rfl, by omega⟩, by rw [mM9_0]; rfl, fun i hi => by omega⟩, Or.inl ⟨by rw [z0]; rfl, by rw [mM9_0]; rfl⟩, ⟨0, by omega, by rw [z0]; rfl, by rw [mM9_0]; rfl, fun i hi => by omega⟩, by rw [z0, mM9_0]; rfl, by rw [mM9_0]; rfl, rfl⟩

theorem aX_start : aX 255 mX9 (sN (dV 9 [(8, 1)] [2, 2, 2, 2] [2, 5, 4, 1, 3, 2, 8] [0])) [] none [] := by
  obtain ⟨qc, a1, a2, a3, a4, a5⟩ := m_clear_sp (xvw [1] mM0)
  have hq : mMq = qc := by unfold mMq; rw [a1]; rfl
  have hd : ∀ j, j < 3530 → mMq 0 j = dDef j := fun j hj => by
    rw [hq]
    unfold dDef
    obtain ⟨x12, x13, x14, x15, x16, x17, x18, x19⟩ := a2
    by_cases j12 : j = 12
    · rw [if_pos j12, j12, x12]
    · rw [if_neg j12]
      by_cases j13 : j = 13
      · rw [if_pos j13, j13, x13]
      · rw [if_neg j13]
        by_cases j14 : j = 14
        · rw [if_pos j14, j14, x14]
        · rw [if_neg j14]
          by_cases j15 : j = 15
          · rw [if_pos j15, j15, x15]
          · rw [if_neg j15]
            by_cases j16 : j = 16
            · rw [if_pos j16, j16, x16]
            · rw [if_neg j16]
              by_cases j17 : j = 17
              · rw [if_pos j17, j17, x17]
              · rw [if_neg j17]
                by_cases j18 : j = 18
                · rw [if_pos j18, j18, x18]
                · rw [if_neg j18]
                  by_cases j19 : j = 19
                  · rw [if_pos j19, j19, x19]
                  · rw [if_neg j19]
                    by_cases j21 : 21 ≤ j ∧ j < 25
                    · rw [if_pos j21, a3 j j21.1 j21.2]
                    · rw [if_neg j21, a4 j (by omega) hj]
  have hs : sOk 9 [(8, 1)] [2, 2, 2, 2] [2, 5, 4, 1, 3, 2, 8] [0] := ⟨by omega, ⟨⟨⟨by decide, by decide, by decide⟩, ⟨by decide, by decide, by decide⟩, trivial⟩, by decide, by decide⟩, ⟨rfl, by decide⟩, ⟨2, 5, 4, 1, 3, 2, 8, rfl, by omega, by omega, by omega, by omega, by omega, by omega, by omega, by omega⟩, ⟨by decide, by decide⟩, by decide⟩
  have hn : ∀ j, j < 3530 → mM9 1 j = dV 9 [(8, 1)] [2, 2, 2, 2] [2, 5, 4, 1, 3, 2, 8] [0] j := fun j hj => by
    rw [mM9_1, hd j hj]
    by_cases c : j < 45
    · have : ∀ j, j < 45 → (if j = 40 then 1 else if j = 35 then 8 else if j = 11 then 1 else if j = 2 then 9 else dDef j) = dV 9 [(8, 1)] [2, 2, 2, 2] [2, 5, 4, 1, 3, 2, 8] [0] j := by decide +kernel
      exact this j c
    · rw [if_neg (by omega), if_neg (by omega), if_neg (by omega), if_neg (by omega), dV_0 (by omega)]
      unfold dDef
      rw [if_neg (by omega), if_neg (by omega), if_neg (by omega), if_neg (by omega), if_neg (by omega), if_neg (by omega), if_neg (by omega), if_neg (by omega), if_neg (by omega)]
  refine ⟨(0, mM9 7), mM9, bX_start, ⟨hs.dN.RA hn, hs.dN.aI, hs.dN.aU⟩, ⟨?_, Nat.zero_le _, fun i t ht => (by cases ht)⟩, fun t ht => (by cases ht), ?_, Nat.zero_le _, fun i hi => absurd hi (Nat.not_lt_zero i)⟩
  · rw [mM9_0]; rfl
  · rw [mM9_0]; rfl

/-! ===== load: up to the end of the text ===== -/
def bT8 : List Nat := [443, 442, 441, 6, 7, 8, 9, 10]
theorem N_mg (m q : xM) : ∃ m' : xM, xmg [443, 442, 441, 6, 7, 8, 9, 10] 8 m q = m' ∧ (m' 443 = q 0 ∧ m' 442 = q 1 ∧ m' 441 = q 2 ∧ m' 6 = q 3 ∧ m' 7 = q 4 ∧ m' 8 = q 5 ∧ m' 9 = q 6 ∧ m' 10 = q 7) ∧ ∀ k, (k < 6 ∨ 11 ≤ k) → (k < 441 ∨ 444 ≤ k) → m' k = m k := by
  refine ⟨_, rfl, ⟨rfl, rfl, rfl, rfl, rfl, rfl, rfl, rfl⟩, fun k hk hk2 => xmg_no _ _ ?_⟩
  show xpos [443, 442, 441, 6, 7, 8, 9, 10] 0 k = none
  unfold xpos xpos xpos xpos xpos xpos xpos xpos xpos
  rw [if_neg (by omega), if_neg (by omega), if_neg (by omega), if_neg (by omega), if_neg (by omega), if_neg (by omega), if_neg (by omega), if_neg (by omega)]
theorem O_mg (m q : xM) : ∃ m' : xM, xmg [442, 441] 2 m q = m' ∧ (m' 442 = q 0 ∧ m' 441 = q 1) ∧ ∀ k, k ≠ 442 → k ≠ 441 → m' k = m k := by
  refine ⟨_, rfl, ⟨rfl, rfl⟩, fun k hk hk2 => xmg_no _ _ ?_⟩
  show xpos [442, 441] 0 k = none
  unfold xpos xpos xpos
  rw [if_neg hk, if_neg hk2]
theorem C_mg (M q : xM) : ∃ M' : xM, xmg [2] 1 M q = M' ∧ M' 2 = q 0 ∧ ∀ k, k ≠ 2 → M' k = M k := by
  refine ⟨_, rfl, rfl, fun k hk => xmg_no _ _ ?_⟩
  show xpos [2] 0 k = none
  unfold xpos xpos
  rw [if_neg hk]
/-- the draft of the object, seen as the reader sees it -/
def bDx (m : xM) (M : xM) : Prop := bRP (fun k => m (k - 27)) (M 2) ∧ M 2 2 = m 6 6 ∧ 0 ≤ m 6 6 ∧ m 6 6 ≤ 9
theorem X_load_pre (L : Nat) (m M : xM) (h : bBuf m M) (hL : (L : Int) ≤ M 0 13) : ∃ m2 M3 : xM, f_X_load (L : Int) m = f_X_load_27 (L : Int) m2 ∧ f_m_load (L : Int) M = (Option.bind (f_m_finish M3) fun q4 => (if xw q4.1 = 0 then (Option.bind (f_m_copyA 0 0 (xvw [2, 1] q4.2)) fun q5 => (if xib 11 3530 then some (((xmg [2, 1] 2 q4.2 q5) 1 11), (xu (xu (xmg [2, 1] 2 q4.2 q5) 0 5 0) 0 7 0)) else none)) else some ((-10) - (q4.2 0 18), q4.2))) ∧ (∀ k, (k < 6 ∨ 11 ≤ k) → (k < 441 ∨ 444 ≤ k) → m2 k = m k) ∧ m2 441 = m 441 ∧ M3 0 6 = 0 ∧ (∀ j, j ≠ 6 → (j < 14 ∨ j = 20 ∨ 22 ≤ j) → M3 0 j = M 0 j) ∧ (∀ k, k ≠ 0 → k ≠ 2 → M3 k = M k) ∧ (∀ i, i < 3530 → (i < 2 ∨ (3 ≤ i ∧ i < 11) ∨ i = 20 ∨ 45 ≤ i) → M3 2 i = 0) ∧ ((M3 0 18 = 0 ∧ m2 442 6 = 0 ∧ bDx m2 M3) ∨ (∃ (c : Int) (q : Nat), (1 ≤ c ∧ c ≤ 4) ∧ M3 0 18 = c ∧ M3 0 19 = q ∧ m2 442 6 = c ∧ m2 442 3 = q)) := by
  obtain ⟨n, n1, n2, n3, n4⟩ := h
  obtain ⟨M0, hM0⟩ : ∃ Z, Z = xu M 0 6 0 := ⟨_, rfl⟩
  have k0 : ∀ k, k ≠ 0 → M0 k = M k := fun k hk => by rw [hM0, xu_K hk]
  have j0 : ∀ j, j ≠ 6 → M0 0 j = M 0 j := fun j hj => by rw [hM0, xu_d hj]
  have j6 : M0 0 6 = 0 := by rw [hM0, xu_s rfl]
  obtain ⟨qc, a1, a2, a3, a4, a5⟩ := m_clear_sp (xvw [2] M0)
  obtain ⟨M1, b1, b2, b3⟩ := C_mg M0 qc
  have M1k : ∀ k, k ≠ 2 → M1 k = M0 k := b3
  obtain ⟨qo, M2, c1, c2, c3, c4, c5, c6, c7⟩ := st_open L (by omega) (xvw [442, 441] m) M1 (fun i hi => by rw [M1k 8 (by omega), k0 8 (by omega)]; exact n4 i (by omega))
  obtain ⟨m1, d1, ⟨d2, d3⟩, d4⟩ := O_mg m qo
  have m441 : m1 441 = m 441 := by rw [d3, c4 1 (by omega)]; rfl
  obtain ⟨qr, M3, e1, e2, e3, e4, e5⟩ := R_text_sp (B := M1 8) (L := L) (by omega) (m := xvw [443, 442, 441, 6, 7, 8, 9, 10] m1) (M := M2) (by
    rw [show xvw [443, 442, 441, 6, 7, 8, 9, 10] m1 1 = qo 0 from d2, show xvw [443, 442, 441, 6, 7, 8, 9, 10] m1 2 = qo 1 from d3]; exact c3) (by
    rw [c6 2 (by omega), b2]; exact ⟨a2, a3, a4⟩)
  obtain ⟨m2, g1, g2, g3⟩ := N_mg m1 qr
  have hchk : f_X_checkLength (L : Int) 600 m = some 0 := by
    rcases X_chkL_sp (L : Int) 600 n m ⟨by omega, by omega⟩ (by omega) n2 n1 with g | g
    · exact g.1
    · exfalso; have := g.2; omega
  have hin : f_m_inRange (L : Int) 0 (M0 0 13) (xvw [] M0) = some 1 := by
    rw [m_inR (L : Int) 0 (M0 0 13) _ ⟨by omega, by omega⟩ ⟨by omega, by omega⟩ (by rw [j0 13 (by omega), n3]; exact ⟨by omega, by omega⟩), if_pos (by rw [j0 13 (by omega)]; omega)]
  refine ⟨m2, M3, ?_, ?_, fun k h1 h2 => by rw [g3 k h1 h2, d4 k (by omega) (by omega)], ?_, ?_, fun j h6 hj => ?_, fun k h0 h2 => ?_, fun i hi hi2 => ?_, ?_⟩
  · unfold f_X_load
    rw [hchk, Option.bind_some, c1, Option.bind_some, d1, e1, Option.bind_some, g1]
  · unfold f_m_load
    rw [← hM0, ← j0 13 (by omega), hin, Option.bind_some, if_neg (show ¬ xw 1 = 0 by decide), a1, Option.bind_some, b1, c2, Option.bind_some, e2, Option.bind_some]
  · rw [g2.2.2.1, e3.1 2 (by omega)]; exact m441
  · rw [e4.2.1 6 (by omega), c7 6 (by omega), M1k 0 (by omega), j6]
  · rw [e4.2.1 j (by omega), c7 j (by omega), M1k 0 (by omega), j0 j h6]
  · rw [e4.1 k h0 h2, c6 k h0, M1k k h2, k0 k h0]
  · rw [e4.2.2 i hi2, c6 2 (by omega), b2]; exact a4 i (by omega) hi
  · rcases e5 with ⟨s, e, u1, u2, u3⟩ | ⟨c, q, u1, u2⟩
    · left
      refine ⟨u1.err, ?_, ?_, ?_⟩
      · obtain ⟨_, _, _, _, _, _, _, w, _⟩ := u1
        rw [g2.2.1]; exact w
      · exact u2.eqv (fun k h1 h2 => by
          show m2 (k - 27) = qr (k - 30)
          rcases (by omega : k = 33 ∨ k = 34 ∨ k = 35 ∨ k = 36 ∨ k = 37) with r | r | r | r | r <;> rw [r]
          · exact g2.2.2.2.1
          · exact g2.2.2.2.2.1
          · exact g2.2.2.2.2.2.1
          · exact g2.2.2.2.2.2.2.1
          · exact g2.2.2.2.2.2.2.2)
      · rw [g2.2.2.2.1]; exact u3
    · right
      refine ⟨c, q, u2.1, u2.2.1, u2.2.2.1, ?_, ?_⟩
      · rw [g2.2.1]; exact u1.2.1
      · rw [g2.2.1]; exact u1.2.2

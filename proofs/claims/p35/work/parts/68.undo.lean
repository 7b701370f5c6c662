/-! ===== undoing, snapshots, looking ahead ===== -/
/-- a line copied back from slot b -/
theorem X_back {G : bGt} (T : List Nat) (b : Nat) (m M : xM) (h : bX G m M) (hb : b < 900 ∧ 44 ≤ b) (hT : bTok T 11 b = true) {N : Nat → Int} (hl : bLn (xvw (bV b) m) N) : ∃ q : xM, f_L_cp (xvw T m) = some q ∧ bLn (xvw (bV 11) (xmg T 66 m q)) N ∧ ∀ k, (k < 11 ∨ 44 ≤ k) → xmg T 66 m q k = m k := by
  obtain ⟨q, q1, q2, q3⟩ := X_cp T 11 b m (fun _ => N) hT ⟨by omega, hb.1, by omega, by omega⟩ (by omega) hl.1
  refine ⟨q, q1, ⟨q2, ?_⟩, fun k hk => q3 k (by omega)⟩
  have t0 : N 0 = xvw (bV 11) (xmg T 66 m q) 0 7 := q2.1.2.2.2.2.2.1
  have t1 : N 0 = xvw (bV b) m 0 7 := hl.1.1.2.2.2.2.2.1
  rw [← t0, t1]
  exact hl.2
theorem X_undo_28 {G : bGt} (s nx p : Nat) (m M : xM) (h : bX G m M) (hs : s < 10) (hp : 0 < p ∧ p ≤ 10) (h8 : m 0 8 = nx) (hnx : nx < 10) (h7 : m 0 7 = p) (hM : M 0 5 = p) (hsx : s = if 0 < nx then nx - 1 else 9) (hold : ∀ i, i < p → bLn (xvw (bV (bSlot nx p i)) m) (fun j => M 5 (3530 * i + j))) : bOk G (f_X_undo_28 (s : Int) m) (f_m_undo M) := by
  obtain ⟨hl, -, hsn, hb, hf, hG⟩ := h
  obtain ⟨m0, hm0⟩ : ∃ Z, Z = xu (xu m 0 8 (s : Int)) 0 7 ((p : Int) - 1) := ⟨_, rfl⟩
  have e0 : ∀ k, k ≠ 0 → m0 k = m k := fun k hk => by rw [hm0, xu_K hk, xu_K hk]
  have j0 : ∀ j, j ≠ 7 → j ≠ 8 → m0 0 j = m 0 j := fun j j7 j8 => by rw [hm0, xu_d j7, xu_d j8]
  have j7 : m0 0 7 = ((p - 1 : Nat) : Int) := by rw [hm0, xu_s rfl]; omega
  have j8 : m0 0 8 = s := by rw [hm0, xu_d (by omega), xu_s rfl]
  have hsl : bSlot nx p (p - 1) = 110 + 33 * s := by
    show 110 + 33 * ((nx + 10 - p + (p - 1)) % 10) = _
    rw [hsx]; split <;> omega
  have hlast : bLn (xvw (bV (110 + 33 * s)) m0) (fun j => M 5 (3530 * (p - 1) + j)) := by
    have := hold (p - 1) (by omega)
    rw [hsl] at this
    exact this.cg (bV_eq (by omega) (fun k k1 k2 => e0 k (by omega)) (fun k k1 k2 => e0 k (by omega))) (fun _ _ => rfl)
  -- the reference
  obtain ⟨M0, hM0⟩ : ∃ Z, Z = xu (xu M 0 6 0) 0 5 ((p : Int) - 1) := ⟨_, rfl⟩
  have E0 : ∀ k, k ≠ 0 → M0 k = M k := fun k hk => by rw [hM0, xu_K hk, xu_K hk]
  have J0 : ∀ j, j ≠ 5 → j ≠ 6 → M0 0 j = M 0 j := fun j j5 j6 => by rw [hM0, xu_d j5, xu_d j6]
  have J6 : M0 0 6 = 0 := by rw [hM0, xu_d (by omega), xu_s rfl]
  have J5 : M0 0 5 = ((p - 1 : Nat) : Int) := by rw [hM0, xu_s rfl]; omega
  obtain ⟨Q, c1, c2, c3, c4⟩ := copyC_sp (p - 1) 0 (by omega) (by omega) (xvw [5, 1] M0)
  obtain ⟨M1, hM1⟩ : ∃ Z, Z = xmg [5, 1] 2 M0 Q := ⟨_, rfl⟩
  have G1 : ∀ j, j < 3530 → M1 1 j = M 5 (3530 * (p - 1) + j) := fun j hj => by
    have e : M1 1 = Q 1 := by rw [hM1]; rfl
    have := c2 j hj
    rw [Nat.mul_zero, Nat.zero_add] at this
    rw [e, this]
    show M0 5 _ = _
    rw [E0 5 (by omega)]
  have GK : ∀ k, k ≠ 1 → M1 k = M0 k := fun k h1 => by
    by_cases h5 : k = 5
    · rw [h5, hM1]; show Q 0 = _; rw [c4 0 (by omega)]; rfl
    · rw [hM1]; exact xmg_no _ _ (xpos_not (by simp [h1, h5]))
  have eM : f_m_undo M = some (((p - 1 : Nat) : Int), M1) := by
    have c0 : ¬ xw (M 0 5) = 0 := by rw [hM, b_xw (by omega)]; omega
    have c1' : f_m_copyC ((p : Int) - 1) 0 (xvw [5, 1] M0) = some Q := by
      rw [show (p : Int) - 1 = ((p - 1 : Nat) : Int) by omega]; exact c1
    unfold f_m_undo
    rw [if_neg c0, hM, ← hM0, c1', b_bs, ← hM1, GK 0 (by omega), J5]
  -- what follows of a copy back
  have fin : ∀ m1 : xM, bLn (xvw (bV 11) m1) (fun j => M 5 (3530 * (p - 1) + j)) → (∀ k, (k < 11 ∨ 44 ≤ k) → m1 k = m0 k) → m1 0 7 = ((p - 1 : Nat) : Int) ∧ bX G m1 M1 := by
    intro m1 w1 w2
    have w0 : m1 0 = m0 0 := w2 0 (by omega)
    have wk : ∀ k, k ≠ 0 → (k < 11 ∨ 44 ≤ k) → m1 k = m k := fun k k0 k1 => by rw [w2 k k1, e0 k k0]
    refine ⟨by rw [w0, j7], w1.cg (fun _ _ => rfl) (fun j hj => G1 j hj), ⟨s, p - 1, ⟨by rw [w0, j8], hs⟩, ⟨by rw [w0, j7], by omega⟩, by rw [GK 0 (by omega), J5], fun i hi => ?_⟩, ?_, ?_, ?_, hG.cg (by rw [GK 0 (by omega), J0 11 (by omega) (by omega)]) (by rw [GK 7 (by omega), E0 7 (by omega)])⟩
    · have hq := bSlot_in nx p i
      have hsl2 : bSlot s (p - 1) i = bSlot nx p i := by
        show 110 + 33 * ((s + 10 - (p - 1) + i) % 10) = 110 + 33 * ((nx + 10 - p + i) % 10)
        rw [hsx]; split <;> omega
      rw [hsl2]
      exact (hold i (by omega)).cg (bV_eq (by omega) (fun k k1 k2 => wk k (by omega) (by omega)) (fun k k1 k2 => wk k (by omega) (by omega))) (fun j hj => by rw [GK 5 (by omega), E0 5 (by omega)])
    · exact hsn.cg (by rw [w0, j0 5 (by omega) (by omega)]) (fun k k1 k2 => wk k (by omega) (by omega)) (fun k k1 k2 => wk k (by omega) (by omega)) (by rw [GK 0 (by omega), J0 7 (by omega) (by omega)]) (by rw [GK 4 (by omega), E0 4 (by omega)])
    · exact hb.cg (by rw [w0, j0 10 (by omega) (by omega)]) (wk 441 (by omega) (by omega)) (by rw [GK 0 (by omega), J0 13 (by omega) (by omega)]) (by rw [GK 8 (by omega), E0 8 (by omega)])
    · rw [w0, j0 11 (by omega) (by omega), GK 0 (by omega), J0 20 (by omega) (by omega), hf]
  have one : ∀ T : List Nat, bTok T 11 (110 + 33 * s) = true → ∃ (q : xM), f_L_cp (xvw T m0) = some q ∧ (xmg T 66 m0 q) 0 7 = ((p - 1 : Nat) : Int) ∧ bX G (xmg T 66 m0 q) M1 := by
    intro T hT
    obtain ⟨q, q1, q2, q3⟩ := X_cp T 11 (110 + 33 * s) m0 (fun _ => fun j => M 5 (3530 * (p - 1) + j)) hT ⟨by omega, by omega, by omega, by omega⟩ (by omega) hlast.1
    refine ⟨q, q1, fin _ ⟨q2, ?_⟩ (fun k hk => q3 k (by omega))⟩
    have t0 : M 5 (3530 * (p - 1) + 0) = xvw (bV 11) (xmg T 66 m0 q) 0 7 := q2.1.2.2.2.2.2.1
    have t1 : M 5 (3530 * (p - 1) + 0) = xvw (bV (110 + 33 * s)) m0 0 7 := hlast.1.1.2.2.2.2.2.1
    rw [← t0, t1]
    exact hlast.2
  rw [eM]
  unfold f_X_undo_28
  rw [h7, ← hm0]
  rcases (by omega : s = 0 ∨ s = 1 ∨ s = 2 ∨ s = 3 ∨ s = 4 ∨ s = 5 ∨ s = 6 ∨ s = 7 ∨ s = 8 ∨ s = 9) with z | z | z | z | z | z | z | z | z | z <;> clear hsx hsl hlast <;> subst z
  · obtain ⟨q, q1, q2, q3⟩ := one xT_27 (by decide)
    rw [if_pos (show xw ((0 : Nat) : Int) = 0 by decide), q1, b_bs, q2]
    exact ⟨_, _, M1, rfl, rfl, by rw [GK 0 (by omega), J6], q3⟩
  · obtain ⟨q, q1, q2, q3⟩ := one xT_29 (by decide)
    rw [if_neg (show ¬ xw ((1 : Nat) : Int) = 0 by decide), if_pos (show xw ((1 : Nat) : Int) = 1 by decide), q1, b_bs, q2]
    exact ⟨_, _, M1, rfl, rfl, by rw [GK 0 (by omega), J6], q3⟩
  · obtain ⟨q, q1, q2, q3⟩ := one xT_31 (by decide)
    rw [if_neg (show ¬ xw ((2 : Nat) : Int) = 0 by decide), if_neg (show ¬ xw ((2 : Nat) : Int) = 1 by decide), if_pos (show xw ((2 : Nat) : Int) = 2 by decide), q1, b_bs, q2]
    exact ⟨_, _, M1, rfl, rfl, by rw [GK 0 (by omega), J6], q3⟩
  · obtain ⟨q, q1, q2, q3⟩ := one xT_33 (by decide)
    rw [if_neg (show ¬ xw ((3 : Nat) : Int) = 0 by decide), if_neg (show ¬ xw ((3 : Nat) : Int) = 1 by decide), if_neg (show ¬ xw ((3 : Nat) : Int) = 2 by decide), if_pos (show xw ((3 : Nat) : Int) = 3 by decide), q1, b_bs, q2]
    exact ⟨_, _, M1, rfl, rfl, by rw [GK 0 (by omega), J6], q3⟩
  · obtain ⟨q, q1, q2, q3⟩ := one xT_35 (by decide)
    rw [if_neg (show ¬ xw ((4 : Nat) : Int) = 0 by decide), if_neg (show ¬ xw ((4 : Nat) : Int) = 1 by decide), if_neg (show ¬ xw ((4 : Nat) : Int) = 2 by decide), if_neg (show ¬ xw ((4 : Nat) : Int) = 3 by decide), if_pos (show xw ((4 : Nat) : Int) = 4 by decide), q1, b_bs, q2]
    exact ⟨_, _, M1, rfl, rfl, by rw [GK 0 (by omega), J6], q3⟩
  · obtain ⟨q, q1, q2, q3⟩ := one xT_37 (by decide)
    rw [if_neg (show ¬ xw ((5 : Nat) : Int) = 0 by decide), if_neg (show ¬ xw ((5 : Nat) : Int) = 1 by decide), if_neg (show ¬ xw ((5 : Nat) : Int) = 2 by decide), if_neg (show ¬ xw ((5 : Nat) : Int) = 3 by decide), if_neg (show ¬ xw ((5 : Nat) : Int) = 4 by decide), if_pos (show xw ((5 : Nat) : Int) = 5 by decide), q1, b_bs, q2]
    exact ⟨_, _, M1, rfl, rfl, by rw [GK 0 (by omega), J6], q3⟩
  · obtain ⟨q, q1, q2, q3⟩ := one xT_39 (by decide)
    rw [if_neg (show ¬ xw ((6 : Nat) : Int) = 0 by decide), if_neg (show ¬ xw ((6 : Nat) : Int) = 1 by decide), if_neg (show ¬ xw ((6 : Nat) : Int) = 2 by decide), if_neg (show ¬ xw ((6 : Nat) : Int) = 3 by decide), if_neg (show ¬ xw ((6 : Nat) : Int) = 4 by decide), if_neg (show ¬ xw ((6 : Nat) : Int) = 5 by decide), if_pos (show xw ((6 : Nat) : Int) = 6 by decide), q1, b_bs, q2]
    exact ⟨_, _, M1, rfl, rfl, by rw [GK 0 (by omega), J6], q3⟩
  · obtain ⟨q, q1, q2, q3⟩ := one xT_41 (by decide)
    rw [if_neg (show ¬ xw ((7 : Nat) : Int) = 0 by decide), if_neg (show ¬ xw ((7 : Nat) : Int) = 1 by decide), if_neg (show ¬ xw ((7 : Nat) : Int) = 2 by decide), if_neg (show ¬ xw ((7 : Nat) : Int) = 3 by decide), if_neg (show ¬ xw ((7 : Nat) : Int) = 4 by decide), if_neg (show ¬ xw ((7 : Nat) : Int) = 5 by decide), if_neg (show ¬ xw ((7 : Nat) : Int) = 6 by decide), if_pos (show xw ((7 : Nat) : Int) = 7 by decide), q1, b_bs, q2]
    exact ⟨_, _, M1, rfl, rfl, by rw [GK 0 (by omega), J6], q3⟩
  · obtain ⟨q, q1, q2, q3⟩ := one xT_43 (by decide)
    rw [if_neg (show ¬ xw ((8 : Nat) : Int) = 0 by decide), if_neg (show ¬ xw ((8 : Nat) : Int) = 1 by decide), if_neg (show ¬ xw ((8 : Nat) : Int) = 2 by decide), if_neg (show ¬ xw ((8 : Nat) : Int) = 3 by decide), if_neg (show ¬ xw ((8 : Nat) : Int) = 4 by decide), if_neg (show ¬ xw ((8 : Nat) : Int) = 5 by decide), if_neg (show ¬ xw ((8 : Nat) : Int) = 6 by decide), if_neg (show ¬ xw ((8 : Nat) : Int) = 7 by decide), if_pos (show xw ((8 : Nat) : Int) = 8 by decide), q1, b_bs, q2]
    exact ⟨_, _, M1, rfl, rfl, by rw [GK 0 (by omega), J6], q3⟩
  · obtain ⟨q, q1, q2, q3⟩ := one xT_45 (by decide)
    rw [if_neg (show ¬ xw ((9 : Nat) : Int) = 0 by decide), if_neg (show ¬ xw ((9 : Nat) : Int) = 1 by decide), if_neg (show ¬ xw ((9 : Nat) : Int) = 2 by decide), if_neg (show ¬ xw ((9 : Nat) : Int) = 3 by decide), if_neg (show ¬ xw ((9 : Nat) : Int) = 4 by decide), if_neg (show ¬ xw ((9 : Nat) : Int) = 5 by decide), if_neg (show ¬ xw ((9 : Nat) : Int) = 6 by decide), if_neg (show ¬ xw ((9 : Nat) : Int) = 7 by decide), if_neg (show ¬ xw ((9 : Nat) : Int) = 8 by decide), if_pos (show xw ((9 : Nat) : Int) = 9 by decide), q1, b_bs, q2]
    exact ⟨_, _, M1, rfl, rfl, by rw [GK 0 (by omega), J6], q3⟩
theorem X_undo_sp {G : bGt} (m M : xM) (h : bX G m M) : bOk G (f_X_undo m) (f_m_undo M) := by
  obtain ⟨nx, p, ⟨a1, a1'⟩, ⟨a2, a2'⟩, a3, a4⟩ := id h.2.1
  unfold f_X_undo
  by_cases hp : p = 0
  · have c0 : xw (m 0 7) = 0 := by rw [a2, hp]; decide
    have c1 : xw (M 0 5) = 0 := by rw [a3, hp]; decide
    unfold f_m_undo
    rw [if_pos c0, if_pos c1]
    exact ⟨-1, m, _, rfl, rfl, xu_s rfl, h.thr 0⟩
  · have c0 : ¬ xw (m 0 7) = 0 := by rw [a2, b_xw (by omega)]; omega
    rw [if_neg c0, a1]
    by_cases hn : 0 < nx
    · rw [if_pos (show 0 < xw (nx : Int) by rw [b_xw (by omega)]; omega), show (nx : Int) - 1 = ((nx - 1 : Nat) : Int) by omega]
      exact X_undo_28 (nx - 1) nx p m M h (by omega) ⟨by omega, a2'⟩ a1 a1' a2 a3 (by rw [if_pos hn]) a4
    · rw [if_neg (show ¬ 0 < xw (nx : Int) by rw [b_xw (by omega)]; omega)]
      exact X_undo_28 9 nx p m M h (by omega) ⟨by omega, a2'⟩ a1 a1' a2 a3 (by rw [if_neg hn]) a4
/-- the reference copies its line to a row of its own (a: 3 aside, 4 snapshot), or back -/
theorem copyA_row (a b : Nat) (M : xM) (hab : a ≠ b) (h : (a = 1 ∧ (b = 3 ∨ b = 4)) ∨ (b = 1 ∧ (a = 3 ∨ a = 4))) : ∃ Q : xM, f_m_copyA 0 0 (xvw [a, b] M) = some Q ∧ (∀ j, j < 3530 → xmg [a, b] 2 M Q b j = M a j) ∧ ∀ k, k ≠ b → xmg [a, b] 2 M Q k = M k := by
  obtain ⟨Q, c1, c2, c3, c4⟩ := copyA_sp 0 0 (by omega) (by omega) (xvw [a, b] M)
  have v0 : xvw [a, b] M 0 = M a := rfl
  have hb : xmg [a, b] 2 M Q b = Q 1 := by
    unfold xmg
    have : xpos ([a, b].take 2) 0 b = some 1 := by
      show xpos [a, b] 0 b = some 1
      unfold xpos
      rw [if_neg (fun z => hab z.symm)]
      unfold xpos
      rw [if_pos rfl]
    rw [this]
  have ha : xmg [a, b] 2 M Q a = Q 0 := by
    unfold xmg
    have : xpos ([a, b].take 2) 0 a = some 0 := by
      show xpos [a, b] 0 a = some 0
      unfold xpos
      rw [if_pos rfl]
    rw [this]
  refine ⟨Q, c1, fun j hj => ?_, fun k hk => ?_⟩
  · have := c2 j hj
    rw [Nat.mul_zero, Nat.zero_add] at this
    rw [hb, this, v0]
  · by_cases hka : k = a
    · rw [hka, ha, c4 0 (by omega), v0]
    · exact xmg_no _ _ (xpos_not (by simp [hk, hka]))
theorem X_save_sp {G : bGt} (m M : xM) (h : bX G m M) : ∃ m' M' : xM, f_X_saveSnapshot m = some m' ∧ f_m_saveSnapshot M = some M' ∧ M' 0 6 = 0 ∧ bX G m' M' := by
  have h0 := h.thr 0
  obtain ⟨M0, hM0⟩ : ∃ Z, Z = xu M 0 6 0 := ⟨_, rfl⟩
  rw [← hM0] at h0
  have t0 : M0 0 6 = 0 := by rw [hM0, xu_s rfl]
  obtain ⟨hl, hu, hsn, hb, hf, hG⟩ := h0
  obtain ⟨q, q1, q2, q3⟩ := X_cp xT_47 77 11 m (fun _ => M0 1) (by decide) ⟨by omega, by omega, by omega, by omega⟩ (by omega) hl.1
  obtain ⟨Q, c1, c2, c3⟩ := copyA_row 1 4 M0 (by omega) (Or.inl ⟨rfl, Or.inr rfl⟩)
  obtain ⟨m1, hm1⟩ : ∃ Z, Z = xmg xT_47 66 m q := ⟨_, rfl⟩
  obtain ⟨M1, hM1⟩ : ∃ Z, Z = xmg [1, 4] 2 M0 Q := ⟨_, rfl⟩
  rw [← hm1] at q2 q3
  rw [← hM1] at c2 c3
  obtain ⟨m2, hm2⟩ : ∃ Z, Z = xu m1 0 5 1 := ⟨_, rfl⟩
  obtain ⟨M2, hM2⟩ : ∃ Z, Z = xu M1 0 7 1 := ⟨_, rfl⟩
  have g : ∀ k, k ≠ 0 → (k < 77 ∨ 110 ≤ k) → m2 k = m k := fun k k0 k1 => by rw [hm2, xu_K k0, q3 k (by omega)]
  have g0 : ∀ j, j ≠ 5 → m2 0 j = m 0 j := fun j hj => by rw [hm2, xu_d hj, q3 0 (by omega)]
  have G : ∀ k, k ≠ 0 → k ≠ 4 → M2 k = M0 k := fun k k0 k4 => by rw [hM2, xu_K k0, c3 k k4]
  have G0 : ∀ j, j ≠ 7 → M2 0 j = M0 0 j := fun j hj => by rw [hM2, xu_d hj, c3 0 (by omega)]
  refine ⟨m2, M2, ?_, ?_, by rw [G0 6 (by omega), t0], ?_, ?_, Or.inr ⟨by rw [hm2, xu_s rfl], by rw [hM2, xu_s rfl], ?_⟩, ?_, ?_, hG.cg (G0 11 (by omega)) (G 7 (by omega) (by omega))⟩
  · unfold f_X_saveSnapshot
    rw [q1, b_bs, ← hm1, ← hm2]
  · unfold f_m_saveSnapshot
    rw [← hM0, c1, b_bs, ← hM1, ← hM2]
  · exact hl.cg (bV_eq (by omega) (fun k k1 k2 => g k (by omega) (by omega)) (fun k k1 k2 => g k (by omega) (by omega))) (fun i hi => by rw [G 1 (by omega) (by omega)])
  · exact hu.cg ⟨g0 8 (by omega), g0 7 (by omega)⟩ (fun k k1 k2 => g k (by omega) (by omega)) (fun k k1 k2 => g k (by omega) (by omega)) (G0 5 (by omega)) (G 5 (by omega) (by omega))
  · have hv := bV_eq (b := 77) (m := m1) (m' := m2) (by omega) (fun k k1 k2 => by rw [hm2, xu_K (by omega)]) (fun k k1 k2 => by rw [hm2, xu_K (by omega)])
    have tt : xvw (bV 77) m1 0 7 ≤ 99999 := by
      have a : M0 1 0 = xvw (bV 77) m1 0 7 := q2.1.2.2.2.2.2.1
      have b : M0 1 0 = xvw (bV 11) m 0 7 := hl.1.1.2.2.2.2.2.1
      rw [← a, b]; exact hl.2
    have hl2 : bLn (xvw (bV 77) m1) (M0 1) := ⟨q2, tt⟩
    exact hl2.cg hv (fun j hj => by rw [hM2, xu_K (by omega), c2 j hj])
  · exact hb.cg (g0 10 (by omega)) (g 441 (by omega) (by omega)) (G0 13 (by omega)) (G 8 (by omega) (by omega))
  · rw [g0 11 (by omega), G0 20 (by omega), hf]
theorem X_restore_sp {G : bGt} (m M : xM) (h : bX G m M) : ∃ (r : Int) (m' M' : xM), f_X_restoreSnapshot m = some (r, m') ∧ f_m_restoreSnapshot M = some (r, M') ∧ M' 0 6 = 0 ∧ (r = 0 ∨ r = 1) ∧ bX G m' M' := by
  have h0 := h.thr 0
  obtain ⟨M0, hM0⟩ : ∃ Z, Z = xu M 0 6 0 := ⟨_, rfl⟩
  rw [← hM0] at h0
  have t0 : M0 0 6 = 0 := by rw [hM0, xu_s rfl]
  have e7 : M0 0 7 = M 0 7 := by rw [hM0, xu_d (by omega)]
  have hh := h0
  obtain ⟨hl, hu, hsn, hb, hf, hG⟩ := h0
  unfold f_X_restoreSnapshot f_m_restoreSnapshot
  rw [← hM0]
  rcases hsn with ⟨a1, a2⟩ | ⟨a1, a2, a3⟩
  · rw [if_pos (show xw (m 0 5) = 0 by rw [a1]; decide), if_pos (show xw (M 0 7) = 0 by rw [← e7, a2]; decide)]
    exact ⟨0, m, M0, rfl, rfl, t0, Or.inl rfl, hh⟩
  · obtain ⟨q, q1, q2, q3⟩ := X_cp xT_49 11 77 m (fun _ => M0 4) (by decide) ⟨by omega, by omega, by omega, by omega⟩ (by omega) a3.1
    obtain ⟨Q, c1, c2, c3⟩ := copyA_row 4 1 M0 (by omega) (Or.inr ⟨rfl, Or.inr rfl⟩)
    obtain ⟨m1, hm1⟩ : ∃ Z, Z = xmg xT_49 66 m q := ⟨_, rfl⟩
    obtain ⟨M1, hM1⟩ : ∃ Z, Z = xmg [4, 1] 2 M0 Q := ⟨_, rfl⟩
    rw [← hm1] at q2 q3
    rw [← hM1] at c2 c3
    obtain ⟨m2, hm2⟩ : ∃ Z, Z = xu m1 0 7 0 := ⟨_, rfl⟩
    obtain ⟨M2, hM2⟩ : ∃ Z, Z = xu M1 0 5 0 := ⟨_, rfl⟩
    have g : ∀ k, k ≠ 0 → (k < 11 ∨ 44 ≤ k) → m2 k = m k := fun k k0 k1 => by rw [hm2, xu_K k0, q3 k (by omega)]
    have g0 : ∀ j, j ≠ 7 → m2 0 j = m 0 j := fun j hj => by rw [hm2, xu_d hj, q3 0 (by omega)]
    have G : ∀ k, k ≠ 0 → k ≠ 1 → M2 k = M0 k := fun k k0 k4 => by rw [hM2, xu_K k0, c3 k k4]
    have G0 : ∀ j, j ≠ 5 → M2 0 j = M0 0 j := fun j hj => by rw [hM2, xu_d hj, c3 0 (by omega)]
    rw [if_neg (show ¬ xw (m 0 5) = 0 by rw [a1]; decide), if_neg (show ¬ xw (M 0 7) = 0 by rw [← e7, a2]; decide), q1, b_bs, c1, b_bs, ← hm1, ← hM1, ← hm2, ← hM2]
    refine ⟨1, m2, M2, rfl, rfl, by rw [G0 6 (by omega), t0], Or.inr rfl, ?_, ?_, Or.inr ⟨by rw [g0 5 (by omega), a1], by rw [G0 7 (by omega), a2], ?_⟩, ?_, ?_, hG.cg (G0 11 (by omega)) (G 7 (by omega) (by omega))⟩
    · have hv := bV_eq (b := 11) (m := m1) (m' := m2) (by omega) (fun k k1 k2 => by rw [hm2, xu_K (by omega)]) (fun k k1 k2 => by rw [hm2, xu_K (by omega)])
      have tt : xvw (bV 11) m1 0 7 ≤ 99999 := by
        have a : M0 4 0 = xvw (bV 11) m1 0 7 := q2.1.2.2.2.2.2.1
        have b : M0 4 0 = xvw (bV 77) m 0 7 := a3.1.1.2.2.2.2.2.1
        rw [← a, b]; exact a3.2
      have hl2 : bLn (xvw (bV 11) m1) (M0 4) := ⟨q2, tt⟩
      exact hl2.cg hv (fun j hj => by rw [hM2, xu_K (by omega), c2 j hj])
    · obtain ⟨nx, p, b1, b2, b3, b4⟩ := hu
      exact ⟨nx, 0, by rw [g0 8 (by omega)]; exact b1, ⟨by rw [hm2, xu_s rfl]; rfl, by omega⟩, by rw [hM2, xu_s rfl]; rfl, fun i hi => by omega⟩
    · exact a3.cg (bV_eq (by omega) (fun k k1 k2 => g k (by omega) (by omega)) (fun k k1 k2 => g k (by omega) (by omega))) (fun j hj => by rw [G 4 (by omega) (by omega)])
    · exact hb.cg (g0 10 (by omega)) (g 441 (by omega) (by omega)) (G0 13 (by omega)) (G 8 (by omega) (by omega))
    · rw [g0 11 (by omega), G0 20 (by omega), hf]

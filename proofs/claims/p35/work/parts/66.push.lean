/-! ===== an operation is recorded in both ===== -/
def bPush (m m' M M' : xM) : Prop := (∀ k, k ≠ 0 → (k < 110 ∨ 440 ≤ k) → m' k = m k) ∧ (∀ j, j ≠ 7 → j ≠ 8 → m' 0 j = m 0 j) ∧ (∀ k, k ≠ 0 → k ≠ 5 → M' k = M k) ∧ ∀ j, j ≠ 5 → M' 0 j = M 0 j
theorem X_push_sp {G : bGt} (m M : xM) (h : bX G m M) : ∃ m' M' : xM, f_X_remember m = some m' ∧ f_m_record M = some M' ∧ bX G m' M' ∧ bPush m m' M M' := by
  obtain ⟨m', e1, nx0, a1, a2, a3, a4, a5, a6, a7⟩ := X_rem_sp m M h
  obtain ⟨hl, ⟨nx, p, ⟨b1, b1'⟩, ⟨b2, b2'⟩, b3, b4⟩, hs, hb, hf, hG⟩ := h
  obtain rfl : nx0 = nx := by omega
  obtain ⟨M', f1, f2, f3, f4⟩ := record_sp p M b2' b3
  have g : ∀ k, k ≠ 0 → (k < 110 ∨ 440 ≤ k) → m' k = m k := fun k h0 h1 => a6 k h0 (by omega)
  refine ⟨m', M', e1, f1, ⟨?_, ?_, ?_, ?_, ?_, hG.cg (f3 11 (by omega)) (f4 7 (by omega) (by omega))⟩, g, a5, f4, f3⟩
  · exact hl.cg (bV_eq (by omega) (fun k k1 k2 => g k (by omega) (by omega)) (fun k k1 k2 => g k (by omega) (by omega))) (fun i hi => by rw [f4 1 (by omega) (by omega)])
  · -- the history
    have hnew := a7 (M 1) hl
    have hold : ∀ i, i < p → bSlot nx0 p i ≠ 110 + 33 * nx0 → ∀ N', (∀ j, j < 3530 → N' j = M 5 (3530 * i + j)) → bLn (xvw (bV (bSlot nx0 p i)) m') N' := fun i hi hne N' hN' => by
      have hsl := bSlot_in nx0 p i
      have hsl2 : bSlot nx0 p i = 110 + 33 * ((nx0 + 10 - p + i) % 10) := rfl
      refine (b4 i hi).cg (bV_eq (by omega) (fun k k1 k2 => a6 k (by omega) (by omega)) (fun k k1 k2 => g k (by omega) (by omega))) hN'
    by_cases hp : p < 10
    · rw [if_pos hp] at f2
      obtain ⟨u1, u2, u3⟩ := f2
      refine ⟨if nx0 + 1 < 10 then nx0 + 1 else 0, p + 1, ⟨a3, by split <;> omega⟩, ⟨by rw [a4, b2, if_neg (by omega)]; omega, by omega⟩, u1, fun i hi => ?_⟩
      by_cases hip : i = p
      · subst hip
        have hsl : bSlot (if nx0 + 1 < 10 then nx0 + 1 else 0) (i + 1) i = 110 + 33 * nx0 := by
          show 110 + 33 * (((if nx0 + 1 < 10 then nx0 + 1 else 0) + 10 - (i + 1) + i) % 10) = _
          split <;> omega
        rw [hsl]
        exact hnew.cg (fun _ _ => rfl) (fun j hj => u3 j hj)
      · have hsl : bSlot (if nx0 + 1 < 10 then nx0 + 1 else 0) (p + 1) i = bSlot nx0 p i := by
          show 110 + 33 * (((if nx0 + 1 < 10 then nx0 + 1 else 0) + 10 - (p + 1) + i) % 10) = 110 + 33 * ((nx0 + 10 - p + i) % 10)
          split <;> omega
        rw [hsl]
        refine hold i (by omega) ?_ _ (fun j hj => u2 _ (by omega))
        show 110 + 33 * ((nx0 + 10 - p + i) % 10) ≠ _
        omega
    · have hp10 : p = 10 := by omega
      subst hp10
      rw [if_neg hp] at f2
      obtain ⟨u1, u2, u3⟩ := f2
      refine ⟨if nx0 + 1 < 10 then nx0 + 1 else 0, 10, ⟨a3, by split <;> omega⟩, ⟨by rw [a4, b2, if_pos (by omega)]; rfl, Nat.le_refl _⟩, u1, fun i hi => ?_⟩
      by_cases hip : i = 9
      · subst hip
        have hsl : bSlot (if nx0 + 1 < 10 then nx0 + 1 else 0) 10 9 = 110 + 33 * nx0 := by
          show 110 + 33 * (((if nx0 + 1 < 10 then nx0 + 1 else 0) + 10 - 10 + 9) % 10) = _
          split <;> omega
        rw [hsl]
        exact hnew.cg (fun _ _ => rfl) (fun j hj => u3 j hj)
      · have hsl : bSlot (if nx0 + 1 < 10 then nx0 + 1 else 0) 10 i = bSlot nx0 10 (i + 1) := by
          show 110 + 33 * (((if nx0 + 1 < 10 then nx0 + 1 else 0) + 10 - 10 + i) % 10) = 110 + 33 * ((nx0 + 10 - 10 + (i + 1)) % 10)
          split <;> omega
        rw [hsl]
        refine hold (i + 1) (by omega) ?_ _ (fun j hj => by rw [u2 _ (by omega), show 3530 * i + j + 3530 = 3530 * (i + 1) + j by omega])
        show 110 + 33 * ((nx0 + 10 - 10 + (i + 1)) % 10) ≠ _
        omega
  · exact hs.cg (a5 5 (by omega) (by omega)) (fun k k1 k2 => g k (by omega) (by omega)) (fun k k1 k2 => g k (by omega) (by omega)) (f3 7 (by omega)) (f4 4 (by omega) (by omega))
  · exact hb.cg (a5 10 (by omega) (by omega)) (g 441 (by omega) (by omega)) (f3 13 (by omega)) (f4 8 (by omega) (by omega))
  · rw [a5 11 (by omega) (by omega), f3 20 (by omega), hf]
abbrev bI (z : Int) : Prop := -2147483648 ≤ z ∧ z < 2147483648
theorem m_inR (v a b : Int) (M : xM) (hv : bI v) (ha : bI a) (hb : bI b) : f_m_inRange v a b M = some (if a ≤ v ∧ v ≤ b then 1 else 0) := by
  unfold f_m_inRange
  rw [b_xw hv, b_xw ha, b_xw hb]
  by_cases h1 : v < a
  · rw [if_pos h1, if_neg (by omega)]
  · by_cases h2 : b < v
    · rw [if_neg h1, if_pos h2, if_neg (by omega)]
    · rw [if_neg h1, if_neg h2, if_pos (by omega)]
theorem m_isEn (e : Int) (M : xM) (he : bI e) : f_m_isEnd e M = some (if e = 0 ∨ e = 1 then 1 else 0) := by
  unfold f_m_isEnd
  rw [m_inR e 0 1 M he (by unfold bI; omega) (by unfold bI; omega), b_bs]
  by_cases h : e = 0 ∨ e = 1
  · have e1 : (if 0 ≤ e ∧ e ≤ 1 then (1 : Int) else 0) = 1 := if_pos (by omega)
    rw [e1, if_pos (show xbz 1 by decide), if_pos h]
  · have e1 : (if 0 ≤ e ∧ e ≤ 1 then (1 : Int) else 0) = 0 := if_neg (by omega)
    rw [e1, if_pos (show xbz 0 by decide), if_neg h]
/-- the line's own view of the object -/
theorem bX.put {G : bGt} {m q M M' : xM} (h : bX G m M) (hq : ∀ k, 33 ≤ k → k ≤ 37 → q k = xvw (bV 11) m k) (hl : bLine q M') (ht : q 0 7 ≤ 99999) (hM : bMK M M') : bX G (xmg (bV 11) 38 m q) M' := by
  obtain ⟨p1, p2⟩ := bV_put (m := m) (q := q) 11 (by omega) (by omega) hq bT11
  refine h.line ?_ (fun k hk => p2 k (by omega)) (fun k h0 h1 h3 h6 => hM.1 k h0 h1 h6) (fun j h6 h9 => hM.2 j h9)
  exact ⟨(hl.eqv p1), by rw [p1 0 (by omega)]; exact ht⟩
theorem X_pass_sp {G : bGt} (z : Int) (m M : xM) (h : bX G m M) (hz : bI z) : (∃ (r : Int) (m' M' : xM), f_X_pass z m = some (r, m') ∧ f_m_pass z M = some (r, M') ∧ M' 0 6 = 0 ∧ bX G m' M') ∨ (h_X_pass z m = some 1 ∧ ∃ (r : Int) (M' : xM), f_m_pass z M = some (r, M') ∧ M' 0 6 = 1 ∧ bX G m M') := by
  have h0 := h.thr 0
  obtain ⟨M0, hM0⟩ : ∃ Z, Z = xu M 0 6 0 := ⟨_, rfl⟩
  rw [← hM0] at h0
  have t0 : M0 0 6 = 0 := by rw [hM0, xu_s rfl]
  have eM : f_m_pass z M = (if xw (if 1 ≤ z ∧ z ≤ 200 then (1 : Int) else 0) = 0 then some (0, xu M0 0 6 1) else (if xib 0 3530 then (if xw 99999 < xw ((M 1 0) + z) then some ((-2), M0) else (f_m_record M0).bind fun q1 => if xib 55 3530 then f_m_pass_52 z fu (q1 1 55) 0 q1 else none) else none)) := by
    unfold f_m_pass f_m_raise
    rw [m_inR z 1 200 _ hz (by unfold bI; omega) (by unfold bI; omega), b_bs, b_bs, ← hM0]
  by_cases hr : 1 ≤ z ∧ z ≤ 200
  · left
    have n0 : M 1 0 = m 11 7 := h.1.1.1.2.2.2.2.2.1
    have ht := h.1.2
    have ht0 : m 11 7 ≤ 99999 := ht
    have ht1 : 0 ≤ m 11 7 := h.1.1.2.1.1.1
    have c1 : ¬ xw z < xw 1 := by rw [b_xw hz, b_xw (by omega)]; omega
    have c2 : ¬ xw 200 < xw z := by rw [b_xw hz, b_xw (by omega)]; omega
    have z1 : ¬ xw (1 : Int) = 0 := by decide
    have i0 : xib 0 3530 := b_ib (by omega)
    have i55 : xib 55 3530 := b_ib (by omega)
    rw [if_pos hr, if_neg z1, if_pos i0, n0] at eM
    unfold f_X_pass
    rw [if_neg c1, if_neg c2, eM]
    by_cases ho : xw 99999 < xw (m 11 7 + z)
    · rw [if_pos ho, if_pos ho]
      exact ⟨-2, m, M0, rfl, rfl, t0, h0⟩
    · rw [if_neg ho, if_neg ho]
      rw [b_xw (by omega), b_xw (by omega)] at ho
      obtain ⟨m1, M1, p1, p2, p3, p4, p5, p6, p7⟩ := X_push_sp m M0 h0
      obtain ⟨zn, hzn⟩ : ∃ zn : Nat, z = zn := ⟨z.toNat, by omega⟩
      have v0 : xvw (bV 11) m1 0 = m 11 := by
        show m1 (xT (bV 11) 0) = _
        rw [bV_lo 11 (by omega) (by omega)]; exact p4 11 (by omega) (by omega)
      obtain ⟨m2, M2, q1, q2, q3, q4, q5, q6⟩ := L_run_sp zn (by omega) zn 0 fu (xvw (bV 11) m1) M1 (by omega) (by show _ < 5000; omega) p3.1.1 (by rw [v0]; omega)
      have q1' : f_L_run z (xvw xT_25 m1) = some m2 := by
        unfold f_L_run
        rw [bV_25, hzn]; exact q1
      have e1 := m_pass_52 zn (by omega) (M1 1 55) zn 0 fu M1 M2 (by omega) (by show _ < 5000; omega) q2
      have e1' : f_m_pass_52 z fu (M1 1 55) 0 M1 = f_m_pass_67 z (M1 1 55) M2 := by rw [hzn]; exact e1
      have i10 : xib 10 11 := b_ib (by omega)
      have hput := p3.put q5 q3 (by rw [q4, v0]; omega) q6
      have g41 : xmg (bV 11) 38 m1 m2 41 = m2 30 := by
        have := (bV_put (m := m1) (q := m2) 11 (by omega) (by omega) q5 bT11).1 30 (by omega)
        have e : xvw (bV 11) (xmg (bV 11) 38 m1 m2) 30 = xmg (bV 11) 38 m1 m2 41 := by
          show xmg (bV 11) 38 m1 m2 (xT (bV 11) 30) = _
          rw [bV_lo 11 (by omega) (by omega)]
        rw [← e, this]
      have s1 : M1 1 55 = m1 41 10 := by
        have := p3.1.1.1.2.2.2.1 10 (by omega)
        exact this
      have s2 : M2 1 55 = m2 30 10 := q3.1.2.2.2.1 10 (by omega)
      refine ⟨m2 30 10 - m1 41 10, xmg (bV 11) 38 m1 m2, M2, ?_, ?_, ?_, hput⟩
      · rw [p1, b_bs, if_pos i10, q1', b_bs, if_pos i10, bV_25, g41]
      · rw [p2, b_bs, if_pos i55, e1']
        unfold f_m_pass_67
        rw [if_pos i55, s1, s2]
      · rw [q6.2 6 (by omega), p7 6 (by omega), t0]
  · right
    have z0 : xw (0 : Int) = 0 := by decide
    rw [if_neg hr, if_pos z0] at eM
    refine ⟨?_, 0, xu M0 0 6 1, eM, by rw [xu_s rfl], h0.thr 1⟩
    unfold h_X_pass h_X_pass_12
    by_cases c1 : xw z < xw 1
    · rw [if_pos c1]
    · rw [if_neg c1]
      by_cases c2 : xw 200 < xw z
      · rw [if_pos c2]
      · exfalso
        rw [b_xw hz, b_xw (by omega)] at c1 c2
        omega

/-! ===== format, by the reference ===== -/
/-- one end's numbers, in the letters Y from n on -/
def bE6 (Y : Nat → Int) (n q cq fr cf rc cr : Nat) : Prop := Y n = 32 ∧ (∀ j, j < cq → Y (n + 1 + j) = dgt q (cq - 1 - j)) ∧ Y (n + 1 + cq) = 47 ∧ (∀ j, j < cf → Y (n + 1 + cq + 1 + j) = dgt fr (cf - 1 - j)) ∧ Y (n + 1 + cq + 1 + cf) = 47 ∧ ∀ j, j < cr → Y (n + 1 + cq + 1 + cf + 1 + j) = dgt rc (cr - 1 - j)
theorem bE6.cg {Y Y' : Nat → Int} {n q cq fr cf rc cr : Nat} (h : bE6 Y n q cq fr cf rc cr) (g : ∀ j, j < n + 1 + cq + 1 + cf + 1 + cr → Y' j = Y j) : bE6 Y' n q cq fr cf rc cr := by
  obtain ⟨a, b, c, d, e, f⟩ := h
  exact ⟨by rw [g _ (by omega), a], fun j hj => by rw [g _ (by omega), b j hj], by rw [g _ (by omega), c], fun j hj => by rw [g _ (by omega), d j hj], by rw [g _ (by omega), e], fun j hj => by rw [g _ (by omega), f j hj]⟩
theorem m_end_sp {e : Nat} (he : e < 2) {q fr rc cq cf cr n : Nat} {M : xM} (p : Nat) (hq : M 1 (56 + 717 * e) = q) (hfr : M 1 (56 + 717 * e + 1) = fr) (hrc : M 1 (56 + 717 * e + 4) = rc) (Hq : q ≤ 1000000000 ∧ isL q cq) (Hf : fr ≤ 1000000000 ∧ isL fr cf) (Hr : rc ≤ 1000000000 ∧ isL rc cr) (h : M 0 11 = n) (h60 : n + 1 + cq + 1 + cf + 1 + cr ≤ 60) : ∃ M' : xM, f_m_format_110 (p + 1) (e : Int) M = f_m_format_110 p ((e + 1 : Nat) : Int) M' ∧ M' 0 11 = ((n + 1 + cq + 1 + cf + 1 + cr : Nat) : Int) ∧ bE6 (M' 7) n q cq fr cf rc cr ∧ (∀ j, j < n → M' 7 j = M 7 j) ∧ (∀ k, k ≠ 0 → k ≠ 7 → M' k = M k) ∧ ∀ j, j ≠ 11 → M' 0 j = M 0 j := by
  obtain ⟨M1, a1, A1⟩ := m_put_sp 32 h (by omega)
  obtain ⟨M2, a2, A2⟩ := m_putNumber_sp (z := (q : Int)) rfl Hq.1 Hq.2 A1.1 (by omega)
  obtain ⟨M3, a3, A3⟩ := m_put_sp 47 A2.1 (by omega)
  obtain ⟨M4, a4, A4⟩ := m_putNumber_sp (z := (fr : Int)) rfl Hf.1 Hf.2 A3.1 (by omega)
  obtain ⟨M5, a5, A5⟩ := m_put_sp 47 A4.1 (by omega)
  obtain ⟨M6, a6, A6⟩ := m_putNumber_sp (z := (rc : Int)) rfl Hr.1 Hr.2 A5.1 (by omega)
  have e1 : M1 1 = M 1 := A1.2.2.2.1 1 (by omega) (by omega)
  have e3 : M3 1 = M 1 := by rw [A3.2.2.2.1 1 (by omega) (by omega), A2.2.2.2.1 1 (by omega) (by omega), e1]
  have e5 : M5 1 = M 1 := by rw [A5.2.2.2.1 1 (by omega) (by omega), A4.2.2.2.1 1 (by omega) (by omega), e3]
  have o1 : f_m_of (e : Int) 0 M1 = some (q : Int) := by rw [m_of (i := 56 + 717 * e) M1 (by omega) (by omega), e1, hq]
  have o3 : f_m_of (e : Int) 1 M3 = some (fr : Int) := by rw [m_of (i := 56 + 717 * e + 1) M3 (by omega) (by omega), e3, hfr]
  have o5 : f_m_of (e : Int) 4 M5 = some (rc : Int) := by rw [m_of (i := 56 + 717 * e + 4) M5 (by omega) (by omega), e5, hrc]
  have k5 : ∀ j, j < n + 1 + cq + 1 + cf + 1 → M6 7 j = M5 7 j := A6.2.2.1
  have k4 : ∀ j, j < n + 1 + cq + 1 + cf → M6 7 j = M4 7 j := fun j hj => by rw [k5 j (by omega), A5.2.2.1 j (by omega)]
  have k3 : ∀ j, j < n + 1 + cq + 1 → M6 7 j = M3 7 j := fun j hj => by rw [k4 j (by omega), A4.2.2.1 j (by omega)]
  have k2 : ∀ j, j < n + 1 + cq → M6 7 j = M2 7 j := fun j hj => by rw [k3 j (by omega), A3.2.2.1 j (by omega)]
  have k1 : ∀ j, j < n + 1 → M6 7 j = M1 7 j := fun j hj => by rw [k2 j (by omega), A2.2.2.1 j (by omega)]
  refine ⟨M6, ?_, A6.1, ⟨?_, fun j hj => ?_, ?_, fun j hj => ?_, ?_, fun j hj => ?_⟩, fun j hj => ?_, fun k h0 h7 => ?_, fun j hj => ?_⟩
  · rw [f_m_format_110, if_pos (show xw (e : Int) < xw 2 by rw [b_xw (by omega)]; show (e : Int) < 2; omega), a1, b_bs, o1, b_bs, a2, b_bs, a3, b_bs, o3, b_bs, a4, b_bs, a5, b_bs, o5, b_bs, a6, b_bs]
    rfl
  · rw [k1 n (by omega)]; exact A1.2.1 0 (by omega)
  · rw [k2 _ (by omega)]; exact A2.2.1 j hj
  · rw [k3 _ (by omega)]; exact A3.2.1 0 (by omega)
  · rw [k4 _ (by omega)]; exact A4.2.1 j hj
  · rw [k5 _ (by omega)]; exact A5.2.1 0 (by omega)
  · exact A6.2.1 j hj
  · rw [k1 j (by omega), A1.2.2.1 j hj]
  · rw [A6.2.2.2.1 k h0 h7, A5.2.2.2.1 k h0 h7, A4.2.2.2.1 k h0 h7, A3.2.2.2.1 k h0 h7, A2.2.2.2.1 k h0 h7, A1.2.2.2.1 k h0 h7]
  · rw [A6.2.2.2.2 j hj, A5.2.2.2.2 j hj, A4.2.2.2.2 j hj, A3.2.2.2.2 j hj, A2.2.2.2.2 j hj, A1.2.2.2.2 j hj]
theorem m_ends_sp {q1 fr1 rc1 cq1 cf1 cr1 q2 fr2 rc2 cq2 cf2 cr2 n : Nat} {M : xM} (hq1 : M 1 56 = q1) (hf1 : M 1 57 = fr1) (hr1 : M 1 60 = rc1) (hq2 : M 1 773 = q2) (hf2 : M 1 774 = fr2) (hr2 : M 1 777 = rc2) (Hq1 : q1 ≤ 1000000000 ∧ isL q1 cq1) (Hf1 : fr1 ≤ 1000000000 ∧ isL fr1 cf1) (Hr1 : rc1 ≤ 1000000000 ∧ isL rc1 cr1) (Hq2 : q2 ≤ 1000000000 ∧ isL q2 cq2) (Hf2 : fr2 ≤ 1000000000 ∧ isL fr2 cf2) (Hr2 : rc2 ≤ 1000000000 ∧ isL rc2 cr2) (h : M 0 11 = n) (h60 : n + 1 + cq1 + 1 + cf1 + 1 + cr1 + 1 + cq2 + 1 + cf2 + 1 + cr2 ≤ 60) : ∃ M' : xM, f_m_format_108 M = some (((n + 1 + cq1 + 1 + cf1 + 1 + cr1 + 1 + cq2 + 1 + cf2 + 1 + cr2 : Nat) : Int), M') ∧ M' 0 11 = ((n + 1 + cq1 + 1 + cf1 + 1 + cr1 + 1 + cq2 + 1 + cf2 + 1 + cr2 : Nat) : Int) ∧ bE6 (M' 7) n q1 cq1 fr1 cf1 rc1 cr1 ∧ bE6 (M' 7) (n + 1 + cq1 + 1 + cf1 + 1 + cr1) q2 cq2 fr2 cf2 rc2 cr2 ∧ (∀ j, j < n → M' 7 j = M 7 j) ∧ (∀ k, k ≠ 0 → k ≠ 7 → M' k = M k) ∧ ∀ j, j ≠ 11 → M' 0 j = M 0 j := by
  obtain ⟨M1, a1, a2, a3, a4, a5, a6⟩ := m_end_sp (e := 0) (by omega) 4999 hq1 hf1 hr1 Hq1 Hf1 Hr1 h (by omega)
  have e1 : M1 1 = M 1 := a5 1 (by omega) (by omega)
  obtain ⟨M2, b1, b2, b3, b4, b5, b6⟩ := m_end_sp (e := 1) (by omega) 4998 (by rw [e1]; exact hq2) (by rw [e1]; exact hf2) (by rw [e1]; exact hr2) Hq2 Hf2 Hr2 a2 h60
  refine ⟨M2, ?_, b2, a3.cg b4, b3, fun j hj => by rw [b4 j (by omega), a4 j hj], fun k h0 h7 => by rw [b5 k h0 h7, a5 k h0 h7], fun j hj => by rw [b6 j hj, a6 j hj]⟩
  unfold f_m_format_108
  have s1 : f_m_format_110 fu 0 M = f_m_format_110 4999 ((0 + 1 : Nat) : Int) M1 := a1
  have s2 : f_m_format_110 4999 ((0 + 1 : Nat) : Int) M1 = f_m_format_110 4998 ((1 + 1 : Nat) : Int) M2 := b1
  rw [s1, s2]
  show f_m_format_110 (4997 + 1) 2 M2 = _
  rw [f_m_format_110, if_neg (by decide)]
  unfold f_m_format_169
  rw [b2]
theorem m_format0 {q1 fr1 rc1 cq1 cf1 cr1 q2 fr2 rc2 cq2 cf2 cr2 : Nat} {M : xM} (h1 : M 1 1 = 0) (hq1 : M 1 56 = q1) (hf1 : M 1 57 = fr1) (hr1 : M 1 60 = rc1) (hq2 : M 1 773 = q2) (hf2 : M 1 774 = fr2) (hr2 : M 1 777 = rc2) (Hq1 : q1 ≤ 1000000000 ∧ isL q1 cq1) (Hf1 : fr1 ≤ 1000000000 ∧ isL fr1 cf1) (Hr1 : rc1 ≤ 1000000000 ∧ isL rc1 cr1) (Hq2 : q2 ≤ 1000000000 ∧ isL q2 cq2) (Hf2 : fr2 ≤ 1000000000 ∧ isL fr2 cf2) (Hr2 : rc2 ≤ 1000000000 ∧ isL rc2 cr2) (h60 : (0 + (xSby.getD 20 []).length + 1 + cq1 + 1 + cf1 + 1 + cr1 + 1 + cq2 + 1 + cf2 + 1 + cr2) ≤ 60) : ∃ M' : xM, f_m_format M = some ((((0 + (xSby.getD 20 []).length + 1 + cq1 + 1 + cf1 + 1 + cr1 + 1 + cq2 + 1 + cf2 + 1 + cr2) : Nat) : Int), M') ∧ M' 0 6 = 0 ∧ M' 0 11 = (((0 + (xSby.getD 20 []).length + 1 + cq1 + 1 + cf1 + 1 + cr1 + 1 + cq2 + 1 + cf2 + 1 + cr2) : Nat) : Int) ∧ (∀ j, j < (xSby.getD 20 []).length → M' 7 (0 + j) = xsc 20 j) ∧ bE6 (M' 7) (0 + (xSby.getD 20 []).length) q1 cq1 fr1 cf1 rc1 cr1 ∧ bE6 (M' 7) (0 + (xSby.getD 20 []).length + 1 + cq1 + 1 + cf1 + 1 + cr1) q2 cq2 fr2 cf2 rc2 cr2 ∧ (∀ k, k ≠ 0 → k ≠ 7 → M' k = M k) ∧ ∀ j, j ≠ 6 → j ≠ 11 → M' 0 j = M 0 j := by
  have hl : (xSby.getD 20 []).length = 4 := rfl
  rw [hl] at h60 ⊢
  obtain ⟨M0, hM0⟩ : ∃ Z, Z = xu (xu M 0 6 0) 0 11 0 := ⟨_, rfl⟩
  have m1 : M0 1 = M 1 := by rw [hM0, xu_K (by omega), xu_K (by omega)]
  have mk : ∀ k, k ≠ 0 → M0 k = M k := fun k hk => by rw [hM0, xu_K hk, xu_K hk]
  have mj : ∀ j, j ≠ 6 → j ≠ 11 → M0 0 j = M 0 j := fun j h6 h11 => by rw [hM0, xu_d h11, xu_d h6]
  have m6 : M0 0 6 = 0 := by rw [hM0, xu_d (by omega), xu_s rfl]
  have m11 : M0 0 11 = ((0 : Nat) : Int) := by rw [hM0, xu_s rfl]; rfl
  have ip : ∀ (Q : xM) (z : Int), Q 1 = M 1 → 0 ≤ z ∧ z ≤ 3 → f_m_isPhase z Q = some (if (0 : Int) = z then 1 else 0) := fun Q z hQ hz => by
    rw [m_isPhase z Q (by rw [hQ, h1]; omega) hz, hQ, h1]
  obtain ⟨M1, a1, A1⟩ := m_putWord_sp 20 m11 (by show 0 + 4 ≤ 60; omega)
  have q1 : M1 1 = M 1 := by rw [A1.2.2.2.1 1 (by omega) (by omega), m1]
  obtain ⟨M9, b1, b2, b3, b4, b5, b6, b7⟩ := m_ends_sp (n := 0 + 4) (M := M1) (by rw [q1]; exact hq1) (by rw [q1]; exact hf1) (by rw [q1]; exact hr1) (by rw [q1]; exact hq2) (by rw [q1]; exact hf2) (by rw [q1]; exact hr2) Hq1 Hf1 Hr1 Hq2 Hf2 Hr2 (A1.1) h60
  refine ⟨M9, ?_, ?_, b2, fun j hj => ?_, b3, b4, fun k h0 h7 => ?_, fun j h6 h11 => ?_⟩
  · unfold f_m_format
    rw [← hM0, ip M0 0 m1 (by omega), b_bs]
    rw [if_neg (show ¬ xw (if (0 : Int) = 0 then 1 else 0) = 0 by decide)]
    unfold f_m_format_56_010200
    rw [a1, b_bs, ip M1 1 q1 (by omega), b_bs]
    rw [if_pos (show xw (if (0 : Int) = 1 then 1 else 0) = 0 by decide), ip M1 2 q1 (by omega), b_bs]
    rw [if_pos (show xw (if (0 : Int) = 2 then 1 else 0) = 0 by decide)]
    exact b1
  · rw [b7 6 (by omega), A1.2.2.2.2 6 (by omega), m6]
  · rw [b5 (0 + j) (by omega)]; exact A1.2.1 j hj
  · rw [b6 k h0 h7, A1.2.2.2.1 k h0 h7, mk k h0]
  · rw [b7 j h11, A1.2.2.2.2 j h11, mj j h6 h11]
theorem wd_1 : ∀ j, j < 8 → xsc 21 j = xsc 25 j := by decide +kernel
theorem m_format1 {q1 fr1 rc1 cq1 cf1 cr1 q2 fr2 rc2 cq2 cf2 cr2 st cs : Nat} {M : xM} (h1 : M 1 1 = 1) (hq1 : M 1 56 = q1) (hf1 : M 1 57 = fr1) (hr1 : M 1 60 = rc1) (hq2 : M 1 773 = q2) (hf2 : M 1 774 = fr2) (hr2 : M 1 777 = rc2) (Hq1 : q1 ≤ 1000000000 ∧ isL q1 cq1) (Hf1 : fr1 ≤ 1000000000 ∧ isL fr1 cf1) (Hr1 : rc1 ≤ 1000000000 ∧ isL rc1 cr1) (Hq2 : q2 ≤ 1000000000 ∧ isL q2 cq2) (Hf2 : fr2 ≤ 1000000000 ∧ isL fr2 cf2) (Hr2 : rc2 ≤ 1000000000 ∧ isL rc2 cr2) (hst : M 1 4 = st) (Hs : st ≤ 1000000000 ∧ isL st cs) (h60 : (0 + (xSby.getD 25 []).length + cs + 1 + cq1 + 1 + cf1 + 1 + cr1 + 1 + cq2 + 1 + cf2 + 1 + cr2) ≤ 60) : ∃ M' : xM, f_m_format M = some ((((0 + (xSby.getD 25 []).length + cs + 1 + cq1 + 1 + cf1 + 1 + cr1 + 1 + cq2 + 1 + cf2 + 1 + cr2) : Nat) : Int), M') ∧ M' 0 6 = 0 ∧ M' 0 11 = (((0 + (xSby.getD 25 []).length + cs + 1 + cq1 + 1 + cf1 + 1 + cr1 + 1 + cq2 + 1 + cf2 + 1 + cr2) : Nat) : Int) ∧ (∀ j, j < (xSby.getD 25 []).length → M' 7 (0 + j) = xsc 25 j) ∧ (∀ j, j < cs → M' 7 (0 + (xSby.getD 25 []).length + j) = dgt st (cs - 1 - j)) ∧ bE6 (M' 7) (0 + (xSby.getD 25 []).length + cs) q1 cq1 fr1 cf1 rc1 cr1 ∧ bE6 (M' 7) (0 + (xSby.getD 25 []).length + cs + 1 + cq1 + 1 + cf1 + 1 + cr1) q2 cq2 fr2 cf2 rc2 cr2 ∧ (∀ k, k ≠ 0 → k ≠ 7 → M' k = M k) ∧ ∀ j, j ≠ 6 → j ≠ 11 → M' 0 j = M 0 j := by
  have hl : (xSby.getD 25 []).length = 9 := rfl
  rw [hl] at h60 ⊢
  obtain ⟨M0, hM0⟩ : ∃ Z, Z = xu (xu M 0 6 0) 0 11 0 := ⟨_, rfl⟩
  have m1 : M0 1 = M 1 := by rw [hM0, xu_K (by omega), xu_K (by omega)]
  have mk : ∀ k, k ≠ 0 → M0 k = M k := fun k hk => by rw [hM0, xu_K hk, xu_K hk]
  have mj : ∀ j, j ≠ 6 → j ≠ 11 → M0 0 j = M 0 j := fun j h6 h11 => by rw [hM0, xu_d h11, xu_d h6]
  have m6 : M0 0 6 = 0 := by rw [hM0, xu_d (by omega), xu_s rfl]
  have m11 : M0 0 11 = ((0 : Nat) : Int) := by rw [hM0, xu_s rfl]; rfl
  have ip : ∀ (Q : xM) (z : Int), Q 1 = M 1 → 0 ≤ z ∧ z ≤ 3 → f_m_isPhase z Q = some (if (1 : Int) = z then 1 else 0) := fun Q z hQ hz => by
    rw [m_isPhase z Q (by rw [hQ, h1]; omega) hz, hQ, h1]
  obtain ⟨M1, a1, A1⟩ := m_putWord_sp 21 m11 (by show 0 + 8 ≤ 60; omega)
  have q1 : M1 1 = M 1 := by rw [A1.2.2.2.1 1 (by omega) (by omega), m1]
  obtain ⟨M2, a2, A2⟩ := m_put_sp 32 A1.1 (by show 0 + 8 < 60; omega)
  have q2 : M2 1 = M 1 := by rw [A2.2.2.2.1 1 (by omega) (by omega), q1]
  obtain ⟨M3, a3, A3⟩ := m_putNumber_sp (z := (st : Int)) rfl Hs.1 Hs.2 A2.1 (by show 0 + 8 + 1 + cs ≤ 60; omega)
  have q3 : M3 1 = M 1 := by rw [A3.2.2.2.1 1 (by omega) (by omega), q2]
  obtain ⟨M9, b1, b2, b3, b4, b5, b6, b7⟩ := m_ends_sp (n := 0 + 9 + cs) (M := M3) (by rw [q3]; exact hq1) (by rw [q3]; exact hf1) (by rw [q3]; exact hr1) (by rw [q3]; exact hq2) (by rw [q3]; exact hf2) (by rw [q3]; exact hr2) Hq1 Hf1 Hr1 Hq2 Hf2 Hr2 (by rw [A3.1]; show ((0 + 8 + 1 + cs : Nat) : Int) = ((0 + 9 + cs : Nat) : Int); omega) h60
  refine ⟨M9, ?_, ?_, b2, fun j hj => ?_, fun j hj => ?_, b3, b4, fun k h0 h7 => ?_, fun j h6 h11 => ?_⟩
  · unfold f_m_format
    rw [← hM0, ip M0 0 m1 (by omega), b_bs]
    rw [if_pos (show xw (if (1 : Int) = 0 then 1 else 0) = 0 by decide)]
    rw [ip M0 1 m1 (by omega), b_bs]
    rw [if_neg (show ¬ xw (if (1 : Int) = 1 then 1 else 0) = 0 by decide)]
    unfold f_m_format_56_010210
    rw [a1, b_bs, ip M1 1 q1 (by omega), b_bs]
    rw [if_neg (show ¬ xw (if (1 : Int) = 1 then 1 else 0) = 0 by decide)]
    unfold f_m_format_75
    rw [a2, b_bs, ip M2 2 q2 (by omega), b_bs]
    rw [if_pos (show xw (if (1 : Int) = 2 then 1 else 0) = 0 by decide), if_pos (show xib 4 3530 from b_ib (by omega))]
    unfold f_m_format_105
    rw [q2, hst, a3, b_bs]
    exact b1
  · rw [b7 6 (by omega), A3.2.2.2.2 6 (by omega), A2.2.2.2.2 6 (by omega), A1.2.2.2.2 6 (by omega), m6]
  · have hjl : j < 9 := hj
    rw [b5 (0 + j) (by omega), A3.2.2.1 (0 + j) (by show 0 + j < 0 + 8 + 1; omega)]
    by_cases g : j < 8
    · rw [A2.2.2.1 (0 + j) (by show 0 + j < 0 + 8; omega), A1.2.1 j g]
      exact wd_1 j g
    · have hj8 : j = 8 := by omega
      rw [hj8]; exact A2.2.1 0 (by omega)
  · rw [b5 _ (by omega), show 0 + 9 + j = 0 + 8 + 1 + j by omega]; exact A3.2.1 j hj
  · rw [b6 k h0 h7, A3.2.2.2.1 k h0 h7, A2.2.2.2.1 k h0 h7, A1.2.2.2.1 k h0 h7, mk k h0]
  · rw [b7 j h11, A3.2.2.2.2 j h11, A2.2.2.2.2 j h11, A1.2.2.2.2 j h11, mj j h6 h11]
theorem wd_2 : ∀ j, j < 6 → xsc 22 j = xsc 24 j := by decide +kernel
theorem m_format2 {q1 fr1 rc1 cq1 cf1 cr1 q2 fr2 rc2 cq2 cf2 cr2 st cs : Nat} {M : xM} (h1 : M 1 1 = 2) (hq1 : M 1 56 = q1) (hf1 : M 1 57 = fr1) (hr1 : M 1 60 = rc1) (hq2 : M 1 773 = q2) (hf2 : M 1 774 = fr2) (hr2 : M 1 777 = rc2) (Hq1 : q1 ≤ 1000000000 ∧ isL q1 cq1) (Hf1 : fr1 ≤ 1000000000 ∧ isL fr1 cf1) (Hr1 : rc1 ≤ 1000000000 ∧ isL rc1 cr1) (Hq2 : q2 ≤ 1000000000 ∧ isL q2 cq2) (Hf2 : fr2 ≤ 1000000000 ∧ isL fr2 cf2) (Hr2 : rc2 ≤ 1000000000 ∧ isL rc2 cr2) (hst : M 1 3 = st) (Hs : st ≤ 1000000000 ∧ isL st cs) (h60 : (0 + (xSby.getD 24 []).length + cs + 1 + cq1 + 1 + cf1 + 1 + cr1 + 1 + cq2 + 1 + cf2 + 1 + cr2) ≤ 60) : ∃ M' : xM, f_m_format M = some ((((0 + (xSby.getD 24 []).length + cs + 1 + cq1 + 1 + cf1 + 1 + cr1 + 1 + cq2 + 1 + cf2 + 1 + cr2) : Nat) : Int), M') ∧ M' 0 6 = 0 ∧ M' 0 11 = (((0 + (xSby.getD 24 []).length + cs + 1 + cq1 + 1 + cf1 + 1 + cr1 + 1 + cq2 + 1 + cf2 + 1 + cr2) : Nat) : Int) ∧ (∀ j, j < (xSby.getD 24 []).length → M' 7 (0 + j) = xsc 24 j) ∧ (∀ j, j < cs → M' 7 (0 + (xSby.getD 24 []).length + j) = dgt st (cs - 1 - j)) ∧ bE6 (M' 7) (0 + (xSby.getD 24 []).length + cs) q1 cq1 fr1 cf1 rc1 cr1 ∧ bE6 (M' 7) (0 + (xSby.getD 24 []).length + cs + 1 + cq1 + 1 + cf1 + 1 + cr1) q2 cq2 fr2 cf2 rc2 cr2 ∧ (∀ k, k ≠ 0 → k ≠ 7 → M' k = M k) ∧ ∀ j, j ≠ 6 → j ≠ 11 → M' 0 j = M 0 j := by
  have hl : (xSby.getD 24 []).length = 7 := rfl
  rw [hl] at h60 ⊢
  obtain ⟨M0, hM0⟩ : ∃ Z, Z = xu (xu M 0 6 0) 0 11 0 := ⟨_, rfl⟩
  have m1 : M0 1 = M 1 := by rw [hM0, xu_K (by omega), xu_K (by omega)]
  have mk : ∀ k, k ≠ 0 → M0 k = M k := fun k hk => by rw [hM0, xu_K hk, xu_K hk]
  have mj : ∀ j, j ≠ 6 → j ≠ 11 → M0 0 j = M 0 j := fun j h6 h11 => by rw [hM0, xu_d h11, xu_d h6]
  have m6 : M0 0 6 = 0 := by rw [hM0, xu_d (by omega), xu_s rfl]
  have m11 : M0 0 11 = ((0 : Nat) : Int) := by rw [hM0, xu_s rfl]; rfl
  have ip : ∀ (Q : xM) (z : Int), Q 1 = M 1 → 0 ≤ z ∧ z ≤ 3 → f_m_isPhase z Q = some (if (2 : Int) = z then 1 else 0) := fun Q z hQ hz => by
    rw [m_isPhase z Q (by rw [hQ, h1]; omega) hz, hQ, h1]
  obtain ⟨M1, a1, A1⟩ := m_putWord_sp 22 m11 (by show 0 + 6 ≤ 60; omega)
  have q1 : M1 1 = M 1 := by rw [A1.2.2.2.1 1 (by omega) (by omega), m1]
  obtain ⟨M2, a2, A2⟩ := m_put_sp 32 A1.1 (by show 0 + 6 < 60; omega)
  have q2 : M2 1 = M 1 := by rw [A2.2.2.2.1 1 (by omega) (by omega), q1]
  obtain ⟨M3, a3, A3⟩ := m_putNumber_sp (z := (st : Int)) rfl Hs.1 Hs.2 A2.1 (by show 0 + 6 + 1 + cs ≤ 60; omega)
  have q3 : M3 1 = M 1 := by rw [A3.2.2.2.1 1 (by omega) (by omega), q2]
  obtain ⟨M9, b1, b2, b3, b4, b5, b6, b7⟩ := m_ends_sp (n := 0 + 7 + cs) (M := M3) (by rw [q3]; exact hq1) (by rw [q3]; exact hf1) (by rw [q3]; exact hr1) (by rw [q3]; exact hq2) (by rw [q3]; exact hf2) (by rw [q3]; exact hr2) Hq1 Hf1 Hr1 Hq2 Hf2 Hr2 (by rw [A3.1]; show ((0 + 6 + 1 + cs : Nat) : Int) = ((0 + 7 + cs : Nat) : Int); omega) h60
  refine ⟨M9, ?_, ?_, b2, fun j hj => ?_, fun j hj => ?_, b3, b4, fun k h0 h7 => ?_, fun j h6 h11 => ?_⟩
  · unfold f_m_format
    rw [← hM0, ip M0 0 m1 (by omega), b_bs]
    rw [if_pos (show xw (if (2 : Int) = 0 then 1 else 0) = 0 by decide)]
    rw [ip M0 1 m1 (by omega), b_bs]
    rw [if_pos (show xw (if (2 : Int) = 1 then 1 else 0) = 0 by decide)]
    rw [ip M0 2 m1 (by omega), b_bs]
    rw [if_neg (show ¬ xw (if (2 : Int) = 2 then 1 else 0) = 0 by decide)]
    unfold f_m_format_56_010220
    rw [a1, b_bs, ip M1 1 q1 (by omega), b_bs]
    rw [if_pos (show xw (if (2 : Int) = 1 then 1 else 0) = 0 by decide), ip M1 2 q1 (by omega), b_bs]
    rw [if_neg (show ¬ xw (if (2 : Int) = 2 then 1 else 0) = 0 by decide)]
    unfold f_m_format_75
    rw [a2, b_bs, ip M2 2 q2 (by omega), b_bs]
    rw [if_neg (show ¬ xw (if (2 : Int) = 2 then 1 else 0) = 0 by decide), if_pos (show xib 3 3530 from b_ib (by omega))]
    unfold f_m_format_105
    rw [q2, hst, a3, b_bs]
    exact b1
  · rw [b7 6 (by omega), A3.2.2.2.2 6 (by omega), A2.2.2.2.2 6 (by omega), A1.2.2.2.2 6 (by omega), m6]
  · have hjl : j < 7 := hj
    rw [b5 (0 + j) (by omega), A3.2.2.1 (0 + j) (by show 0 + j < 0 + 6 + 1; omega)]
    by_cases g : j < 6
    · rw [A2.2.2.1 (0 + j) (by show 0 + j < 0 + 6; omega), A1.2.1 j g]
      exact wd_2 j g
    · have hj8 : j = 6 := by omega
      rw [hj8]; exact A2.2.1 0 (by omega)
  · rw [b5 _ (by omega), show 0 + 7 + j = 0 + 6 + 1 + j by omega]; exact A3.2.1 j hj
  · rw [b6 k h0 h7, A3.2.2.2.1 k h0 h7, A2.2.2.2.1 k h0 h7, A1.2.2.2.1 k h0 h7, mk k h0]
  · rw [b7 j h11, A3.2.2.2.2 j h11, A2.2.2.2.2 j h11, A1.2.2.2.2 j h11, mj j h6 h11]
theorem m_format3 {q1 fr1 rc1 cq1 cf1 cr1 q2 fr2 rc2 cq2 cf2 cr2 : Nat} {M : xM} (h1 : M 1 1 = 3) (hq1 : M 1 56 = q1) (hf1 : M 1 57 = fr1) (hr1 : M 1 60 = rc1) (hq2 : M 1 773 = q2) (hf2 : M 1 774 = fr2) (hr2 : M 1 777 = rc2) (Hq1 : q1 ≤ 1000000000 ∧ isL q1 cq1) (Hf1 : fr1 ≤ 1000000000 ∧ isL fr1 cf1) (Hr1 : rc1 ≤ 1000000000 ∧ isL rc1 cr1) (Hq2 : q2 ≤ 1000000000 ∧ isL q2 cq2) (Hf2 : fr2 ≤ 1000000000 ∧ isL fr2 cf2) (Hr2 : rc2 ≤ 1000000000 ∧ isL rc2 cr2) (h60 : (0 + (xSby.getD 23 []).length + 1 + cq1 + 1 + cf1 + 1 + cr1 + 1 + cq2 + 1 + cf2 + 1 + cr2) ≤ 60) : ∃ M' : xM, f_m_format M = some ((((0 + (xSby.getD 23 []).length + 1 + cq1 + 1 + cf1 + 1 + cr1 + 1 + cq2 + 1 + cf2 + 1 + cr2) : Nat) : Int), M') ∧ M' 0 6 = 0 ∧ M' 0 11 = (((0 + (xSby.getD 23 []).length + 1 + cq1 + 1 + cf1 + 1 + cr1 + 1 + cq2 + 1 + cf2 + 1 + cr2) : Nat) : Int) ∧ (∀ j, j < (xSby.getD 23 []).length → M' 7 (0 + j) = xsc 23 j) ∧ bE6 (M' 7) (0 + (xSby.getD 23 []).length) q1 cq1 fr1 cf1 rc1 cr1 ∧ bE6 (M' 7) (0 + (xSby.getD 23 []).length + 1 + cq1 + 1 + cf1 + 1 + cr1) q2 cq2 fr2 cf2 rc2 cr2 ∧ (∀ k, k ≠ 0 → k ≠ 7 → M' k = M k) ∧ ∀ j, j ≠ 6 → j ≠ 11 → M' 0 j = M 0 j := by
  have hl : (xSby.getD 23 []).length = 4 := rfl
  rw [hl] at h60 ⊢
  obtain ⟨M0, hM0⟩ : ∃ Z, Z = xu (xu M 0 6 0) 0 11 0 := ⟨_, rfl⟩
  have m1 : M0 1 = M 1 := by rw [hM0, xu_K (by omega), xu_K (by omega)]
  have mk : ∀ k, k ≠ 0 → M0 k = M k := fun k hk => by rw [hM0, xu_K hk, xu_K hk]
  have mj : ∀ j, j ≠ 6 → j ≠ 11 → M0 0 j = M 0 j := fun j h6 h11 => by rw [hM0, xu_d h11, xu_d h6]
  have m6 : M0 0 6 = 0 := by rw [hM0, xu_d (by omega), xu_s rfl]
  have m11 : M0 0 11 = ((0 : Nat) : Int) := by rw [hM0, xu_s rfl]; rfl
  have ip : ∀ (Q : xM) (z : Int), Q 1 = M 1 → 0 ≤ z ∧ z ≤ 3 → f_m_isPhase z Q = some (if (3 : Int) = z then 1 else 0) := fun Q z hQ hz => by
    rw [m_isPhase z Q (by rw [hQ, h1]; omega) hz, hQ, h1]
  obtain ⟨M1, a1, A1⟩ := m_putWord_sp 23 m11 (by show 0 + 4 ≤ 60; omega)
  have q1 : M1 1 = M 1 := by rw [A1.2.2.2.1 1 (by omega) (by omega), m1]
  obtain ⟨M9, b1, b2, b3, b4, b5, b6, b7⟩ := m_ends_sp (n := 0 + 4) (M := M1) (by rw [q1]; exact hq1) (by rw [q1]; exact hf1) (by rw [q1]; exact hr1) (by rw [q1]; exact hq2) (by rw [q1]; exact hf2) (by rw [q1]; exact hr2) Hq1 Hf1 Hr1 Hq2 Hf2 Hr2 (A1.1) h60
  refine ⟨M9, ?_, ?_, b2, fun j hj => ?_, b3, b4, fun k h0 h7 => ?_, fun j h6 h11 => ?_⟩
  · unfold f_m_format
    rw [← hM0, ip M0 0 m1 (by omega), b_bs]
    rw [if_pos (show xw (if (3 : Int) = 0 then 1 else 0) = 0 by decide)]
    rw [ip M0 1 m1 (by omega), b_bs]
    rw [if_pos (show xw (if (3 : Int) = 1 then 1 else 0) = 0 by decide)]
    rw [ip M0 2 m1 (by omega), b_bs]
    rw [if_pos (show xw (if (3 : Int) = 2 then 1 else 0) = 0 by decide)]
    unfold f_m_format_56
    rw [a1, b_bs, ip M1 1 q1 (by omega), b_bs]
    rw [if_pos (show xw (if (3 : Int) = 1 then 1 else 0) = 0 by decide), ip M1 2 q1 (by omega), b_bs]
    rw [if_pos (show xw (if (3 : Int) = 2 then 1 else 0) = 0 by decide)]
    exact b1
  · rw [b7 6 (by omega), A1.2.2.2.2 6 (by omega), m6]
  · rw [b5 (0 + j) (by omega)]; exact A1.2.1 j hj
  · rw [b6 k h0 h7, A1.2.2.2.1 k h0 h7, mk k h0]
  · rw [b7 j h11, A1.2.2.2.2 j h11, mj j h6 h11]

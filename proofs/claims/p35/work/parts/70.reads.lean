/-! ===== reads of the object ===== -/
/-- a call that only reads: it answers alike in both, or throws in both -/
def bRd (fc : Option Int) (hc : Option Nat) (fm : Option (Int × xM)) (k : Nat) (M : xM) : Prop := (∃ r : Int, fc = some r ∧ fm = some (r, xu M 0 6 0)) ∨ (hc = some k ∧ ∃ r : Int, fm = some (r, xu (xu M 0 6 0) 0 6 1))
theorem X_end {G : bGt} (en : Nat) (he : en < 2) (m M : xM) (h : bX G m M) : bRE (12 + 11 * en) m (56 + 717 * en) (M 1) := by
  rcases (by omega : en = 0 ∨ en = 1) with rfl | rfl
  · exact h.1.1.1.1.tr (fun i hi => by rw [bV11_0 m (by omega)]; congr 1; omega)
  · exact h.1.1.1.2.1.tr (fun i hi => by rw [bV11_0 m (by omega)]; congr 1; omega)
theorem X_sc {G : bGt} (m M : xM) (h : bX G m M) : (M 1 0 = m 11 7 ∧ M 1 1 = m 11 8 ∧ M 1 2 = m 11 9 ∧ M 1 3 = m 11 10 ∧ M 1 8 = m 11 15 ∧ M 1 9 = m 11 16) ∧ (m 11 8 = 1 → M 1 4 = m 11 11 ∧ M 1 5 = m 11 12 ∧ M 1 6 = m 11 13) ∧ (m 11 8 = 3 → M 1 7 = m 11 14) ∧ (0 ≤ m 11 8 ∧ m 11 8 ≤ 3) ∧ M 1 10 = m 39 2 := by
  obtain ⟨s0, s1, s2, s3, s4, s5, s6, s7, s8, s9, s10⟩ := h.1.1.1.2.2.2.2.2
  rw [bV11_0 m (by omega)] at s0 s1 s2 s3 s4 s5 s6 s7 s8
  obtain ⟨b, c, b1, b2, b3, b4, b5, b6, b7⟩ := h.1.1.1.2.2.1
  rw [bV11_0 m (by omega)] at b2
  exact ⟨⟨s0, s1, s2, s3, s4, s5⟩, fun z => (s6 z).1, s7, s8, by rw [show (39 : Nat) = 11 + 28 from rfl, b2]; exact b6⟩
theorem X_size_sp {G : bGt} (w : Int) (m M : xM) (h : bX G m M) (hw : bI w) : bRd (f_X_size w m) (h_X_size w m) (f_m_size w M) 2 M := by
  obtain ⟨⟨s0, s1, s2, s3, s4, s5⟩, s6, s7, s8, s10⟩ := X_sc m M h
  obtain ⟨n, -, b2, b3, -⟩ := h.2.2.2.1
  have M1 : (xu M 0 6 0) 1 = M 1 := xu_K (by omega)
  have hph : ∀ z : Int, 0 ≤ z ∧ z ≤ 3 → f_m_isPhase z (xu M 0 6 0) = some (if m 11 8 = z then 1 else 0) := fun z hz => by rw [m_isPhase z _ (by rw [M1, s1]; exact s8) hz, M1, s1]
  have e1 : (xw (m 11 8) = xw 1) ↔ m 11 8 = 1 := by rw [b_xw (by omega), b_xw (by omega)]
  have e2 : (xw (m 11 8) = xw 2) ↔ m 11 8 = 2 := by rw [b_xw (by omega), b_xw (by omega)]
  have e3 : (xw (m 11 8) = xw 3) ↔ m 11 8 = 3 := by rw [b_xw (by omega), b_xw (by omega)]
  have eC : f_X_size w m = f_X_size_33 w m (if m 11 8 = 1 then 1 else 0) (if m 11 8 = 2 then 1 else 0) := by
    unfold f_X_size f_X_size_16
    by_cases h1 : m 11 8 = 1
    · rw [if_pos (e1.mpr h1), if_neg (fun z => by have := e2.mp z; omega), if_pos h1, if_neg (by omega)]
    · rw [if_neg (fun z => h1 (e1.mp z)), if_neg h1]
      by_cases h2 : m 11 8 = 2
      · rw [if_pos (e2.mpr h2), if_pos h2]
      · rw [if_neg (fun z => h2 (e2.mp z)), if_neg h2]
  by_cases hr : 0 ≤ w ∧ w ≤ 11
  · left
    have z0 : xw (0 : Int) = 0 := by decide
    have z1 : ¬ xw (1 : Int) = 0 := by decide
    have hx : ∀ n : Nat, n ≤ 11 → xib (n : Int) 3530 ∧ xix (n : Int) = n := fun n hn => ⟨b_ib (by omega), by rw [b_ix (by omega)]; exact Int.toNat_natCast _⟩
    rw [eC]
    rcases (by omega : w = 0 ∨ w = 1 ∨ w = 2 ∨ w = 3 ∨ w = 4 ∨ w = 5 ∨ w = 6 ∨ w = 7 ∨ w = 8 ∨ w = 9 ∨ w = 10 ∨ w = 11) with rfl | rfl | rfl | rfl | rfl | rfl | rfl | rfl | rfl | rfl | rfl | rfl
    · exact ⟨m 11 7, rfl, by rw [← s0]; rfl⟩
    · exact ⟨m 11 8, rfl, by rw [← s1]; rfl⟩
    · exact ⟨m 11 9, rfl, by rw [← s2]; rfl⟩
    · have hm : f_m_size 3 M = (f_m_rateNow (xu M 0 6 0)).bind fun q0 => some (q0, xu M 0 6 0) := rfl
      have hc : ∀ a b : Int, f_X_size_33 3 m a b = if xw b = 0 then some (-1) else some (m 11 10) := fun _ _ => rfl
      rw [hm, hc, m_rateNow _ (by rw [M1, s1]; exact s8), b_bs, M1]
      unfold bEvR
      rw [s1, s3]
      by_cases h2 : m 11 8 = 2
      · rw [if_pos h2, if_pos h2, if_neg z1]; exact ⟨_, rfl, rfl⟩
      · rw [if_neg h2, if_neg h2, if_pos z0]; exact ⟨_, rfl, rfl⟩
    · have hm : f_m_size 4 M = (f_m_isPhase 1 (xu M 0 6 0)).bind fun q1 => if xw q1 = 0 then some (-1, xu M 0 6 0) else some (M 1 4, xu M 0 6 0) := rfl
      have hc : ∀ a b : Int, f_X_size_33 4 m a b = if xw a = 0 then some (-1) else some (m 11 11) := fun _ _ => rfl
      rw [hm, hc, hph 1 (by omega), b_bs]
      by_cases h1 : m 11 8 = 1
      · obtain ⟨u4, u5, u6⟩ := s6 h1
        rw [if_pos h1, if_neg z1, if_neg z1]; exact ⟨_, rfl, by rw [u4]⟩
      · rw [if_neg h1, if_pos z0, if_pos z0]; exact ⟨_, rfl, rfl⟩
    · have hm : f_m_size 5 M = (f_m_isPhase 1 (xu M 0 6 0)).bind fun q1 => if xw q1 = 0 then some (-1, xu M 0 6 0) else some (M 1 5, xu M 0 6 0) := rfl
      have hc : ∀ a b : Int, f_X_size_33 5 m a b = if xw a = 0 then some (-1) else some (m 11 12) := fun _ _ => rfl
      rw [hm, hc, hph 1 (by omega), b_bs]
      by_cases h1 : m 11 8 = 1
      · obtain ⟨u4, u5, u6⟩ := s6 h1
        rw [if_pos h1, if_neg z1, if_neg z1]; exact ⟨_, rfl, by rw [u5]⟩
      · rw [if_neg h1, if_pos z0, if_pos z0]; exact ⟨_, rfl, rfl⟩
    · have hm : f_m_size 6 M = (f_m_isPhase 1 (xu M 0 6 0)).bind fun q1 => if xw q1 = 0 then some (-1, xu M 0 6 0) else some (M 1 6, xu M 0 6 0) := rfl
      have hc : ∀ a b : Int, f_X_size_33 6 m a b = if xw a = 0 then some (-1) else some (m 11 13) := fun _ _ => rfl
      rw [hm, hc, hph 1 (by omega), b_bs]
      by_cases h1 : m 11 8 = 1
      · obtain ⟨u4, u5, u6⟩ := s6 h1
        rw [if_pos h1, if_neg z1, if_neg z1]; exact ⟨_, rfl, by rw [u6]⟩
      · rw [if_neg h1, if_pos z0, if_pos z0]; exact ⟨_, rfl, rfl⟩
    · have hm : f_m_size 7 M = (f_m_isPhase 3 (xu M 0 6 0)).bind fun q1 => if xw q1 = 0 then some (-1, xu M 0 6 0) else some (M 1 7, xu M 0 6 0) := rfl
      have hc : ∀ a b : Int, f_X_size_33 7 m a b = if xw (m 11 8) = xw 3 then some (m 11 14) else some (-1) := fun _ _ => rfl
      rw [hm, hc, hph 3 (by omega), b_bs]
      by_cases h1 : m 11 8 = 3
      · rw [if_pos h1, if_pos (e3.mpr h1), if_neg z1, s7 h1]; exact ⟨_, rfl, rfl⟩
      · rw [if_neg h1, if_neg (fun z => h1 (e3.mp z)), if_pos z0]; exact ⟨_, rfl, rfl⟩
    · have hm : f_m_size 8 M = (f_m_isPhase 2 (xu M 0 6 0)).bind fun q1 => if xw q1 = 0 then some (0, xu M 0 6 0) else some (M 1 8, xu M 0 6 0) := rfl
      have hc : ∀ a b : Int, f_X_size_33 8 m a b = if xw b = 0 then some 0 else some (m 11 15) := fun _ _ => rfl
      rw [hm, hc, hph 2 (by omega), b_bs]
      by_cases h1 : m 11 8 = 2
      · rw [if_pos h1, if_neg z1, if_neg z1, s4]; exact ⟨_, rfl, rfl⟩
      · rw [if_neg h1, if_pos z0, if_pos z0]; exact ⟨_, rfl, rfl⟩
    · have hm : f_m_size 9 M = (f_m_isPhase 2 (xu M 0 6 0)).bind fun q1 => if xw q1 = 0 then some (0, xu M 0 6 0) else some (M 1 9, xu M 0 6 0) := rfl
      have hc : ∀ a b : Int, f_X_size_33 9 m a b = if xw b = 0 then some 0 else some (m 11 16) := fun _ _ => rfl
      rw [hm, hc, hph 2 (by omega), b_bs]
      by_cases h1 : m 11 8 = 2
      · rw [if_pos h1, if_neg z1, if_neg z1, s5]; exact ⟨_, rfl, rfl⟩
      · rw [if_neg h1, if_pos z0, if_pos z0]; exact ⟨_, rfl, rfl⟩
    · exact ⟨m 39 2, rfl, by rw [← s10]; rfl⟩
    · exact ⟨m 0 10, rfl, by rw [b2, ← b3]; rfl⟩
  · right
    have hk : ∀ k : Int, 0 ≤ k ∧ k ≤ 11 → ¬ xw w = k := fun k hk => by rw [b_xw hw]; omega
    refine ⟨?_, 0, ?_⟩
    · have h33 : ∀ a b : Int, h_X_size_33 w m a b = some 2 := fun a b => by
        unfold h_X_size_33
        rw [if_neg (hk 0 (by omega)), if_neg (hk 1 (by omega)), if_neg (hk 2 (by omega)), if_neg (hk 3 (by omega)), if_neg (hk 4 (by omega)), if_neg (hk 5 (by omega)), if_neg (hk 6 (by omega)), if_neg (hk 7 (by omega)), if_neg (hk 8 (by omega)), if_neg (hk 9 (by omega)), if_neg (hk 10 (by omega)), if_neg (hk 11 (by omega))]
      unfold h_X_size h_X_size_16
      rw [h33, h33, h33, h33]
      split <;> split <;> rfl
    · unfold f_m_size f_m_raise
      rw [if_neg (hk 0 (by omega)), if_neg (hk 1 (by omega)), if_neg (hk 2 (by omega)), if_neg (hk 3 (by omega)), if_neg (hk 4 (by omega)), if_neg (hk 5 (by omega)), if_neg (hk 6 (by omega)), if_neg (hk 7 (by omega)), if_neg (hk 8 (by omega)), if_neg (hk 9 (by omega)), if_neg (hk 10 (by omega)), if_neg (hk 11 (by omega))]
      rfl
theorem X_total_sp {G : bGt} (w : Int) (m M : xM) (h : bX G m M) (hw : bI w) : bRd (f_X_total w m) (h_X_total w m) (f_m_total w M) 2 M := by
  have z0 : xw (0 : Int) = 0 := by decide
  have z1 : ¬ xw (1 : Int) = 0 := by decide
  unfold f_X_total h_X_total f_m_total h_X_total_10
  rw [m_inR w 0 10 _ hw (by unfold bI; omega) (by unfold bI; omega), b_bs]
  by_cases hr : 0 ≤ w ∧ w ≤ 10
  · left
    obtain ⟨n, hn⟩ : ∃ n : Nat, w = n := ⟨w.toNat, by omega⟩
    have t := h.1.1.1.2.2.2.1 n (by omega)
    rw [bV11_0 m (by omega)] at t
    have hb : xib (45 + w) 3530 := b_ib (by omega)
    have hx : xix (45 + w) = 45 + n := by rw [b_ix (by omega)]; omega
    have hb2 : xib w 11 := b_ib (by omega)
    have hx2 : xix w = n := by rw [b_ix (by omega)]; omega
    rw [if_pos hr, if_neg z1, if_pos hb, hx, if_neg (show ¬ xw w < 0 by rw [b_xw hw]; omega), if_pos (show xw w < xw 11 by rw [b_xw hw, b_xw (by omega)]; omega), if_pos hb2, hx2]
    exact ⟨m 41 n, rfl, by rw [show m 41 n = M 1 (45 + n) from t.symm]⟩
  · right
    rw [if_neg hr, if_pos z0]
    refine ⟨?_, 0, rfl⟩
    by_cases c1 : xw w < 0
    · rw [if_pos c1]
    · rw [if_neg c1, if_neg (show ¬ xw w < xw 11 by rw [b_xw hw] at c1 ⊢; rw [b_xw (by omega)]; omega)]
theorem X_undoCount_sp {G : bGt} (m M : xM) (h : bX G m M) : ∃ r : Int, f_X_undoCount m = some r ∧ f_m_undoCount M = some (r, xu M 0 6 0) := by
  obtain ⟨nx, p, a1, a2, a3, -⟩ := h.2.1
  exact ⟨p, by unfold f_X_undoCount; rw [a2.1], by unfold f_m_undoCount; rw [a3]⟩
theorem X_errPos_sp {G : bGt} (m M : xM) (h : bX G m M) : ∃ r : Int, f_X_errorPosition m = some r ∧ f_m_errorPosition M = some (r, xu M 0 6 0) :=
  ⟨m 0 11, rfl, by unfold f_m_errorPosition; rw [h.2.2.2.2.1]⟩
theorem X_rateFor_sp {G : bGt} (q : Int) (m M : xM) (h : bX G m M) (hq : bI q) : bRd (f_X_rateFor q m) (h_X_rateFor q m) (f_m_rateFor q M) 1 M := by
  have z0 : xw (0 : Int) = 0 := by decide
  have z1 : ¬ xw (1 : Int) = 0 := by decide
  unfold f_X_rateFor h_X_rateFor f_m_rateFor f_X_checkQuality h_X_checkQuality h_X_checkQuality_10
  rw [m_inR q 0 9 _ hq (by unfold bI; omega) (by unfold bI; omega), b_bs]
  by_cases hr : 0 ≤ q ∧ q ≤ 9
  · left
    have h0 := h.thr 0
    obtain ⟨g, g1, g2, -⟩ := L_greatest q (xvw (bV 11) m) (xu M 0 6 0) h0.1.1.1.2.2.2.2.1
    have hv : ∀ k, k ≤ 4 → xvw bT5 (xvw (bV 11) m) k = xvw [1, 2, 3, 4, 5] m k := fun k hk => by
      rcases (by omega : k = 0 ∨ k = 1 ∨ k = 2 ∨ k = 3 ∨ k = 4) with rfl | rfl | rfl | rfl | rfl <;> rfl
    have hg : f_S_greatest q (xvw [1, 2, 3, 4, 5] m) = some g := by
      rw [← g1]
      have h40 := hv 0 (by omega)
      have h42 := hv 2 (by omega)
      have : ∀ (n : Nat) (a b : Int), f_S_greatest_4 q (xvw [1, 2, 3, 4, 5] m) n a b = f_S_greatest_4 q (xvw bT5 (xvw (bV 11) m)) n a b := by
        intro n
        induction n with
        | zero => intro a b; rfl
        | succ n ih =>
          intro a b
          rw [f_S_greatest_4, f_S_greatest_4, h40, h42]
          have e : f_S_greatest_33 q (xvw [1, 2, 3, 4, 5] m) (f_S_greatest_4 q (xvw [1, 2, 3, 4, 5] m) n) = f_S_greatest_33 q (xvw bT5 (xvw (bV 11) m)) (f_S_greatest_4 q (xvw bT5 (xvw (bV 11) m)) n) := by
            funext a b
            unfold f_S_greatest_33
            exact ih _ _
          rw [e]
      unfold f_S_greatest
      exact this _ _ _
    rw [if_pos hr, if_neg z1, g2, b_bs, if_neg (show ¬ xw q < 0 by rw [b_xw hq]; omega), if_neg (show ¬ xw 9 < xw q by rw [b_xw hq, b_xw (by omega)]; omega), b_bs, hg, b_bs]
    exact ⟨g, rfl, rfl⟩
  · right
    rw [if_neg hr, if_pos z0]
    refine ⟨?_, 0, rfl⟩
    by_cases c1 : xw q < 0
    · rw [if_pos c1]; rfl
    · rw [if_neg c1, if_pos (show xw 9 < xw q by rw [b_xw hq] at c1 ⊢; rw [b_xw (by omega)]; omega)]; rfl

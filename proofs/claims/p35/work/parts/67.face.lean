/-! ===== operations: dialling, hanging up, qualities, escapes, sending ===== -/
def bOk (G : bGt) (fc fm : Option (Int × xM)) : Prop := ∃ (r : Int) (m' M' : xM), fc = some (r, m') ∧ fm = some (r, M') ∧ M' 0 6 = 0 ∧ bX G m' M'
def bTh (G : bGt) (hc : Option Nat) (fm : Option (Int × xM)) (k : Nat) (t : Int) (m : xM) : Prop := hc = some k ∧ ∃ (r : Int) (M' : xM), fm = some (r, M') ∧ M' 0 6 = t ∧ bX G m M'
theorem bV11_0 (m : xM) {i : Nat} (hi : i < 33) : xvw (bV 11) m i = m (11 + i) := by show m (xT (bV 11) i) = _; rw [bV_lo 11 (by omega) hi]
theorem bV11_5 (m : xM) {i : Nat} (hi : 33 ≤ i ∧ i ≤ 37) : xvw (bV 11) m i = m (i - 32) := by show m (xT (bV 11) i) = _; rw [bV_hi 11 hi]
theorem bV11_u (m : xM) {k0 j : Nat} {v : Int} (h0 : k0 < 33) : ∀ k, k ≤ 37 → xvw (bV 11) (xu m (11 + k0) j v) k = xu (xvw (bV 11) m) k0 j v k := fun k hk => by
  by_cases h : k < 33
  · rw [bV11_0 _ h]
    by_cases hkk : k = k0
    · subst hkk
      unfold xu
      rw [if_pos rfl, if_pos rfl, bV11_0 m h]
    · rw [xu_K (by omega), xu_K hkk, bV11_0 m h]
  · rw [bV11_5 _ ⟨by omega, hk⟩, xu_K (by omega), xu_K (by omega), bV11_5 m ⟨by omega, hk⟩]
/-- one number of the line is set, in both -/
theorem bX.set {G : bGt} {m M M' : xM} {k0 j : Nat} {v : Int} (h : bX G m M) (h0 : k0 < 33) (hl : bLine (xu (xvw (bV 11) m) k0 j v) M') (ht : xu (xvw (bV 11) m) k0 j v 0 7 ≤ 99999) (hM : bMK M M') : bX G (xu m (11 + k0) j v) M' := by
  have hv := bV11_u m (k0 := k0) (j := j) (v := v) h0
  refine h.line ?_ (fun k hk => xu_K (by omega)) (fun k h0 h1 h3 h6 => hM.1 k h0 h1 h6) (fun j h6 h9 => hM.2 j h9)
  exact ⟨hl.eqv hv, by rw [hv 0 (by omega)]; exact ht⟩
theorem bX.ph {G : bGt} {m M : xM} (h : bX G m M) : M 1 1 = m 11 8 ∧ 0 ≤ m 11 8 ∧ m 11 8 ≤ 3 := by
  have a : M 1 1 = xvw (bV 11) m 0 8 := h.1.1.1.2.2.2.2.2.2.1
  have b := h.1.1.1.2.2.2.2.2.2.2.2.2.2.2.2.2.1
  rw [bV11_0 m (by omega)] at a b
  exact ⟨a, b⟩
theorem X_dial_sp {G : bGt} (m M : xM) (h : bX G m M) : bOk G (f_X_dial m) (f_m_dial M) := by
  have h0 := h.thr 0
  obtain ⟨M0, hM0⟩ : ∃ Z, Z = xu M 0 6 0 := ⟨_, rfl⟩
  rw [← hM0] at h0
  have t0 : M0 0 6 = 0 := by rw [hM0, xu_s rfl]
  obtain ⟨s1, s8⟩ := h0.ph
  have z0 : xw (0 : Int) = 0 := by decide
  have z1 : ¬ xw (1 : Int) = 0 := by decide
  have e8 : (xw (m 11 8) = 0) ↔ m 11 8 = 0 := by rw [b_xw (by omega)]
  unfold f_X_dial f_m_dial
  rw [← hM0, m_isPhase 0 M0 (by rw [s1]; exact s8) (by omega), b_bs, s1]
  by_cases hp : m 11 8 = 0
  · rw [if_pos (e8.mpr hp), if_pos hp, if_neg z1]
    obtain ⟨m1, M1, p1, p2, p3, p4, p5, p6, p7⟩ := X_push_sp m M0 h0
    have v0 : xvw (bV 11) m1 0 = m 11 := by rw [bV11_0 m1 (by omega)]; exact p4 11 (by omega) (by omega)
    obtain ⟨m2, M2, q1, q2, q3, q4, q5, q6⟩ := L_call_sp (xvw (bV 11) m1) M1 p3.1.1 (by rw [v0]; exact hp)
    have hput := p3.put q5 q3 (by rw [q4]; exact p3.1.2) q6
    have ho := (bV_put (m := m1) (q := m2) 11 (by omega) (by omega) q5 bT11).2
    have v36 : xvw (bV 11) m1 36 = m1 4 := bV11_5 m1 ⟨by omega, by omega⟩
    have w4 : xvw [1, 2, 3, 4, 5] (xmg (bV 11) 38 m1 m2) 3 = m1 4 := by
      show xmg (bV 11) 38 m1 m2 4 = _
      exact ho 4 (by omega)
    have hS : f_S_ticks (xvw [1, 2, 3, 4, 5] (xmg (bV 11) 38 m1 m2)) = some (m1 4 0 + m1 4 1 + m1 4 2 + m1 4 3) := by
      unfold f_S_ticks
      rw [if_pos (show xib 0 4 from b_ib (by omega)), if_pos (show xib 1 4 from b_ib (by omega)), if_pos (show xib 2 4 from b_ib (by omega)), if_pos (show xib 3 4 from b_ib (by omega)), w4]
    rw [v36] at q2
    refine ⟨m1 4 0 + m1 4 1 + m1 4 2 + m1 4 3, xmg (bV 11) 38 m1 m2, M2, ?_, ?_, by rw [q6.2 6 (by omega), p7 6 (by omega), t0], hput⟩
    · rw [p1, b_bs, bV_25, q1, b_bs, hS, b_bs]
    · rw [p2, b_bs, q2]
  · rw [if_neg (fun z => hp (e8.mp z)), if_neg hp, if_pos z0]
    exact ⟨-2, m, M0, rfl, rfl, t0, h0⟩
theorem X_hangUp_sp {G : bGt} (m M : xM) (h : bX G m M) : bOk G (f_X_hangUp m) (f_m_hangUp M) := by
  have h0 := h.thr 0
  obtain ⟨M0, hM0⟩ : ∃ Z, Z = xu M 0 6 0 := ⟨_, rfl⟩
  rw [← hM0] at h0
  have t0 : M0 0 6 = 0 := by rw [hM0, xu_s rfl]
  obtain ⟨s1, s8⟩ := h0.ph
  have z0 : xw (0 : Int) = 0 := by decide
  have z1 : ¬ xw (1 : Int) = 0 := by decide
  have e8 : (xw (m 11 8) = 0) ↔ m 11 8 = 0 := by rw [b_xw (by omega)]
  unfold f_X_hangUp f_m_hangUp
  rw [← hM0, m_isPhase 0 M0 (by rw [s1]; exact s8) (by omega), b_bs, s1]
  by_cases hp : m 11 8 = 0
  · rw [if_pos (e8.mpr hp), if_pos hp, if_neg z1]
    exact ⟨-2, m, M0, rfl, rfl, t0, h0⟩
  · rw [if_neg (fun z => hp (e8.mp z)), if_neg hp, if_pos z0]
    obtain ⟨m1, M1, p1, p2, p3, p4, p5, p6, p7⟩ := X_push_sp m M0 h0
    obtain ⟨r, l1, l2⟩ := L_lost_sp (xvw (bV 11) m1) M1 p3.1.1
    obtain ⟨m2, M2, q1, q2, q3, q4, q5, q6⟩ := L_hang_sp (xvw (bV 11) m1) M1 p3.1.1
    have hput := p3.put q5 q3 (by rw [q4]; exact p3.1.2) q6
    refine ⟨r, xmg (bV 11) 38 m1 m2, M2, ?_, ?_, by rw [q6.2 6 (by omega), p7 6 (by omega), t0], hput⟩
    · rw [p1, b_bs, bV_25, l1, b_bs, q1, b_bs]
    · rw [p2, b_bs, l2, b_bs, q2, b_bs]
theorem X_setQ_sp {G : bGt} (q : Int) (m M : xM) (h : bX G m M) (hq : bI q) : bOk G (f_X_setQuality q m) (f_m_setQuality q M) ∨ bTh G (h_X_setQuality q m) (f_m_setQuality q M) 1 1 m := by
  have h0 := h.thr 0
  obtain ⟨M0, hM0⟩ : ∃ Z, Z = xu M 0 6 0 := ⟨_, rfl⟩
  rw [← hM0] at h0
  have t0 : M0 0 6 = 0 := by rw [hM0, xu_s rfl]
  have z0 : xw (0 : Int) = 0 := by decide
  have z1 : ¬ xw (1 : Int) = 0 := by decide
  by_cases hr : 0 ≤ q ∧ q ≤ 9
  · left
    obtain ⟨m1, M1, p1, p2, p3, p4, p5, p6, p7⟩ := X_push_sp m M0 h0
    have v0 : xvw (bV 11) m1 0 = m1 11 := bV11_0 m1 (by omega)
    have n2 : M1 1 2 = m1 11 9 := by
      have a : M1 1 2 = xvw (bV 11) m1 0 9 := p3.1.1.1.2.2.2.2.2.2.2.1
      rw [v0] at a; exact a
    have i2 : xib 2 3530 := b_ib (by omega)
    have hs := p3.set (k0 := 0) (j := 9) (v := q) (M' := xu M1 1 2 q) (by omega) (p3.1.1.qual q hr) (by rw [xu_d (by omega)]; exact p3.1.2) (bMK.of fun k hk => xu_K hk)
    refine ⟨m1 11 9, xu m1 11 9 q, xu M1 1 2 q, ?_, ?_, by rw [xu_k (by omega), p7 6 (by omega), t0], hs⟩
    · unfold f_X_setQuality f_X_checkQuality
      rw [if_neg (by rw [b_xw hq]; omega), if_neg (by rw [b_xw hq, b_xw (by omega)]; omega), b_bs, p1, b_bs]
    · unfold f_m_setQuality
      rw [← hM0, m_inR q 0 9 _ hq (by unfold bI; omega) (by unfold bI; omega), b_bs, if_pos hr, if_neg z1, p2, b_bs, if_pos i2, if_pos i2, n2]
  · right
    refine ⟨?_, 0, xu M0 0 6 1, ?_, by rw [xu_s rfl], h0.thr 1⟩
    · unfold h_X_setQuality h_X_checkQuality h_X_checkQuality_10
      by_cases c1 : xw q < 0
      · rw [if_pos c1]; rfl
      · rw [if_neg c1]
        by_cases c2 : xw 9 < xw q
        · rw [if_pos c2]; rfl
        · exfalso
          rw [b_xw hq] at c1
          rw [b_xw hq, b_xw (by omega)] at c2
          omega
    · unfold f_m_setQuality f_m_raise
      rw [← hM0, m_inR q 0 9 _ hq (by unfold bI; omega) (by unfold bI; omega), b_bs, if_neg hr, if_pos z0, b_bs]
theorem X_esc_sp {G : bGt} (e b : Int) (m M : xM) (h : bX G m M) (he : bI e) (hb : b = 0 ∨ b = 1) : bOk G (f_X_setEscaped e b m) (f_m_setEscaped e b M) ∨ bTh G (h_X_setEscaped e b m) (f_m_setEscaped e b M) 2 1 m := by
  have h0 := h.thr 0
  obtain ⟨M0, hM0⟩ : ∃ Z, Z = xu M 0 6 0 := ⟨_, rfl⟩
  rw [← hM0] at h0
  have t0 : M0 0 6 = 0 := by rw [hM0, xu_s rfl]
  have z0 : xw (0 : Int) = 0 := by decide
  have z1 : ¬ xw (1 : Int) = 0 := by decide
  obtain ⟨s1, s8⟩ := h0.ph
  by_cases hr : e = 0 ∨ e = 1
  · left
    obtain ⟨en, hen⟩ : ∃ en : Nat, e = en := ⟨e.toNat, by omega⟩
    have hen2 : en < 2 := by omega
    -- the class, for this end
    have eC : f_X_setEscaped e b m = (if xw (m 11 8) = xw 2 then (if xw (m (12 + 11 * en) 9) = xw b then some ((-3), m) else (f_X_remember m).bind fun q3 => if xbz b then some (q3 (12 + 11 * en) 5, xu q3 (12 + 11 * en) 9 b) else none) else some ((-2), m)) := by
      unfold f_X_setEscaped f_X_checkEnd
      rcases hr with rfl | rfl
      · have : en = 0 := by omega
        subst this
        rw [if_pos z0, b_bs]
        simp only [if_pos z0]
      · have : en = 1 := by omega
        subst this
        have w1 : xw (1 : Int) = xw 1 := rfl
        have w2 : xw (1 : Int) = 1 := by decide
        rw [if_neg z1, if_pos w1, b_bs]
        simp only [if_neg z1, if_pos w2]
    have eM : f_m_setEscaped e b M = (if xw (if M0 1 1 = 2 then (1 : Int) else 0) = 0 then some ((-2), M0) else (if xw (M0 1 (56 + 717 * en + 6)) = xw b then some ((-3), M0) else (f_m_record M0).bind fun q3 => some (xu q3 1 (56 + 717 * en + 6) b 1 (56 + 717 * en), xu q3 1 (56 + 717 * en + 6) b))) := by
      unfold f_m_setEscaped
      rw [← hM0, m_isEn e _ he, b_bs, if_pos hr, if_neg z1, m_isPhase 2 M0 (by rw [s1]; exact s8) (by omega), b_bs, hen]
      congr 1
      rw [m_of (i := 56 + 717 * en + 6) M0 (by omega) (by omega), b_bs]
      congr 2
      funext q3
      rw [m_endAt (i := 56 + 717 * en + 6) _ (by omega), b_bs, if_pos (b_ib (by omega)), b_ix (by omega), Int.toNat_natCast, m_of (i := 56 + 717 * en) _ (by omega) (by omega), b_bs]
    rw [eC, eM, s1]
    by_cases hp : m 11 8 = 2
    · rw [if_pos (show xw (m 11 8) = xw 2 by rw [hp]), if_pos hp, if_neg z1]
      have n6 : M0 1 (56 + 717 * en + 6) = m (12 + 11 * en) 9 := by
        rcases (by omega : en = 0 ∨ en = 1) with rfl | rfl
        · have a : M0 1 62 = xvw (bV 11) m 1 9 := h0.1.1.1.1.2.2.2.2.2.2.2.1
          rw [bV11_0 m (by omega)] at a; exact a
        · have a : M0 1 779 = xvw (bV 11) m 12 9 := h0.1.1.1.2.1.2.2.2.2.2.2.2.1
          rw [bV11_0 m (by omega)] at a; exact a
      rw [n6]
      by_cases hs : xw (m (12 + 11 * en) 9) = xw b
      · rw [if_pos hs, if_pos hs]
        exact ⟨-3, m, M0, rfl, rfl, t0, h0⟩
      · rw [if_neg hs, if_neg hs]
        obtain ⟨m1, M1, p1, p2, p3, p4, p5, p6, p7⟩ := X_push_sp m M0 h0
        have zb : xbz b := by rcases hb with rfl | rfl <;> decide
        have hs := p3.set (k0 := 1 + 11 * en) (j := 9) (v := b) (M' := xu M1 1 (56 + 717 * en + 6) b) (by omega) (p3.1.1.escp en b hen2 hb) (by rw [xu_k (by omega)]; exact p3.1.2) (bMK.of fun k hk => xu_K hk)
        rw [show 11 + (1 + 11 * en) = 12 + 11 * en by omega] at hs
        have n0 : M1 1 (56 + 717 * en) = m1 (12 + 11 * en) 5 := by
          rcases (by omega : en = 0 ∨ en = 1) with rfl | rfl
          · obtain ⟨q, x1, x2, x3, -⟩ := p3.1.1.1.1.2.2.2.1
            rw [bV11_0 m1 (by omega)] at x2
            have x3' : M1 1 56 = (q : Int) := x3
            show M1 1 56 = m1 12 5
            rw [x3']; exact x2.symm
          · obtain ⟨q, x1, x2, x3, -⟩ := p3.1.1.1.2.1.2.2.2.1
            rw [bV11_0 m1 (by omega)] at x2
            have x3' : M1 1 773 = (q : Int) := x3
            show M1 1 773 = m1 23 5
            rw [x3']; exact x2.symm
        refine ⟨m1 (12 + 11 * en) 5, xu m1 (12 + 11 * en) 9 b, xu M1 1 (56 + 717 * en + 6) b, ?_, ?_, by rw [xu_k (by omega), p7 6 (by omega), t0], hs⟩
        · rw [p1, b_bs, if_pos zb]
        · rw [p2, b_bs, xu_d (by omega), n0]
    · rw [if_neg (show ¬ xw (m 11 8) = xw 2 by rw [b_xw (by omega), b_xw (by omega)]; exact hp), if_neg hp, if_pos z0]
      exact ⟨-2, m, M0, rfl, rfl, t0, h0⟩
  · right
    have c0 : ¬ xw e = 0 := by rw [b_xw he]; omega
    have c1 : ¬ xw e = xw 1 := by rw [b_xw he, b_xw (by omega)]; omega
    refine ⟨?_, 0, xu M0 0 6 1, ?_, by rw [xu_s rfl], h0.thr 1⟩
    · unfold h_X_setEscaped h_X_checkEnd
      rw [if_neg c0, if_neg c1]; rfl
    · unfold f_m_setEscaped f_m_raise
      rw [← hM0, m_isEn e _ he, b_bs, if_neg hr, if_pos z0, b_bs]

/-! ===== all that an end sends in a tick ===== -/
theorem L_step_sp (e f c : Nat) (lo hi : Int) (m M : xM) (he : e < 2) (h : bRL e m (M 1)) (hw : bWire e m (M 1) lo hi f c) (ht : 0 ≤ m 0 7 ∧ m 0 7 < hi) (hlo : lo ≤ m 0 7) (hF : m 4 3 ≤ 900000000) (hcr : 0 ≤ m 1 8 ∧ m 1 8 ≤ 1000) (h30 : 0 ≤ m 30 0 ∧ m 30 0 < 1000000000) :
    ∃ (r : Int) (m' M' : xM) (c' : Nat), f_L_sendNext (e : Int) m = some (r, m') ∧ bStep (e : Int) M = some (r, M') ∧ bRL e m' (M' 1) ∧ bWire e m' (M' 1) lo hi f c' ∧ bSnd 1 m m' ∧ ((r = 0 ∧ m' 4 5 = m 4 5) ∨ (r = 1 ∧ m' 4 5 = m 4 5 + 1)) ∧ bMK M M' := by
  obtain ⟨o, ho⟩ : ∃ o : Nat, o = 56 + 717 * e := ⟨_, rfl⟩
  obtain ⟨r1, r2, r3, r4, r5, r6⟩ := id h
  rw [← ho] at r1
  obtain ⟨F, C, S, a1, a2, a3, a4, a5, a6, a7, a8, a9⟩ := id r1.1
  rw [show (1 + 3 : Nat) = 4 from rfl] at a1 a2 a3
  obtain ⟨-, -, -, ⟨y14, w14, w14'⟩, -⟩ := id r5
  obtain ⟨q, i1, i2, i3, i4⟩ := id r1.2.2.2.1
  have hfr : ∀ p, p < C → M 1 (o + 26 + 13 * p + 3) = (if p < S then 0 else 1) := fun p hp => (a9 p hp).2.2.2.2.1
  have hb : ∀ p, p < C → M 1 (o + 26 + 13 * p + 3) = 0 ∨ M 1 (o + 26 + 13 * p + 3) = 1 := fun p hp => by rw [hfr p hp]; split <;> omega
  have hft := firstThat_sp 1 e o C S M he ho a5 a7 a4 (Or.inr rfl) hb (fun p hp => by rw [hfr p (by omega), if_pos hp]; decide) (fun hz => by rw [hfr S hz, if_neg (by omega)])
  unfold bStep
  rw [hft, b_bs]
  by_cases hSC : S < C
  · have q1 : ¬ xw (S : Int) = xw (-1) := by rw [b_xw (by omega), b_xw (by omega)]; omega
    rw [if_pos hSC, if_neg q1]
    exact L_again_sp e f c F C S lo hi m M he h hw ht hlo a1 a2 a3 hSC a5 a6 hcr h30
  · have hSC' : S = C := by omega
    subst hSC'
    rw [if_neg hSC, if_pos rfl]
    by_cases hgo : ((S : Int) < m 33 9) ∧ 0 < q
    · exact L_new_sp e f c F S q lo hi m M he h hw ht hlo a1 a2 a3 (by omega) i2 hgo.2 i1 (by omega) hcr h30 hgo.1
    · refine ⟨0, m, M, c, ?_, ?_, h, hw, ⟨rfl, rfl, Int.le_refl _, ⟨rfl, rfl, rfl⟩, ⟨hcr.1, Int.le_refl _⟩, ⟨Int.le_refl _, by omega⟩, fun _ _ _ => rfl, fun _ _ _ => rfl⟩, Or.inl ⟨rfl, rfl⟩, bMK.refl M⟩
      · unfold f_L_sendNext f_L_sendNext_27
        have q1 : xw (m 4 5) = xw (m 4 4) := by rw [a2, a3]
        have q0 : ¬ xw 1 = 0 := by decide
        rw [if_pos q1, if_neg q0]
        by_cases h1 : xw (m 4 4) < xw (m 33 9)
        · rw [if_pos h1]
          rw [a2, b_xw (by omega), b_xw (by omega)] at h1
          have h2 : xw (m 1 5) = 0 := by rw [i2, b_xw (by omega)]; omega
          rw [if_pos h2]
        · rw [if_neg h1]
      · unfold f_m_sendNew
        have x14 : xib 14 3530 := b_ib (by omega)
        rw [m_of (i := o) M (by omega) (by omega), b_bs, m_of (i := o + 1) M (by omega) (by omega), b_bs, if_pos x14, i3, a7, y14]
        by_cases h1 : xw (S : Int) < xw (m 33 9)
        · rw [if_pos h1]
          rw [b_xw (by omega), b_xw (by omega)] at h1
          have h2 : xw (if xw (q : Int) < xw 8 then (q : Int) else 8) = 0 := by
            have : q = 0 := by omega
            subst this
            decide
          rw [if_pos h2]
        · rw [if_neg h1]
theorem sendAll_56 (e : Int) (n : Nat) (M : xM) : f_m_sendAll_56 e (n + 1) 1 M = (bStep e M).bind fun q => f_m_sendAll_56 e n q.1 q.2 := by
  have q0 : ¬ xw 1 = 0 := by decide
  rw [f_m_sendAll_56, if_neg q0]
  unfold bStep
  cases hq : f_m_firstThat e 1 M with
  | none => rfl
  | some q3 =>
    rw [b_bs, b_bs]
    by_cases q1 : xw q3 = xw (-1)
    · rw [if_pos q1, if_pos q1]; rfl
    · rw [if_neg q1, if_neg q1]; rfl
theorem L_loop_sp (e f : Nat) (lo hi : Int) (he : e < 2) : ∀ (k x n n' c : Nat) (m M : xM), x + k = 7 → k < n → k + 1 < n' → bRL e m (M 1) → bWire e m (M 1) lo hi f c → (0 ≤ m 0 7 ∧ m 0 7 < hi) → lo ≤ m 0 7 → m 4 3 ≤ 900000000 → (0 ≤ m 1 8 ∧ m 1 8 ≤ 1000) → (0 ≤ m 30 0 ∧ m 30 0 + k < 1000000000) → (x : Int) ≤ m 4 5 →
    ∃ (m' M' : xM) (c' : Nat), f_L_sendFrom_52 (e : Int) n 1 (x : Int) m = some m' ∧ f_m_sendAll_56 (e : Int) n' 1 M = some M' ∧ bRL e m' (M' 1) ∧ bWire e m' (M' 1) lo hi f c' ∧ bSnd k m m' ∧ bMK M M' := by
  intro k
  induction k with
  | zero =>
    intro x n n' c m M h1 h2 h3 h hw ht hlo hF hcr h30 hx
    obtain ⟨n, rfl⟩ : ∃ z, n = z + 1 := ⟨n - 1, by omega⟩
    obtain ⟨n', rfl⟩ : ∃ z, n' = z + 1 := ⟨n' - 1, by omega⟩
    obtain ⟨n', rfl⟩ : ∃ z, n' = z + 1 := ⟨n' - 1, by omega⟩
    obtain ⟨r, m', M', c', p1, p2, p3, p4, p5, p6, p7⟩ := L_step_sp e f c lo hi m M he h hw ht hlo hF hcr ⟨h30.1, by omega⟩
    obtain ⟨F, C, S, a1, a2, a3, a4, a5, -⟩ := id p3.1.1
    rw [show (1 + 3 : Nat) = 4 from rfl] at a1 a2 a3
    have hr : r = 0 := by
      rcases p6 with ⟨q1, q2⟩ | ⟨q1, q2⟩
      · exact q1
      · exfalso; omega
    subst hr
    refine ⟨m, M', c', ?_, ?_, ?_⟩
    · rw [f_L_sendFrom_52, if_neg (by rw [b_xw (by omega), b_xw (by omega)]; omega)]
    · rw [sendAll_56, p2, b_bs]
      dsimp only
      rw [f_m_sendAll_56, if_pos (by decide)]
    · -- nothing changed in the class, and what the reference changed is not seen
      obtain ⟨F0, C0, S0, e1, e2, e3, e4, e5, e6, e7, -⟩ := id h.1.1
      rw [show (1 + 3 : Nat) = 4 from rfl] at e1 e2 e3
      have hS : S0 = 7 := by omega
      have hC : C0 = 7 := by omega
      obtain ⟨o, ho⟩ : ∃ o : Nat, o = 56 + 717 * e := ⟨_, rfl⟩
      obtain ⟨-, -, -, ⟨y14, w14, w14'⟩, -⟩ := id h.2.2.2.2.1
      rw [← ho] at e7
      have hfr : ∀ p, p < C0 → M 1 (o + 26 + 13 * p + 3) = 0 := fun p hp => by
        obtain ⟨F1, C1, S1, b1, b2, b3, b4, b5, b6, b7, b8, b9⟩ := id h.1.1
        rw [show (1 + 3 : Nat) = 4 from rfl] at b1 b2 b3
        rw [ho]
        have := (b9 p (by omega)).2.2.2.2.1
        rw [if_pos (by omega)] at this
        exact this
      have hft := firstThat_sp 1 e o C0 C0 M he ho (by omega) e7 (Nat.le_refl _) (Or.inr rfl) (fun p hp => Or.inl (hfr p hp)) (fun p hp => by rw [hfr p hp]; decide) (fun hz => absurd hz (Nat.lt_irrefl _))
      have hM : bStep (e : Int) M = some (0, M) := by
        unfold bStep f_m_sendNew
        have x14 : xib 14 3530 := b_ib (by omega)
        have q1 : ¬ xw (C0 : Int) < xw (m 33 9) := by rw [b_xw (by omega), b_xw (by omega)]; omega
        rw [hft, b_bs, if_neg (Nat.lt_irrefl _), if_pos rfl, m_of (i := o) M (by omega) (by omega), b_bs, m_of (i := o + 1) M (by omega) (by omega), b_bs, if_pos x14, e7, y14, if_neg q1]
      rw [hM] at p2
      have hMM : M = M' := by
        have := Option.some.inj p2
        exact congrArg Prod.snd this
      have hmm : c' = c' := rfl
      subst hMM
      refine ⟨h, ?_, ⟨rfl, rfl, Int.le_refl _, ⟨rfl, rfl, rfl⟩, ⟨hcr.1, Int.le_refl _⟩, ⟨Int.le_refl _, by omega⟩, fun _ _ _ => rfl, fun _ _ _ => rfl⟩, bMK.refl M⟩
      have q20 := p4.1.2.2.2
      have q20' := hw.1.2.2.2
      have hcc : c' = c := by omega
      rw [hcc]
      exact hw
  | succ k ih =>
    intro x n n' c m M h1 h2 h3 h hw ht hlo hF hcr h30 hx
    obtain ⟨n, rfl⟩ : ∃ z, n = z + 1 := ⟨n - 1, by omega⟩
    obtain ⟨n', rfl⟩ : ∃ z, n' = z + 1 := ⟨n' - 1, by omega⟩
    obtain ⟨r, m1, M1, c1, p1, p2, p3, p4, p5, p6, p7⟩ := L_step_sp e f c lo hi m M he h hw ht hlo hF hcr ⟨h30.1, by omega⟩
    have q7 : xw (x : Int) < xw 7 := by rw [b_xw (by omega), b_xw (by omega)]; omega
    have q0 : ¬ xw 1 = 0 := by decide
    have z0 : xw (0 : Int) = 0 := by decide
    rw [f_L_sendFrom_52, if_pos q7, if_neg q0, p1, b_bs, sendAll_56, p2, b_bs]
    dsimp only
    obtain ⟨s1, s2, s3, ⟨s4, s5, s6⟩, ⟨s7, s8⟩, ⟨s9, s10⟩, s11, s12⟩ := id p5
    rcases p6 with ⟨q1, q2⟩ | ⟨q1, q2⟩
    · subst q1
      obtain ⟨n, rfl⟩ : ∃ z, n = z + 1 := ⟨n - 1, by omega⟩
      obtain ⟨n', rfl⟩ : ∃ z, n' = z + 1 := ⟨n' - 1, by omega⟩
      refine ⟨m1, M1, c1, ?_, ?_, p3, p4, ⟨s1, s2, s3, ⟨s4, s5, s6⟩, ⟨s7, s8⟩, ⟨s9, by omega⟩, s11, s12⟩, p7⟩
      · rw [f_L_sendFrom_52]
        by_cases h9 : xw ((x : Int) + 1) < xw 7
        · rw [if_pos h9, if_pos z0]
        · rw [if_neg h9]
      · rw [f_m_sendAll_56, if_pos z0]
    · subst q1
      rw [show (x : Int) + 1 = ((x + 1 : Nat) : Int) by omega]
      obtain ⟨m2, M2, c2, t1, t2, t3, t4, t5, t6⟩ := ih (x + 1) n n' c1 m1 M1 (by omega) (by omega) (by omega) p3 p4 (by rw [s1]; exact ht) (by rw [s1]; exact hlo) (by omega) (by omega) (by omega) (by omega)
      refine ⟨m2, M2, c2, t1, t2, t3, t4, ?_, p7.trans t6⟩
      have := p5.trans t5
      rw [show (1 : Int) + (k : Int) = ((k + 1 : Nat) : Int) by omega] at this
      exact this
/-- what an end's sending leaves of the line -/
def bSnf (m m' : xM) : Prop := m' 0 = m 0 ∧ m' 4 3 = m 4 3 ∧ m 4 4 ≤ m' 4 4 ∧ (m' 1 6 = m 1 6 ∧ m' 1 7 = m 1 7) ∧ (0 ≤ m' 1 8 ∧ m' 1 8 ≤ 108) ∧ (m 30 0 ≤ m' 30 0 ∧ m' 30 0 ≤ m 30 0 + 7) ∧ (∀ k, 12 ≤ k → k ≤ 22 → m' k = m k) ∧ ∀ k, 33 ≤ k → k ≤ 37 → m' k = m k
theorem L_sendFrom_sp (e f c : Nat) (lo hi : Int) (m M : xM) (he : e < 2) (h : bRL e m (M 1)) (hw : bWire e m (M 1) lo hi f c) (ht : 0 ≤ m 0 7 ∧ m 0 7 < hi) (hlo : lo ≤ m 0 7) (hF : m 4 3 ≤ 900000000) (hcr : 0 ≤ m 1 8 ∧ m 1 8 ≤ 108) (h30 : 0 ≤ m 30 0 ∧ m 30 0 < 900000000) :
    ∃ (m' M' : xM) (c' : Nat), f_L_sendFrom (e : Int) m = some m' ∧ f_m_sendAll (e : Int) M = some M' ∧ bRL e m' (M' 1) ∧ bWire e m' (M' 1) lo hi f c' ∧ bSnf m m' ∧ bMK M M' := by
  obtain ⟨o, ho⟩ : ∃ o : Nat, o = 56 + 717 * e := ⟨_, rfl⟩
  obtain ⟨r1, r2, r3, r4, r5, r6⟩ := id h
  rw [← ho] at r1
  obtain ⟨s0, s1, s2, s3, s4, s5, s6, s7, s8, s9, s10⟩ := id r6
  obtain ⟨⟨y11, w11, w11'⟩, -, -, -, -, -, -, -, -, -, -, yn⟩ := id r5
  obtain ⟨t1, t2, t3, t4, t5, t6⟩ := id r1.2.2.2.2.2
  obtain ⟨z, hz⟩ : ∃ z : Nat, m 0 10 = z := ⟨(m 0 10).toNat, by omega⟩
  obtain ⟨n35, n40, w4, w80, -⟩ := yn z (by omega)
  obtain ⟨sp, hsp⟩ : ∃ sp : Int, m 34 z = sp := ⟨_, rfl⟩
  rw [hsp] at n35 w4 w80
  obtain ⟨cr, hcr'⟩ : ∃ cr : Int, cr = if m 1 8 + sp < sp + 28 then m 1 8 + sp else sp + 28 := ⟨_, rfl⟩
  have hcrb : 0 ≤ cr ∧ cr ≤ 108 := by rw [hcr']; split <;> omega
  obtain ⟨m1, hm1⟩ : ∃ Z, Z = xu m 1 8 cr := ⟨_, rfl⟩
  obtain ⟨M1, hM1⟩ : ∃ Z, Z = xu M 1 (o + 5) cr := ⟨_, rfl⟩
  have v1 : xvw bT5 m 1 = m 34 := rfl
  have eC : f_L_sendFrom (e : Int) m = f_L_sendFrom_52 (e : Int) fu (if m 1 9 = 0 then 1 else 0) 0 m1 := by
    unfold f_L_sendFrom f_S_speed
    have q1 : ¬ xw (z : Int) < 0 := by rw [b_xw (by omega)]; omega
    have q2 : xw (z : Int) < xw 5 := by rw [b_xw (by omega), b_xw (by omega)]; omega
    have q3 : (if xw (sp + 28) < xw (m 1 8 + sp) then sp + 28 else m 1 8 + sp) = cr := by
      rw [b_xw (by omega), b_xw (by omega), hcr']
      split <;> split <;> omega
    rw [hz, if_neg q1, if_pos q2, if_pos (b_ib (by omega)), b_ix (by omega), Int.toNat_natCast, v1, hsp, b_bs, q3, ← hm1]
    unfold f_L_sendFrom_35 f_L_sendFrom_47
    have q9 : m1 1 9 = m 1 9 := by rw [hm1, xu_d (by omega)]
    rw [q9]
    rcases t5 with q | q
    · rw [q, if_pos (by decide), if_pos rfl]
    · rw [q, if_neg (by decide), if_neg (by decide)]
  have eM : f_m_sendAll (e : Int) M = f_m_sendAll_56 (e : Int) fu (if m 1 9 = 0 then 1 else 0) M1 := by
    unfold f_m_sendAll
    have i3 : xib 3 3530 := b_ib (by omega)
    have x3 : M 1 3 = (z : Int) := by rw [s3, hz]
    have hb : xib (35 + M 1 3) 3530 := by rw [x3]; exact b_ib (by omega)
    have hx : xix (35 + M 1 3) = 35 + z := by rw [x3, b_ix (by omega)]; omega
    have hb5 : xib ((o + 5 : Nat) : Int) 3530 := b_ib (by omega)
    have hx5 : xix ((o + 5 : Nat) : Int) = o + 5 := by rw [b_ix (by omega)]; exact Int.toNat_natCast _
    have q3 : (if xw (m 1 8 + sp) < xw (sp + 28) then m 1 8 + sp else sp + 28) = cr := by
      rw [b_xw (by omega), b_xw (by omega), hcr']
    rw [if_pos i3, if_pos hb, m_endAt (i := o + 5) _ (by omega), b_bs, m_of (i := o + 5) M (by omega) (by omega), b_bs, if_pos hb5, hx5, hx, n35, t2, q3, ← hM1]
    unfold f_m_sendAll_40 f_m_sendAll_55
    have q9 : M1 1 (o + 6) = m 1 9 := by rw [hM1, xu_d (by omega), t3]
    rw [m_of (i := o + 6) M1 (by omega) (by omega), b_bs, q9]
    rcases t5 with q | q
    · rw [q, if_pos (by decide), if_pos rfl]
    · rw [q, if_neg (by decide), if_neg (by decide)]
  have gk : ∀ k, k ≠ 1 → m1 k = m k := fun k hk => by rw [hm1, xu_K hk]
  have gj : ∀ j, j ≠ 8 → m1 1 j = m 1 j := fun j hj => by rw [hm1, xu_d hj]
  have g8 : m1 1 8 = cr := by rw [hm1, xu_s rfl]
  have gN : ∀ i, i ≠ o + 5 → M1 1 i = M 1 i := fun i hi => by rw [hM1, xu_d hi]
  have g5 : M1 1 (o + 5) = cr := by rw [hM1, xu_s rfl]
  have hR : bRL e m1 (M1 1) := by
    unfold bRL
    rw [← ho]
    refine ⟨⟨?_, ?_, ?_, ?_, ?_, ?_⟩, ?_, ?_, ?_, ?_, ?_⟩
    · exact r1.1.cg (gk _ (by omega)) (gk _ (by omega)) (gk _ (by omega)) (gk _ (by omega)) (gN _ (by omega)) (gN _ (by omega)) (fun i h1 h2 => gN i (by omega))
    · exact r1.2.1.cg (by rw [gk _ (by omega)]) (gk _ (by omega)) (gN _ (by omega)) (fun j hj => gN _ (by omega))
    · exact r1.2.2.1.cg (by rw [gk _ (by omega)]) (gk _ (by omega)) (gN _ (by omega)) (fun j hj => gN _ (by omega))
    · exact r1.2.2.2.1.cg (gj _ (by omega)) (gk _ (by omega)) (gN _ (by omega)) (fun i h1 h2 => gN i (by omega))
    · exact r1.2.2.2.2.1.cg (gj _ (by omega)) (gk _ (by omega)) (gN _ (by omega)) (fun i h1 h2 => gN i (by omega))
    · exact ⟨by rw [gN _ (by omega), gj _ (by omega), t1], by rw [g5, g8], by rw [gN _ (by omega), gj _ (by omega), t3], by rw [gN _ (by omega), gj _ (by omega), t4], by rw [gj _ (by omega)]; exact t5, by rw [gj _ (by omega)]; exact t6⟩
    · exact r2.cg (fun i h1 h2 => gk i (by omega)) (fun i h1 h2 => gN i (by omega))
    · exact r3.cg (gk _ (by omega)) (gk _ (by omega)) (gN _ (by omega)) (fun i h1 h2 => gN i (by omega))
    · exact r4.cg (gk _ (by omega)) (fun i h1 h2 => gN i (by omega))
    · exact r5.cg (fun k h1 h2 => gk k (by omega)) (fun i h1 h2 h3 => gN i (by omega))
    · exact r6.cg (fun j h1 h2 => by rw [gk 0 (by omega)]) (by rw [gk 33 (by omega)]) (fun i h1 => gN i (by omega))
  have hW : bWire e m1 (M1 1) lo hi f c := hw.cg (fun k hk => gk k (by omega)) (by rw [gk 0 (by omega)]) ⟨by rw [gk 12 (by omega)], gj 7 (by omega)⟩ (fun j _ _ => ⟨by rw [gk 4 (by omega)], by rw [gk 15 (by omega)]⟩) (fun i hi => gN i (by omega)) (gN 20 (by omega))
  have hMK : bMK M M1 := bMK.of (fun k hk => by rw [hM1, xu_K hk])
  rw [eC, eM]
  by_cases h9 : m 1 9 = 0
  · rw [if_pos h9]
    obtain ⟨F, C, S, a1, a2, a3, -⟩ := id r1.1
    rw [show (1 + 3 : Nat) = 4 from rfl] at a3
    obtain ⟨m', M', c', p1, p2, p3, p4, p5, p6⟩ := L_loop_sp e f lo hi he 7 0 fu fu c m1 M1 (by omega) (by show _ < 5000; omega) (by show _ < 5000; omega) hR hW (by rw [gk 0 (by omega)]; exact ht) (by rw [gk 0 (by omega)]; exact hlo) (by rw [gk 4 (by omega)]; exact hF) (by rw [g8]; omega) (by rw [gk 30 (by omega)]; omega) (by rw [gk 4 (by omega), a3]; omega)
    obtain ⟨x1, x2, x3, ⟨x4, x5, x6⟩, ⟨x7, x8⟩, ⟨x9, x10⟩, x11, x12⟩ := p5
    rw [g8] at x8
    rw [gk 30 (by omega)] at x9 x10
    rw [gk 4 (by omega)] at x2 x3
    exact ⟨m', M', c', p1, p2, p3, p4, ⟨by rw [x1, gk 0 (by omega)], x2, x3, ⟨by rw [x4, gj 6 (by omega)], by rw [x5, gj 7 (by omega)]⟩, ⟨x7, by omega⟩, ⟨x9, by omega⟩, fun k h1 h2 => by rw [x11 k h1 h2, gk k (by omega)], fun k h1 h2 => by rw [x12 k h1 h2, gk k (by omega)]⟩, hMK.trans p6⟩
  · rw [if_neg h9]
    have z0 : xw (0 : Int) = 0 := by decide
    have z7 : xw (0 : Int) < xw 7 := by decide
    refine ⟨m1, M1, c, ?_, ?_, hR, hW, ⟨gk 0 (by omega), by rw [gk 4 (by omega)], by rw [gk 4 (by omega)]; exact Int.le_refl _, ⟨gj 6 (by omega), gj 7 (by omega)⟩, ⟨by rw [g8]; omega, by rw [g8]; omega⟩, ⟨by rw [gk 30 (by omega)]; exact Int.le_refl _, by rw [gk 30 (by omega)]; omega⟩, fun k h1 h2 => gk k (by omega), fun k h1 h2 => gk k (by omega)⟩, hMK⟩
    · rw [show fu = 4999 + 1 from rfl, f_L_sendFrom_52, if_pos z7, if_pos z0]
    · rw [show fu = 4999 + 1 from rfl, f_m_sendAll_56, if_pos z0]

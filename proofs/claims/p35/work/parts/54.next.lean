/-! ===== one sending, both sides ===== -/
def bStep (e : Int) (M : xM) : Option (Int × xM) := (f_m_firstThat e 1 M).bind fun q3 => if xw q3 = xw (-1) then f_m_sendNew e M else f_m_sendAgain e q3 M
/-- what n sendings leave of the line -/
def bSnd (n : Int) (m m' : xM) : Prop := m' 0 = m 0 ∧ m' 4 3 = m 4 3 ∧ m 4 4 ≤ m' 4 4 ∧ (m' 1 6 = m 1 6 ∧ m' 1 7 = m 1 7 ∧ m' 1 9 = m 1 9) ∧ (0 ≤ m' 1 8 ∧ m' 1 8 ≤ m 1 8) ∧ (m 30 0 ≤ m' 30 0 ∧ m' 30 0 ≤ m 30 0 + n) ∧ (∀ k, 12 ≤ k → k ≤ 22 → m' k = m k) ∧ ∀ k, 33 ≤ k → k ≤ 37 → m' k = m k
theorem bSnd.trans {a b : Int} {m m' m'' : xM} (h : bSnd a m m') (h' : bSnd b m' m'') : bSnd (a + b) m m'' := by
  obtain ⟨a1, a2, a3, ⟨a4, a5, a6⟩, ⟨a7, a8⟩, ⟨a9, a10⟩, a11, a12⟩ := h
  obtain ⟨b1, b2, b3, ⟨b4, b5, b6⟩, ⟨b7, b8⟩, ⟨b9, b10⟩, b11, b12⟩ := h'
  exact ⟨by rw [b1, a1], by omega, by omega, ⟨by omega, by omega, by omega⟩, ⟨b7, by omega⟩, ⟨by omega, by omega⟩, fun k h1 h2 => by rw [b11 k h1 h2, a11 k h1 h2], fun k h1 h2 => by rw [b12 k h1 h2, a12 k h1 h2]⟩
/-- of the reference a sending changes its numbers, and what it kept of its words -/
def bMK (M M' : xM) : Prop := (∀ k, k ≠ 0 → k ≠ 1 → k ≠ 6 → M' k = M k) ∧ ∀ j, j ≠ 9 → M' 0 j = M 0 j
theorem bMK.refl (M : xM) : bMK M M := ⟨fun _ _ _ _ => rfl, fun _ _ => rfl⟩
theorem bMK.trans {M M' M'' : xM} (h : bMK M M') (h' : bMK M' M'') : bMK M M'' := ⟨fun k h0 h1 h6 => by rw [h'.1 k h0 h1 h6, h.1 k h0 h1 h6], fun j hj => by rw [h'.2 j hj, h.2 j hj]⟩
theorem bMK.of {M M' : xM} (h : ∀ k, k ≠ 1 → M' k = M k) : bMK M M' := ⟨fun k _ h1 _ => h k h1, fun j _ => by rw [h 0 (by omega)]⟩
/-- nothing goes out: the credit is too small -/
theorem L_stop_sp (e f c : Nat) (lo hi : Int) (m m1 : xM) (N : Nat → Int) (h : bRL e m N) (hw : bWire e m N lo hi f c) (hk : ∀ k, k ≠ 31 → k ≠ 32 → m1 k = m k) : bRL e m1 N ∧ bWire e m1 N lo hi f c := by
  obtain ⟨r1, r2, r3, r4, r5, r6⟩ := h
  refine ⟨⟨r1.cg (fun i h1 h2 => hk i (by omega) (by omega)) (fun _ _ _ => rfl), r2.cg (fun i h1 h2 => hk i (by omega) (by omega)) (fun _ _ _ => rfl), r3.cg (hk _ (by omega) (by omega)) (hk _ (by omega) (by omega)) rfl (fun _ _ _ => rfl), r4.cg (hk _ (by omega) (by omega)) (fun _ _ _ => rfl), r5.cg (fun k h1 h2 => hk k (by omega) (by omega)) (fun _ _ _ _ => rfl), r6.cg (fun j h1 h2 => by rw [hk 0 (by omega) (by omega)]) (by rw [hk 33 (by omega) (by omega)]) (fun _ _ => rfl)⟩, ?_⟩
  exact hw.cg (fun k hk2 => hk k (by omega) (by omega)) (by rw [hk 0 (by omega) (by omega)]) ⟨by rw [hk 12 (by omega) (by omega)], by rw [hk 1 (by omega) (by omega)]⟩ (fun j _ _ => ⟨by rw [hk 4 (by omega) (by omega)], by rw [hk 15 (by omega) (by omega)]⟩) (fun _ _ => rfl) rfl
set_option maxHeartbeats 16000000 in
theorem L_again_sp (e f c F C S : Nat) (lo hi : Int) (m M : xM) (he : e < 2) (h : bRL e m (M 1)) (hw : bWire e m (M 1) lo hi f c) (ht : 0 ≤ m 0 7 ∧ m 0 7 < hi) (hlo : lo ≤ m 0 7) (h43 : m 4 3 = F) (h44 : m 4 4 = C) (h45 : m 4 5 = S) (hSC : S < C) (hC7 : C ≤ 7) (hFC : F + C ≤ 1000000000) (hcr : 0 ≤ m 1 8 ∧ m 1 8 ≤ 1000) (h30 : 0 ≤ m 30 0 ∧ m 30 0 < 1000000000) :
    ∃ (r : Int) (m' M' : xM) (c' : Nat), f_L_sendNext (e : Int) m = some (r, m') ∧ f_m_sendAgain (e : Int) (S : Int) M = some (r, M') ∧ bRL e m' (M' 1) ∧ bWire e m' (M' 1) lo hi f c' ∧ bSnd 1 m m' ∧ ((r = 0 ∧ m' 4 5 = m 4 5) ∨ (r = 1 ∧ m' 4 5 = m 4 5 + 1)) ∧ bMK M M' := by
  obtain ⟨⟨v1, v2, v3, v4⟩, we, ws, d1, d2⟩ := id hw
  have hc42 : c ≤ 42 := by
    by_cases h0 : e = 0
    · subst h0; exact bUnder (dl := m 33 10) d1 d2 (fun i hi => (we i hi).2.1)
    · have h1 : e = 1 := by omega
      subst h1; exact bUnder (dl := m 33 10) d2 d1 (fun i hi => (we i hi).2.1)
  obtain ⟨o, ho⟩ : ∃ o : Nat, o = 56 + 717 * e := ⟨_, rfl⟩
  obtain ⟨r1, r2, r3, r4, r5, r6⟩ := id h
  rw [← ho] at r1
  obtain ⟨s0, s1, s2, s3, s4, s5, s6, s7, s8, s9, s10⟩ := id r6
  obtain ⟨F', C', S', a1, a2, a3, a4, a5, a6, a7, a8, a9⟩ := id r1.1
  rw [show (1 + 3 : Nat) = 4 from rfl] at a1 a2 a3
  obtain rfl : F' = F := by omega
  obtain rfl : C' = C := by omega
  obtain rfl : S' = S := by omega
  obtain ⟨-, -, -, -, ⟨y15, -, -⟩, -, -, -, ⟨y19, z19, z19'⟩, -, yn, -⟩ := id r5
  obtain ⟨t1, t2, t3, t4, t5, t6⟩ := id r1.2.2.2.2.2
  obtain ⟨k, hk⟩ : ∃ k : Nat, m 30 0 = k := ⟨(m 30 0).toNat, by omega⟩
  obtain ⟨nc, hnc⟩ : ∃ nc : Nat, m 33 5 = nc := ⟨(m 33 5).toNat, by omega⟩
  obtain ⟨sl, hsl⟩ : ∃ sl, (F' + S') % 7 = sl := ⟨_, rfl⟩
  have hs7 : sl < 7 := by rw [← hsl]; exact Nat.mod_lt _ (by decide)
  obtain ⟨b1, b2, ⟨b3, b3'⟩, b4, b5, b6⟩ := a9 S' hSC
  rw [hsl] at b2 b3 b3' b4 b6
  rw [show (4 + 2 : Nat) = 6 from rfl] at b2 b3 b3' b6
  rw [show (4 + 1 : Nat) = 5 from rfl] at b6
  obtain ⟨z, hz⟩ : ∃ z : Nat, m 6 sl = z := ⟨(m 6 sl).toNat, by omega⟩
  rw [hz] at b2 b3 b3' b6
  have hmod : k % nc < nc := Nat.mod_lt _ (by omega)
  have hno := (yn (k % nc) (by omega)).1
  obtain ⟨V, hV⟩ : ∃ V, V = xvw [0, 31, 32, 1, 8, 9, 5] m := ⟨_, rfl⟩
  have V0 : V 0 = m 0 := by rw [hV]; rfl
  have V3 : V 3 = m 1 := by rw [hV]; rfl
  have V4 : V 4 = m 8 := by rw [hV]; rfl
  have V5 : V 5 = m 9 := by rw [hV]; rfl
  have V6 : V 6 = m 5 := by rw [hV]; rfl
  have h45' : M 1 45 = k := by have := r4 0 (by omega); rw [← hk]; exact this
  obtain ⟨r, V', Ml, p1, p2, p3, p4, p5, p6⟩ := L_cost56_launch e o (sl * 8) (o + 26 + 13 * S' + 4) z c k nc ((F' + S' : Nat) : Int) V M he ho (by omega) (by omega) (by omega) (by omega) (r1.2.1.cg (by rw [V4]) (by rw [V5]) rfl (fun _ _ => rfl)) (by rw [V3]; exact t4) (by rw [V3]; exact t6) (fun i hi => by rw [V6]; exact b6 i (by omega) (by omega)) (by omega) v4 h45' (by omega) (by rw [y19, hnc]) (by omega) (by rw [t2]; exact hcr)
  rw [V3] at p6
  rw [t2] at p6
  obtain ⟨m1, hm1⟩ : ∃ Z, Z = xmg [0, 31, 32, 1, 8, 9, 5] 7 m V' := ⟨_, rfl⟩
  have g31 : m1 31 = V' 1 := by rw [hm1]; rfl
  have g32 : m1 32 = V' 2 := by rw [hm1]; rfl
  have gk : ∀ k, k ≠ 31 → k ≠ 32 → m1 k = m k := fun k q1 q2 => by
    by_cases q3 : k = 0
    · rw [q3, hm1]; show V' 0 = _; rw [p3 0 (by omega) (by omega), V0]
    · by_cases q4 : k = 1
      · rw [q4, hm1]; show V' 3 = _; rw [p3 3 (by omega) (by omega), V3]
      · by_cases q5 : k = 8
        · rw [q5, hm1]; show V' 4 = _; rw [p3 4 (by omega) (by omega), V4]
        · by_cases q6 : k = 9
          · rw [q6, hm1]; show V' 5 = _; rw [p3 5 (by omega) (by omega), V5]
          · by_cases q7 : k = 5
            · rw [q7, hm1]; show V' 6 = _; rw [p3 6 (by omega) (by omega), V6]
            · rw [hm1]; exact xmg_no _ _ (xpos_not (by simp [q1, q2, q3, q4, q5, q6, q7]))
  have hsf : f_F_slot (m 4 5) (xvw [4, 5, 6, 7] m) = some (sl : Int) := by
    rw [← hsl]
    refine F_slot_sp F' S' _ _ ?_ (by omega)
    have : xvw [4, 5, 6, 7] m 0 = m 4 := rfl
    rw [this, a1, a3]; omega
  have eC : f_L_sendNext (e : Int) m = (if xw (m 1 8) < xw (r : Int) then some (0, m1) else f_L_sendNext_134 (e : Int) (r : Int) m1) := by
    unfold f_L_sendNext f_L_sendNext_27 f_L_sendNext_57 f_L_sendNext_110
    have q1 : ¬ xw (m 4 5) = xw (m 4 4) := by rw [a2, a3, b_xw (by omega), b_xw (by omega)]; omega
    have q0 : xw 0 = 0 := by decide
    rw [if_neg q1, if_pos q0, hsf, b_bs, if_pos q0, if_pos (b_ib (by omega)), b_ix (by omega), Int.toNat_natCast, hz, show (sl : Int) * 8 = ((sl * 8 : Nat) : Int) by omega, ← hV, p1, b_bs]
    dsimp only
    rw [← hm1, if_pos q0, gk 1 (by omega) (by omega)]
  have eM : f_m_sendAgain (e : Int) (S' : Int) M = (f_m_launch (e : Int) ((F' + S' : Nat) : Int) ((o + 26 + 13 * S' + 4 : Nat) : Int) (z : Int) M).bind fun q3 => if xw q3.1 = 0 then some (0, q3.2) else some (1, (xu (xu q3.2 1 (o + 26 + 13 * S' + 3) 0) 1 (o + 26 + 13 * S' + 2) ((xu q3.2 1 (o + 26 + 13 * S' + 3) 0) 1 0))) := by
    unfold f_m_sendAgain
    have x0 : xib 0 3530 := b_ib (by omega)
    have x1 : xib ((o + 26 + 13 * S' + 3 : Nat) : Int) 3530 := b_ib (by omega)
    have x2 : xib ((o + 26 + 13 * S' + 2 : Nat) : Int) 3530 := b_ib (by omega)
    have x3 : xix ((o + 26 + 13 * S' + 3 : Nat) : Int) = o + 26 + 13 * S' + 3 := by rw [b_ix (by omega)]; exact Int.toNat_natCast _
    have x4 : xix ((o + 26 + 13 * S' + 2 : Nat) : Int) = o + 26 + 13 * S' + 2 := by rw [b_ix (by omega)]; exact Int.toNat_natCast _
    rw [m_ofFrame (i := o + 26 + 13 * S') M (by omega) (by omega), b_bs, m_frameAt (i := o + 26 + 13 * S' + 4) _ (by omega), b_bs, m_ofFrame (i := o + 26 + 13 * S' + 1) M (by omega) (by omega), b_bs, b1, b2]
    congr 1
    funext q3
    by_cases q0 : xw q3.1 = 0
    · rw [if_pos q0, if_pos q0]
    · rw [if_neg q0, if_neg q0, m_frameAt (i := o + 26 + 13 * S' + 3) _ (by omega), b_bs, if_pos x1, x3, m_frameAt (i := o + 26 + 13 * S' + 2) _ (by omega), b_bs, if_pos x0, if_pos x2, x4]
  rw [eC, eM]
  rcases p6 with ⟨u1, u2, u3⟩ | ⟨u1, u2, u3, u4⟩
  · have q1 : xw (m 1 8) < xw (r : Int) := by rw [b_xw (by omega), b_xw (by omega)]; exact u1
    have q0 : xw (0 : Int) = 0 := by decide
    rw [if_pos q1, u2, b_bs]
    dsimp only
    rw [if_pos q0]
    obtain ⟨z1, z2⟩ := L_stop_sp e f c lo hi m m1 (M 1) h hw gk
    refine ⟨0, m1, Ml, c, rfl, rfl, by rw [u3]; exact z1, by rw [u3]; exact z2, ⟨gk 0 (by omega) (by omega), by rw [gk 4 (by omega) (by omega)], by rw [gk 4 (by omega) (by omega)]; exact Int.le_refl _, ⟨by rw [gk 1 (by omega) (by omega)], by rw [gk 1 (by omega) (by omega)], by rw [gk 1 (by omega) (by omega)]⟩, ⟨by rw [gk 1 (by omega) (by omega)]; exact hcr.1, by rw [gk 1 (by omega) (by omega)]; exact Int.le_refl _⟩, ⟨by rw [gk 30 (by omega) (by omega)]; exact Int.le_refl _, by rw [gk 30 (by omega) (by omega)]; omega⟩, fun k q1 q2 => gk k (by omega) (by omega), fun k q1 q2 => gk k (by omega) (by omega)⟩, Or.inl ⟨rfl, by rw [gk 4 (by omega) (by omega)]⟩, ⟨p4, p5⟩⟩
  · have q1 : ¬ xw (m 1 8) < xw (r : Int) := by rw [b_xw (by omega), b_xw (by omega)]; omega
    have q0 : ¬ xw (1 : Int) = 0 := by decide
    rw [if_neg q1, u2, b_bs]
    dsimp only
    rw [if_neg q0]
    obtain ⟨m', w1, w2⟩ := L_out_sp e F' S' f c r k nc (M 1) m1 he (by rw [gk 4 (by omega) (by omega), a1]) (by rw [gk 4 (by omega) (by omega), a3]) (by omega) (by rw [gk 23 (by omega) (by omega), v1]) v2 (by rw [gk 23 (by omega) (by omega), v3]) (by omega) (by rw [gk 1 (by omega) (by omega)]; exact t6)
      (by rw [gk 30 (by omega) (by omega), hk]) (by omega) (by rw [gk 33 (by omega) (by omega), hnc]) (by omega) (by rw [gk 0 (by omega) (by omega), s2]) (by rw [gk 0 (by omega) (by omega), s3]) (by rw [gk 37 (by omega) (by omega)]; exact hno)
    obtain ⟨M', hM'⟩ : ∃ Z, Z = xu (xu Ml 1 (o + 26 + 13 * S' + 3) 0) 1 (o + 26 + 13 * S' + 2) ((xu Ml 1 (o + 26 + 13 * S' + 3) 0) 1 0) := ⟨_, rfl⟩
    rw [← hM']
    obtain ⟨⟨o1, o2, o3, o4⟩, ⟨o5, o6⟩, ⟨o7, o8, o9⟩, ⟨o10, o11⟩, wc, ⟨d3, d4⟩, oo⟩ := id w2
    obtain ⟨⟨l1, l2⟩, l3, -, ⟨e0, e1, e2, e3, e4, e5, e6, e7⟩, l7⟩ := id u3
    have N0 : Ml 1 0 = m 0 7 := by rw [l7 0 (by omega) (by omega) (by omega) (by omega) (by omega) (by omega) (by omega) (by omega) (by omega), s0]
    have nG : ∀ i, i ≠ o + 26 + 13 * S' + 3 → i ≠ o + 26 + 13 * S' + 2 → M' 1 i = Ml 1 i := fun i q1 q2 => by rw [hM', xu_d q2, xu_d q1]
    have n3 : M' 1 (o + 26 + 13 * S' + 3) = 0 := by rw [hM', xu_d (by omega), xu_s rfl]
    have n2 : M' 1 (o + 26 + 13 * S' + 2) = m 0 7 := by rw [hM', xu_s rfl, xu_d (by omega), N0]
    have mk0 : m1 0 = m 0 := gk 0 (by omega) (by omega)
    have mk : ∀ k, k ≠ 1 → k ≠ 4 → k ≠ 7 → k ≠ 8 → k ≠ 9 → (k < 23 ∨ 27 < k) → k ≠ 30 → k ≠ 31 → k ≠ 32 → m' k = m k := fun k q1 q2 q3 q4 q5 q6 q7 q8 q9 => by rw [oo k q1 q2 q3 q4 q5 q6 q7, gk k q8 q9]
    have m5' : m' 5 = m 5 := mk 5 (by omega) (by omega) (by omega) (by omega) (by omega) (by omega) (by omega) (by omega) (by omega)
    have m6' : m' 6 = m 6 := mk 6 (by omega) (by omega) (by omega) (by omega) (by omega) (by omega) (by omega) (by omega) (by omega)
    have hRF : bRF 4 m' o (M' 1) := by
      refine ⟨F', C', S' + 1, by rw [o6 3 (by omega), gk 4 (by omega) (by omega), a1], by rw [o6 4 (by omega), gk 4 (by omega) (by omega), a2], o5, by omega, a5, a6, ?_, ?_, fun p hp => ?_⟩
      · rw [nG _ (by omega) (by omega), l7 _ (by omega) (by omega) (by omega) (by omega) (by omega) (by omega) (by omega) (by omega) (by omega), a7]
      · rw [nG _ (by omega) (by omega), l7 _ (by omega) (by omega) (by omega) (by omega) (by omega) (by omega) (by omega) (by omega) (by omega), a8]
      · obtain ⟨c1, c2, c3, c4, c5, c6⟩ := a9 p hp
        unfold bFr
        rw [show (4 + 2 : Nat) = 6 from rfl, show (4 + 1 : Nat) = 5 from rfl, show (4 + 3 : Nat) = 7 from rfl] at *
        rw [m5', m6']
        have fl : ∀ i, i ≠ 2 → i ≠ 3 → i < 13 → M' 1 (o + 26 + 13 * p + i) = M 1 (o + 26 + 13 * p + i) := fun i q1 q2 q3 => by rw [nG _ (by omega) (by omega), l7 _ (by omega) (by omega) (by omega) (by omega) (by omega) (by omega) (by omega) (by omega) (by omega)]
        refine ⟨by have := fl 0 (by omega) (by omega) (by omega); rw [Nat.add_zero] at this; rw [this, c1], by rw [fl 1 (by omega) (by omega) (by omega), c2], c3, ?_, ?_, fun j hj hj2 => ?_⟩
        · by_cases hpS : p = S'
          · rw [hpS, n2, o10, mk0]
          · rw [nG _ (by omega) (by omega), l7 _ (by omega) (by omega) (by omega) (by omega) (by omega) (by omega) (by omega) (by omega) (by omega), c4, o11 _ (by omega), gk 7 (by omega) (by omega)]
        · by_cases hpS : p = S'
          · rw [hpS, n3, if_pos (by omega)]
          · rw [nG _ (by omega) (by omega), l7 _ (by omega) (by omega) (by omega) (by omega) (by omega) (by omega) (by omega) (by omega) (by omega), c5]
            by_cases hlt : p < S'
            · rw [if_pos hlt, if_pos (by omega)]
            · rw [if_neg hlt, if_neg (by omega)]
        · have := fl (4 + j) (by omega) (by omega) (by omega)
          rw [show o + 26 + 13 * p + (4 + j) = o + 26 + 13 * p + 4 + j by omega] at this
          rw [this, c6 j hj hj2]
    have hRQ : bRQ 1 m' o (M' 1) := r1.2.2.2.1.cg (by rw [o9 5 (by omega) (by omega), gk 1 (by omega) (by omega)]) (mk 2 (by omega) (by omega) (by omega) (by omega) (by omega) (by omega) (by omega) (by omega) (by omega)) (by rw [nG _ (by omega) (by omega), l7 _ (by omega) (by omega) (by omega) (by omega) (by omega) (by omega) (by omega) (by omega) (by omega)]) (fun i q1 q2 => by rw [nG _ (by omega) (by omega), l7 _ (by omega) (by omega) (by omega) (by omega) (by omega) (by omega) (by omega) (by omega) (by omega)])
    have hR := L_sent_sp e o c (o + 26 + 13 * S' + 4) z F' S' f r ((F' + S' : Nat) : Int) (bDm (M 1) k nc) (m 1 10) m m1 m' (M 1) (Ml 1) (M' 1) he ho (by omega) h w2 u3 (fun k q1 q2 q3 q4 q5 q6 q7 => gk k q6 q7) (fun j hj => by rw [gk 1 (by omega) (by omega)]) (fun i hi => nG i (by omega) (by omega)) hRF hRQ (u4.cg (by rw [g31]) g32 rfl (fun _ _ => rfl))
    have hdm : bDm (M 1) k nc = 0 ∨ bDm (M 1) k nc = 1 := by unfold bDm; split <;> omega
    refine ⟨1, m', M', c + 1, w1, rfl, hR, ?_, ⟨?_, ?_, ?_, ⟨?_, ?_, ?_⟩, ⟨?_, ?_⟩, ⟨?_, ?_⟩, fun k q1 q2 => ?_, fun k q1 q2 => ?_⟩, Or.inr ⟨rfl, ?_⟩, ⟨fun k q0 q1 q6 => ?_, fun j hj => ?_⟩⟩
    · refine hw.send (F := F') (C := C') (C' := C') (S := S') (z := (if m1 1 10 = 0 then 0 else 4) + (if bDm (M 1) k nc = 0 then 0 else 2)) he ht hlo a1 a2 a3 (by omega) ?_ ?_ ?_ ?_ ?_ ?_ ?_ ?_ ?_ ?_ o5 ⟨by rw [o10, mk0], fun j hj hj2 => by rw [o11 j hj2, gk 7 (by omega) (by omega)]⟩ (fun p hp => ⟨by rw [m6'], fun j hj => by rw [m5']⟩) ⟨by rw [wc.1, mk0], wc.2.1, wc.2.2.1, wc.2.2.2.1, wc.2.2.2.2.1, by rw [wc.2.2.2.2.2.1, gk 23 (by omega) (by omega)], fun k i q1 q2 q3 => by rw [wc.2.2.2.2.2.2 k i q1 q2 q3, gk k (by omega) (by omega)]⟩ ?_ (by omega) (fun i q1 q2 => ?_) ?_ ⟨⟨?_, ?_, ?_, ?_⟩, ?_, ?_, ?_, fun j hj hj2 => ?_⟩
      · rw [mk 0 (by omega) (by omega) (by omega) (by omega) (by omega) (by omega) (by omega) (by omega) (by omega)]
      · rw [mk 33 (by omega) (by omega) (by omega) (by omega) (by omega) (by omega) (by omega) (by omega) (by omega)]
      · rw [o9 7 (by omega) (by omega), gk 1 (by omega) (by omega)]
      · rw [mk 12 (by omega) (by omega) (by omega) (by omega) (by omega) (by omega) (by omega) (by omega) (by omega)]
      · exact mk 15 (by omega) (by omega) (by omega) (by omega) (by omega) (by omega) (by omega) (by omega) (by omega)
      · exact mk 16 (by omega) (by omega) (by omega) (by omega) (by omega) (by omega) (by omega) (by omega) (by omega)
      · exact mk 17 (by omega) (by omega) (by omega) (by omega) (by omega) (by omega) (by omega) (by omega) (by omega)
      · exact mk 18 (by omega) (by omega) (by omega) (by omega) (by omega) (by omega) (by omega) (by omega) (by omega)
      · rw [o6 3 (by omega), gk 4 (by omega) (by omega), a1]
      · rw [o6 4 (by omega), gk 4 (by omega) (by omega), a2]
      · rw [gk 1 (by omega) (by omega)]
        rcases t6 with q | q <;> rcases hdm with q2 | q2 <;> rw [q, q2] <;> decide
      · rw [nG _ (by omega) (by omega), l7 _ (by omega) (by omega) (by omega) (by omega) (by omega) (by omega) (by omega) (by omega) (by omega)]
      · rw [nG _ (by omega) (by omega), l3]
      · rw [nG _ (by omega) (by omega), e0, s0, y15]
      · rw [nG _ (by omega) (by omega), e1]
      · rw [nG _ (by omega) (by omega), e2]
      · rw [nG _ (by omega) (by omega), e3]
      · rw [nG _ (by omega) (by omega), e5, gk 1 (by omega) (by omega)]
        rcases t6 with q | q <;> rcases hdm with q2 | q2 <;> rw [q, q2] <;> decide
      · rw [nG _ (by omega) (by omega), e6, gk 1 (by omega) (by omega)]
        rcases t6 with q | q <;> rcases hdm with q2 | q2 <;> rw [q, q2] <;> decide
      · rw [nG _ (by omega) (by omega), e4, m6', hsl, hz]
      · rw [m6', hsl, hz] at hj2
        rw [nG _ (by omega) (by omega), e7 j (by omega), m5', hsl]
        exact b6 j hj hj2
    · rw [mk 0 (by omega) (by omega) (by omega) (by omega) (by omega) (by omega) (by omega) (by omega) (by omega)]
    · rw [o6 3 (by omega), gk 4 (by omega) (by omega)]
    · rw [o6 4 (by omega), gk 4 (by omega) (by omega)]; exact Int.le_refl _
    · rw [o9 6 (by omega) (by omega), gk 1 (by omega) (by omega)]
    · rw [o9 7 (by omega) (by omega), gk 1 (by omega) (by omega)]
    · rw [o9 9 (by omega) (by omega), gk 1 (by omega) (by omega)]
    · rw [o8, gk 1 (by omega) (by omega)]; omega
    · rw [o8, gk 1 (by omega) (by omega)]; omega
    · rw [o1, gk 30 (by omega) (by omega)]; omega
    · rw [o1, gk 30 (by omega) (by omega)]; exact Int.le_refl _
    · exact mk k (by omega) (by omega) (by omega) (by omega) (by omega) (by omega) (by omega) (by omega) (by omega)
    · exact mk k (by omega) (by omega) (by omega) (by omega) (by omega) (by omega) (by omega) (by omega) (by omega)
    · rw [o5, a3]; omega
    · rw [hM', xu_K q1, xu_K q1, p4 k q0 q1 q6]
    · rw [hM', xu_k (by omega), xu_k (by omega), p5 j hj]

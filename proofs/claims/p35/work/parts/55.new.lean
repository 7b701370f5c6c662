/-! ===== a new frame goes out ===== -/
set_option maxHeartbeats 16000000 in
theorem L_new_sp (e f c F C q : Nat) (lo hi : Int) (m M : xM) (he : e < 2) (h : bRL e m (M 1)) (hw : bWire e m (M 1) lo hi f c) (ht : 0 ≤ m 0 7 ∧ m 0 7 < hi) (hlo : lo ≤ m 0 7) (h43 : m 4 3 = F) (h44 : m 4 4 = C) (h45 : m 4 5 = C) (hC7 : C < 7) (hq : m 1 5 = q) (hq0 : 0 < q) (hq200 : q ≤ 200) (hFC : F + C < 1000000000) (hcr : 0 ≤ m 1 8 ∧ m 1 8 ≤ 1000) (h30 : 0 ≤ m 30 0 ∧ m 30 0 < 1000000000) (hwin : (C : Int) < m 33 9) :
    ∃ (r : Int) (m' M' : xM) (c' : Nat), f_L_sendNext (e : Int) m = some (r, m') ∧ f_m_sendNew (e : Int) M = some (r, M') ∧ bRL e m' (M' 1) ∧ bWire e m' (M' 1) lo hi f c' ∧ bSnd 1 m m' ∧ ((r = 0 ∧ m' 4 5 = m 4 5) ∨ (r = 1 ∧ m' 4 5 = m 4 5 + 1)) ∧ bMK M M' := by
  obtain ⟨⟨v1, v2, v3, v4⟩, we, ws, d1, d2⟩ := id hw
  have hc42 : c ≤ 42 := by
    by_cases h0 : e = 0
    · subst h0; exact bUnder (dl := m 33 10) d1 d2 (fun i hi => (we i hi).2.1)
    · have h1 : e = 1 := by omega
      subst h1; exact bUnder (dl := m 33 10) d2 d1 (fun i hi => (we i hi).2.1)
  clear d1 d2 ws we
  obtain ⟨o, ho⟩ : ∃ o : Nat, o = 56 + 717 * e := ⟨_, rfl⟩
  obtain ⟨r1, r2, r3, r4, r5, r6⟩ := id h
  rw [← ho] at r1
  obtain ⟨s0, s1, s2, s3, -, -, -, -, -, s9, s10⟩ := id r6
  obtain ⟨F', C', S', a1, a2, a3, a4, a5, a6, a7, a8, a9⟩ := id r1.1
  rw [show (1 + 3 : Nat) = 4 from rfl] at a1 a2 a3
  obtain rfl : F' = F := by omega
  obtain rfl : C' = C := by omega
  obtain rfl : S' = C' := by omega
  obtain ⟨-, -, -, ⟨y14, w14, w14'⟩, ⟨y15, -, -⟩, -, -, -, ⟨y19, z19, z19'⟩, -, yn, -⟩ := id r5
  obtain ⟨t1, t2, t3, t4, t5, t6⟩ := id r1.2.2.2.2.2
  obtain ⟨q', i1, i2, i3, i4⟩ := id r1.2.2.2.1
  obtain rfl : q' = q := by omega
  obtain ⟨k, hk⟩ : ∃ k : Nat, m 30 0 = k := ⟨(m 30 0).toNat, by omega⟩
  obtain ⟨nc, hnc⟩ : ∃ nc : Nat, m 33 5 = nc := ⟨(m 33 5).toNat, by omega⟩
  obtain ⟨z, hz⟩ : ∃ z : Nat, z = if 8 < q' then 8 else q' := ⟨_, rfl⟩
  have hz8 : 1 ≤ z ∧ z ≤ 8 ∧ z ≤ q' := by rw [hz]; split <;> omega
  have hmod : k % nc < nc := Nat.mod_lt _ (by omega)
  have hno := (yn (k % nc) (by omega)).1
  clear yn
  obtain ⟨V, hV⟩ : ∃ V, V = xvw [0, 31, 32, 1, 8, 9, 2] m := ⟨_, rfl⟩
  have V0 : V 0 = m 0 := by rw [hV]; rfl
  have V3 : V 3 = m 1 := by rw [hV]; rfl
  have V4 : V 4 = m 8 := by rw [hV]; rfl
  have V5 : V 5 = m 9 := by rw [hV]; rfl
  have V6 : V 6 = m 2 := by rw [hV]; rfl
  have h45' : M 1 45 = k := by have := r4 0 (by omega); rw [← hk]; exact this
  obtain ⟨r, V', Ml, p1, p2, p3, p4, p5, p6⟩ := L_cost_launch e o 0 (o + 117) z c k nc ((F' + S' : Nat) : Int) V M he ho (by omega) (by omega) (by omega) (by omega) (r1.2.1.cg (by rw [V4]) (by rw [V5]) rfl (fun _ _ => rfl)) (by rw [V3]; exact t4) (by rw [V3]; exact t6) (fun i hi => by rw [V6, Nat.zero_add]; exact i4 i (by omega)) (by omega) v4 h45' (by omega) (by rw [y19, hnc]) (by omega) (by rw [t2]; exact hcr)
  rw [V3] at p6
  rw [t2] at p6
  obtain ⟨m1, hm1⟩ : ∃ Z, Z = xmg [0, 31, 32, 1, 8, 9, 2] 7 m V' := ⟨_, rfl⟩
  have g31 : m1 31 = V' 1 := by rw [hm1]; rfl
  have g32 : m1 32 = V' 2 := by rw [hm1]; rfl
  have gk : ∀ k, k ≠ 31 → k ≠ 32 → m1 k = m k := fun k q1 q2 => by
    by_cases q3 : k = 0
    · rw [q3, hm1]; show V' 0 = _; rw [p3 0 (by omega) (by omega), V0]
    · by_cases q4 : k = 1
      · rw [q4, hm1]; show V' 3 = _; rw [p3 3 (by omega) (by omega), V3]
      · by_cases q5 : k = 8
        · rw [q5, hm1]; show V' 4 = _; rw [p3 4 (by omega) (by omega), V4]
        · by_cases q6 : k = 9
          · rw [q6, hm1]; show V' 5 = _; rw [p3 5 (by omega) (by omega), V5]
          · by_cases q7 : k = 2
            · rw [q7, hm1]; show V' 6 = _; rw [p3 6 (by omega) (by omega), V6]
            · rw [hm1]; exact xmg_no _ _ (xpos_not (by simp [q1, q2, q3, q4, q5, q6, q7]))
  have hsf : f_F_slot (m 4 5) (xvw [4, 5, 6, 7] m) = some (((F' + S') % 7 : Nat) : Int) := by
    refine F_slot_sp F' S' _ _ ?_ (by omega)
    have : xvw [4, 5, 6, 7] m 0 = m 4 := rfl
    rw [this, a1, a3]; omega
  have hnx : f_E_next (xvw bT1 m) = some (z : Int) := by
    unfold f_E_next
    have : xvw bT1 m 0 = m 1 := rfl
    rw [this, hq, hz, b_xw (by omega), b_xw (by omega)]
    by_cases h8 : 8 < q'
    · rw [if_pos (by omega), if_pos h8]; rfl
    · rw [if_neg (by omega), if_neg h8]
  have eC : f_L_sendNext (e : Int) m = (if xw (m 1 8) < xw (r : Int) then some (0, m1) else (f_E_make (((F' + S') % 7 : Nat) : Int) (xvw bT1 m1)).bind fun q5 => f_L_sendNext_134 (e : Int) (r : Int) (xmg bT1 11 m1 q5)) := by
    unfold f_L_sendNext f_L_sendNext_27 f_L_sendNext_57 f_L_sendNext_110
    have q1 : xw (m 4 5) = xw (m 4 4) := by rw [a2, a3]
    have q0 : ¬ xw 1 = 0 := by decide
    have q2 : xw (m 4 4) < xw (m 33 9) := by rw [a2, b_xw (by omega), b_xw (by omega)]; exact hwin
    have q3 : ¬ xw (m 1 5) = 0 := by rw [hq, b_xw (by omega)]; omega
    have p1' : f_L_cost 0 (z : Int) V = some ((r : Int), V') := p1
    rw [if_pos q1, if_neg q0, if_pos q2, if_neg q3, hsf, b_bs, if_neg q0, hnx, b_bs, ← hV, p1', b_bs]
    dsimp only
    rw [← hm1, if_neg q0, gk 1 (by omega) (by omega)]
  have hzr : (if xw (q' : Int) < xw 8 then (q' : Int) else 8) = (z : Int) := by
    rw [hz, b_xw (by omega), b_xw (by omega)]
    by_cases h8 : 8 < q'
    · rw [if_neg (by omega), if_pos h8]; rfl
    · rw [if_neg h8]; split <;> omega
  have eM : f_m_sendNew (e : Int) M = (f_m_launch (e : Int) ((F' + S' : Nat) : Int) ((o + 117 : Nat) : Int) (z : Int) M).bind fun q4 => if xw q4.1 = 0 then some (0, q4.2) else (f_m_of (e : Int) 1 q4.2).bind fun q5 => (f_m_frameAt (e : Int) q5 0 (xvw [] q4.2)).bind fun q6 => (f_m_of (e : Int) 2 q4.2).bind fun q7 =>
      if xib q6 3530 then (f_m_frameAt (e : Int) q5 1 (xvw [] (xu q4.2 1 (xix q6) q7))).bind fun q8 => if xib q8 3530 then f_m_sendNew_91 (e : Int) (z : Int) q5 (xu (xu q4.2 1 (xix q6) q7) 1 (xix q8) (z : Int)) else none else none := by
    unfold f_m_sendNew
    have x14 : xib 14 3530 := b_ib (by omega)
    have q2 : xw (S' : Int) < xw (M 1 14) := by rw [y14, b_xw (by omega), b_xw (by omega)]; exact hwin
    have q3 : ¬ xw (z : Int) = 0 := by rw [b_xw (by omega)]; omega
    rw [m_of (i := o) M (by omega) (by omega), b_bs, m_of (i := o + 1) M (by omega) (by omega), b_bs, if_pos x14, i3, a7, if_pos q2, hzr, if_neg q3, m_of (i := o + 2) M (by omega) (by omega), b_bs, m_endAt (i := o + 117) _ (by omega), b_bs, a8]
  rw [eC, eM]
  rcases p6 with ⟨u1, u2, u3⟩ | ⟨u1, u2, u3, u4⟩
  · have q1 : xw (m 1 8) < xw (r : Int) := by rw [b_xw (by omega), b_xw (by omega)]; exact u1
    have q0 : xw (0 : Int) = 0 := by decide
    rw [if_pos q1, u2, b_bs]
    dsimp only
    rw [if_pos q0]
    obtain ⟨z1, z2⟩ := L_stop_sp e f c lo hi m m1 (M 1) h hw gk
    refine ⟨0, m1, Ml, c, rfl, rfl, by rw [u3]; exact z1, by rw [u3]; exact z2, ⟨gk 0 (by omega) (by omega), by rw [gk 4 (by omega) (by omega)], by rw [gk 4 (by omega) (by omega)]; exact Int.le_refl _, ⟨by rw [gk 1 (by omega) (by omega)], by rw [gk 1 (by omega) (by omega)], by rw [gk 1 (by omega) (by omega)]⟩, ⟨by rw [gk 1 (by omega) (by omega)]; exact hcr.1, by rw [gk 1 (by omega) (by omega)]; exact Int.le_refl _⟩, ⟨by rw [gk 30 (by omega) (by omega)]; exact Int.le_refl _, by rw [gk 30 (by omega) (by omega)]; omega⟩, fun k q1 q2 => gk k (by omega) (by omega), fun k q1 q2 => gk k (by omega) (by omega)⟩, Or.inl ⟨rfl, by rw [gk 4 (by omega) (by omega)]⟩, ⟨p4, p5⟩⟩
  · have q1 : ¬ xw (m 1 8) < xw (r : Int) := by rw [b_xw (by omega), b_xw (by omega)]; omega
    have q0 : ¬ xw (1 : Int) = 0 := by decide
    have hs7 : (F' + S') % 7 < 7 := Nat.mod_lt _ (by decide)
    have b0 : xvw bT1 m1 0 = m 1 := by show m1 1 = _; rw [gk 1 (by omega) (by omega)]
    have b3 : xvw bT1 m1 3 = m 4 := by show m1 4 = _; rw [gk 4 (by omega) (by omega)]
    obtain ⟨E, j1, ⟨j2, j3⟩, j4, ⟨j5, j6⟩, ⟨j7, j8⟩, ⟨j9, j10⟩, j11⟩ := E_make_sp F' S' q' z (xvw bT1 m1) (by rw [b0, hq]) hq200 hz (by rw [b3, a1]) (by rw [b3, a2]) (by omega)
    obtain ⟨m2, hm2⟩ : ∃ Z, Z = xmg bT1 11 m1 E := ⟨_, rfl⟩
    have x1 : m2 1 = E 0 := by rw [hm2]; rfl
    have x2 : m2 2 = E 1 := by rw [hm2]; rfl
    have x3 : m2 3 = E 2 := by rw [hm2]; rfl
    have x4 : m2 4 = E 3 := by rw [hm2]; rfl
    have x5 : m2 5 = E 4 := by rw [hm2]; rfl
    have x6 : m2 6 = E 5 := by rw [hm2]; rfl
    have xk : ∀ k, k ≠ 1 → k ≠ 2 → k ≠ 4 → k ≠ 5 → k ≠ 6 → m2 k = m1 k := fun k n1 n2 n4 n5 n6 => by
      by_cases hk0 : k < 1 ∨ 11 < k
      · rw [hm2, bg1n _ _ hk0]
      · have e1 := bg1 m1 E (k - 1) (by omega)
        have e2 := bv1 m1 (k - 1) (by omega)
        rw [show 1 + (k - 1) = k by omega] at e1 e2
        rw [hm2, e1, j11 (k - 1) (by omega) (by omega) (by omega) (by omega) (by omega), e2]
    have xkm : ∀ k, k ≠ 1 → k ≠ 2 → k ≠ 4 → k ≠ 5 → k ≠ 6 → k ≠ 31 → k ≠ 32 → m2 k = m k := fun k n1 n2 n4 n5 n6 n7 n8 => by rw [xk k n1 n2 n4 n5 n6, gk k n7 n8]
    have x1j : ∀ j, j ≠ 5 → m2 1 j = m 1 j := fun j hj => by rw [x1, j3 j hj, b0]
    have x4j : ∀ j, j ≠ 4 → m2 4 j = m 4 j := fun j hj => by rw [x4, j6 j hj, b3]
    have xb2 : xvw bT1 m1 1 = m 2 := by show m1 2 = _; rw [gk 2 (by omega) (by omega)]
    have xb4 : xvw bT1 m1 4 = m 5 := by show m1 5 = _; rw [gk 5 (by omega) (by omega)]
    have xb5 : xvw bT1 m1 5 = m 6 := by show m1 6 = _; rw [gk 6 (by omega) (by omega)]
    rw [xb2] at j4 j9
    rw [xb4] at j10
    rw [xb5] at j8
    obtain ⟨m', w1, w2⟩ := L_out_sp e F' S' f c r k nc (M 1) m2 he (by rw [x4j 3 (by omega), a1]) (by rw [x4j 5 (by omega), a3]) (by omega) (by rw [xkm 23 (by omega) (by omega) (by omega) (by omega) (by omega) (by omega) (by omega), v1]) v2 (by rw [xkm 23 (by omega) (by omega) (by omega) (by omega) (by omega) (by omega) (by omega), v3]) (by omega) (by rw [x1j 10 (by omega)]; exact t6)
      (by rw [xkm 30 (by omega) (by omega) (by omega) (by omega) (by omega) (by omega) (by omega), hk]) (by omega) (by rw [xkm 33 (by omega) (by omega) (by omega) (by omega) (by omega) (by omega) (by omega), hnc]) (by omega) (by rw [xkm 0 (by omega) (by omega) (by omega) (by omega) (by omega) (by omega) (by omega), s2]) (by rw [xkm 0 (by omega) (by omega) (by omega) (by omega) (by omega) (by omega) (by omega), s3]) (by rw [xkm 37 (by omega) (by omega) (by omega) (by omega) (by omega) (by omega) (by omega)]; exact hno)
    rw [if_neg q1, u2, b_bs, j1, b_bs, ← hm2, w1]
    dsimp only
    obtain ⟨⟨l1, l2⟩, l3, l4, ⟨e0, e1, e2, e3, e4, e5, e6, e7⟩, l7⟩ := id u3
    have lf : ∀ i, i ≠ o + 5 → i ≠ o + 7 → i ≠ o + 9 → (i < o + 10 ∨ o + 18 ≤ i) → o ≤ i → i < o + 717 → Ml 1 i = M 1 i := fun i n1 n2 n3 n4 n5 n6 => l7 i n1 n2 n3 n4 (by omega) (by omega) (by omega) (by omega) (by omega)
    have N0 : Ml 1 0 = m 0 7 := by rw [l7 0 (by omega) (by omega) (by omega) (by omega) (by omega) (by omega) (by omega) (by omega) (by omega), s0]
    have c1' : Ml 1 (o + 1) = (S' : Int) := by rw [lf _ (by omega) (by omega) (by omega) (by omega) (by omega) (by omega), a7]
    have c2' : Ml 1 (o + 2) = ((F' + S' : Nat) : Int) := by rw [lf _ (by omega) (by omega) (by omega) (by omega) (by omega) (by omega), a8]
    have c0' : Ml 1 o = (q' : Int) := by rw [lf _ (by omega) (by omega) (by omega) (by omega) (by omega) (by omega), i3]
    obtain ⟨Mx, hMx⟩ : ∃ Z, Z = xu (xu Ml 1 (o + 26 + 13 * S') ((F' + S' : Nat) : Int)) 1 (o + 26 + 13 * S' + 1) (z : Int) := ⟨_, rfl⟩
    have X : ∀ i, i ≠ o + 26 + 13 * S' → i ≠ o + 26 + 13 * S' + 1 → Mx 1 i = Ml 1 i := fun i n1 n2 => by rw [hMx, xu_d n2, xu_d n1]
    have X0 : Mx 1 (o + 26 + 13 * S') = ((F' + S' : Nat) : Int) := by rw [hMx, xu_d (by omega), xu_s rfl]
    have X1 : Mx 1 (o + 26 + 13 * S' + 1) = (z : Int) := by rw [hMx, xu_s rfl]
    obtain ⟨M', f1, ⟨f2, f3, f4⟩, ⟨f5, f6, f7⟩, f8, f9, f10⟩ := sendNew_91_sp e o z S' q' Mx he ho (by omega) (by omega) hq200 hC7 (by rw [X _ (by omega) (by omega), c0']) (by rw [X _ (by omega) (by omega), c1'])
    have eT : (if xw (1 : Int) = 0 then some (0, Ml) else (f_m_of (e : Int) 1 Ml).bind fun q5 => (f_m_frameAt (e : Int) q5 0 (xvw [] Ml)).bind fun q6 => (f_m_of (e : Int) 2 Ml).bind fun q7 =>
      if xib q6 3530 then (f_m_frameAt (e : Int) q5 1 (xvw [] (xu Ml 1 (xix q6) q7))).bind fun q8 => if xib q8 3530 then f_m_sendNew_91 (e : Int) (z : Int) q5 (xu (xu Ml 1 (xix q6) q7) 1 (xix q8) (z : Int)) else none else none) = some (1, M') := by
      have y0 : xib ((o + 26 + 13 * S' : Nat) : Int) 3530 := b_ib (by omega)
      have y1 : xib ((o + 26 + 13 * S' + 1 : Nat) : Int) 3530 := b_ib (by omega)
      have y3 : xix ((o + 26 + 13 * S' : Nat) : Int) = o + 26 + 13 * S' := by rw [b_ix (by omega)]; exact Int.toNat_natCast _
      have y4 : xix ((o + 26 + 13 * S' + 1 : Nat) : Int) = o + 26 + 13 * S' + 1 := by rw [b_ix (by omega)]; exact Int.toNat_natCast _
      rw [if_neg q0, m_of (i := o + 1) Ml (by omega) (by omega), b_bs, c1', m_frameAt (i := o + 26 + 13 * S') _ (by omega), b_bs, m_of (i := o + 2) Ml (by omega) (by omega), b_bs, if_pos y0, y3, m_frameAt (i := o + 26 + 13 * S' + 1) _ (by omega), b_bs, if_pos y1, y4, c2', ← hMx, f1]
    rw [eT]
    obtain ⟨⟨o1, o2, o3, o4⟩, ⟨o5, o6⟩, ⟨o7, o8, o9⟩, ⟨o10, o11⟩, wc, ⟨d3, d4⟩, oo⟩ := id w2
    have nG : ∀ i, (i < o ∨ (o + 3 ≤ i ∧ i < o + 26) ∨ o + 317 ≤ i) → M' 1 i = Ml 1 i := fun i hi => by rw [f9 i (by omega) (by omega) (by omega) (by omega) (by omega), X i (by omega) (by omega)]
    have mk0 : m2 0 = m 0 := xkm 0 (by omega) (by omega) (by omega) (by omega) (by omega) (by omega) (by omega)
    have mk : ∀ k, (k < 1 ∨ k = 3 ∨ (10 ≤ k ∧ k ≤ 22) ∨ k = 28 ∨ k = 29 ∨ 33 ≤ k) → m' k = m k := fun k hk => by rw [oo k (by omega) (by omega) (by omega) (by omega) (by omega) (by omega) (by omega), xkm k (by omega) (by omega) (by omega) (by omega) (by omega) (by omega) (by omega)]
    have m2' : m' 2 = E 1 := by rw [oo 2 (by omega) (by omega) (by omega) (by omega) (by omega) (by omega) (by omega), x2]
    have m5' : m' 5 = E 4 := by rw [oo 5 (by omega) (by omega) (by omega) (by omega) (by omega) (by omega) (by omega), x5]
    have m6' : m' 6 = E 5 := by rw [oo 6 (by omega) (by omega) (by omega) (by omega) (by omega) (by omega) (by omega), x6]
    have m7' : m2 7 = m 7 := xkm 7 (by omega) (by omega) (by omega) (by omega) (by omega) (by omega) (by omega)
    have hs6 : ∀ p, p < S' → m' 6 ((F' + p) % 7) = m 6 ((F' + p) % 7) ∧ ∀ j, j < 8 → m' 5 ((F' + p) % 7 * 8 + j) = m 5 ((F' + p) % 7 * 8 + j) := fun p hp => ⟨by rw [m6', j8 _ (by omega)], fun j hj => by rw [m5', j10 _ (by omega)]⟩
    have hRF : bRF 4 m' o (M' 1) := by
      refine ⟨F', S' + 1, S' + 1, by rw [o6 3 (by omega), x4j 3 (by omega), a1], by rw [o6 4 (by omega), x4, j5], o5, Nat.le_refl _, by omega, by omega, f6, by rw [f7, X _ (by omega) (by omega), c2']; omega, fun p hp => ?_⟩
      unfold bFr
      rw [show (4 + 2 : Nat) = 6 from rfl, show (4 + 1 : Nat) = 5 from rfl, show (4 + 3 : Nat) = 7 from rfl]
      by_cases hpS : p = S'
      · subst hpS
        refine ⟨?_, ?_, ?_, ?_, ?_, fun j hj hj2 => ?_⟩
        · rw [f9 _ (by omega) (by omega) (by omega) (by omega) (by omega), X0]
        · rw [f9 _ (by omega) (by omega) (by omega) (by omega) (by omega), X1, m6', j7]
        · rw [m6', j7]; omega
        · rw [f2, X _ (by omega) (by omega), N0, o10, mk0]
        · rw [f3, if_pos (by omega)]
        · rw [m6', j7] at hj2
          rw [f4 j (by omega), X _ (by omega) (by omega), lf _ (by omega) (by omega) (by omega) (by omega) (by omega) (by omega), m5', j9 j (by omega)]
          exact i4 j (by omega)
      · obtain ⟨c1, c2, c3, c4, c5, c6⟩ := a9 p (by omega)
        obtain ⟨h61, h62⟩ := hs6 p (by omega)
        have fl : ∀ i, i < 13 → M' 1 (o + 26 + 13 * p + i) = M 1 (o + 26 + 13 * p + i) := fun i q3 => by rw [f9 _ (by omega) (by omega) (by omega) (by omega) (by omega), X _ (by omega) (by omega), lf _ (by omega) (by omega) (by omega) (by omega) (by omega) (by omega)]
        rw [h61]
        refine ⟨by have := fl 0 (by omega); rw [Nat.add_zero] at this; rw [this, c1], by rw [fl 1 (by omega), c2], c3, ?_, ?_, fun j hj hj2 => ?_⟩
        · rw [fl 2 (by omega), c4, o11 _ (by omega), m7']
        · rw [fl 3 (by omega), c5, if_pos (by omega), if_pos (by omega)]
        · have := fl (4 + j) (by omega)
          rw [show o + 26 + 13 * p + (4 + j) = o + 26 + 13 * p + 4 + j by omega] at this
          rw [this, c6 j hj hj2, h62 j hj]
    have hRQ : bRQ 1 m' o (M' 1) := by
      refine ⟨q' - z, by omega, by rw [o9 5 (by omega) (by omega), x1, j2], f5, fun i hi => ?_⟩
      rw [f8 i hi, X _ (by omega) (by omega), lf _ (by omega) (by omega) (by omega) (by omega) (by omega) (by omega), show (1 + 1 : Nat) = 2 from rfl, m2', j4 i hi, ← i4 (i + z) (by omega)]
      congr 1
      omega
    have hR := L_sent_sp e o c (o + 117) z F' S' f r ((F' + S' : Nat) : Int) (bDm (M 1) k nc) (m 1 10) m m2 m' (M 1) (Ml 1) (M' 1) he ho (by omega) h w2 u3 xkm x1j nG hRF hRQ (u4.cg (by rw [xk 31 (by omega) (by omega) (by omega) (by omega) (by omega), g31]) (by rw [xk 32 (by omega) (by omega) (by omega) (by omega) (by omega), g32]) rfl (fun _ _ => rfl))
    have hdm : bDm (M 1) k nc = 0 ∨ bDm (M 1) k nc = 1 := by unfold bDm; split <;> omega
    have x110 : m2 1 10 = m 1 10 := x1j 10 (by omega)
    refine ⟨1, m', M', c + 1, rfl, rfl, hR, ?_, ⟨?_, ?_, ?_, ⟨?_, ?_, ?_⟩, ⟨?_, ?_⟩, ⟨?_, ?_⟩, fun k q1 q2 => mk k (by omega), fun k q1 q2 => mk k (by omega)⟩, Or.inr ⟨rfl, ?_⟩, ⟨fun k q0 q1 q6 => ?_, fun j hj => ?_⟩⟩
    · refine hw.send (F := F') (C := S') (C' := S' + 1) (S := S') (z := (if m2 1 10 = 0 then 0 else 4) + (if bDm (M 1) k nc = 0 then 0 else 2)) he ht hlo a1 a2 a3 (by omega) ?_ ?_ ?_ ?_ ?_ ?_ ?_ ?_ ?_ ?_ o5 ⟨by rw [o10, mk0], fun j hj hj2 => by rw [o11 j hj2, m7']⟩ hs6 ⟨by rw [wc.1, mk0], wc.2.1, wc.2.2.1, wc.2.2.2.1, wc.2.2.2.2.1, by rw [wc.2.2.2.2.2.1, xkm 23 (by omega) (by omega) (by omega) (by omega) (by omega) (by omega) (by omega)], fun k i q1 q2 q3 => by rw [wc.2.2.2.2.2.2 k i q1 q2 q3, xkm k (by omega) (by omega) (by omega) (by omega) (by omega) (by omega) (by omega)]⟩ ?_ (by omega) (fun i q1 q2 => ?_) ?_ ⟨⟨?_, ?_, ?_, ?_⟩, ?_, ?_, ?_, fun j hj hj2 => ?_⟩
      · rw [mk 0 (by omega)]
      · rw [mk 33 (by omega)]
      · rw [o9 7 (by omega) (by omega), x1j 7 (by omega)]
      · rw [mk 12 (by omega)]
      · exact mk 15 (by omega)
      · exact mk 16 (by omega)
      · exact mk 17 (by omega)
      · exact mk 18 (by omega)
      · rw [o6 3 (by omega), x4j 3 (by omega), a1]
      · rw [o6 4 (by omega), x4, j5]
      · rw [x110]
        rcases t6 with q | q <;> rcases hdm with q2 | q2 <;> rw [q, q2] <;> decide
      · rw [nG _ (by omega), l7 _ (by omega) (by omega) (by omega) (by omega) (by omega) (by omega) (by omega) (by omega) (by omega)]
      · rw [nG _ (by omega), l3]
      · rw [nG _ (by omega), e0, s0, y15]
      · rw [nG _ (by omega), e1]
      · rw [nG _ (by omega), e2]
      · rw [nG _ (by omega), e3]
      · rw [nG _ (by omega), e5, x110]
        rcases t6 with q | q <;> rcases hdm with q2 | q2 <;> rw [q, q2] <;> decide
      · rw [nG _ (by omega), e6, x110]
        rcases t6 with q | q <;> rcases hdm with q2 | q2 <;> rw [q, q2] <;> decide
      · rw [nG _ (by omega), e4, m6', j7]
      · rw [m6', j7] at hj2
        rw [nG _ (by omega), e7 j (by omega), m5', j9 j (by omega)]
        exact i4 j (by omega)
    · rw [mk 0 (by omega)]
    · rw [o6 3 (by omega), x4j 3 (by omega)]
    · rw [o6 4 (by omega), x4, j5, a2]; omega
    · rw [o9 6 (by omega) (by omega), x1j 6 (by omega)]
    · rw [o9 7 (by omega) (by omega), x1j 7 (by omega)]
    · rw [o9 9 (by omega) (by omega), x1j 9 (by omega)]
    · rw [o8, x1j 8 (by omega)]; omega
    · rw [o8, x1j 8 (by omega)]; omega
    · rw [o1, xkm 30 (by omega) (by omega) (by omega) (by omega) (by omega) (by omega) (by omega)]; omega
    · rw [o1, xkm 30 (by omega) (by omega) (by omega) (by omega) (by omega) (by omega) (by omega)]; exact Int.le_refl _
    · rw [o5, a3]; omega
    · rw [f10 k q1, hMx, xu_K q1, xu_K q1, p4 k q0 q1 q6]
    · rw [f10 0 (by omega), hMx, xu_k (by omega), xu_k (by omega), p5 j hj]

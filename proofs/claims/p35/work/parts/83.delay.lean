/-! ===== the clause delay ===== -/
theorem R_delay_sp {B : Nat → Int} {L f0 : Nat} {m q6 M M6 : xM} (hn : f_T_next (xvw [1, 2] m) = some q6) (hq : bFc (xvw [1, 2] m) q6) (hM : bFm M M6) (h : ∃ s e, f0 ≤ s ∧ bGo B L s e (q6 0) (q6 1) M6) (hd : bDr m M) : ∃ (m' M1 M' : xM), f_R_delay m = some m' ∧ f_m_readDelay M6 = some M1 ∧ f_m_expect 59 M1 = some M' ∧ bFR m m' ∧ bF2 M M' ∧ ((∃ s' e', f0 < s' ∧ bGo B L s' e' (m' 1) (m' 2) M' ∧ bDr m' M') ∨ bEr B L (m' 1) M') := by
  unfold f_R_delay f_m_readDelay
  rw [hn, Option.bind_some]
  obtain ⟨n0, e1, e2, e3, e4, e5, e6⟩ := R_mg m q6 hq
  rw [e1]
  obtain ⟨q1, M2, x, X, a1, a2, a3, a4, a5⟩ := st_number (m := xvw [1, 2] n0) (f := f0) (M := M6) (B := B) (L := L) 1 9 (by omega) (Or.inl (by rw [show xvw [1, 2] n0 0 = q6 0 from e2, show xvw [1, 2] n0 1 = q6 1 from e3]; exact h))
  rw [a1, a2, Option.bind_some, Option.bind_some]
  dsimp only
  obtain ⟨n1, g1, g2, g3, g4, g5, g6⟩ := R_mg n0 q1 a3
  rw [g1]
  obtain ⟨Y, hY⟩ : ∃ Y, Y = xu n1 3 10 x := ⟨_, rfl⟩
  rw [← hY]
  have y1 : Y 1 = q1 0 := by rw [hY, xu_K (by omega), g2]
  have y2 : Y 2 = q1 1 := by rw [hY, xu_K (by omega), g3]
  have yF : bFR m Y := ⟨fun k hk => by rw [hY, xu_K (by omega), g4 k (by omega), e4 k (by omega)], by rw [hY, xu_k (by omega), g5, e5], by rw [hY, xu_k (by omega), g6, e6]⟩
  have yk : ∀ k, k ≠ 1 → k ≠ 3 → Y k = m k := fun k h1 h3 => by rw [hY, xu_K h3, g4 k h1, e4 k h1]
  have y3 : ∀ i, i ≠ 10 → Y 3 i = m 3 i := fun i hi => by rw [hY, xu_d hi, g4 3 (by omega), e4 3 (by omega)]
  have y10 : Y 3 10 = x := by rw [hY, xu_s rfl]
  have FM : bFm M M2 := hM.trans a4
  rcases a5 with ⟨b1, b2, b3, s, e, b4, b5⟩ | ⟨b1, b2, c, r, u1, u2⟩
  · have hgo : bSs B L f0 ((xvw [1, 2] Y) 0) ((xvw [1, 2] Y) 1) M2 := Or.inl ⟨s, e, by omega, by rw [show xvw [1, 2] Y 0 = q1 0 from y1, show xvw [1, 2] Y 1 = q1 1 from y2]; exact b5⟩
    rcases st_greater 0 60 (by omega) hgo with ⟨c1, V, v1, v2, v3, c2⟩ | ⟨q2, c1, c2, c3⟩
    · rw [c1, Option.bind_some]
      dsimp only
      rw [if_neg (show ¬ xw 1 = 0 by decide), xmg_self [1, 2] 2 (by omega) Y]
      unfold f_R_delay_35
      have v1' : Y 1 5 = V := v1
      have hc := c2 (2 * X) (by omega) (by omega)
      rw [y10, v1', b1, b_xw (show -2147483648 ≤ 2 * X ∧ 2 * X < 2147483648 by omega), b_xw (show -2147483648 ≤ V ∧ V < 2147483648 by omega)]
      by_cases hV : 2 * X < V
      · rw [if_pos hV]
        obtain ⟨q3, M3, d1, d2, d3, d4, s3, e3', d5, d6⟩ := hc.1 hV
        rw [d2, Option.bind_some]
        dsimp only
        rw [if_pos (show xw (M3 0 18) = 0 by rw [d6.err]; decide), if_pos (b_ib (by omega)), if_pos (b_ib (by omega))]
        unfold f_T_takeLast f_T_takeNumber
        rw [c1, Option.bind_some]
        dsimp only
        rw [if_neg (show ¬ xw 1 = 0 by decide), d1, Option.bind_some, Option.bind_some]
        dsimp only
        obtain ⟨M4, hM4⟩ : ∃ Z, Z = xu (xu M3 2 15 X) 2 16 V := ⟨_, rfl⟩
        rw [← hM4]
        obtain ⟨q4, M5, z, k1, k2, k3, k4, k5⟩ := st_sign (f := f0) (m := q3) (M := M4) (B := B) (L := L) 59 (by omega) (Or.inl ⟨s3, e3', by omega, d6.cgM (by rw [hM4, xu_K (by omega), xu_K (by omega)]) (by rw [hM4, xu_K (by omega), xu_K (by omega)])⟩)
        obtain ⟨n2, w1, w2, w3, w4, w5, w6⟩ := R_mg Y q4 (d3.trans k3)
        rw [k1, Option.bind_some, Option.bind_some]
        dsimp only
        rw [w1, show xvw [1, 2] Y 0 5 = V from v1]
        have m2 : ∀ i, i ≠ 15 → i ≠ 16 → M5 2 i = M 2 i := fun i h1 h2 => by rw [k4.1 2 (by omega), hM4, xu_d h2, xu_d h1, d4.1 2 (by omega), FM.1 2 (by omega)]
        have m15 : M5 2 15 = X := by rw [k4.1 2 (by omega), hM4, xu_d (by omega), xu_s rfl]
        have m16 : M5 2 16 = V := by rw [k4.1 2 (by omega), hM4, xu_s rfl]
        have f4 : bF2 M3 M4 := by rw [hM4]; exact (bF2.put (by decide)).trans (bF2.put (by decide))
        refine ⟨_, M4, M5, rfl, rfl, k2, yF.trans ⟨fun k hk => by rw [xu_K (by omega), w4 k (by omega)], by rw [xu_k (by omega), w5], by rw [xu_k (by omega), w6]⟩, ((FM.to.trans d4.to).trans f4).trans k4.to, ?_⟩
        rw [xu_K (show 1 ≠ 3 by omega), xu_K (show 2 ≠ 3 by omega), w2, w3]
        rcases k5 with ⟨_, s', e', p1, p2⟩ | ⟨_, p2⟩
        · refine Or.inl ⟨s', e', p1, p2, ?_⟩
          obtain ⟨⟨r1, r2, r3, r4, r5, r6, r7, r8, r9, k1', l1, n2'⟩, r10, r11⟩ := hd
          have z3 : ∀ i, i ≠ 10 → i ≠ 11 → (xu n2 3 11 V) 3 i = m 3 i := fun i h1 h2 => by rw [xu_d h2, w4 3 (by omega), y3 i h1]
          have z10 : (xu n2 3 11 V) 3 10 = X := by rw [xu_d (by omega), w4 3 (by omega), y10, b1]
          have z11 : (xu n2 3 11 V) 3 11 = V := xu_s rfl
          have zk : ∀ k, k ≠ 1 → k ≠ 3 → (xu n2 3 11 V) k = m k := fun k h1 h3 => by rw [xu_K h3, w4 k h1, yk k h1 h3]
          obtain ⟨Z, hZ⟩ : ∃ Z, Z = xu n2 3 11 V := ⟨_, rfl⟩
          rw [← hZ] at z3 z10 z11 zk ⊢
          refine ⟨?_, by rw [m2 2 (by omega) (by omega), z3 6 (by omega) (by omega)]; exact r10, by rw [z3 6 (by omega) (by omega)]; exact r11⟩
          have x34 : bUp Z 34 = bUp m 34 := zk 4 (by omega) (by omega)
          have x35 : bUp Z 35 = bUp m 35 := zk 5 (by omega) (by omega)
          have x36 : bUp Z 36 = bUp m 36 := zk 6 (by omega) (by omega)
          have x37 : bUp Z 37 = bUp m 37 := zk 7 (by omega) (by omega)
          have x3 : ∀ i, i ≠ 10 → i ≠ 11 → bUp Z 33 i = bUp m 33 i := z3
          have x10 : bUp Z 33 10 = X := z10
          have x11 : bUp Z 33 11 = V := z11
          unfold bRP
          rw [x34, x35, x36, x37, x10, x11, m15, m16, x3 4 (by omega) (by omega), x3 5 (by omega) (by omega), x3 7 (by omega) (by omega), x3 8 (by omega) (by omega), x3 9 (by omega) (by omega), x3 12 (by omega) (by omega), x3 13 (by omega) (by omega), m2 11 (by omega) (by omega), m2 12 (by omega) (by omega), m2 13 (by omega) (by omega), m2 14 (by omega) (by omega), m2 17 (by omega) (by omega), m2 18 (by omega) (by omega), m2 19 (by omega) (by omega)]
          exact ⟨r1, r2, r3, r4, ⟨rfl, by omega, by omega⟩, ⟨rfl, hV, v3⟩, r7, r8, r9, fun i hi => by rw [m2 _ (by omega) (by omega)]; exact k1' i hi, fun i hi => by rw [m2 _ (by omega) (by omega)]; exact l1 i hi, fun i hi => by rw [m2 _ (by omega) (by omega), m2 _ (by omega) (by omega)]; exact n2' i hi⟩
        · exact Or.inr p2
      · rw [if_neg hV]
        obtain ⟨q3, M3, W, d1, d2, d3, d4, d5⟩ := hc.2 hV
        rw [d2, d1, Option.bind_some, Option.bind_some]
        dsimp only
        rw [if_neg d5.ne]
        obtain ⟨n2, w1, w2, w3, w4, w5, w6⟩ := R_mg Y q3 d3
        rw [w1]
        obtain ⟨c, r, u1, u2⟩ := d5
        exact ⟨n2, M3, M3, rfl, rfl, u2.expect, yF.trans ⟨fun k hk => w4 k (by omega), w5, w6⟩, FM.to.trans d4.to, Or.inr ⟨c, r, by rw [w2]; exact u1, u2⟩⟩
    · rw [c1, Option.bind_some]
      dsimp only
      rw [if_pos (show xw 0 = 0 by decide)]
      obtain ⟨M3, W, d1, d2, d3⟩ := c3 (2 * X)
      rw [d1, Option.bind_some]
      dsimp only
      rw [if_neg d3.ne]
      obtain ⟨n2, w1, w2, w3, w4, w5, w6⟩ := R_mg Y q2 c2
      rw [w1]
      obtain ⟨c, r, u1, u2⟩ := d3
      exact ⟨n2, M3, M3, rfl, rfl, u2.expect, yF.trans ⟨fun k hk => w4 k (by omega), w5, w6⟩, FM.to.trans d2.to, Or.inr ⟨c, r, by rw [w2]; exact u1, u2⟩⟩
  · have hno : bNo c r ((xvw [1, 2] Y) 0) := by rw [show xvw [1, 2] Y 0 = q1 0 from y1]; exact u1
    rw [hno.has, Option.bind_some]
    dsimp only
    rw [if_pos (show xw 0 = 0 by decide), xmg_self [1, 2] 2 (by omega) Y]
    obtain ⟨W, d1, d2⟩ := u2.greater (a := 0) (b := 60) (t := 2 * X)
    rw [d1, Option.bind_some]
    dsimp only
    rw [if_neg u2.ne]
    exact ⟨Y, M2, M2, rfl, rfl, u2.expect, yF, FM.to, Or.inr ⟨c, r, hno, u2⟩⟩

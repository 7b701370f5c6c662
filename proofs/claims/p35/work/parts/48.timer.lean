/-! ===== timers ===== -/
/-- what timers and rises leave of the line -/
def bLv (m m' : xM) : Prop := (∀ j, j ≠ 8 → j ≠ 10 → j ≠ 15 → j ≠ 16 → m' 0 j = m 0 j) ∧ (m' 4 3 + m' 4 4 = m 4 3 + m 4 4 ∧ m' 15 3 + m' 15 4 = m 15 3 + m 15 4) ∧ ((∀ j, 6 ≤ j → j ≤ 8 → m' 1 j = m 1 j) ∧ ∀ j, 6 ≤ j → j ≤ 8 → m' 12 j = m 12 j) ∧ m' 30 0 = m 30 0 ∧ ∀ k, 33 ≤ k → k ≤ 37 → m' k = m k
theorem bLv.refl (m : xM) : bLv m m := ⟨fun _ _ _ _ _ => rfl, ⟨rfl, rfl⟩, ⟨fun _ _ _ => rfl, fun _ _ _ => rfl⟩, rfl, fun _ _ _ => rfl⟩
theorem bLv.trans {m m' m'' : xM} (h : bLv m m') (h' : bLv m' m'') : bLv m m'' := by
  obtain ⟨a1, ⟨a2, a3⟩, ⟨a4, a5⟩, a6, a7⟩ := h
  obtain ⟨b1, ⟨b2, b3⟩, ⟨b4, b5⟩, b6, b7⟩ := h'
  exact ⟨fun j h1 h2 h3 h4 => by rw [b1 j h1 h2 h3 h4, a1 j h1 h2 h3 h4], ⟨by omega, by omega⟩, ⟨fun j h1 h2 => by rw [b4 j h1 h2, a4 j h1 h2], fun j h1 h2 => by rw [b5 j h1 h2, a5 j h1 h2]⟩, by omega, fun k h1 h2 => by rw [b7 k h1 h2, a7 k h1 h2]⟩
theorem bSame.lv {m m' : xM} (h : bSame m m') : bLv m m' := by
  obtain ⟨a1, a2, a3⟩ := h
  exact ⟨fun j _ h2 h3 h4 => a1 j h2 h3 h4, ⟨by rw [a3 4 (by omega) (by omega) (by omega) (by omega)], by rw [a3 15 (by omega) (by omega) (by omega) (by omega)]⟩, ⟨fun j _ _ => by rw [a3 1 (by omega) (by omega) (by omega) (by omega)], fun j _ _ => by rw [a3 12 (by omega) (by omega) (by omega) (by omega)]⟩, a2, fun k h1 h2 => a3 k (by omega) (by omega) (by omega) (by omega)⟩
theorem bCut.lv {m m' : xM} (h : bCut m m') : bLv m m' := by
  obtain ⟨⟨p1, p2⟩, p3, ⟨p4, p5, p6, p7⟩, ⟨p8, p9, p10⟩, ⟨p11, p12, p13⟩, p14, p15⟩ := h
  exact ⟨fun j h1 _ _ _ => p2 j h1, ⟨by omega, by omega⟩, ⟨fun j h1 h2 => p6 j (by omega), fun j h1 h2 => p7 j (by omega)⟩, p14 0 (by omega), fun k h1 h2 => p15 k (by omega) (by omega) (by omega) (by omega) (by omega) (by omega) (by omega) (by omega) (by omega)⟩
theorem bLv.tw {m q m' q' : xM} (h : bLv m m') (t : bTw m q) (t' : bTw m' q') : bLv q q' := by
  obtain ⟨a1, ⟨a2, a3⟩, ⟨a4, a5⟩, a12, a13⟩ := h
  obtain ⟨t1, t2, t0, t3⟩ := t
  obtain ⟨u1, u2, u0, u3⟩ := t'
  have w1 : q 1 = m 12 := t1 0 (by omega)
  have w4 : q 4 = m 15 := t1 3 (by omega)
  have w12 : q 12 = m 1 := t2 0 (by omega)
  have w15 : q 15 = m 4 := t2 3 (by omega)
  have x1 : q' 1 = m' 12 := u1 0 (by omega)
  have x4 : q' 4 = m' 15 := u1 3 (by omega)
  have x12 : q' 12 = m' 1 := u2 0 (by omega)
  have x15 : q' 15 = m' 4 := u2 3 (by omega)
  have w30 : q 30 = m 30 := t3 7 (by omega)
  have x30 : q' 30 = m' 30 := u3 7 (by omega)
  unfold bLv
  rw [w1, w4, w12, w15, x1, x4, x12, x15, w30, x30, t0, u0]
  exact ⟨a1, ⟨a3, a2⟩, ⟨a5, a4⟩, a12, fun k h1 h2 => by
    have e1 := t3 (k - 23) (by omega)
    have e2 := u3 (k - 23) (by omega)
    rw [show 23 + (k - 23) = k by omega] at e1 e2
    rw [e1, e2, a13 k h1 h2]⟩
/-- what holds where a line is idle -/
def bIdle (m : xM) : Prop := m 0 8 = 0 ∧ m 23 5 = 0 ∧ (m 1 5 = 0 ∧ m 12 5 = 0) ∧ (m 4 4 = 0 ∧ m 4 5 = 0) ∧ m 15 4 = 0 ∧ m 15 5 = 0
theorem bCut.idle {m m' : xM} (h : bCut m m') : bIdle m' := by
  obtain ⟨⟨p1, p2⟩, p3, ⟨p4, p5, p6, p7⟩, ⟨p8, p9, p10⟩, ⟨p11, p12, p13⟩, p14, p15⟩ := h
  exact ⟨p1, p3, ⟨p4, p5⟩, ⟨p9, p10⟩, p12, p13⟩
theorem bIdle.tw {m q : xM} (h : bIdle m) (t : bTw m q) : bIdle q := by
  obtain ⟨p1, p3, ⟨p4, p5⟩, ⟨p9, p10⟩, p12, p13⟩ := h
  obtain ⟨t1, t2, t0, t3⟩ := t
  have w1 : q 1 = m 12 := t1 0 (by omega)
  have w4 : q 4 = m 15 := t1 3 (by omega)
  have w12 : q 12 = m 1 := t2 0 (by omega)
  have w15 : q 15 = m 4 := t2 3 (by omega)
  have w23 : q 23 = m 23 := t3 0 (by omega)
  unfold bIdle
  rw [w1, w4, w12, w15, w23, t0]
  exact ⟨p1, p3, ⟨p5, p4⟩, ⟨p12, p13⟩, p9, p10⟩
/-- entries under way of which nothing was touched -/
theorem bWire.cg {e : Nat} {m m' : xM} {N N' : Nat → Int} {lo hi : Int} {f c : Nat} (h : bWire e m N lo hi f c) (hm : ∀ k, k = 5 ∨ k = 6 ∨ k = 7 ∨ (16 ≤ k ∧ k ≤ 18) ∨ (23 ≤ k ∧ k ≤ 27) ∨ k = 33 → m' k = m k) (h0 : m' 0 7 = m 0 7) (hX : m' 12 7 = m 12 7 ∧ m' 1 7 = m 1 7) (hF : ∀ j, 3 ≤ j → j ≤ 5 → m' 4 j = m 4 j ∧ m' 15 j = m 15 j) (hN : ∀ i, 1730 ≤ i → N' i = N i) (h20 : N' 20 = N 20) : bWire e m' N' lo hi f c := by
  obtain ⟨a, b, d, g1, g2⟩ := h
  have s24 : bSq m' 24 = bSq m 24 := by funext f i; show m' 24 _ = m 24 _; rw [hm 24 (by omega)]
  have s25 : bSq m' 25 = bSq m 25 := by funext f i; show m' 25 _ = m 25 _; rw [hm 25 (by omega)]
  have s26 : bSq m' 26 = bSq m 26 := by funext f i; show m' 26 _ = m 26 _; rw [hm 26 (by omega)]
  have s27 : bSq m' 27 = bSq m 27 := by funext f i; show m' 27 _ = m 27 _; rw [hm 27 (by omega)]
  have v7 : bSt m' 7 = bSt m 7 := by funext n; show m' 7 _ = m 7 _; rw [hm 7 (by omega)]
  have v18 : bSt m' 18 = bSt m 18 := by funext n; show m' 18 _ = m 18 _; rw [hm 18 (by omega)]
  unfold bWire bWd bWe bWc at *
  rw [show 4 + 1 = 5 from rfl, show 4 + 2 = 6 from rfl, show 15 + 1 = 16 from rfl, show 15 + 2 = 17 from rfl] at *
  rw [s24, s25, s26, s27, v7, v18, hm 23 (by omega), hm 33 (by omega), hm 5 (by omega), hm 6 (by omega), hm 16 (by omega), hm 17 (by omega), h0, hX.1, hX.2, (hF 3 (by omega) (by omega)).1, (hF 4 (by omega) (by omega)).1, (hF 5 (by omega) (by omega)).1, (hF 3 (by omega) (by omega)).2, (hF 4 (by omega) (by omega)).2, (hF 5 (by omega) (by omega)).2, h20]
  refine ⟨a, fun i hi => ?_, d, g1, g2⟩
  rw [hN _ (by omega), hN _ (by omega), hN _ (by omega), hN _ (by omega), hN _ (by omega), hN _ (by omega), hN _ (by omega)]
  obtain ⟨b1, b2, b3, b4, b5⟩ := b i hi
  refine ⟨b1, b2, b3, b4, fun hx => ?_⟩
  obtain ⟨c1, c2, c3, c4, c5⟩ := b5 hx
  exact ⟨c1, c2, c3, fun hy => ⟨(c4 hy).1, fun j hj hj2 => by rw [hN _ (by omega)]; exact (c4 hy).2 j hj hj2⟩, fun hy => ⟨(c5 hy).1, fun j hj hj2 => by rw [hN _ (by omega)]; exact (c5 hy).2 j hj hj2⟩⟩
/-- falling, whichever end is first -/
theorem L_fall_e (e : Nat) (m M : xM) (he : e < 2) (h : bRL e m (M 1)) (h1 : m 0 8 = 2) : ∃ m' M' : xM, (if e = 0 then (f_L_fall m).bind (fun q3 => some q3) else (f_L_fall (xvw xT_1 m)).bind (fun q3 => some (xmg xT_1 38 m q3))) = some m' ∧ f_m_fall M = some M' ∧ bRL e m' (M' 1) ∧ bLv m m' ∧ (((∀ k, k ≤ 27 → k ≠ 0 → m' k = m k) ∧ m' 0 8 = 2 ∧ (∀ i, 1730 ≤ i → M' 1 i = M 1 i) ∧ M' 1 20 = M 1 20) ∨ (bIdle m' ∧ M' 1 20 = 0)) ∧ ∀ k, k ≠ 1 → M' k = M k := by
  by_cases h0 : e = 0
  · subst h0
    obtain ⟨m', M', p1, p2, p3, p4, p5⟩ := L_fall_sp m M h h1
    refine ⟨m', M', by rw [if_pos rfl, p1, b_bs], p2, p3, ?_, ?_, p5⟩
    · rcases p4 with ⟨q, -, -⟩ | ⟨q, -⟩
      · exact q.lv
      · exact q.lv
    · rcases p4 with ⟨q, q2, q3⟩ | ⟨q, q2⟩
      · exact Or.inl ⟨fun k hk hk0 => q.2.2 k hk0 (by omega) (by omega) (by omega), by rw [q.1 8 (by omega) (by omega) (by omega), h1], q2, q3⟩
      · exact Or.inr ⟨q.idle, q2⟩
  · have e1 : e = 1 := by omega
    subst e1
    have tv := bTw.v m
    obtain ⟨m', M', p1, p2, p3, p4, p5⟩ := L_fall_sp (xvw xT_1 m) M (tv.rl (by omega) h) (by rw [tv.2.2.1]; exact h1)
    have tg := bTw.g m m'
    refine ⟨xmg xT_1 38 m m', M', by rw [if_neg (by omega), p1, b_bs], p2, tg.rl (by omega) p3, ?_, ?_, p5⟩
    · rcases p4 with ⟨q, -, -⟩ | ⟨q, -⟩
      · exact q.lv.tw tv.symm tg
      · exact q.lv.tw tv.symm tg
    · rcases p4 with ⟨q, q2, q3⟩ | ⟨q, q2⟩
      · have g : ∀ k, k ≤ 27 → k ≠ 0 → m' k = xvw xT_1 m k := fun k hk hk0 => q.2.2 k hk0 (by omega) (by omega) (by omega)
        refine Or.inl ⟨fun k hk hk0 => ?_, by rw [tg.2.2.1, q.1 8 (by omega) (by omega) (by omega), tv.2.2.1, h1], q2, q3⟩
        by_cases k1 : k ≤ 11
        · have y1 := tg.1 (k - 1) (by omega)
          have y2 := tv.2.1 (k - 1) (by omega)
          rw [show 1 + (k - 1) = k by omega] at y1 y2
          rw [y1, g _ (by omega) (by omega), y2]
        · by_cases k2 : k ≤ 22
          · have y1 := tg.2.1 (k - 12) (by omega)
            have y2 := tv.1 (k - 12) (by omega)
            rw [show 12 + (k - 12) = k by omega] at y1 y2
            rw [y1, g _ (by omega) (by omega), y2]
          · have y1 := tg.2.2.2 (k - 23) (by omega)
            have y2 := tv.2.2.2 (k - 23) (by omega)
            rw [show 23 + (k - 23) = k by omega] at y1 y2
            rw [y1, g _ (by omega) (by omega), y2]
      · exact Or.inr ⟨q.idle.tw tg, q2⟩
theorem L_timer_sp (e : Nat) (m M : xM) (f c : Nat) (lo hi : Int) (he : e < 2) (h : bRL e m (M 1)) (hw : bWire e m (M 1) lo hi f c) (h1 : m 0 8 = 2) (hlo : m 0 7 - m 33 10 < lo) (hhi : hi ≤ m 0 7) (ht : 0 ≤ m 0 7 ∧ m 0 7 ≤ 1000000) :
    ∃ m' M' : xM, (if e = 0 then f_L_timer0 0 m else f_L_timer1 1 m) = some m' ∧ f_m_timer (e : Int) M = some M' ∧ bRL e m' (M' 1) ∧ bLv m m' ∧ ((bWire e m' (M' 1) lo hi f c ∧ m' 0 8 = 2) ∨ (bIdle m' ∧ M' 1 20 = 0)) ∧ ∀ k, k ≠ 1 → M' k = M k := by
  have hh := h
  obtain ⟨r1, r2, r3, r4, r5, r6⟩ := h
  obtain ⟨s0, s1, s2, s3, s4, s5, s6, s7, s8, s9, s10⟩ := id r6
  obtain ⟨F, C, S, a1, a2, a3, a4, a5, a6, a7, a8, a9⟩ := id r1.1
  rw [show (1 + 3 : Nat) = 4 from rfl] at a1 a2 a3
  obtain ⟨o, ho⟩ : ∃ o : Nat, o = 56 + 717 * e := ⟨_, rfl⟩
  rw [← ho] at a7 a8 a9 r1
  have hP := r5
  obtain ⟨-, -, -, -, ⟨-, y15, y15'⟩, ⟨y16, y16', y16''⟩, ⟨y17, y17', y17''⟩, -, -, -, -, -⟩ := hP
  have hfr : ∀ p, p < C → M 1 (o + 26 + 13 * p + 3) = (if p < S then 0 else 1) := fun p hp => (a9 p hp).2.2.2.2.1
  have hb : ∀ p, p < C → M 1 (o + 26 + 13 * p + 3) = 0 ∨ M 1 (o + 26 + 13 * p + 3) = 1 := fun p hp => by rw [hfr p hp]; split <;> omega
  have hCl : (if e = 0 then f_L_timer0 0 m else f_L_timer1 1 m) = (if xw (m 4 5) = 0 then some m else (f_F_slot 0 (xvw [4, 5, 6, 7] m)).bind fun q1 => if xib q1 7 then (if xw ((m 0 7) - (m 7 (xix q1))) < xw (m 33 11) then some m else
      if e = 0 then f_L_timer0_69 0 (xu (xu (xu (xu m 4 5 0) 1 10 1) 0 15 ((m 0 15) + 1)) 0 16 0) else f_L_timer1_69 1 (xu (xu (xu (xu m 4 5 0) 1 10 1) 0 15 ((m 0 15) + 1)) 0 16 0)) else none) := by
    by_cases h0 : e = 0
    · rw [if_pos h0]
      unfold f_L_timer0
      simp only [if_pos h0]
    · rw [if_neg h0]
      unfold f_L_timer1
      simp only [if_neg h0]
  rw [hCl, a3]
  by_cases hS : S = 0
  · rw [if_pos (by rw [b_xw (by omega)]; omega)]
    refine ⟨m, M, rfl, ?_, hh, bLv.refl m, Or.inl ⟨hw, h1⟩, fun _ _ => rfl⟩
    unfold f_m_timer
    rw [firstThat_sp 0 e o C C M he ho a5 a7 (Nat.le_refl _) (Or.inl rfl) hb (fun p hp => by rw [hfr p hp, if_neg (by omega)]; decide) (fun hz => absurd hz (Nat.lt_irrefl _)), b_bs, if_neg (Nat.lt_irrefl _), if_pos rfl]
  · rw [if_neg (by rw [b_xw (by omega)]; omega)]
    have hfs : f_F_slot 0 (xvw [4, 5, 6, 7] m) = some (((F % 7 : Nat)) : Int) := by
      unfold f_F_slot
      have hz : xvw [4, 5, 6, 7] m 0 3 + 0 = ((F : Nat) : Int) := by
        have : xvw [4, 5, 6, 7] m 0 = m 4 := rfl
        rw [this, a1]; omega
      rw [hz, show (7 : Int) = ((7 : Nat) : Int) from rfl, b_floorMod _ 7 _ (by omega) (by decide) (by decide), b_bs]
    have hl7 : F % 7 < 7 := Nat.mod_lt _ (by decide)
    obtain ⟨c1, c2, c3, c4, c5, c6⟩ := a9 0 (by omega)
    rw [Nat.add_zero] at c4
    have c4' : M 1 (o + 26 + 13 * 0 + 2) = m 7 (F % 7) := c4
    have d1 := hw.2.2.2.1
    have st0 := d1.2.2.2.2.2.2.2.2 (F : Int) (by omega) (by omega)
    have st1 : bSt m 7 (F : Int) = m 7 (F % 7) := by show m 7 _ = m 7 _; congr 1
    rw [st1] at st0
    rw [hfs, b_bs, if_pos (b_ib (by omega)), b_ix (by omega), Int.toNat_natCast]
    have hM0 : f_m_timer (e : Int) M = (if xw (m 0 7 - m 7 (F % 7)) < xw (m 33 11) then some M else f_m_timer_39 (e : Int) fu 0 M) := by
      unfold f_m_timer
      rw [firstThat_sp 0 e o C 0 M he ho a5 a7 (Nat.zero_le _) (Or.inl rfl) hb (fun p hp => by omega) (fun _ => by rw [hfr 0 (by omega), if_pos (by omega)]), b_bs, if_pos (show 0 < C by omega), if_neg (show ¬ xw ((0 : Nat) : Int) = xw (-1) by decide), if_pos (b_ib (by omega)), m_ofFrame (i := o + 26 + 13 * 0 + 2) M (by omega) (by omega), b_bs, if_pos (b_ib (by omega)), s0, y16, c4']
    rw [hM0]
    by_cases hto : xw (m 0 7 - m 7 (F % 7)) < xw (m 33 11)
    · rw [if_pos hto, if_pos hto]
      exact ⟨m, M, rfl, rfl, hh, bLv.refl m, Or.inl ⟨hw, h1⟩, fun _ _ => rfl⟩
    · rw [if_neg hto, if_neg hto]
      rw [b_xw (by omega), b_xw (by omega)] at hto
      -- both ahead of the event
      obtain ⟨m1, hm1⟩ : ∃ Z, Z = xu (xu (xu (xu m 4 5 0) 1 10 1) 0 15 ((m 0 15) + 1)) 0 16 0 := ⟨_, rfl⟩
      obtain ⟨m2, hm2⟩ : ∃ Z, Z = xu m1 30 3 (m1 30 3 + 1) := ⟨_, rfl⟩
      obtain ⟨Ma, t1, t2, t3, t4⟩ := timer_39 e o C he ho a5 C 0 fu M a7 (by omega) (by show _ < 5000; omega)
      obtain ⟨M1, hM1⟩ : ∃ Z, Z = xu (xu (xu (xu Ma 1 (o + 9) 1) 1 48 (Ma 1 48 + 1)) 1 8 (Ma 1 8 + 1)) 1 9 0 := ⟨_, rfl⟩
      have t2' : ∀ p, p < C → Ma 1 (o + 26 + 13 * p + 3) = 1 := fun p hp => t2 p (Nat.zero_le _) hp
      have t3' : ∀ i, (∀ p, p < C → i ≠ o + 26 + 13 * p + 3) → Ma 1 i = M 1 i := fun i hi => t3 i (fun p _ hp => hi p hp)
      have eM : f_m_timer_39 (e : Int) fu 0 M = (f_m_tellEvent 6 (e : Int) M1).bind fun q4 => if xib 8 3530 then (if xib 17 3530 then (if xw (q4 1 8) < xw (q4 1 17) then some q4 else (f_m_fall q4).bind fun q5 => some q5) else none) else none := by
        have t1' : f_m_timer_39 (e : Int) fu 0 M = f_m_timer_67 (e : Int) Ma := t1
        rw [t1']
        unfold f_m_timer_67 f_m_timer_90
        rw [m_endAt (i := o + 9) _ (by omega), b_bs, if_pos (b_ib (by omega)), if_pos (b_ib (by omega)), if_pos (b_ib (by omega)), b_ix (by omega), Int.toNat_natCast, if_pos (b_ib (by omega)), if_pos (b_ib (by omega)), if_pos (b_ib (by omega))]
        have z1 : xu Ma 1 (o + 9) 1 1 48 = Ma 1 48 := xu_d (by omega)
        have z2 : xu (xu Ma 1 (o + 9) 1) 1 48 (Ma 1 48 + 1) 1 8 = Ma 1 8 := by rw [xu_d (by omega), xu_d (by omega)]
        rw [z1, z2, ← hM1]
      have j4 : ∀ j, j ≠ 5 → m1 4 j = m 4 j := fun j hj => by rw [hm1, xu_k (by omega), xu_k (by omega), xu_k (by omega), xu_d hj]
      have j45 : m1 4 5 = 0 := by rw [hm1, xu_k (by omega), xu_k (by omega), xu_k (by omega), xu_s rfl]
      have j1 : ∀ j, j ≠ 10 → m1 1 j = m 1 j := fun j hj => by rw [hm1, xu_k (by omega), xu_k (by omega), xu_d hj, xu_k (by omega)]
      have j110 : m1 1 10 = 1 := by rw [hm1, xu_k (by omega), xu_k (by omega), xu_s rfl]
      have j0 : ∀ j, j ≠ 15 → j ≠ 16 → m1 0 j = m 0 j := fun j h1 h2 => by rw [hm1, xu_d h2, xu_d h1, xu_k (by omega), xu_k (by omega)]
      have j015 : m1 0 15 = m 0 15 + 1 := by rw [hm1, xu_d (by omega), xu_s rfl]
      have j016 : m1 0 16 = 0 := by rw [hm1, xu_s rfl]
      have jk : ∀ k, k ≠ 0 → k ≠ 1 → k ≠ 4 → m1 k = m k := fun k h1 h2 h3 => by rw [hm1, xu_K h1, xu_K h1, xu_K h2, xu_K h3]
      have i30 : ∀ j, j ≠ 3 → m2 30 j = m 30 j := fun j hj => by rw [hm2, xu_d hj, jk 30 (by omega) (by omega) (by omega)]
      have i303 : m2 30 3 = m 30 3 + 1 := by rw [hm2, xu_s rfl, jk 30 (by omega) (by omega) (by omega)]
      have ik : ∀ k, k ≠ 30 → m2 k = m1 k := fun k hk => by rw [hm2, xu_K hk]
      have G : ∀ i, i ≠ o + 9 → i ≠ 48 → i ≠ 8 → i ≠ 9 → M1 1 i = Ma 1 i := fun i h1 h2 h3 h4 => by rw [hM1, xu_d h4, xu_d h3, xu_d h2, xu_d h1]
      have GN : ∀ i, i ≠ o + 9 → i ≠ 48 → i ≠ 8 → i ≠ 9 → (i < o + 26 ∨ o + 117 ≤ i) → M1 1 i = M 1 i := fun i h1 h2 h3 h4 h5 => by rw [G i h1 h2 h3 h4, t3' i (fun p hp => by omega)]
      have G9 : M1 1 (o + 9) = 1 := by rw [hM1, xu_d (by omega), xu_d (by omega), xu_d (by omega), xu_s rfl]
      have G48 : M1 1 48 = M 1 48 + 1 := by rw [hM1, xu_d (by omega), xu_d (by omega), xu_s rfl, t3' 48 (fun p hp => by omega)]
      have G8 : M1 1 8 = M 1 8 + 1 := by rw [hM1, xu_d (by omega), xu_s rfl, t3' 8 (fun p hp => by omega)]
      have G99 : M1 1 9 = 0 := by rw [hM1, xu_s rfl]
      have GK : ∀ k, k ≠ 1 → M1 k = M k := fun k hk => by rw [hM1, xu_K hk, xu_K hk, xu_K hk, xu_K hk, t4 k hk]
      obtain ⟨m3, M3, p1, p2, p3, p4, p5, p6⟩ := L_note 6 (e : Int) m2 M1 (r3.cg (by rw [ik 28 (by omega), jk 28 (by omega) (by omega) (by omega)]) (by rw [ik 29 (by omega), jk 29 (by omega) (by omega) (by omega)]) (GN 10 (by omega) (by omega) (by omega) (by omega) (by omega)) (fun i h1 h2 => GN i (by omega) (by omega) (by omega) (by omega) (by omega)))
        (by rw [GN 0 (by omega) (by omega) (by omega) (by omega) (by omega), ik 0 (by omega), j0 7 (by omega) (by omega), s0]) (by rw [GN 1 (by omega) (by omega) (by omega) (by omega) (by omega), ik 0 (by omega), j0 8 (by omega) (by omega), s1]) (by rw [GN 3 (by omega) (by omega) (by omega) (by omega) (by omega), ik 0 (by omega), j0 10 (by omega) (by omega), s3]) (by rw [ik 0 (by omega), j0 8 (by omega) (by omega)]; exact s8)
      have u0 : m3 0 = m1 0 := by rw [p4 0 (by omega) (by omega), ik 0 (by omega)]
      have u1 : m3 1 = m1 1 := by rw [p4 1 (by omega) (by omega), ik 1 (by omega)]
      have u4 : m3 4 = m1 4 := by rw [p4 4 (by omega) (by omega), ik 4 (by omega)]
      have uk : ∀ k, k ≠ 0 → k ≠ 1 → k ≠ 4 → k ≠ 28 → k ≠ 29 → k ≠ 30 → m3 k = m k := fun k h1 h2 h3 h4 h5 h6 => by rw [p4 k h4 h5, ik k h6, jk k h1 h2 h3]
      have U : ∀ i, i ≠ 10 → i ≠ o + 9 → i ≠ 48 → i ≠ 8 → i ≠ 9 → (i < 1490 ∨ 1730 ≤ i) → (i < o + 26 ∨ o + 117 ≤ i) → M3 1 i = M 1 i := fun i h0 h1 h2 h3 h4 h5 h6 => by rw [p5 i h0 h5, GN i h1 h2 h3 h4 h6]
      have hR3 : bRL e m3 (M3 1) := by
        unfold bRL
        rw [← ho]
        refine ⟨⟨?_, ?_, ?_, ?_, ?_, ?_⟩, ?_, p3, ?_, ?_, ?_⟩
        · have hun := bRF.unsent (kf := 4) (m' := m3) (N' := M3 1) r1.1 (by rw [u4, j4 3 (by omega)]) (by rw [u4, j4 4 (by omega)]) (by rw [u4, j45]) (uk 5 (by omega) (by omega) (by omega) (by omega) (by omega) (by omega)) (uk 6 (by omega) (by omega) (by omega) (by omega) (by omega) (by omega)) (uk 7 (by omega) (by omega) (by omega) (by omega) (by omega) (by omega))
            (by rw [a2, Int.toNat_natCast]; intro p hp; rw [p5 _ (by omega) (by omega), G _ (by omega) (by omega) (by omega) (by omega), t2' p hp]) (by rw [a2, Int.toNat_natCast]; intro i hi hi2; rw [p5 _ (by omega) (by omega), G _ (by omega) (by omega) (by omega) (by omega), t3' i hi2])
          exact hun
        · exact r1.2.1.cg (by rw [uk _ (by omega) (by omega) (by omega) (by omega) (by omega) (by omega)]) (uk _ (by omega) (by omega) (by omega) (by omega) (by omega) (by omega)) (U _ (by omega) (by omega) (by omega) (by omega) (by omega) (by omega) (by omega)) (fun j hj => U _ (by omega) (by omega) (by omega) (by omega) (by omega) (by omega) (by omega))
        · exact r1.2.2.1.cg (by rw [uk _ (by omega) (by omega) (by omega) (by omega) (by omega) (by omega)]) (uk _ (by omega) (by omega) (by omega) (by omega) (by omega) (by omega)) (U _ (by omega) (by omega) (by omega) (by omega) (by omega) (by omega) (by omega)) (fun j hj => U _ (by omega) (by omega) (by omega) (by omega) (by omega) (by omega) (by omega))
        · exact r1.2.2.2.1.cg (by rw [u1, j1 5 (by omega)]) (uk _ (by omega) (by omega) (by omega) (by omega) (by omega) (by omega)) (U _ (by omega) (by omega) (by omega) (by omega) (by omega) (by omega) (by omega)) (fun i h1 h2 => U _ (by omega) (by omega) (by omega) (by omega) (by omega) (by omega) (by omega))
        · exact r1.2.2.2.2.1.cg (by rw [u1, j1 6 (by omega)]) (uk _ (by omega) (by omega) (by omega) (by omega) (by omega) (by omega)) (U _ (by omega) (by omega) (by omega) (by omega) (by omega) (by omega) (by omega)) (fun i h1 h2 => U _ (by omega) (by omega) (by omega) (by omega) (by omega) (by omega) (by omega))
        · obtain ⟨w1, w2, w3, w4, w5, w6⟩ := r1.2.2.2.2.2
          refine ⟨?_, ?_, ?_, ?_, ?_, ?_⟩
          · rw [U _ (by omega) (by omega) (by omega) (by omega) (by omega) (by omega) (by omega), u1, j1 7 (by omega), w1]
          · rw [U _ (by omega) (by omega) (by omega) (by omega) (by omega) (by omega) (by omega), u1, j1 8 (by omega), w2]
          · rw [U _ (by omega) (by omega) (by omega) (by omega) (by omega) (by omega) (by omega), u1, j1 9 (by omega), w3]
          · rw [p5 _ (by omega) (by omega), G9, u1, j110]
          · rw [u1, j1 9 (by omega)]; exact w5
          · rw [u1, j110]; exact Or.inr rfl
        · exact r2.cg (fun i h1 h2 => uk i (by omega) (by omega) (by omega) (by omega) (by omega) (by omega)) (fun i h1 h2 => U i (by omega) (by omega) (by omega) (by omega) (by omega) (by omega) (by omega))
        · exact r4.up (j := 3) (by rw [p4 30 (by omega) (by omega), i303]) (fun w hw => by rw [p4 30 (by omega) (by omega), i30 w hw]) (by rw [p5 _ (by omega) (by omega), G48, ← r4 3 (by omega)]) (fun i h1 h2 h3 => U i (by omega) (by omega) (by omega) (by omega) (by omega) (by omega) (by omega))
        · exact r5.cg (fun k h1 h2 => uk k (by omega) (by omega) (by omega) (by omega) (by omega) (by omega)) (fun i h1 h2 h3 => U i (by omega) (by omega) (by omega) (by omega) (by omega) (by omega) (by omega))
        · unfold bRSc
          rw [u0, j0 7 (by omega) (by omega), j0 8 (by omega) (by omega), j0 9 (by omega) (by omega), j0 10 (by omega) (by omega), j0 11 (by omega) (by omega), j0 12 (by omega) (by omega), j0 13 (by omega) (by omega), j0 14 (by omega) (by omega), j015, j016, uk 33 (by omega) (by omega) (by omega) (by omega) (by omega) (by omega),
            U 0 (by omega) (by omega) (by omega) (by omega) (by omega) (by omega) (by omega), U 1 (by omega) (by omega) (by omega) (by omega) (by omega) (by omega) (by omega), U 2 (by omega) (by omega) (by omega) (by omega) (by omega) (by omega) (by omega), U 3 (by omega) (by omega) (by omega) (by omega) (by omega) (by omega) (by omega), U 4 (by omega) (by omega) (by omega) (by omega) (by omega) (by omega) (by omega), U 5 (by omega) (by omega) (by omega) (by omega) (by omega) (by omega) (by omega), U 6 (by omega) (by omega) (by omega) (by omega) (by omega) (by omega) (by omega), U 7 (by omega) (by omega) (by omega) (by omega) (by omega) (by omega) (by omega),
            p5 8 (by omega) (by omega), p5 9 (by omega) (by omega), G8, G99, s4]
          exact ⟨s0, s1, s2, s3, rfl, rfl, s6, s7, s8, s9, s10⟩
      have lv3 : bLv m m3 := ⟨fun j h1 h2 h3 h4 => by rw [u0, j0 j h3 h4], ⟨by rw [u4, j4 3 (by omega), j4 4 (by omega)], by rw [uk 15 (by omega) (by omega) (by omega) (by omega) (by omega) (by omega)]⟩, ⟨fun j h1 h2 => by rw [u1, j1 j (by omega)], fun j h1 h2 => by rw [uk 12 (by omega) (by omega) (by omega) (by omega) (by omega) (by omega)]⟩, by rw [p4 30 (by omega) (by omega), i30 0 (by omega)], fun k h1 h2 => uk k (by omega) (by omega) (by omega) (by omega) (by omega) (by omega)⟩
      -- the wire
      have dF := d1.fail (by omega) (by rw [a1, st1]; omega) (fun i hi => by have := (hw.2.1 i hi).2.2.2.1.1; omega) (fun i hi q1 q2 => by have := ((hw.2.1 i hi).2.2.2.2 q2).1; omega) (by omega)
      have hw3 : bWire e m3 (M3 1) lo hi f c := by
        obtain ⟨m9, hm9⟩ : ∃ Z, Z = xu m 4 5 0 := ⟨_, rfl⟩
        have n4 : m9 4 3 = m 4 3 := by rw [hm9, xu_d (by omega)]
        have n5 : m9 4 4 = m 4 4 := by rw [hm9, xu_d (by omega)]
        have n6 : m9 4 5 = 0 := by rw [hm9, xu_s rfl]
        have nk : ∀ k, k ≠ 4 → m9 k = m k := fun k hk => by rw [hm9, xu_K hk]
        have w9 : bWire e m9 (M 1) lo hi f c := by
          obtain ⟨A, B, D, g1, g2⟩ := hw
          have z24 : bSq m9 24 = bSq m 24 := by funext f i; show m9 24 _ = m 24 _; rw [nk 24 (by omega)]
          have z25 : bSq m9 25 = bSq m 25 := by funext f i; show m9 25 _ = m 25 _; rw [nk 25 (by omega)]
          have z26 : bSq m9 26 = bSq m 26 := by funext f i; show m9 26 _ = m 26 _; rw [nk 26 (by omega)]
          have z27 : bSq m9 27 = bSq m 27 := by funext f i; show m9 27 _ = m 27 _; rw [nk 27 (by omega)]
          have x7 : bSt m9 7 = bSt m 7 := by funext n; show m9 7 _ = m 7 _; rw [nk 7 (by omega)]
          have x18 : bSt m9 18 = bSt m 18 := by funext n; show m9 18 _ = m 18 _; rw [nk 18 (by omega)]
          unfold bWire bWd bWe bWc at *
          rw [show 4 + 1 = 5 from rfl, show 4 + 2 = 6 from rfl, show 15 + 1 = 16 from rfl, show 15 + 2 = 17 from rfl] at *
          rw [z24, z25, z26, z27, x7, x18, nk 23 (by omega), nk 33 (by omega), nk 5 (by omega), nk 6 (by omega), nk 16 (by omega), nk 17 (by omega), nk 0 (by omega), nk 12 (by omega), nk 1 (by omega), nk 15 (by omega), n4, n5, n6]
          exact ⟨A, B, D, dF, g2⟩
        refine w9.cg (fun k hk => by rw [uk k (by omega) (by omega) (by omega) (by omega) (by omega) (by omega), nk k (by omega)]) (by rw [u0, j0 7 (by omega) (by omega), nk 0 (by omega)]) ⟨by rw [uk 12 (by omega) (by omega) (by omega) (by omega) (by omega) (by omega), nk 12 (by omega)], by rw [u1, j1 7 (by omega), nk 1 (by omega)]⟩ (fun j h1 h2 => ⟨?_, by rw [uk 15 (by omega) (by omega) (by omega) (by omega) (by omega) (by omega), nk 15 (by omega)]⟩) (fun i hi => U i (by omega) (by omega) (by omega) (by omega) (by omega) (by omega) (by omega)) (U 20 (by omega) (by omega) (by omega) (by omega) (by omega) (by omega) (by omega))
        rcases (by omega : j = 3 ∨ j = 4 ∨ j = 5) with rfl | rfl | rfl
        · rw [u4, j4 3 (by omega), n4]
        · rw [u4, j4 4 (by omega), n5]
        · rw [u4, j45, n6]
      have hK3 : ∀ k, k ≠ 1 → M3 k = M k := fun k hk => by rw [p6 k hk, GK k hk]
      have n8 : M3 1 8 = m 0 15 + 1 := by rw [p5 8 (by omega) (by omega), G8, s4]
      have n17 : M3 1 17 = m 33 12 := by rw [U 17 (by omega) (by omega) (by omega) (by omega) (by omega) (by omega) (by omega), y17]
      have v15 : m3 0 15 = m 0 15 + 1 := by rw [u0, j015]
      have v33 : m3 33 12 = m 33 12 := by rw [uk 33 (by omega) (by omega) (by omega) (by omega) (by omega) (by omega)]
      have v8 : m3 0 8 = 2 := by rw [u0, j0 8 (by omega) (by omega), h1]
      have eC : (if e = 0 then f_L_timer0_69 0 m1 else f_L_timer1_69 1 m1) = if xw (m3 0 15) < xw (m3 33 12) then some m3 else (if e = 0 then (f_L_fall m3).bind (fun q3 => some q3) else (f_L_fall (xvw xT_1 m3)).bind (fun q3 => some (xmg xT_1 38 m3 q3))) := by
        by_cases h0 : e = 0
        · subst h0
          rw [if_pos rfl, if_pos rfl]
          unfold f_L_timer0_69
          rw [if_pos (b_ib (by omega)), if_pos (b_ib (by omega)), ← hm2]
          have p1' : f_L_note 6 0 m2 = some m3 := p1
          rw [p1', b_bs]
        · have h1 : e = 1 := by omega
          subst h1
          rw [if_neg h0, if_neg h0]
          unfold f_L_timer1_69
          rw [if_pos (b_ib (by omega)), if_pos (b_ib (by omega)), ← hm2]
          have p1' : f_L_note 6 1 m2 = some m3 := p1
          rw [p1', b_bs]
      rw [← hm1, eC, eM, p2, b_bs, if_pos (b_ib (by omega)), if_pos (b_ib (by omega)), v15, v33, n8, n17]
      by_cases hlim : xw (m 0 15 + 1) < xw (m 33 12)
      · rw [if_pos hlim, if_pos hlim]
        exact ⟨m3, M3, rfl, rfl, hR3, lv3, Or.inl ⟨hw3, v8⟩, hK3⟩
      · rw [if_neg hlim, if_neg hlim]
        obtain ⟨m4, M4, q1, q2, q3, q4, q5, q6⟩ := L_fall_e e m3 M3 he hR3 v8
        refine ⟨m4, M4, q1, by rw [q2, b_bs], q3, lv3.trans q4, ?_, fun k hk => by rw [q6 k hk, hK3 k hk]⟩
        rcases q5 with ⟨z1, z2, z3, z4⟩ | z
        · exact Or.inl ⟨hw3.cg (fun k hk => by
            by_cases k33 : k = 33
            · rw [k33]; exact q4.2.2.2.2 33 (by omega) (by omega)
            · exact z1 k (by omega) (by omega)) (q4.1 7 (by omega) (by omega) (by omega) (by omega)) ⟨by rw [z1 12 (by omega) (by omega)], by rw [z1 1 (by omega) (by omega)]⟩ (fun j _ _ => ⟨by rw [z1 4 (by omega) (by omega)], by rw [z1 15 (by omega) (by omega)]⟩) z3 z4, z2⟩
        · exact Or.inr z

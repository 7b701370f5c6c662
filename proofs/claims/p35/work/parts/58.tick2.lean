/-! ===== a tick online, and any tick ===== -/
theorem bDir.later {s F C S X : Int} {st : Int → Int} {time time' dl : Int} {c : Nat} {T Sn Nn Tr : Nat → Int} (h : bDir s F C S X st time dl c T Sn Nn Tr) (ht : time ≤ time') : bDir s F C S X st time' dl c T Sn Nn Tr := by
  obtain ⟨a, b1, b2, b3, b4, b5, b6, b7, b8⟩ := h
  exact ⟨a, b1, b2, fun i q1 q2 q3 q4 => by obtain ⟨z1, z2, z3⟩ := b3 i q1 q2 q3 q4; exact ⟨z1, by omega, z3⟩, b4, b5, b6, b7, fun n q1 q2 => by obtain ⟨z1, z2⟩ := b8 n q1 q2; exact ⟨z1, by omega⟩⟩
theorem bWire.time {e : Nat} {m M : xM} {lo hi : Int} {f c : Nat} (t : Int) (h : bWire e m (M 1) lo hi f c) (ht : t = m 0 7 + 1) : bWire e (xu m 0 7 t) ((xu M 1 0 t) 1) lo hi f c := by
  obtain ⟨m', hm'⟩ : ∃ Z, Z = xu m 0 7 t := ⟨_, rfl⟩
  obtain ⟨N', hN'⟩ : ∃ Z, Z = (xu M 1 0 t) 1 := ⟨_, rfl⟩
  rw [← hm', ← hN']
  have g : ∀ k, k ≠ 0 → m' k = m k := fun k hk => by rw [hm', xu_K hk]
  have g7 : m' 0 7 = t := by rw [hm', xu_s rfl]
  have gN : ∀ i, i ≠ 0 → N' i = M 1 i := fun i hi => by rw [hN', xu_d hi]
  obtain ⟨a, b, d, g1, g2⟩ := h
  have s24 : bSq m' 24 = bSq m 24 := by funext f i; show m' 24 _ = m 24 _; rw [g 24 (by omega)]
  have s25 : bSq m' 25 = bSq m 25 := by funext f i; show m' 25 _ = m 25 _; rw [g 25 (by omega)]
  have s26 : bSq m' 26 = bSq m 26 := by funext f i; show m' 26 _ = m 26 _; rw [g 26 (by omega)]
  have s27 : bSq m' 27 = bSq m 27 := by funext f i; show m' 27 _ = m 27 _; rw [g 27 (by omega)]
  have v7 : bSt m' 7 = bSt m 7 := by funext n; show m' 7 _ = m 7 _; rw [g 7 (by omega)]
  have v18 : bSt m' 18 = bSt m 18 := by funext n; show m' 18 _ = m 18 _; rw [g 18 (by omega)]
  have g1' := g1.later (time' := t) (by omega)
  have g2' := g2.later (time' := t) (by omega)
  unfold bWire bWd bWe bWc at *
  rw [show 4 + 1 = 5 from rfl, show 4 + 2 = 6 from rfl, show 15 + 1 = 16 from rfl, show 15 + 2 = 17 from rfl] at *
  rw [s24, s25, s26, s27, v7, v18, g 23 (by omega), g 33 (by omega), g 5 (by omega), g 6 (by omega), g 16 (by omega), g 17 (by omega), g 4 (by omega), g 12 (by omega), g 15 (by omega), g 1 (by omega), g7, gN 20 (by omega)]
  refine ⟨a, fun i hi => ?_, d, g1', g2'⟩
  rw [gN _ (by omega), gN _ (by omega), gN _ (by omega), gN _ (by omega), gN _ (by omega), gN _ (by omega), gN _ (by omega)]
  obtain ⟨b1, b2, b3, ⟨b4, b4'⟩, b5⟩ := b i hi
  refine ⟨b1, b2, b3, ⟨b4, by omega⟩, fun hx => ?_⟩
  obtain ⟨c1, c2, c3, c4, c5⟩ := b5 hx
  exact ⟨c1, c2, c3, fun hy => ⟨(c4 hy).1, fun j hj hj2 => by rw [gN _ (by omega)]; exact (c4 hy).2 j hj hj2⟩, fun hy => ⟨(c5 hy).1, fun j hj hj2 => by rw [gN _ (by omega)]; exact (c5 hy).2 j hj hj2⟩⟩
/-- what a tick leaves of a line -/
def bTick (m m' : xM) : Prop := m' 0 7 = m 0 7 + 1 ∧ ∀ k, 33 ≤ k → k ≤ 37 → m' k = m k
theorem L_online_sp (m M : xM) (h : bLine m M) (ht : m 0 7 < 1000000) (h2 : m 0 8 = 2) (hq : m 0 9 ≠ 0) : ∃ m' M' : xM, f_L_tick_52 m = some (xu m' 0 7 (m' 0 7 + 1)) ∧ f_m_passOnline M = some M' ∧ bRL 0 m' (M' 1) ∧ bB (xu m' 0 7 (m' 0 7 + 1)) ∧ M' 1 20 = m' 23 5 ∧ (0 ≤ m' 23 4 ∧ m' 23 4 ≤ 64) ∧ (m' 0 8 = 2 → ∃ f c : Nat, bWire 0 m' (M' 1) (m' 0 7 - m' 33 10 + 1) (m' 0 7 + 1) f c) ∧ (m' 0 7 = m 0 7 ∧ m' 0 9 = m 0 9 ∧ ∀ k, 33 ≤ k → k ≤ 37 → m' k = m k) ∧ bMK M M' := by
  obtain ⟨hR, hB, h20, hf, hW⟩ := h
  obtain ⟨f, c, hw⟩ := hW h2
  obtain ⟨⟨t1, t2⟩, ⟨x1, x2⟩, ⟨a1, a2, a3, a4, a5, a6, a7, a8⟩, ⟨b1, b2, b3, b4, b5, b6, b7, b8⟩, w⟩ := hB
  obtain ⟨-, -, -, -, ⟨y15, w15, w15'⟩, -⟩ := id hR.2.2.2.2.1
  have s9 := hR.2.2.2.2.2.2.2.2.2.2.2.2.2.2.1
  have s2 := hR.2.2.2.2.2.2.2.1
  obtain ⟨-, we, ws, d1, d2⟩ := id hw
  have hc42 : c ≤ 42 := bUnder (dl := m 33 10) d1 d2 (fun i hi => (we i hi).2.1)
  obtain ⟨k, k1, k2, k3⟩ := b_due (bSq m 24 f) (m 0 7 - m 33 10) c (fun i hi => (we i hi).2.2.2.1.1) ws
  clear we ws d1 d2
  -- arrivals
  obtain ⟨ma, Ma, f1, c1, p1, p2, p3, p4, p5, p6⟩ := L_arrive_sp (m 0 7 - m 33 10) (m 0 7) (by omega) k 0 fu fu f c m M (by omega) (by show _ < 5000; omega) (by show _ < 5000; omega) hR hw rfl (by omega) k1 k2 k3 (by omega) (by omega) (by omega) (by omega)
  obtain ⟨e1, ⟨e2, e3⟩, ⟨e4, e5, e6, e7⟩, ⟨e8, e9, e10, e11⟩, e12, e13⟩ := p5
  have ma7 : ma 0 7 = m 0 7 := e1 7 (by omega) (by omega)
  have ma8 : ma 0 8 = 2 := by rw [e1 8 (by omega) (by omega), h2]
  have ma9 : ma 0 9 = m 0 9 := e1 9 (by omega) (by omega)
  have ma33 : ma 33 = m 33 := e13 33 (by omega) (by omega)
  have hBa : bBo (7 * m 0 7) (7 * m 0 7) (512 * m 0 7 + 336) (14 * m 0 7) ma := by
    obtain ⟨-, -, -, ⟨⟨g1, g2, g3, g4, g5⟩, -⟩, ⟨⟨u1, u2, u3, u4, u5⟩, -⟩⟩ := id p4
    obtain ⟨F, C, S, v1, v2, v3, -⟩ := p3.1.1
    obtain ⟨F', C', S', v1', v2', v3', -⟩ := p3.2.1.1
    rw [show (1 + 3 : Nat) = 4 from rfl] at v1 v2 v3
    rw [show (12 + 3 : Nat) = 15 from rfl] at v1' v2' v3'
    refine ⟨⟨by omega, by omega⟩, ⟨by omega, by omega, by omega, by omega, by omega, by omega⟩, ⟨by omega, by omega, by omega, by omega, by omega, by omega⟩⟩
  -- the timer of end 0
  obtain ⟨mb, Mb, q1, q2, q3, q4, q5, q6⟩ := L_timer_sp 0 ma Ma f1 c1 (m 0 7 - m 33 10 + 1) (m 0 7) (by omega) p3 p4 ma8 (by rw [ma7, ma33]; omega) (by rw [ma7]; exact Int.le_refl _) (by omega)
  rw [if_pos rfl] at q1
  have hBb := hBa.lv q4
  have mb7 : mb 0 7 = m 0 7 := by rw [q4.1 7 (by omega) (by omega) (by omega) (by omega), ma7]
  have mb9 : mb 0 9 = m 0 9 := by rw [q4.1 9 (by omega) (by omega) (by omega) (by omega), ma9]
  have mb33 : ∀ k, 33 ≤ k → k ≤ 37 → mb k = m k := fun k z1 z2 => by rw [q4.2.2.2.2 k z1 z2, e13 k z1 z2]
  have fa : ma 23 4 = f1 ∧ f1 ≤ 64 := ⟨p4.1.1, p4.1.2.1⟩
  have fb : mb 23 4 = f1 := by rw [N_timer0 q1, fa.1]
  have eA : f_L_arrive m = some ma := p1
  have eAM : f_m_arrivals M = some Ma := p2
  have i2 : xib 2 3530 := b_ib (by omega)
  have hq0 : ¬ xw (M 1 2) = 0 := by rw [s2, b_xw (by omega)]; exact hq
  have eM0 : f_m_passOnline M = f_m_passOnline_20 fu 0 Ma := by
    unfold f_m_passOnline
    rw [if_pos i2, if_neg hq0, eAM, b_bs]
  have h22 : xw (m 0 8) = xw 2 := by rw [h2]
  have z2 : ¬ xw (1 : Int) = 0 := by decide
  have z1 : xw (0 : Int) = 0 := by decide
  have n8 : ∀ (x X : xM), bRL 0 x (X 1) → X 1 1 = x 0 8 := fun x X hx => hx.2.2.2.2.2.2.1
  have n8b : ∀ (x X : xM), bRL 0 x (X 1) → 0 ≤ x 0 8 ∧ x 0 8 ≤ 3 := fun x X hx => hx.2.2.2.2.2.2.2.2.2.2.2.2.2.1
  have eIs : ∀ (x X : xM), bRL 0 x (X 1) → f_m_isPhase 2 X = some (if x 0 8 = 2 then 1 else 0) := fun x X hx => by
    have a := n8 x X hx
    have b := n8b x X hx
    rw [m_isPhase 2 X (by rw [a]; exact b) (by omega), a]
  -- the end of the tick where the line was hung up
  have cutEnd : ∀ (mz Mz : xM), bRL 0 mz (Mz 1) → bBo (7 * m 0 7) (7 * m 0 7) (512 * m 0 7 + 336) (14 * m 0 7) mz → bIdle mz → mz 0 7 = m 0 7 → bB (xu mz 0 7 (mz 0 7 + 1)) := by
    intro mz Mz hz1 hz2 hz3 hz4
    obtain ⟨i1, i2, ⟨i3, i4⟩, ⟨i5, i6⟩, i7, i8⟩ := hz3
    obtain ⟨⟨p1, p2⟩, ⟨p3, p4, p5, p6, p7, p8⟩, ⟨p9, p10, p11, p12, p13, p14⟩⟩ := hz2
    unfold bB bBe
    rw [xu_s rfl, xu_d (j' := 8) (by omega), xu_k (k' := 30) (by omega), xu_k (k' := 4) (by omega), xu_k (k' := 4) (by omega), xu_k (k' := 12) (by omega), xu_k (k' := 1) (by omega), xu_k (k' := 1) (by omega), xu_k (k' := 1) (by omega), xu_k (k' := 15) (by omega), xu_k (k' := 15) (by omega), xu_k (k' := 1) (by omega), xu_k (k' := 12) (by omega), xu_k (k' := 12) (by omega), xu_k (k' := 12) (by omega), xu_k (k' := 23) (by omega), hz4, i1]
    exact ⟨⟨by omega, by omega⟩, ⟨p1, by omega⟩, ⟨by omega, p4, p5, fun z => absurd rfl z, fun _ => ⟨i5, i3⟩, by omega, p7, p8⟩, ⟨by omega, p10, p11, fun z => absurd rfl z, fun _ => ⟨i7, i4⟩, by omega, p13, p14⟩, fun _ => i2⟩
  -- end 1's timer in the other view
  rcases q5 with ⟨qw, q8⟩ | ⟨qi, qN⟩
  · have tv := bTw.v mb
    obtain ⟨mc, Mc, r1, r2, r3, r4, r5, r6⟩ := L_timer_sp 1 (xvw xT_1 mb) Mb f1 c1 (m 0 7 - m 33 10 + 1) (m 0 7) (by omega) (tv.rl (by omega) q3) (tv.wire (by omega) qw) (by rw [tv.2.2.1]; exact q8) (by rw [tv.2.2.1, mb7]; show m 0 7 - mb 33 10 < _; rw [mb33 33 (by omega) (by omega)]; omega) (by rw [tv.2.2.1, mb7]; exact Int.le_refl _) (by rw [tv.2.2.1]; omega)
    rw [if_neg (by omega)] at r1
    have tg := bTw.g mb mc
    obtain ⟨md, hmd⟩ : ∃ Z, Z = xmg xT_1 38 mb mc := ⟨_, rfl⟩
    rw [← hmd] at tg
    have hRd : bRL 0 md (Mc 1) := tg.rl (by omega) r3
    have lvd : bLv mb md := r4.tw tv.symm tg
    have hBd := hBb.lv lvd
    have md7 : md 0 7 = m 0 7 := by rw [lvd.1 7 (by omega) (by omega) (by omega) (by omega), mb7]
    have md9 : md 0 9 = m 0 9 := by rw [lvd.1 9 (by omega) (by omega) (by omega) (by omega), mb9]
    have md33 : ∀ k, 33 ≤ k → k ≤ 37 → md k = m k := fun k z1 z2 => by rw [lvd.2.2.2.2 k z1 z2, mb33 k z1 z2]
    have fd : md 23 4 = f1 := by
      rw [hmd]
      show mc 23 4 = _
      rw [N_timer1 r1]
      exact fb
    have eM1 : f_m_passOnline_20 fu 0 Ma = f_m_passOnline_44 Mc := by
      have w0 : xw (0 : Int) < xw 2 := by decide
      have w1 : xw ((0 : Int) + 1) < xw 2 := by decide
      have w2 : ¬ xw ((0 : Int) + 1 + 1) < xw 2 := by decide
      have r2' : f_m_timer (0 + 1) Mb = some Mc := r2
      have q2' : f_m_timer 0 Ma = some Mb := q2
      rw [show fu = 4997 + 3 from rfl, f_m_passOnline_20, if_pos w0, eIs ma Ma p3, b_bs, if_pos ma8, if_neg z2, q2', b_bs, f_m_passOnline_20, if_pos w1, eIs mb Mb q3, b_bs, if_pos q8, if_neg z2, r2', b_bs, f_m_passOnline_20, if_neg w2]
    have eC1 : f_L_tick_52 m = (if xw (md 0 8) = xw 2 then (f_L_rise md).bind fun q3 => (f_L_sendFrom 0 q3).bind fun q4 => (f_L_sendFrom 1 (xvw xT_1 q4)).bind fun q5 => f_L_tick_96 (xmg xT_1 38 q4 q5) else f_L_tick_96 md) := by
      unfold f_L_tick_52
      rw [if_pos h22, eA, b_bs, q1, b_bs, r1, b_bs, ← hmd]
    have mMK : bMK M Mc := (bMK.of p6).trans ((bMK.of q6).trans (bMK.of r6))
    rw [eC1, eM0, eM1]
    rcases r5 with ⟨rw', r8⟩ | ⟨ri, rN⟩
    · have hWd : bWire 0 md (Mc 1) (m 0 7 - m 33 10 + 1) (m 0 7) f1 c1 := tg.wire (by omega) rw'
      have md8 : md 0 8 = 2 := by rw [tg.2.2.1, r8]
      have u2 : xw (md 0 8) = xw 2 := by rw [md8]
      -- the rise
      obtain ⟨me, Me, o1, o2, o3, o4, o5, o6, o7⟩ := L_rise_sp md Mc hRd md8
      have lve := o4.lv
      have hBe := hBd.lv lve
      have hWe : bWire 0 me (Me 1) (m 0 7 - m 33 10 + 1) (m 0 7) f1 c1 := hWd.cg (fun k hk => o4.2.2 k (by omega) (by omega) (by omega) (by omega)) (o4.1 7 (by omega) (by omega) (by omega)) ⟨by rw [o4.2.2 12 (by omega) (by omega) (by omega) (by omega)], by rw [o4.2.2 1 (by omega) (by omega) (by omega) (by omega)]⟩ (fun j _ _ => ⟨by rw [o4.2.2 4 (by omega) (by omega) (by omega) (by omega)], by rw [o4.2.2 15 (by omega) (by omega) (by omega) (by omega)]⟩) o5 o6
      have me7 : me 0 7 = m 0 7 := by rw [lve.1 7 (by omega) (by omega) (by omega) (by omega), md7]
      have me8 : me 0 8 = 2 := by rw [o4.1 8 (by omega) (by omega) (by omega), md8]
      have me9 : me 0 9 = m 0 9 := by rw [lve.1 9 (by omega) (by omega) (by omega) (by omega), md9]
      have me33 : ∀ k, 33 ≤ k → k ≤ 37 → me k = m k := fun k z1 z2 => by rw [lve.2.2.2.2 k z1 z2, md33 k z1 z2]
      -- end 0 sends
      obtain ⟨F, C, S, v1, v2, v3, v4, v5, -⟩ := id o3.1.1
      rw [show (1 + 3 : Nat) = 4 from rfl] at v1 v2 v3
      obtain ⟨⟨g1, g2⟩, ⟨g3, g4, g5, g6, g7, g8⟩, ⟨g9, g10, g11, g12, g13, g14⟩⟩ := id hBe
      obtain ⟨mf, Mf, c2, j1, j2, j3, j4, j5, j6⟩ := L_sendFrom_sp 0 f1 c1 (m 0 7 - m 33 10 + 1) (m 0 7 + 1) me Me (by omega) o3 (hWe.mono (by omega)) (by omega) (by omega) (by omega) ⟨g7, g8⟩ (by omega)
      obtain ⟨F', C', S', v1', v2', v3', v4', v5', -⟩ := id j3.1.1
      rw [show (1 + 3 : Nat) = 4 from rfl] at v1' v2' v3'
      have hBf := hBe.snf j5 (by omega)
      -- end 1 sends
      have tv2 := bTw.v mf
      have hBf2 := hBf.tw tv2
      obtain ⟨⟨l1, l2⟩, ⟨l3, l4, l5, l6, l7, l8⟩, ⟨l9, l10, l11, l12, l13, l14⟩⟩ := id hBf2
      have mf0 : mf 0 = me 0 := j5.1
      have hRf2 := tv2.rl (by omega) j3
      obtain ⟨F2, C2, S2, y1, y2, y3, y4, y5, -⟩ := id hRf2.1.1
      rw [show (1 + 3 : Nat) = 4 from rfl] at y1 y2 y3
      obtain ⟨mg, Mg, c3, k1', k2', k3', k4', k5', k6'⟩ := L_sendFrom_sp 1 f1 c2 (m 0 7 - m 33 10 + 1) (m 0 7 + 1) (xvw xT_1 mf) Mf (by omega) hRf2 (tv2.wire (by omega) j4) (by rw [tv2.2.2.1, mf0]; omega) (by rw [tv2.2.2.1, mf0]; omega) (by omega) ⟨l7, l8⟩ (by omega)
      obtain ⟨F3, C3, S3, y1', y2', y3', y4', y5', -⟩ := id k3'.1.1
      rw [show (1 + 3 : Nat) = 4 from rfl] at y1' y2' y3'
      have hBg := hBf2.snf k5' (by omega)
      have tg2 := bTw.g mf mg
      obtain ⟨mh, hmh⟩ : ∃ Z, Z = xmg xT_1 38 mf mg := ⟨_, rfl⟩
      rw [← hmh] at tg2
      have hRh : bRL 0 mh (Mg 1) := tg2.rl (by omega) k3'
      have hWh : bWire 0 mh (Mg 1) (m 0 7 - m 33 10 + 1) (m 0 7 + 1) f1 c3 := tg2.wire (by omega) k4'
      have hBh := hBg.tw tg2
      have mg0 : mg 0 = xvw xT_1 mf 0 := k5'.1
      have mh0 : mh 0 = me 0 := by rw [tg2.2.2.1, mg0, tv2.2.2.1, mf0]
      have mh33 : ∀ k, 33 ≤ k → k ≤ 37 → mh k = m k := fun k z1 z2 => by
        have s1 := tg2.2.2.2 (k - 23) (by omega)
        have s3 := tv2.2.2.2 (k - 23) (by omega)
        rw [show 23 + (k - 23) = k by omega] at s1 s3
        rw [s1, k5'.2.2.2.2.2.2.2 k z1 z2, s3, j5.2.2.2.2.2.2.2 k z1 z2, me33 k z1 z2]
      have mh8 : mh 0 8 = 2 := by rw [mh0, me8]
      have mh7 : mh 0 7 = m 0 7 := by rw [mh0, me7]
      have z1' : ¬ xw (1 : Int) = 0 := by decide
      refine ⟨mh, Mg, ?_, ?_, hRh, ?_, ?_, ?_, fun _ => ⟨f1, c3, ?_⟩, ⟨mh7, by rw [mh0, me9], mh33⟩, mMK.trans ((bMK.of o7).trans (j6.trans k6'))⟩
      · have j1' : f_L_sendFrom 0 me = some mf := j1
        have k1'' : f_L_sendFrom 1 (xvw xT_1 mf) = some mg := k1'
        rw [if_pos u2, o1, b_bs, j1', b_bs, k1'', b_bs, ← hmh]
        rfl
      · unfold f_m_passOnline_44
        have j2' : f_m_sendAll 0 Me = some Mf := j2
        have k2'' : f_m_sendAll 1 Mf = some Mg := k2'
        rw [eIs md Mc hRd, b_bs, if_pos md8, if_neg z1', o2, b_bs, j2', b_bs, k2'', b_bs]
      · obtain ⟨-, -, -, ⟨⟨b1', b2', b3', b4', b5'⟩, -⟩, ⟨⟨d1', d2', d3', d4', d5'⟩, -⟩⟩ := id hWh
        obtain ⟨⟨p1, p2⟩, ⟨p3, p4, p5, p6, p7, p8⟩, ⟨p9, p10, p11, p12, p13, p14⟩⟩ := hBh
        unfold bB bBe
        rw [xu_s rfl, xu_d (j' := 8) (by omega), xu_k (k' := 30) (by omega), xu_k (k' := 4) (by omega), xu_k (k' := 4) (by omega), xu_k (k' := 12) (by omega), xu_k (k' := 1) (by omega), xu_k (k' := 1) (by omega), xu_k (k' := 1) (by omega), xu_k (k' := 15) (by omega), xu_k (k' := 15) (by omega), xu_k (k' := 1) (by omega), xu_k (k' := 12) (by omega), xu_k (k' := 12) (by omega), xu_k (k' := 12) (by omega), xu_k (k' := 23) (by omega), mh7, mh8]
        exact ⟨⟨by omega, by omega⟩, ⟨p1, by omega⟩, ⟨by omega, p4, p5, fun _ => b4', fun z => by omega, by omega, p7, p8⟩, ⟨by omega, p10, p11, fun _ => d4', fun z => by omega, by omega, p13, p14⟩, fun z => by omega⟩
      · rw [hWh.1.2.2.2, hWh.1.2.2.1]
      · rw [hWh.1.1]; exact ⟨by omega, by have := hWh.1.2.1; omega⟩
      · rw [mh7, mh33 33 (by omega) (by omega)]
        exact hWh
    · have hid : bIdle md := ri.tw tg
      have u2 : ¬ xw (md 0 8) = xw 2 := by rw [hid.1]; decide
      refine ⟨md, Mc, ?_, ?_, hRd, cutEnd md Mc hRd hBd hid md7, ?_, ?_, fun z => ?_, ⟨md7, md9, md33⟩, mMK⟩
      · rw [if_neg u2]; rfl
      · unfold f_m_passOnline_44
        rw [eIs md Mc hRd, b_bs, if_neg (show ¬ md 0 8 = 2 by rw [hid.1]; decide), if_pos z1]
      · rw [rN, hid.2.1]
      · rw [fd]; exact ⟨by omega, by omega⟩
      · rw [hid.1] at z; omega
  · -- hung up by end 0
    have hv : f_L_timer1 1 (xvw xT_1 mb) = some (xvw xT_1 mb) := by
      unfold f_L_timer1
      have e45 : xw (xvw xT_1 mb 4 5) = 0 := by
        show xw (mb 15 5) = 0
        rw [qi.2.2.2.2.2]; decide
      rw [if_pos e45]
    have hs : xmg xT_1 38 mb (xvw xT_1 mb) = mb := xmg_self xT_1 38 (by omega) mb
    have u2 : ¬ xw (mb 0 8) = xw 2 := by rw [qi.1]; decide
    refine ⟨mb, Mb, ?_, ?_, q3, cutEnd mb Mb q3 hBb qi mb7, ?_, ?_, fun z => ?_, ⟨mb7, mb9, mb33⟩, (bMK.of p6).trans (bMK.of q6)⟩
    · unfold f_L_tick_52
      rw [if_pos h22, eA, b_bs, q1, b_bs, hv, b_bs, hs, if_neg u2]
      rfl
    · have w0 : xw (0 : Int) < xw 2 := by decide
      have w1 : xw ((0 : Int) + 1) < xw 2 := by decide
      have q2' : f_m_timer 0 Ma = some Mb := q2
      have n0 : ¬ mb 0 8 = 2 := by rw [qi.1]; decide
      rw [eM0, show fu = 4998 + 2 from rfl, f_m_passOnline_20, if_pos w0, eIs ma Ma p3, b_bs, if_pos ma8, if_neg z2, q2', b_bs, f_m_passOnline_20, if_pos w1, eIs mb Mb q3, b_bs, if_neg n0, if_pos z1]
      unfold f_m_passOnline_44
      rw [eIs mb Mb q3, b_bs, if_neg n0, if_pos z1]
    · rw [qN, qi.2.1]
    · rw [fb]; exact ⟨by omega, by omega⟩
    · rw [qi.1] at z; omega
theorem L_tick_sp (m M : xM) (h : bLine m M) (ht : m 0 7 < 1000000) : ∃ m' M' : xM, f_L_tick m = some m' ∧ f_m_passTick M = some M' ∧ bLine m' M' ∧ bTick m m' ∧ bMK M M' := by
  have hh := h
  obtain ⟨hR, hB, h20, hf, hW⟩ := h
  obtain ⟨f, hf'⟩ : ∃ f : Nat, m 23 4 = f := ⟨(m 23 4).toNat, by omega⟩
  have s1 : M 1 1 = m 0 8 := hR.2.2.2.2.2.2.1
  have s9 := hR.2.2.2.2.2.2.2.2.2.2.2.2.2.2.1
  have s8 := hR.2.2.2.2.2.2.2.2.2.2.2.2.2.1
  have i1 : xib 1 3530 := b_ib (by omega)
  have i0 : xib 0 3530 := b_ib (by omega)
  -- what follows of the time
  have fin : ∀ (x X : xM), bRL 0 x (X 1) → bB x → X 1 20 = x 23 5 → x 23 4 = m 23 4 → (x 0 8 = 2 → bFresh x) → x 0 7 = m 0 7 → (∀ k, 33 ≤ k → k ≤ 37 → x k = m k) → bMK M X → ∃ m' M' : xM, f_L_tick_96 x = some m' ∧ f_m_passTick_53 X = some M' ∧ bLine m' M' ∧ bTick m m' ∧ bMK M M' := by
    intro x X a1 a2 a3 a4 a5 a6 a8 a9
    have n0 : X 1 0 = x 0 7 := a1.2.2.2.2.2.1
    refine ⟨xu x 0 7 (x 0 7 + 1), xu X 1 0 (x 0 7 + 1), rfl, ?_, ⟨a1.time _, a2.time (by omega), ?_, ?_, fun h2 => ?_⟩, ⟨by rw [xu_s rfl, a6], fun k k1 k2 => by rw [xu_K (by omega), a8 k k1 k2]⟩, a9.trans (bMK.of fun k hk => xu_K hk)⟩
    · unfold f_m_passTick_53
      rw [if_pos i0, if_pos i0, n0]
    · rw [xu_d (by omega), xu_k (by omega), a3]
    · rw [xu_k (by omega), a4]; exact hf
    · have h2' : x 0 8 = 2 := by rw [xu_d (by omega)] at h2; exact h2
      have hfr := a5 h2'
      have : bFresh (xu x 0 7 (x 0 7 + 1)) := by
        unfold bFresh at hfr ⊢
        rw [xu_k (k' := 23) (by omega), xu_k (k' := 4) (by omega), xu_k (k' := 15) (by omega), xu_k (k' := 4) (by omega), xu_k (k' := 12) (by omega), xu_k (k' := 15) (by omega), xu_k (k' := 1) (by omega)]
        exact hfr
      exact ⟨f, 0, this.wire _ _ f (by rw [xu_k (by omega), a4, hf']) (by omega) (a1.time _) (by rw [xu_d (by omega), a3]; exact hfr.1)⟩
  unfold f_L_tick f_m_passTick
  rw [if_pos i1, s1]
  by_cases p1 : m 0 8 = 1
  · have e1 : xw (m 0 8) = xw 1 := by rw [p1]
    have e1' : xw (m 0 8) = 1 := by rw [p1]; decide
    rw [if_pos e1, if_pos e1']
    obtain ⟨x, X, q1, q2, q3, q4, q5, q6, ⟨q7, q8⟩, q9⟩ := L_train_sp m M hR hB p1 h20
    rw [q1, q2, b_bs, b_bs]
    exact fin x X q3 q4 q5 (N_train q1) q6 q7 (fun k k1 k2 => q8 k k1) (bMK.of q9)
  · have e1 : ¬ xw (m 0 8) = xw 1 := by rw [b_xw (by omega), b_xw (by omega)]; exact p1
    have e1' : ¬ xw (m 0 8) = 1 := by rw [b_xw (by omega)]; exact p1
    rw [if_neg e1, if_neg e1']
    by_cases p3 : m 0 8 = 3
    · have e3 : xw (m 0 8) = xw 3 := by rw [p3]
      have e3' : xw (m 0 8) = 3 := by rw [p3]; decide
      have e2' : ¬ xw (m 0 8) = 2 := by rw [p3]; decide
      rw [if_pos e3, if_neg e2', if_pos e3']
      obtain ⟨x, X, q1, q2, q3, q4, q5, q6, ⟨q7, q8⟩, q9⟩ := L_wait_sp m M hR hB p3 h20
      rw [q1, q2, b_bs, b_bs]
      exact fin x X q3 q4 q5 (N_wait q1) (fun z => absurd z q6) q7 (fun k k1 k2 => q8 k k1) (bMK.of q9)
    · have e3 : ¬ xw (m 0 8) = xw 3 := by rw [b_xw (by omega), b_xw (by omega)]; exact p3
      have e3' : ¬ xw (m 0 8) = 3 := by rw [b_xw (by omega)]; exact p3
      rw [if_neg e3]
      by_cases p2 : m 0 8 = 2
      · have e2 : xw (m 0 8) = xw 2 := by rw [p2]
        have e2' : xw (m 0 8) = 2 := by rw [p2]; decide
        rw [if_pos e2, if_pos e2']
        by_cases hq : m 0 9 = 0
        · have hq' : xw (m 0 9) = 0 := by rw [hq]; decide
          rw [if_pos hq']
          obtain ⟨x, X, q1, q2, q3, q4, q5, q6, ⟨q7, q8⟩, q9⟩ := L_loseCarrier_sp m M hR hB p2
          have s2 : M 1 2 = m 0 9 := hR.2.2.2.2.2.2.2.1
          have eM : f_m_passOnline M = some X := by
            unfold f_m_passOnline
            have i2 : xib 2 3530 := b_ib (by omega)
            rw [if_pos i2, s2, if_pos hq', q2, b_bs]
          rw [q1, eM, b_bs, b_bs]
          exact fin x X q3 q4 q5 (N_lose q1) (fun z => absurd z q6) q7 (fun k k1 k2 => q8 k k1) (bMK.of q9)
        · have hq' : ¬ xw (m 0 9) = 0 := by rw [b_xw (by omega)]; exact hq
          rw [if_neg hq']
          obtain ⟨x, X, q1, q2, q3, q4, q5, q6, q7, ⟨q8, q9, q10⟩, q11⟩ := L_online_sp m M hh ht p2 hq
          rw [q1, q2, b_bs]
          have n0 : X 1 0 = x 0 7 := q3.2.2.2.2.2.1
          refine ⟨xu x 0 7 (x 0 7 + 1), xu X 1 0 (x 0 7 + 1), rfl, ?_, ⟨q3.time _, q4, ?_, ?_, fun h2 => ?_⟩, ⟨by rw [xu_s rfl, q8], fun k k1 k2 => by rw [xu_K (by omega), q10 k k1 k2]⟩, q11.trans (bMK.of fun k hk => xu_K hk)⟩
          · unfold f_m_passTick_53
            rw [if_pos i0, if_pos i0, n0]
          · rw [xu_d (by omega), xu_k (by omega), q5]
          · rw [xu_k (by omega)]; exact q6
          · have h2' : x 0 8 = 2 := by rw [xu_d (by omega)] at h2; exact h2
            obtain ⟨f9, c9, hw9⟩ := q7 h2'
            refine ⟨f9, c9, ?_⟩
            rw [xu_s rfl, xu_k (by omega)]
            rw [show x 0 7 + 1 - x 33 10 = x 0 7 - x 33 10 + 1 by omega]
            exact hw9.time _ rfl
      · have e2 : ¬ xw (m 0 8) = xw 2 := by rw [b_xw (by omega), b_xw (by omega)]; exact p2
        have e2' : ¬ xw (m 0 8) = 2 := by rw [b_xw (by omega)]; exact p2
        rw [if_neg e2, if_neg e2', if_neg e3']
        unfold f_L_tick_52
        rw [if_neg e2]
        exact fin m M hR hB h20 rfl (fun z => absurd z p2) rfl (fun _ _ _ => rfl) (bMK.refl M)

/-! ===== the law answers true ===== -/
theorem wb27 : cI (wb 27) = [97, 97, 98, 98] := by decide +kernel
theorem fx0 : sF0.1 21 + sF0.1 22 + sF0.1 23 + sF0.1 24 = 4 ∧ sF0.1 1 = 0 ∧ sF0.1 0 = 0 ∧ (aDial sF0).1 55 = 0 ∧ ((aTicks 4 (aDial sF0)).2.1 (56 + 717 * 0 + 117)) = [] ∧ (aTicks 4 (aDial sF0)).1 0 = 4 ∧ sF5.1 0 = 5 ∧ sF6.1 0 = 6 ∧ sF7.1 0 = 7 ∧ (aDial sF0).1 0 = 0 := by decide +kernel
theorem one_heap {h : gH} (hl : h.length = 1) (hg : gat h 2000 = some (.inl (0, [0, 0, 0, 0, 0, 0]))) : h = [hZ6] := by
  obtain ⟨x, rfl⟩ := List.length_eq_one_iff.mp hl
  have : gat [x] 2000 = some x := rfl
  rw [this] at hg
  rw [Option.some.inj hg]
  rfl
theorem law_pure (Ln : Nat) (xs : Nat → Int) (hLn : Ln < 2147483648) : ∃ (m9 : xM) (h9 : gH), f_L_law Ln xs 2000 mX9 [hZ6] = some (1, m9, h9) ∧ h9.length ≤ 596000 ∧ gsl h9 ≤ 7100000 := by
  have T0 : TX 2000 255 (sN (dV 9 [(8, 1)] [2, 2, 2, 2] [2, 5, 4, 1, 3, 2, 8] [0])) [] none mX9 [hZ6] [] := ⟨wZ.X rfl, aX_start, fun y hy => absurd hy List.not_mem_nil⟩
  -- the first text
  obtain ⟨m1, g1, a1, a2, a3⟩ := T0.words (i := 26) (by omega) (by decide)
  have e26 : ([] : List Nat) ++ wb 26 = wb 26 := rfl
  rw [e26] at a2
  have l26 : (wb 26).length < 560 := by
    have := wb_short 26 (by omega)
    have := wb_len 26
    omega
  obtain ⟨m2, g2, k2, b1, b2, b3, b4⟩ := L_end a2.1 a2.2.1 a2.2.2 l26
  have eg2 : g2 = [hZ6] := one_heap (by rw [b4.2.1, a3.2.1]; rfl) b2
  subst eg2
  obtain ⟨m3, c1, c2⟩ := b3.load rfl a2.2.2 (by omega) sF.dN (K0 := 1) (b0 := wb 10) (r0 := sep [9] ++ (59 :: (wb 11 ++ (32 :: (dgN 8 ++ (32 :: (dgN 1 ++ (rtx [(20, 9)] ++ (59 :: (cx 12 [1, 1, 1, 1] (cx 18 [2] []))))))))))) (by
    rw [tx26]
    exact tk_word (by omega) (hd_sep1 _ _)) fun M2 q1 q2 => tx26_read rfl q1 q2
  have c2 : aX 255 m3 sF0 [] none [] := c2
  obtain ⟨f1, f2, f3, f4, f5, f6, f7, f8, f9, f10⟩ := fx0
  -- dial, four ticks
  obtain ⟨m4, d1, d2⟩ := c2.dial f2 (by omega) (by omega)
  obtain ⟨m5, e1, e2⟩ := d2.pass 4 (by omega) (by rw [f10]; omega) (by omega) (by omega)
  have s5 := e2.see (by omega)
  obtain ⟨x1, x2, x3⟩ := fx1
  have z5 : f_X_size 3 m5 = some 1 := by
    have := s5.1 3 (by omega)
    have e : aSize (aTicks 4 (aDial sF0)) 3 = 1 := by
      show (if (aTicks 4 (aDial sF0)).1 1 = 2 then (aTicks 4 (aDial sF0)).1 3 else -1) = 1
      rw [if_pos x2, x3]
    rw [e] at this
    exact this
  -- the second text
  have T1 : TX 2000 (255 + 30000 * ((4 : Nat) : Int)) (aTicks 4 (aDial sF0)) (aPush (aPush [] sF0) (aDial sF0)) none m5 [hZ6] [] := ⟨wZ.X rfl, e2, fun y hy => absurd hy List.not_mem_nil⟩
  obtain ⟨m6, g6, i1, i2, i3⟩ := T1.words (i := 27) (by omega) (by decide)
  have e27 : ([] : List Nat) ++ wb 27 = wb 27 := rfl
  rw [e27] at i2
  have l27 : (wb 27).length = 4 := by
    have := congrArg List.length wb27
    rw [cI_len] at this
    exact this
  obtain ⟨m7, g7, k7, j1, j2, j3, j4⟩ := L_end i2.1 i2.2.1 i2.2.2 (by omega)
  have eg7 : g7 = [hZ6] := one_heap (by rw [j4.2.1, i3.2.1]; rfl) j2
  subst eg7
  obtain ⟨y1, y2⟩ := fx2
  obtain ⟨m8, n1, n2⟩ := j3.send (e := 0) (by omega) (z := 4) (by rw [cI_len, List.length_append, l27]; omega) (by omega) (by omega)
  have hb : (cI (wb 27 ++ List.replicate k7 32)).take 4 = [97, 97, 98, 98] := by
    rw [cI_app, wb27]
    rfl
  rw [hb, y2, if_neg (by decide), if_neg (by decide), f5] at n2
  have n2 : aX (255 + 30000 * ((4 : Nat) : Int)) m8 sF4 (aPush (aPush (aPush [] sF0) (aDial sF0)) (aTicks 4 (aDial sF0))) none [] := n2
  obtain ⟨H8, hH8⟩ : ∃ H8, H8 = aPush (aPush (aPush [] sF0) (aDial sF0)) (aTicks 4 (aDial sF0)) := ⟨_, rfl⟩
  rw [← hH8] at n2
  obtain ⟨m9, o1, o2⟩ := n2.cost (e := 0) (by omega) (by omega)
  rw [y1] at o1
  obtain ⟨ma, p1, p2⟩ := o2.finish (by omega) (by omega)
  rw [fx7] at p1
  have f6' : sF4.1 0 = 4 := f6
  obtain ⟨mb, q1, q2⟩ := p2.pass 1 (by omega) (by rw [f6']; omega) (by omega) (by omega)
  have q2 : aX (255 + 30000 * ((4 : Nat) : Int) + 30000 * ((1 : Nat) : Int)) mb sF5 (aPush H8 sF4) none [] := q2
  have sb := q2.see (by omega)
  obtain ⟨w1, w2, w3⟩ := fx3
  have r1 : f_X_end 0 1 mb = some 1 := by
    have := sb.2.2.1 0 1 (by omega) (by omega)
    rw [w2] at this
    exact this
  have r2 : f_X_end 0 6 mb = some 7 := by
    have := sb.2.2.1 0 6 (by omega) (by omega)
    rw [w3] at this
    exact this
  obtain ⟨mc, t1, t2⟩ := q2.pass 1 (by omega) (by rw [f7]; omega) (by omega) (by omega)
  have t2 : aX (255 + 30000 * ((4 : Nat) : Int) + 30000 * ((1 : Nat) : Int) + 30000 * ((1 : Nat) : Int)) mc sF6 (aPush (aPush H8 sF4) sF5) none [] := t2
  have sc := t2.see (by omega)
  obtain ⟨v1, v2, v3, v4⟩ := fx4
  have r3 : f_X_received 1 2 mc = some 98 := by
    have := sc.2.2.2.2.1 1 2 (by omega) (by omega)
    rw [if_pos (by
      have e : ((sF6.2.1 (56 + 717 * 1 + 317))).length = 4 := v2
      omega)] at this
    have e : ((sF6.2.1 (56 + 717 * 1 + 317))).getD 2 0 = 98 := v3
    rw [e] at this
    exact this
  have r4 : f_X_end 0 1 mc = some 1 := by
    have := sc.2.2.1 0 1 (by omega) (by omega)
    rw [v4] at this
    exact this
  obtain ⟨md, u1, u2⟩ := t2.pass 1 (by omega) (by rw [f8]; omega) (by omega) (by omega)
  have u2 : aX (255 + 30000 * ((4 : Nat) : Int) + 30000 * ((1 : Nat) : Int) + 30000 * ((1 : Nat) : Int) + 30000 * ((1 : Nat) : Int)) md sF7 (aPush (aPush (aPush H8 sF4) sF5) sF6) none [] := u2
  have sd := u2.see (by omega)
  obtain ⟨aa, ab⟩ := fx5
  have r5 : f_X_end 0 1 md = some 0 := by
    have := sd.2.2.1 0 1 (by omega) (by omega)
    rw [ab] at this
    exact this
  obtain ⟨ba, bb, bc, bd, be, bf, bg, bh⟩ := fx6
  have r6 : f_X_word 1 0 0 md = some 98 := by
    have := (sd.2.2.2.2.2.1 1 0 (by omega) (by omega)).2
    rw [if_pos (by
      have e : ((sF7.2.1 (56 + 717 * 1 + 18))).length = 2 := ba
      omega)] at this
    have e : ((sF7.2.1 (56 + 717 * 1 + 18))).getD 0 0 = 98 := bb
    rw [e] at this
    exact this
  have r7 : f_X_word 0 1 1 md = some 97 := by
    have := (sd.2.2.2.2.2.1 0 1 (by omega) (by omega)).1
    rw [if_pos (by
      have e : ((sF7.2.1 (56 + 717 * 0 + 10))).length = 2 := bc
      omega)] at this
    have e : ((sF7.2.1 (56 + 717 * 0 + 10))).getD 1 0 = 97 := bd
    rw [e] at this
    exact this
  have r8 : f_X_event 1 1 md = some 7 := by
    have := sd.2.2.2.2.2.2 1 1 (by
      have e : ((sF7.2.2 1490)).length = 2 := be
      omega) (by omega)
    have e : (((sF7.2.2 1490)).getD 1 []).getD 1 0 = 7 := bf
    rw [e] at this
    exact this
  have r9 : f_X_event 1 2 md = some 1 := by
    have := sd.2.2.2.2.2.2 1 2 (by
      have e : ((sF7.2.2 1490)).length = 2 := be
      omega) (by omega)
    have e : (((sF7.2.2 1490)).getD 1 []).getD 2 0 = 1 := bg
    rw [e] at this
    exact this
  obtain ⟨me, ca, cb⟩ := u2.setQ (q := 0) (by omega) (by omega)
  rw [bh] at ca
  obtain ⟨mf, da, db⟩ := cb.pass 1 (by omega) (by
    have e : (aN sF7 2 0).1 0 = sF7.1 0 := by rw [aN_1, if_neg (by omega)]
    rw [e, f9]; omega) (by omega) (by omega)
  obtain ⟨ea, eb⟩ := fx8
  obtain ⟨He, hHe⟩ : ∃ He, He = aPush (aPush (aPush (aPush (aPush H8 sF4) sF5) sF6) sF7) (aN sF7 2 0) := ⟨_, rfl⟩
  have db : aX (255 + 30000 * ((4 : Nat) : Int) + 30000 * ((1 : Nat) : Int) + 30000 * ((1 : Nat) : Int) + 30000 * ((1 : Nat) : Int) + 30000 * ((1 : Nat) : Int)) mf sF8 He none [] := by rw [hHe]; exact db
  have sf := db.see (by omega)
  have ra : f_X_size 7 mf = some 1 := by
    have := sf.1 7 (by omega)
    rw [eb] at this
    exact this
  obtain ⟨mg, fa, fb⟩ := db.finish (by omega) (by omega)
  rw [fx9] at fa
  obtain ⟨mh, ga, gb⟩ := fb.least (by omega) (by omega)
  rw [fx10] at ga
  -- the line that is drawn, told to the class
  obtain ⟨q, R, tr, se, N, hd, hdr⟩ := drawn_all Ln xs hLn
  obtain ⟨hs, dR, dl, dw⟩ := hd
  have hs0 := hs
  obtain ⟨h1, ⟨h2, h3, h4⟩, ⟨h5, h6⟩, ⟨re, ho, wi, de, ti, li, pa, rfl, z1, z2, z3, z4, z5', z6, z7⟩, h8, h9⟩ := hs
  obtain ⟨p, Q, rfl⟩ : ∃ p Q, R = p :: Q := by
    cases R with
    | nil => exact absurd h3 (by decide)
    | cons a b => exact ⟨a, b, rfl⟩
  obtain ⟨RR, oR⟩ := HD_OO hs0
  have T2 : TO 2001 2000 kA kR RR _ _ (sN (dV q (p :: Q) tr [re, ho, wi, de, ti, li, pa] N)) (255 + 30000 * ((4 : Nat) : Int) + 30000 * ((1 : Nat) : Int) + 30000 * ((1 : Nat) : Int) + 30000 * ((1 : Nat) : Int) + 30000 * ((1 : Nat) : Int)) sF8 He none mh (HD q (p :: Q) tr [re, ho, wi, de, ti, li, pa] N) [] := ⟨⟨oR, rfl⟩, wZ.X rfl, gb, fun y hy => absurd hy List.not_mem_nil⟩
  obtain ⟨mi, gi, la, lb, lc, ld, le, lf⟩ := L_tell hs0 T2
  have gl := HD_len (q := q) (R := p :: Q) (tr := tr) (se := [re, ho, wi, de, ti, li, pa]) (N := N)
  have gs := HD_gsl hs0
  have hdN := hs0.dN
  obtain ⟨D, hD⟩ : ∃ D, D = dV q (p :: Q) tr [re, ho, wi, de, ti, li, pa] N := ⟨_, rfl⟩
  have v11 : (sN D).1 11 = (((p :: Q).length : Nat) : Int) := by rw [hD, sN_1 _ (by omega), dV_11]
  have hpI : pI (sN D) := by
    rw [hD]
    refine hdN.toI ?_ ?_ ?_ ?_
    · have e : dV q (p :: Q) tr [re, ho, wi, de, ti, li, pa] N 17 = (li : Int) := rfl
      have e2 : li ≤ 4 := dl
      rw [e]; omega
    · rw [dV_11]; omega
    · have e : dV q (p :: Q) tr [re, ho, wi, de, ti, li, pa] N 14 = (wi : Int) := rfl
      rw [e]; omega
    · have e : dV q (p :: Q) tr [re, ho, wi, de, ti, li, pa] N 14 = (wi : Int) := rfl
      have e1 : dV q (p :: Q) tr [re, ho, wi, de, ti, li, pa] N 18 = (pa : Int) := rfl
      have e2 : pa = 1 → wi ≤ 5 := dw
      rw [e, e1]
      intro w
      have := e2 (by omega)
      omega
  rw [← hD] at lb ld hdN
  obtain ⟨mj, ma1, ma2⟩ := ld.sound (by omega) (by omega) hdN.vB gi
  obtain ⟨mk, mb1, mb2⟩ := ma2.save
  obtain ⟨d0, hd0⟩ := d_all mb2.ai.1
  have dg : f_L_all mk gi = some d0 := hd0 mk gi (mb2.see (by omega))
  -- the row of digests
  obtain ⟨x6, hx6⟩ : ∃ x6, x6 = 2000 + gi.length := ⟨_, rfl⟩
  have nL : gNL gi 10 = some (x6, gi ++ [.inl (1, List.replicate 10 0)]) := by
    unfold gNL
    rw [if_pos (by decide), hx6]
    rfl
  have glen : (gi ++ [Sum.inl (1, List.replicate 10 0)] : gH).length = gi.length + 1 := by rw [List.length_append]; rfl
  have w2000 : (2000 : Nat) < 2000 + gi.length := (gat_in lc).2
  have o1' := lb.rhoA (ρ' := fun y => if y = x6 then 51 else kR y) [.inl (1, List.replicate 10 0)] (fun y hy => by rw [if_neg (by omega)]) (fun y hy => by
    rw [glen] at hy
    rw [if_neg (by omega)]
    exact lb.1.2.2.2.1 y (by omega)) (fun y => by
    by_cases c : y = x6
    · rw [if_pos c]; omega
    · rw [if_neg c]; exact kR_lt y)
  have LL0 : LL 2001 2000 x6 kA (fun y => if y = x6 then 51 else kR y) 255 mk (gi ++ [.inl (1, List.replicate 10 0)]) (sN D) [] (sN D) := ⟨⟨⟨RR, by
    have ev : ((sN D).2.2 1490) = [] := rfl
    exact o1'⟩, ⟨gat_lt lc _, by
    dsimp only
    rw [if_neg (by omega)]
    rfl⟩⟩, ⟨mb2, hdN.vB, hpI, fun t ht => absurd ht List.not_mem_nil⟩, if_pos rfl⟩
  have D0 : wD x6 (gi ++ [.inl (1, List.replicate 10 0)]) [] := ⟨List.replicate 10 0, by rw [hx6]; exact gat_nw _ _ [], rfl, fun j t ht => (by cases ht)⟩
  have time0 : (sN D).1 0 = 0 := hdN.z (by omega) (by omega) (by omega)
  obtain ⟨mz, gz, za, zb, zc⟩ := law_320 Ln xs hLn d0 hd0 36 0 fu kA _ 255 mk _ (sN D) [] (by omega) (by show _ < 5000; omega) LL0 D0 (by decide) (by rw [time0]; omega) (by omega) (by omega)
  obtain ⟨pp1, pp2⟩ := hdN.toP
  have gsl1 : gsl (gi ++ [.inl (1, List.replicate 10 0)] : gH) = gsl gi + 10 := by
    rw [gsl_app]
    rfl
  rw [glen] at zb
  rw [gsl1, pp2] at zc
  refine ⟨mz, gz, ?_, by omega, by omega⟩
  have za' : f_L_law_320 Ln xs 2000 fu 2001 d0 x6 0 0 mk (gi ++ [.inl (1, List.replicate 10 0)]) = some (1, mz, gz) := za
  have d1' : f_X_dial m3 = some (4, m4) := by rw [d1, f1]
  have e1' : f_X_pass 4 m4 = some (0, m5) := by
    have := e1
    rw [x1, f4] at this
    exact this
  have n1' : f_X_send 0 4 m7 = some (4, m8) := by
    have := n1
    rw [y2] at this
    exact this
  have q1' : f_X_pass 1 ma = some (0, mb) := by
    have := q1
    rw [show (aTicks 1 sF4).1 55 - sF4.1 55 = 0 from w1] at this
    exact this
  have t1' : f_X_pass 1 mb = some (4, mc) := by
    have := t1
    rw [show (aTicks 1 sF5).1 55 - sF5.1 55 = 4 from v1] at this
    exact this
  have u1' : f_X_pass 1 mc = some (0, md) := by
    have := u1
    rw [show (aTicks 1 sF6).1 55 - sF6.1 55 = 0 from aa] at this
    exact this
  have da' : f_X_pass 1 me = some (0, mf) := by
    have := da
    rw [show (aTicks 1 (aN sF7 2 0)).1 55 - (aN sF7 2 0).1 55 = 0 from ea] at this
    exact this
  have c1' : f_X_load (((wb 26).length : Nat) : Int) m2 = some (2, m3) := c1
  rw [l27] at j1
  have j1' : f_L_end 2000 m6 g6 = some (4, m7, [hZ6]) := j1
  have o1'' : f_X_nextCost 0 m8 = some (13, m9) := o1
  unfold f_L_law
  rw [a1, Option.bind_some]
  dsimp only
  rw [b1, Option.bind_some]
  dsimp only
  rw [c1', Option.bind_some]
  dsimp only
  rw [if_pos rfl, d1', Option.bind_some]
  dsimp only
  rw [if_pos rfl, e1', Option.bind_some]
  dsimp only
  rw [if_pos (by decide), z5, Option.bind_some, if_pos rfl, i1, Option.bind_some]
  dsimp only
  rw [j1', Option.bind_some]
  dsimp only
  rw [n1', Option.bind_some]
  dsimp only
  rw [if_pos rfl, o1'', Option.bind_some]
  dsimp only
  rw [if_pos rfl, p1, Option.bind_some]
  dsimp only
  rw [if_pos rfl, q1', Option.bind_some]
  dsimp only
  rw [if_pos (by decide), r1, Option.bind_some, if_pos rfl, r2, Option.bind_some, if_pos rfl, t1', Option.bind_some]
  dsimp only
  rw [if_pos rfl, r3, Option.bind_some, if_pos rfl, r4, Option.bind_some, if_pos rfl, u1', Option.bind_some]
  dsimp only
  rw [if_pos (by decide), r5, Option.bind_some, if_pos (by decide), r6, Option.bind_some, if_pos rfl, r7, Option.bind_some, if_pos rfl, r8, Option.bind_some, if_pos rfl, r9, Option.bind_some, if_pos rfl, ca, Option.bind_some]
  dsimp only
  rw [if_pos rfl, da', Option.bind_some]
  dsimp only
  rw [if_pos (by decide), ra, Option.bind_some, if_pos rfl, fa, Option.bind_some]
  dsimp only
  rw [if_pos rfl, ga, Option.bind_some]
  dsimp only
  rw [if_pos rfl, hdr, Option.bind_some]
  dsimp only
  rw [la, Option.bind_some]
  dsimp only
  rw [lb.k13, Option.bind_some, lb.rates hdN.aI.sm, v11, Option.bind_some, if_pos rfl, ma1, Option.bind_some]
  dsimp only
  rw [if_neg (by decide), mb1, Option.bind_some, dg, Option.bind_some, nL, Option.bind_some]
  dsimp only
  exact za'

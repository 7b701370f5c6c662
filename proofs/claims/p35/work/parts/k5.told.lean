/-! ===== the whole line told and loaded ===== -/
theorem cl_len {i : Nat} (hi : 10 ≤ i ∧ i < 20) (L : List Nat) : (wb i ++ sep L ++ [59]).length ≤ 9 + 3 * L.length := by
  have := wb_8 i hi.2 hi.1
  have := sep_len L
  rw [List.length_append, List.length_append, List.length_singleton]
  omega
section
variable {q : Nat} {p : Nat × Nat} {Q : List (Nat × Nat)} {tr N : List Nat} {re ho wi de ti li pa : Nat}
theorem L_tell {u w : Nat} {A ρ : Nat → Nat} {R : Nat → List Nat} {a b : Int} {B : Int} {s' : aS} {H : List aS} {S : Option aS} {m : xM} {h : gH} (hs : sOk q (p :: Q) tr [re, ho, wi, de, ti, li, pa] N) (t0 : TO u w A ρ R a b (sN (dV q (p :: Q) tr [re, ho, wi, de, ti, li, pa] N)) B s' H S m h []) : ∃ (m' : xM) (h' : gH), f_L_tell w u m h = some ((((p :: Q).length : Nat) : Int), m', h') ∧ OR u A R ρ a b h' (sN (dV q (p :: Q) tr [re, ho, wi, de, ti, li, pa] N)) ∧ gat h' w = some (.inl (0, [0, 0, 0, 0, 0, 0])) ∧ aX 255 m' (sN (dV q (p :: Q) tr [re, ho, wi, de, ti, li, pa] N)) [] none [] ∧ h'.length ≤ h.length + 8 ∧ gsl h' ≤ gsl h + 12 := by
  have hh := hs
  obtain ⟨D, hD⟩ : ∃ D, D = dV q (p :: Q) tr [re, ho, wi, de, ti, li, pa] N := ⟨_, rfl⟩
  have hdN := hs.dN
  rw [← hD] at t0 hdN ⊢
  have hm : oSm (sN D) := hdN.aI.sm
  obtain ⟨h1, ⟨h2, h3, h4⟩, ⟨h5, h6⟩, ⟨re', ho', wi', de', ti', li', pa', e, s1, s2, s3, s4, s5, s6, s7⟩, h8, h9⟩ := hs
  injection e with e1 e
  injection e with e2 e
  injection e with e3 e
  injection e with e4 e
  injection e with e5 e
  injection e with e6 e
  injection e with e7 e
  subst e1 e2 e3 e4 e5 e6 e7
  obtain ⟨t0', t1', t2', t3', rfl⟩ : ∃ a b c d, tr = [a, b, c, d] := by
    cases tr with
    | nil => cases h5
    | cons a tr =>
      cases tr with
      | nil => cases h5
      | cons b tr =>
        cases tr with
        | nil => cases h5
        | cons c tr =>
          cases tr with
          | nil => cases h5
          | cons d tr =>
            cases tr with
            | nil => exact ⟨a, b, c, d, rfl⟩
            | cons x tr => cases h5
  have hRo := rOk_all (p :: Q) 0 0 h2
  have v2 : (sN D).1 2 = (q : Int) := by rw [hD, sN_1 _ (by omega), dV_2]
  have v11 : (sN D).1 11 = (((p :: Q).length : Nat) : Int) := by rw [hD, sN_1 _ (by omega), dV_11]
  have v19 : (sN D).1 19 = ((N.length : Nat) : Int) := by rw [hD, sN_1 _ (by omega), dV_19]
  have vR : ∀ k, k < (p :: Q).length → (sN D).1 (35 + k) = ((((p :: Q).getD k (0, 0)).1 : Nat) : Int) ∧ (sN D).1 (40 + k) = ((((p :: Q).getD k (0, 0)).2 : Nat) : Int) ∧ ((p :: Q).getD k (0, 0)).1 < 100 ∧ ((p :: Q).getD k (0, 0)).2 < 100 := fun k hk => by
    have := hRo _ (getD_in (d := (0, 0)) hk)
    rw [hD, sN_1 _ (by omega), sN_1 _ (by omega), dV_s (by omega), dV_n (by omega)]
    exact ⟨rfl, rfl, by omega, by omega⟩
  have vN : ∀ k, k < N.length → (sN D).1 (25 + k) = ((N.getD k 0 : Nat) : Int) ∧ N.getD k 0 < 100 := fun k hk => by
    have := getD_all h9 k
    rw [hD, sN_1 _ (by omega), dV_N (by omega)]
    exact ⟨rfl, by omega⟩
  have vS : ∀ j, j < 7 → (sN D).1 (12 + j) = ((([re, ho, wi, de, ti, li, pa] : List Nat).getD j 0 : Nat) : Int) := fun j hj => by
    rw [hD, sN_1 _ (by omega), dV_se hj]
  have vT : ∀ j, j < 4 → (sN D).1 (21 + j) = ((([t0', t1', t2', t3'] : List Nat).getD j 0 : Nat) : Int) := fun j hj => by
    rw [hD, sN_1 _ (by omega), dV_tr hj]
  rw [List.length_cons] at h4
  -- line
  obtain ⟨m1, g1, a1, a2, a3, a4⟩ := t0.clause (i := 10) (by omega) (L := [q]) (fun x hx => by rw [List.mem_singleton.mp hx]; omega) (show 1 ≤ 10 by omega) (show 0 < 300 by omega)
  obtain ⟨l1, hl1⟩ : ∃ l1, l1 = [] ++ (wb 10 ++ sep [q] ++ [59]) := ⟨_, rfl⟩
  have b1 : l1.length ≤ 12 := by rw [hl1]; exact cl_len (by omega) [q]
  rw [← hl1] at a2
  have o0 := t0.1.1.app [.inl (0, [0])]
  have n1 : gNw 0 h 1 = some (2000 + h.length, h ++ [.inl (0, [0])]) := gNw_z 0 h (n := 1) rfl (by omega)
  have w1 : gsN 0 (h ++ [.inl (0, [0])]) (2000 + h.length) 0 (q : Int) = some (h ++ [.inl (0, cI [q])]) := gsN_nz (i := 0) (q : Int) rfl (by decide) (by decide)
  -- rates
  obtain ⟨m2, g2, c1, c2, c3⟩ := a2.2.words (i := 11) (by omega) (by omega)
  have t2 := a2.go c2 c3
  obtain ⟨l2, hl2⟩ : ∃ l2, l2 = l1 ++ wb 11 := ⟨_, rfl⟩
  have b2 : l2.length ≤ 20 := by
    have := wb_8 11 (by omega) (by omega)
    rw [hl2, List.length_append]; omega
  rw [← hl2] at t2
  obtain ⟨x1, x2, x3, x4⟩ := vR 0 (by rw [List.length_cons]; omega)
  obtain ⟨m3, g3, d1, d2, d3⟩ := t2.rate hm (k := 0) (c := 32) (zc := 32) rfl (by omega) (by rw [v11, List.length_cons]; omega) x1 x2 x3 x4 (by omega)
  obtain ⟨l3, hl3⟩ : ∃ l3, l3 = l2 ++ (32 :: (dgN p.1 ++ (32 :: dgN p.2))) := ⟨_, rfl⟩
  have b3 : l3.length ≤ 26 := by
    have := (dgN_len p.1).2
    have := (dgN_len p.2).2
    rw [hl3, List.length_append, List.length_cons, List.length_append, List.length_cons]; omega
  have d2' : TO u w A ρ R a b (sN D) B s' H S m3 g3 l3 := by rw [hl3]; exact d2
  obtain ⟨z, hz⟩ : ∃ z, fu = z + 1 := ⟨4999, rfl⟩
  have hz5 : 4 < z := by
    have : fu = 5000 := rfl
    omega
  obtain ⟨m4, g4, f1, f2, f3⟩ := TO.rates (w := w) hm v11 vR (by rw [List.length_cons]; omega) Q.length 1 z l3 m3 g3 d2' (by rw [List.length_cons]; omega) (by omega) (by omega) (by omega)
  obtain ⟨l4, hl4⟩ : ∃ l4, l4 = l3 ++ rtx Q := ⟨_, rfl⟩
  have b4 : l4.length ≤ 50 := by
    have := rtx_len Q
    rw [hl4, List.length_append]; omega
  have f2' : TO u w A ρ R a b (sN D) B s' H S m4 g4 l4 := by rw [hl4]; exact f2
  obtain ⟨m5, g5, i1, i2, i3⟩ := f2'.2.add (b := 59) (by omega) (by omega) (z := 59) rfl
  have t5 := f2'.go i2 i3
  obtain ⟨l5, hl5⟩ : ∃ l5, l5 = l4 ++ [59] := ⟨_, rfl⟩
  have b5 : l5.length ≤ 51 := by rw [hl5, List.length_append, List.length_singleton]; omega
  rw [← hl5] at t5
  -- train
  obtain ⟨m6, g6, j1, j2, j3, j4⟩ := t5.four (i := 12) (vT 0 (by omega)) (vT 1 (by omega)) (vT 2 (by omega)) (vT 3 (by omega)) (fun x hx => by have := (h6 x hx).2; omega) (by omega) (by omega)
  obtain ⟨l6, hl6⟩ : ∃ l6, l6 = l5 ++ (wb 12 ++ sep [t0', t1', t2', t3'] ++ [59]) := ⟨_, rfl⟩
  have b6 : l6.length ≤ 72 := by
    have := cl_len (i := 12) (by omega) [t0', t1', t2', t3']
    have e4 : ([t0', t1', t2', t3'] : List Nat).length = 4 := rfl
    rw [hl6, List.length_append]; omega
  have j2' : TO u w A ρ R a b (sN D) B s' H S m6 g6 l6 := by rw [hl6]; exact j2
  -- retries, hold, window
  obtain ⟨m7, g7, k1, k2, k3, k4⟩ := j2'.one (j := 0) (i := 13) (v := re) (zj := 0) rfl (by omega) (vS 0 (by omega)) (by omega) (by omega) (by omega)
  obtain ⟨l7, hl7⟩ : ∃ l7, l7 = l6 ++ (wb 13 ++ sep [re] ++ [59]) := ⟨_, rfl⟩
  have b7 : l7.length ≤ 84 := by
    have := cl_len (i := 13) (by omega) [re]
    have e4 : ([re] : List Nat).length = 1 := rfl
    rw [hl7, List.length_append]; omega
  have k2' : TO u w A ρ R a b (sN D) B s' H S m7 g7 l7 := by rw [hl7]; exact k2
  obtain ⟨m8, g8, n1', n2, n3, n4⟩ := k2'.one (j := 1) (i := 14) (v := ho) (zj := 1) rfl (by omega) (vS 1 (by omega)) (by omega) (by omega) (by omega)
  obtain ⟨l8, hl8⟩ : ∃ l8, l8 = l7 ++ (wb 14 ++ sep [ho] ++ [59]) := ⟨_, rfl⟩
  have b8 : l8.length ≤ 96 := by
    have := cl_len (i := 14) (by omega) [ho]
    have e4 : ([ho] : List Nat).length = 1 := rfl
    rw [hl8, List.length_append]; omega
  have n2' : TO u w A ρ R a b (sN D) B s' H S m8 g8 l8 := by rw [hl8]; exact n2
  obtain ⟨m9, g9, o1, o2, o3, o4⟩ := n2'.one (j := 2) (i := 15) (v := wi) (zj := 2) rfl (by omega) (vS 2 (by omega)) (by omega) (by omega) (by omega)
  obtain ⟨l9, hl9⟩ : ∃ l9, l9 = l8 ++ (wb 15 ++ sep [wi] ++ [59]) := ⟨_, rfl⟩
  have b9 : l9.length ≤ 108 := by
    have := cl_len (i := 15) (by omega) [wi]
    have e4 : ([wi] : List Nat).length = 1 := rfl
    rw [hl9, List.length_append]; omega
  have o2' : TO u w A ρ R a b (sN D) B s' H S m9 g9 l9 := by rw [hl9]; exact o2
  -- delay
  obtain ⟨ma, ga, p1, p2, p3, p4⟩ := o2'.two (i := 16) (v := de) (v' := ti) (vS 3 (by omega)) (vS 4 (by omega)) ⟨by omega, by omega⟩ (by omega) (by omega)
  obtain ⟨la, hla⟩ : ∃ la, la = l9 ++ (wb 16 ++ sep [de, ti] ++ [59]) := ⟨_, rfl⟩
  have ba : la.length ≤ 123 := by
    have := cl_len (i := 16) (by omega) [de, ti]
    have e4 : ([de, ti] : List Nat).length = 2 := rfl
    rw [hla, List.length_append]; omega
  have p2' : TO u w A ρ R a b (sN D) B s' H S ma ga la := by rw [hla]; exact p2
  -- limit, patience
  obtain ⟨mb, gb, q1, q2, q3, q4⟩ := p2'.one (j := 5) (i := 17) (v := li) (zj := 5) rfl (by omega) (vS 5 (by omega)) (by omega) (by omega) (by omega)
  obtain ⟨lb, hlb⟩ : ∃ lb, lb = la ++ (wb 17 ++ sep [li] ++ [59]) := ⟨_, rfl⟩
  have bb : lb.length ≤ 135 := by
    have := cl_len (i := 17) (by omega) [li]
    have e4 : ([li] : List Nat).length = 1 := rfl
    rw [hlb, List.length_append]; omega
  have q2' : TO u w A ρ R a b (sN D) B s' H S mb gb lb := by rw [hlb]; exact q2
  obtain ⟨mc, gc, r1, r2, r3, r4⟩ := q2'.one (j := 6) (i := 18) (v := pa) (zj := 6) rfl (by omega) (vS 6 (by omega)) (by omega) (by omega) (by omega)
  obtain ⟨lc, hlc⟩ : ∃ lc, lc = lb ++ (wb 18 ++ sep [pa] ++ [59]) := ⟨_, rfl⟩
  have bc : lc.length ≤ 147 := by
    have := cl_len (i := 18) (by omega) [pa]
    have e4 : ([pa] : List Nat).length = 1 := rfl
    rw [hlc, List.length_append]; omega
  have r2' : TO u w A ρ R a b (sN D) B s' H S mc gc lc := by rw [hlc]; exact r2
  -- noise
  obtain ⟨md, gd, y1, y2, y3⟩ := r2'.2.words (i := 19) (by omega) (by omega)
  have td := r2'.go y2 y3
  obtain ⟨ld, hld⟩ : ∃ ld, ld = lc ++ wb 19 := ⟨_, rfl⟩
  have bd : ld.length ≤ 155 := by
    have := wb_8 19 (by omega) (by omega)
    rw [hld, List.length_append]; omega
  rw [← hld] at td
  obtain ⟨me, ge, z1, z2, z3⟩ := TO.noises (w := w) hm v19 vN (by omega) N.length 0 fu ld md gd td (by omega) (by show _ < 5000; omega) (by omega)
  obtain ⟨le, hle⟩ : ∃ le, le = ld ++ sep N := ⟨_, rfl⟩
  have be : le.length ≤ 185 := by
    have := sep_len N
    rw [hle, List.length_append]; omega
  have z2' : TO u w A ρ R a b (sN D) B s' H S me ge le := by rw [hle]; exact z2
  obtain ⟨mf, gf, u1, u2, u3⟩ := z2'.2.add (b := 59) (by omega) (by omega) (z := 59) rfl
  have tf := z2'.go u2 u3
  obtain ⟨T, hT⟩ : ∃ T, T = le ++ [59] := ⟨_, rfl⟩
  have bT : T.length ≤ 186 := by rw [hT, List.length_append, List.length_singleton]; omega
  rw [← hT] at tf
  obtain ⟨mg, gg, kp, E1, E2, E3, E4⟩ := L_end tf.2.1 tf.2.2.1 tf.2.2.2 (by omega)
  have eT : T = txM q p Q [t0', t1', t2', t3'] re ho wi de ti li pa N := by
    rw [hT, hle, hld, hlc, hlb, hla, hl9, hl8, hl7, hl6, hl5, hl4, hl3, hl2, hl1]
    unfold txM txH cx
    simp only [List.append_assoc, List.cons_append, List.nil_append]
  have tk0 : tk T 1 (wb 10) (sep [q] ++ (59 :: (wb 11 ++ (32 :: (dgN p.1 ++ (32 :: (dgN p.2 ++ (rtx Q ++ (59 :: (cx 12 [t0', t1', t2', t3'] (cx 13 [re] (cx 14 [ho] (cx 15 [wi] (cx 16 [de, ti] (cx 17 [li] (cx 18 [pa] (cx 19 N []))))))))))))))))) := by
    rw [eT]
    exact tk_word (by omega) (hd_sep1 _ _)
  obtain ⟨mh, L1, L2⟩ := E3.load rfl tf.2.2.2 (by omega) hdN tk0 fun M2 c1 c2 => by
    rw [hD]
    rw [eT] at c1
    exact txM_read hh rfl c1 c2
  have d11 : D 11 = (((p :: Q).length : Nat) : Int) := by rw [hD, dV_11]
  rw [d11] at L1
  have oE : OR u A R ρ a b gg (sN D) := tf.1.1.k50 (E4.P tf.1.2) (by rw [E4.2.1]; exact Nat.le_refl _)
  have y2l := c3.2
  have y3l := d3.2
  have y4l := f3.2
  have y5l := i3.2
  have y6l := y3.2
  have y7l := z3.2
  have y8l := u3.2
  have y9l := E4.2
  refine ⟨mh, gg, ?_, oE, E2, L2, by
    have e1 : ([q] : List Nat).length = 1 := rfl
    omega, by
    have e1 : ([q] : List Nat).length = 1 := rfl
    omega⟩
  unfold f_L_tell
  rw [n1, Option.bind_some]
  dsimp only
  rw [o0.f2, Option.bind_some, v2, w1, Option.bind_some, a1, Option.bind_some]
  dsimp only
  rw [c1, Option.bind_some]
  dsimp only
  have d1' := d1 (f_L_tell_26 w u z)
  rw [show ((0 : Nat) : Int) = 0 from rfl] at d1'
  rw [show ((1 : Nat) : Int) = 1 from rfl] at f1
  rw [hz, f_L_tell_26, t2.1.1.k12, Option.bind_some, t2.1.1.speeds hm, Option.bind_some, v11, if_pos (by rw [List.length_cons, xw_nat (by omega), show xw 0 = 0 by decide]; omega), if_neg (by decide), d1', show (0 : Int) + 1 = 1 from rfl, f1]
  unfold f_L_tell_86
  rw [i1, Option.bind_some]
  dsimp only
  rw [j1]
  dsimp only
  rw [k1]
  dsimp only
  rw [n1']
  dsimp only
  rw [o1]
  dsimp only
  rw [p1]
  dsimp only
  rw [q1]
  dsimp only
  rw [r1]
  dsimp only
  rw [y1, Option.bind_some]
  dsimp only
  rw [td.1.1.k15, Option.bind_some, td.1.1.noises hm, Option.bind_some, v19]
  rw [show ((0 : Nat) : Int) = 0 from rfl] at z1
  rw [z1]
  unfold f_L_tell_315
  rw [u1, Option.bind_some]
  dsimp only
  rw [E1, Option.bind_some]
  dsimp only
  rw [L1, Option.bind_some]
end

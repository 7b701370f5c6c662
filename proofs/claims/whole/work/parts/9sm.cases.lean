/-! ===== the law asks format and formattedByte ===== -/
theorem tX_out {dA : Nat → ClassId} {t0 : Nat} {T : va_W} {G : bGt} (h : tX dA t0 T G) : ∃ (t1 cap n : Nat) (ml : Int32) (f : Nat → Int32), T = tB dA t0 t1 cap n ml f ∧ G.1 = n ∧ n ≤ cap ∧ n ≤ 60 ∧ cap ≤ 500 ∧ (∀ j, (f j).toInt8.toInt32 = f j) ∧ tS f n G.2 := by
  obtain ⟨t1, n, cap, ml, f, rfl, h1, h2, h3, h4, h5, h6⟩ := h
  refine ⟨t1, cap, n, ml, f, ?_, h1, h2, h3, h4, h5, h6⟩
  unfold tB
  rw [b_of]
  rfl
theorem tX_in {dA : Nat → ClassId} {t0 t1 cap n : Nat} {ml : Int32} {f : Nat → Int32} {G : bGt} (h1 : G.1 = n) (h2 : n ≤ cap) (h3 : n ≤ 60) (h4 : cap ≤ 500) (h5 : ∀ j, (f j).toInt8.toInt32 = f j) (h6 : tS f n G.2) : tX dA t0 (tB dA t0 t1 cap n ml f) G := by
  refine ⟨t1, n, cap, ml, f, ?_, h1, h2, h3, h4, h5, h6⟩
  unfold tB
  rw [b_of]
  rfl
theorem lw_p {α : Type} (a : α) (X T M : List α) : ((a :: X) ++ (T ++ M)).Perm ((a :: M) ++ (X ++ T)) := by
  refine List.Perm.cons _ ?_
  show (X ++ (T ++ M)).Perm (M ++ (X ++ T))
  rw [← List.append_assoc]
  exact List.perm_append_comm
theorem yd_Dg {Γ : yG} (h : yDg Γ) (d : Drawn) : yDg (yd Γ d) := by
  obtain ⟨⟨p, l, e, R, s, m0, args, below, meth, c⟩, ⟨A, dC, dI, dA, sa⟩, Q⟩ := Γ
  exact xDg.same (u := s) (U := s.setDrawn d) rfl h
theorem m_fbyte_sp {G : bGt} {M : xM} {p : Int} {n : Nat} (hG : bG G M) (h1 : G.1 = n) (hn : n ≤ 60) (hp : bI p) : f_m_formattedByte p M = some (if 0 ≤ p ∧ p < (n : Int) then G.2 p.toNat else -1, xu M 0 6 0) := by
  have h11 : M 0 11 = n := by rw [hG.1, h1]
  have hp' : -2147483648 ≤ p ∧ p < 2147483648 := hp
  unfold f_m_formattedByte
  rw [m_inR p 0 (M 0 11 - 1) _ hp (by unfold bI; omega) (by rw [h11]; unfold bI; omega), b_bs, h11]
  by_cases q : 0 ≤ p ∧ p < (n : Int)
  · rw [if_pos (show 0 ≤ p ∧ p ≤ (n : Int) - 1 by omega), if_neg (show ¬ xw 1 = 0 by decide), if_pos (b_ib (by omega)), if_pos q, b_ix (by omega), hG.2]
  · rw [if_neg (show ¬ (0 ≤ p ∧ p ≤ (n : Int) - 1) by omega), if_pos (show xw 0 = 0 by decide), if_neg q]
theorem isL_le {N c k : Nat} (h : isL N c) (hN : N < 10 ^ k) (hk : 1 ≤ k) : c ≤ k := by
  obtain ⟨h1, h2, h3, h4⟩ := h
  rcases h3 with g | g
  · omega
  · by_cases q : c ≤ k
    · exact q
    · exact absurd (Nat.le_trans (Nat.pow_le_pow_right (n := 10) (by decide) (show k ≤ c - 1 by omega)) g) (by omega)
theorem xy_X10_formattedByte : xY yX10_formattedByte cX10_formattedByte 2 (some .int) 1 := ⟨(xin_64 _ (List.mem_of_getElem? (i := 5) rfl)), (xin_1 _ (List.mem_of_getElem? (i := 2) rfl)), by decide +kernel, by decide +kernel, by decide +kernel⟩
theorem xi_X10_formattedByte : Cond.instanceMethod yX10_formattedByte ∈ wsL_law := (xin_64 _ (List.mem_of_getElem? (i := 3) rfl))
theorem xs_X10_formattedByte : Cond.selects yX10_formattedByte.cls yX10_formattedByte yX10_formattedByte ∈ wsL_law := (xin_64 _ (List.mem_of_getElem? (i := 4) rfl))
theorem xy_X11_formattedByte : xY yX11_formattedByte cX11_formattedByte 2 (some .int) 1 := ⟨(xin_64 _ (List.mem_of_getElem? (i := 20) rfl)), (xin_1 _ (List.mem_of_getElem? (i := 5) rfl)), by decide +kernel, by decide +kernel, by decide +kernel⟩
theorem xi_X11_formattedByte : Cond.instanceMethod yX11_formattedByte ∈ wsL_law := (xin_64 _ (List.mem_of_getElem? (i := 18) rfl))
theorem xs_X11_formattedByte : Cond.selects yX11_formattedByte.cls yX11_formattedByte yX11_formattedByte ∈ wsL_law := (xin_64 _ (List.mem_of_getElem? (i := 19) rfl))
theorem xy_X10_format : xY yX10_format cX10_format 1 (some .int) 0 := ⟨(xin_55 _ (List.mem_of_getElem? (i := 19) rfl)), (xin_1 _ (List.mem_of_getElem? (i := 2) rfl)), by decide +kernel, by decide +kernel, by decide +kernel⟩
theorem xi_X10_format : Cond.instanceMethod yX10_format ∈ wsL_law := (xin_55 _ (List.mem_of_getElem? (i := 17) rfl))
theorem xs_X10_format : Cond.selects yX10_format.cls yX10_format yX10_format ∈ wsL_law := (xin_55 _ (List.mem_of_getElem? (i := 18) rfl))
theorem xy_X11_format : xY yX11_format cX11_format 2 (some .int) 0 := ⟨(xin_63 _ (List.mem_of_getElem? (i := 12) rfl)), (xin_1 _ (List.mem_of_getElem? (i := 5) rfl)), by decide +kernel, by decide +kernel, by decide +kernel⟩
theorem xi_X11_format : Cond.instanceMethod yX11_format ∈ wsL_law := (xin_63 _ (List.mem_of_getElem? (i := 10) rfl))
theorem xs_X11_format : Cond.selects yX11_format.cls yX11_format yX11_format ∈ wsL_law := (xin_63 _ (List.mem_of_getElem? (i := 11) rfl))
set_option maxRecDepth 100000 in
set_option maxHeartbeats 8000000 in
theorem lc_26 {Γ : yG} {b Ln : Nat} {xs : Nat → Int32} (C : yC Γ RL cL_law 9 100 601024 7293034) (Z : lC Γ b Ln xs) (hst : Γ.1.2.1.stackTraces = false) (hDg : yDg Γ) {aX aM : Nat → Nat} (hS : lS Γ aX aM) (o i : Nat) (hi : i + 6 ≤ Ln) {ws : va_W} {k n : Nat} (hk : k + 40 ≤ 601024) (hn : n + 8000 ≤ 7293034) (hI : lI (yDA Γ) aX aM o ws) (Gk : ∀ (ws' : va_W) (k' n' : Nat), lI (yDA Γ) aX aM o ws' → k' ≤ k + 40 → n' ≤ n + 8000 → yW Γ 9 1638 (lL b aX aM o i) [] ws' k' n') : yW Γ 9 1507 (lL b aX aM o i) [] ws k n := by
  obtain ⟨m, M, g, T, G, hX, hT, rfl⟩ := hI
  obtain ⟨z1, e1, i1⟩ := l_int (xs (i + 1))
  obtain ⟨t1, cap, nn, ml, f, rfl, h1, h2, h3, h4, h5, h6⟩ := tX_out hT
  have hb := hX.2.2.2.2.2
  refine y_aload C 1 dL_law_1507 rfl rfl ?_
  refine y_arg C Z 0 4 1 i dL_law_1508 dL_law_1509 dL_law_1511 dL_law_1512 dL_law_1513 rfl rfl (by omega) e1 ?_
  refine y_perm (lw_p _ (xwld aX (yDA Γ) m 0 lay_X) (tB (yDA Γ) (aX 445) t1 cap nn ml f) (xwld aM (yDA Γ) M 0 lay_M)) ?_
  refine t_callV (wa := lwo (yDA Γ) o g :: xwld aM (yDA Γ) M 0 lay_M) (wc := xwld aX (yDA Γ) m 0 lay_X ++ tB (yDA Γ) (aX 445) t1 cap nn ml f) (av := [.int (Int32.ofInt z1)]) C hDg dL_law_1514 (xin_64 _ (List.mem_of_getElem? (i := 2) rfl)) xs_X10_formattedByte xi_X10_formattedByte xy_X10_formattedByte (by omega) (by omega) 0 (t_cell (s := .inl (12, [some 1, some 6, some 11, some 44, some 77, none, some 440, none, none, some 441, none, none, some 442, some 443, some 444, some 445])) rfl) ⟨TX10, 16, rfl⟩ rfl (Nat.le_of_ble_eq_true rfl) (k_fbyte (G := G.2) i1 h2 h3 h4 h6) (by omega) (by omega) rfl (fun rv w9 hw9 => ?_)
  obtain ⟨rfl, rfl⟩ := hw9
  refine y_perm (lw_p _ (xwld aX (yDA Γ) m 0 lay_X) (tB (yDA Γ) (aX 445) t1 cap nn ml f) (xwld aM (yDA Γ) M 0 lay_M)).symm ?_
  refine y_aload C 2 dL_law_1517 rfl rfl ?_
  refine y_arg C Z 0 4 1 i dL_law_1518 dL_law_1519 dL_law_1521 dL_law_1522 dL_law_1523 rfl rfl (by omega) e1 ?_
  refine y_callXr (wa := lwo (yDA Γ) o g :: xwld aX (yDA Γ) m 0 lay_X) (wb := tB (yDA Γ) (aX 445) t1 cap nn ml f) (st := [.int (Int32.ofInt (if 0 ≤ z1 ∧ z1 < (nn : Int) then G.2 z1.toNat else -1))]) (av := [.inl z1]) (b := 0) (layY := lay_M) C aM dL_law_1524 (xin_64 _ (List.mem_of_getElem? (i := 17) rfl)) xy_X11_formattedByte xi_X11_formattedByte xs_X11_formattedByte (by omega) (by decide) rfl ⟨_, _, rfl⟩ rfl (Nat.le_of_ble_eq_true rfl) (c_m_formattedByte _ _ _ _ _ (m_fbyte_sp hb h1 h3 i1)) (by omega) (by omega) hS.2 rfl ?_
  refine y_icmpeq C 1638 dL_law_1527 (by decide) rfl ?_
  exact Gk _ _ _ ⟨m, xu M 0 6 0, g, _, G, hX.thr 0, hT, rfl⟩ (by omega) (by omega)
set_option maxRecDepth 100000 in
set_option maxHeartbeats 8000000 in
theorem lc_25 {Γ : yG} {b Ln : Nat} {xs : Nat → Int32} (C : yC Γ RL cL_law 9 100 601024 7293034) (Z : lC Γ b Ln xs) (hst : Γ.1.2.1.stackTraces = false) (hDg : yDg Γ) {aX aM : Nat → Nat} (hS : lS Γ aX aM) (o i : Nat) (hi : i + 6 ≤ Ln) {ws : va_W} {k n : Nat} (hk : k + 40 ≤ 601024) (hn : n + 8000 ≤ 7293034) (hI : lI (yDA Γ) aX aM o ws) (Gk : ∀ (ws' : va_W) (k' n' : Nat), lI (yDA Γ) aX aM o ws' → k' ≤ k + 40 → n' ≤ n + 8000 → yW Γ 9 1638 (lL b aX aM o i) [] ws' k' n') : yW Γ 9 1494 (lL b aX aM o i) [] ws k n := by
  obtain ⟨m, M, g, T, G, hX, hT, rfl⟩ := hI
  obtain ⟨t1, cap, nn, ml, f, rfl, h1, h2, h3, h4, h5, h6⟩ := tX_out hT
  obtain ⟨p1, p2, p3⟩ := hX.ph
  obtain ⟨x1, x2, x3, x4, x5, x6⟩ := id hX
  obtain ⟨r1, r2, r3, r4, r5, r6⟩ := id x1.1.1
  obtain ⟨⟨F1, C1, S1, a1, a2, a3, a4, a5, a6, a7, a8, a9⟩, -, -, ⟨q1, b1, b2, b3, b4⟩, ⟨rc1, c1, c2, c3, c4⟩, -⟩ := id r1
  obtain ⟨⟨F2, C2, S2, d1, d2, d3, d4, d5, d6, d7, d8, d9⟩, -, -, ⟨q2, f1, f2, f3, f4⟩, ⟨rc2, g1, g2, g3, g4⟩, -⟩ := id r2
  obtain ⟨cq1, Hq1⟩ := isL_ex q1 (by omega)
  obtain ⟨cf1, Hf1⟩ := isL_ex C1 (by omega)
  obtain ⟨cr1, Hr1⟩ := isL_ex rc1 c1
  obtain ⟨cq2, Hq2⟩ := isL_ex q2 (by omega)
  obtain ⟨cf2, Hf2⟩ := isL_ex C2 (by omega)
  obtain ⟨cr2, Hr2⟩ := isL_ex rc2 g1
  have lq1 := isL_le Hq1 (k := 3) (by omega) (by omega)
  have lf1 := isL_le Hf1 (k := 1) (by omega) (by omega)
  have lq2 := isL_le Hq2 (k := 3) (by omega) (by omega)
  have lf2 := isL_le Hf2 (k := 1) (by omega) (by omega)
  have lr1 := Hr1.2.2.2
  have lr2 := Hr2.2.2.2
  have v1 : m 12 5 = (q1 : Int) := b2
  have v2 : m 15 4 = (C1 : Int) := a2
  have v3 : m 12 6 = (rc1 : Int) := c2
  have v4 : m 23 5 = (q2 : Int) := f2
  have v5 : m 26 4 = (C2 : Int) := d2
  have v6 : m 23 6 = (rc2 : Int) := g2
  have w1 : M 1 56 = (q1 : Int) := b3
  have w2 : M 1 57 = (C1 : Int) := a7
  have w3 : M 1 60 = (rc1 : Int) := c3
  have w4 : M 1 773 = (q2 : Int) := f3
  have w5 : M 1 774 = (C2 : Int) := d7
  have w6 : M 1 777 = (rc2 : Int) := g3
  have l20 : (xSby.getD 20 []).length = 4 := rfl
  have l23 : (xSby.getD 23 []).length = 4 := rfl
  have l24 : (xSby.getD 24 []).length = 7 := rfl
  have l25 : (xSby.getD 25 []).length = 9 := rfl
  have hk1 : bRSc (xvw (bV 11) m) (M 1) := r6
  obtain ⟨s1, s2, s3, s4, s5, s6, s7, s8, s9, s10, s11, s12⟩ := hk1
  refine y_aload C 1 dL_law_1494 rfl rfl ?_
  refine y_perm (lw_p _ (xwld aX (yDA Γ) m 0 lay_X) (tB (yDA Γ) (aX 445) t1 cap nn ml f) (xwld aM (yDA Γ) M 0 lay_M)) ?_
  have fin : ∀ (M' : xM) (N : Nat) (t2 c2 : Nat) (m2 : Int32) (f2 : Nat → Int32), N ≤ 60 → M' 0 6 = 0 → M' 0 11 = (N : Int) → (∀ k, k ≠ 0 → k ≠ 7 → M' k = M k) → (∀ j, j ≠ 6 → j ≠ 11 → M' 0 j = M 0 j) → N ≤ c2 → c2 ≤ 500 → (∀ j, (f2 j).toInt8.toInt32 = f2 j) → tS f2 N (M' 7) → lI (yDA Γ) aX aM o ((lwo (yDA Γ) o g :: xwld aX (yDA Γ) m 0 lay_X) ++ (tB (yDA Γ) (aX 445) t2 c2 N m2 f2 ++ xwld aM (yDA Γ) M' 0 lay_M)) := fun M' N t2 c2 m2 f2 hN h6 h11 hK hJ n1 n2 n3 n4 => by
    refine ⟨m, M', g, _, ((N : Int), M' 7), ⟨?_, ?_, ?_, ?_, ?_, h11, rfl⟩, tX_in rfl n1 hN n2 n3 n4, rfl⟩
    · rw [hK 1 (by omega) (by omega)]; exact x1
    · exact x2.cg ⟨rfl, rfl⟩ (fun _ _ _ => rfl) (fun _ _ _ => rfl) (hJ 5 (by omega) (by omega)) (hK 5 (by omega) (by omega))
    · exact x3.cg rfl (fun _ _ _ => rfl) (fun _ _ _ => rfl) (hJ 7 (by omega) (by omega)) (hK 4 (by omega) (by omega))
    · exact x4.cg rfl rfl (hJ 13 (by omega) (by omega)) (hK 8 (by omega) (by omega))
    · rw [hJ 20 (by omega) (by omega)]; exact x5
  rcases (show m 11 8 = 0 ∨ m 11 8 = 1 ∨ m 11 8 = 2 ∨ m 11 8 = 3 by omega) with hp | hp | hp | hp
  · skip
    obtain ⟨M', j1, j2, j3, j4, j6, j7, j8, j9⟩ := m_format0 (M := M) (by rw [p1, hp]) w1 w2 w3 w4 w5 w6 ⟨by omega, Hq1⟩ ⟨by omega, Hf1⟩ ⟨c1, Hr1⟩ ⟨by omega, Hq2⟩ ⟨by omega, Hf2⟩ ⟨g1, Hr2⟩ (by omega)
    obtain ⟨ga1, gb1, gc1, gd1, ge1, gf1⟩ := id j6
    obtain ⟨ga2, gb2, gc2, gd2, ge2, gf2⟩ := id j7
    refine t_callV (wa := lwo (yDA Γ) o g :: xwld aM (yDA Γ) M 0 lay_M) (wc := xwld aX (yDA Γ) m 0 lay_X ++ tB (yDA Γ) (aX 445) t1 cap nn ml f) (av := []) C hDg dL_law_1495 (xin_55 _ (List.mem_of_getElem? (i := 16) rfl)) xs_X10_format xi_X10_format xy_X10_format (by omega) (by omega) 0 (t_cell (s := .inl (12, [some 1, some 6, some 11, some 44, some 77, none, some 440, none, none, some 441, none, none, some 442, some 443, some 444, some 445])) rfl) ⟨TX10, 16, rfl⟩ rfl (Nat.le_of_ble_eq_true rfl) (k_format0 (G := M' 7) hp v1 v2 v3 v4 v5 v6 ⟨by omega, Hq1⟩ ⟨by omega, Hf1⟩ ⟨c1, Hr1⟩ ⟨by omega, Hq2⟩ ⟨by omega, Hf2⟩ ⟨g1, Hr2⟩ (by omega) h3 h4 h5 j4 ga1 gb1 gc1 gd1 ge1 gf1 ga2 gb2 gc2 gd2 ge2 gf2) (by omega) (by omega) rfl (fun rv w9 hw9 => ?_)
    obtain ⟨rfl, t2, c2, m2, f2, rfl, n1, n2, n3, n4⟩ := hw9
    refine y_perm (lw_p _ (xwld aX (yDA Γ) m 0 lay_X) (tB (yDA Γ) (aX 445) t2 c2 (0 + (xSby.getD 20 []).length + 1 + cq1 + 1 + cf1 + 1 + cr1 + 1 + cq2 + 1 + cf2 + 1 + cr2) m2 f2) (xwld aM (yDA Γ) M 0 lay_M)).symm ?_
    refine y_aload C 2 dL_law_1498 rfl rfl ?_
    refine y_callXr (wa := lwo (yDA Γ) o g :: xwld aX (yDA Γ) m 0 lay_X) (wb := tB (yDA Γ) (aX 445) t2 c2 (0 + (xSby.getD 20 []).length + 1 + cq1 + 1 + cf1 + 1 + cr1 + 1 + cq2 + 1 + cf2 + 1 + cr2) m2 f2) (st := [.int (Int32.ofInt (((0 + (xSby.getD 20 []).length + 1 + cq1 + 1 + cf1 + 1 + cr1 + 1 + cq2 + 1 + cf2 + 1 + cr2) : Nat) : Int))]) (av := []) (b := 0) (layY := lay_M) C aM dL_law_1499 (xin_63 _ (List.mem_of_getElem? (i := 9) rfl)) xy_X11_format xi_X11_format xs_X11_format (by omega) (by decide) rfl ⟨_, _, rfl⟩ rfl (Nat.le_of_ble_eq_true rfl) (c_m_format _ _ _ _ j1) (by omega) (by omega) hS.2 rfl ?_
    refine y_icmpeq C 1638 dL_law_1502 (by decide) rfl ?_
    exact Gk _ _ _ (fin M' _ t2 c2 m2 f2 (by omega) j2 j3 j8 j9 n1 n2 n3 n4) (by omega) (by omega)
  · skip
    obtain ⟨⟨o1, o2, o3⟩, o4, o5⟩ := s7 hp
    have o6 : 0 ≤ m 11 11 := o4
    have o7 : m 11 11 ≤ 3 := o5
    have o8 : M 1 4 = m 11 11 := o1
    obtain ⟨sn, hsn⟩ : ∃ sn : Nat, m 11 11 = sn := ⟨(m 11 11).toNat, by omega⟩
    rw [hsn] at o8
    obtain ⟨cs, Hs⟩ := isL_ex sn (by omega)
    have ls := isL_le Hs (k := 1) (by omega) (by omega)
    obtain ⟨M', j1, j2, j3, j4, j5, j6, j7, j8, j9⟩ := m_format1 (M := M) (by rw [p1, hp]) w1 w2 w3 w4 w5 w6 ⟨by omega, Hq1⟩ ⟨by omega, Hf1⟩ ⟨c1, Hr1⟩ ⟨by omega, Hq2⟩ ⟨by omega, Hf2⟩ ⟨g1, Hr2⟩ o8 ⟨by omega, Hs⟩ (by omega)
    obtain ⟨ga1, gb1, gc1, gd1, ge1, gf1⟩ := id j6
    obtain ⟨ga2, gb2, gc2, gd2, ge2, gf2⟩ := id j7
    refine t_callV (wa := lwo (yDA Γ) o g :: xwld aM (yDA Γ) M 0 lay_M) (wc := xwld aX (yDA Γ) m 0 lay_X ++ tB (yDA Γ) (aX 445) t1 cap nn ml f) (av := []) C hDg dL_law_1495 (xin_55 _ (List.mem_of_getElem? (i := 16) rfl)) xs_X10_format xi_X10_format xy_X10_format (by omega) (by omega) 0 (t_cell (s := .inl (12, [some 1, some 6, some 11, some 44, some 77, none, some 440, none, none, some 441, none, none, some 442, some 443, some 444, some 445])) rfl) ⟨TX10, 16, rfl⟩ rfl (Nat.le_of_ble_eq_true rfl) (k_format1 (G := M' 7) hp v1 v2 v3 v4 v5 v6 ⟨by omega, Hq1⟩ ⟨by omega, Hf1⟩ ⟨c1, Hr1⟩ ⟨by omega, Hq2⟩ ⟨by omega, Hf2⟩ ⟨g1, Hr2⟩ hsn ⟨by omega, Hs⟩ (by omega) h3 h4 h5 j4 j5 ga1 gb1 gc1 gd1 ge1 gf1 ga2 gb2 gc2 gd2 ge2 gf2) (by omega) (by omega) rfl (fun rv w9 hw9 => ?_)
    obtain ⟨rfl, t2, c2, m2, f2, rfl, n1, n2, n3, n4⟩ := hw9
    refine y_perm (lw_p _ (xwld aX (yDA Γ) m 0 lay_X) (tB (yDA Γ) (aX 445) t2 c2 (0 + (xSby.getD 25 []).length + cs + 1 + cq1 + 1 + cf1 + 1 + cr1 + 1 + cq2 + 1 + cf2 + 1 + cr2) m2 f2) (xwld aM (yDA Γ) M 0 lay_M)).symm ?_
    refine y_aload C 2 dL_law_1498 rfl rfl ?_
    refine y_callXr (wa := lwo (yDA Γ) o g :: xwld aX (yDA Γ) m 0 lay_X) (wb := tB (yDA Γ) (aX 445) t2 c2 (0 + (xSby.getD 25 []).length + cs + 1 + cq1 + 1 + cf1 + 1 + cr1 + 1 + cq2 + 1 + cf2 + 1 + cr2) m2 f2) (st := [.int (Int32.ofInt (((0 + (xSby.getD 25 []).length + cs + 1 + cq1 + 1 + cf1 + 1 + cr1 + 1 + cq2 + 1 + cf2 + 1 + cr2) : Nat) : Int))]) (av := []) (b := 0) (layY := lay_M) C aM dL_law_1499 (xin_63 _ (List.mem_of_getElem? (i := 9) rfl)) xy_X11_format xi_X11_format xs_X11_format (by omega) (by decide) rfl ⟨_, _, rfl⟩ rfl (Nat.le_of_ble_eq_true rfl) (c_m_format _ _ _ _ j1) (by omega) (by omega) hS.2 rfl ?_
    refine y_icmpeq C 1638 dL_law_1502 (by decide) rfl ?_
    exact Gk _ _ _ (fin M' _ t2 c2 m2 f2 (by omega) j2 j3 j8 j9 n1 n2 n3 n4) (by omega) (by omega)
  · skip
    have o6 : 0 ≤ m 11 10 := s11
    have o7 : m 11 10 ≤ 4 := by
      have h9 : m 11 10 < xvw (bV 11) m 33 4 := s12
      have h8 := r5.1.2.2
      omega
    have o8 : M 1 3 = m 11 10 := s4
    obtain ⟨sn, hsn⟩ : ∃ sn : Nat, m 11 10 = sn := ⟨(m 11 10).toNat, by omega⟩
    rw [hsn] at o8
    obtain ⟨cs, Hs⟩ := isL_ex sn (by omega)
    have ls := isL_le Hs (k := 1) (by omega) (by omega)
    obtain ⟨M', j1, j2, j3, j4, j5, j6, j7, j8, j9⟩ := m_format2 (M := M) (by rw [p1, hp]) w1 w2 w3 w4 w5 w6 ⟨by omega, Hq1⟩ ⟨by omega, Hf1⟩ ⟨c1, Hr1⟩ ⟨by omega, Hq2⟩ ⟨by omega, Hf2⟩ ⟨g1, Hr2⟩ o8 ⟨by omega, Hs⟩ (by omega)
    obtain ⟨ga1, gb1, gc1, gd1, ge1, gf1⟩ := id j6
    obtain ⟨ga2, gb2, gc2, gd2, ge2, gf2⟩ := id j7
    refine t_callV (wa := lwo (yDA Γ) o g :: xwld aM (yDA Γ) M 0 lay_M) (wc := xwld aX (yDA Γ) m 0 lay_X ++ tB (yDA Γ) (aX 445) t1 cap nn ml f) (av := []) C hDg dL_law_1495 (xin_55 _ (List.mem_of_getElem? (i := 16) rfl)) xs_X10_format xi_X10_format xy_X10_format (by omega) (by omega) 0 (t_cell (s := .inl (12, [some 1, some 6, some 11, some 44, some 77, none, some 440, none, none, some 441, none, none, some 442, some 443, some 444, some 445])) rfl) ⟨TX10, 16, rfl⟩ rfl (Nat.le_of_ble_eq_true rfl) (k_format2 (G := M' 7) hp v1 v2 v3 v4 v5 v6 ⟨by omega, Hq1⟩ ⟨by omega, Hf1⟩ ⟨c1, Hr1⟩ ⟨by omega, Hq2⟩ ⟨by omega, Hf2⟩ ⟨g1, Hr2⟩ hsn ⟨by omega, Hs⟩ (by omega) h3 h4 h5 j4 j5 ga1 gb1 gc1 gd1 ge1 gf1 ga2 gb2 gc2 gd2 ge2 gf2) (by omega) (by omega) rfl (fun rv w9 hw9 => ?_)
    obtain ⟨rfl, t2, c2, m2, f2, rfl, n1, n2, n3, n4⟩ := hw9
    refine y_perm (lw_p _ (xwld aX (yDA Γ) m 0 lay_X) (tB (yDA Γ) (aX 445) t2 c2 (0 + (xSby.getD 24 []).length + cs + 1 + cq1 + 1 + cf1 + 1 + cr1 + 1 + cq2 + 1 + cf2 + 1 + cr2) m2 f2) (xwld aM (yDA Γ) M 0 lay_M)).symm ?_
    refine y_aload C 2 dL_law_1498 rfl rfl ?_
    refine y_callXr (wa := lwo (yDA Γ) o g :: xwld aX (yDA Γ) m 0 lay_X) (wb := tB (yDA Γ) (aX 445) t2 c2 (0 + (xSby.getD 24 []).length + cs + 1 + cq1 + 1 + cf1 + 1 + cr1 + 1 + cq2 + 1 + cf2 + 1 + cr2) m2 f2) (st := [.int (Int32.ofInt (((0 + (xSby.getD 24 []).length + cs + 1 + cq1 + 1 + cf1 + 1 + cr1 + 1 + cq2 + 1 + cf2 + 1 + cr2) : Nat) : Int))]) (av := []) (b := 0) (layY := lay_M) C aM dL_law_1499 (xin_63 _ (List.mem_of_getElem? (i := 9) rfl)) xy_X11_format xi_X11_format xs_X11_format (by omega) (by decide) rfl ⟨_, _, rfl⟩ rfl (Nat.le_of_ble_eq_true rfl) (c_m_format _ _ _ _ j1) (by omega) (by omega) hS.2 rfl ?_
    refine y_icmpeq C 1638 dL_law_1502 (by decide) rfl ?_
    exact Gk _ _ _ (fin M' _ t2 c2 m2 f2 (by omega) j2 j3 j8 j9 n1 n2 n3 n4) (by omega) (by omega)
  · skip
    obtain ⟨M', j1, j2, j3, j4, j6, j7, j8, j9⟩ := m_format3 (M := M) (by rw [p1, hp]) w1 w2 w3 w4 w5 w6 ⟨by omega, Hq1⟩ ⟨by omega, Hf1⟩ ⟨c1, Hr1⟩ ⟨by omega, Hq2⟩ ⟨by omega, Hf2⟩ ⟨g1, Hr2⟩ (by omega)
    obtain ⟨ga1, gb1, gc1, gd1, ge1, gf1⟩ := id j6
    obtain ⟨ga2, gb2, gc2, gd2, ge2, gf2⟩ := id j7
    refine t_callV (wa := lwo (yDA Γ) o g :: xwld aM (yDA Γ) M 0 lay_M) (wc := xwld aX (yDA Γ) m 0 lay_X ++ tB (yDA Γ) (aX 445) t1 cap nn ml f) (av := []) C hDg dL_law_1495 (xin_55 _ (List.mem_of_getElem? (i := 16) rfl)) xs_X10_format xi_X10_format xy_X10_format (by omega) (by omega) 0 (t_cell (s := .inl (12, [some 1, some 6, some 11, some 44, some 77, none, some 440, none, none, some 441, none, none, some 442, some 443, some 444, some 445])) rfl) ⟨TX10, 16, rfl⟩ rfl (Nat.le_of_ble_eq_true rfl) (k_format3 (G := M' 7) hp v1 v2 v3 v4 v5 v6 ⟨by omega, Hq1⟩ ⟨by omega, Hf1⟩ ⟨c1, Hr1⟩ ⟨by omega, Hq2⟩ ⟨by omega, Hf2⟩ ⟨g1, Hr2⟩ (by omega) h3 h4 h5 j4 ga1 gb1 gc1 gd1 ge1 gf1 ga2 gb2 gc2 gd2 ge2 gf2) (by omega) (by omega) rfl (fun rv w9 hw9 => ?_)
    obtain ⟨rfl, t2, c2, m2, f2, rfl, n1, n2, n3, n4⟩ := hw9
    refine y_perm (lw_p _ (xwld aX (yDA Γ) m 0 lay_X) (tB (yDA Γ) (aX 445) t2 c2 (0 + (xSby.getD 23 []).length + 1 + cq1 + 1 + cf1 + 1 + cr1 + 1 + cq2 + 1 + cf2 + 1 + cr2) m2 f2) (xwld aM (yDA Γ) M 0 lay_M)).symm ?_
    refine y_aload C 2 dL_law_1498 rfl rfl ?_
    refine y_callXr (wa := lwo (yDA Γ) o g :: xwld aX (yDA Γ) m 0 lay_X) (wb := tB (yDA Γ) (aX 445) t2 c2 (0 + (xSby.getD 23 []).length + 1 + cq1 + 1 + cf1 + 1 + cr1 + 1 + cq2 + 1 + cf2 + 1 + cr2) m2 f2) (st := [.int (Int32.ofInt (((0 + (xSby.getD 23 []).length + 1 + cq1 + 1 + cf1 + 1 + cr1 + 1 + cq2 + 1 + cf2 + 1 + cr2) : Nat) : Int))]) (av := []) (b := 0) (layY := lay_M) C aM dL_law_1499 (xin_63 _ (List.mem_of_getElem? (i := 9) rfl)) xy_X11_format xi_X11_format xs_X11_format (by omega) (by decide) rfl ⟨_, _, rfl⟩ rfl (Nat.le_of_ble_eq_true rfl) (c_m_format _ _ _ _ j1) (by omega) (by omega) hS.2 rfl ?_
    refine y_icmpeq C 1638 dL_law_1502 (by decide) rfl ?_
    exact Gk _ _ _ (fin M' _ t2 c2 m2 f2 (by omega) j2 j3 j8 j9 n1 n2 n3 n4) (by omega) (by omega)

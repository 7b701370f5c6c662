/-! ===== a query, by both ===== -/
/-- a text opened, the depth too -/
theorem st_open21 (L : Nat) (hL : L ≤ 600) (m M : xM) (hB : ∀ i, i < L → m 1 i = M 8 i ∧ 0 ≤ M 8 i ∧ M 8 i ≤ 255) : ∃ (m' M' : xM) (s e : Nat), f_T_open (L : Int) m = some m' ∧ f_m_startText (L : Int) M = some M' ∧ bGo (M 8) L s e (m' 0) (m' 1) M' ∧ (∀ k, k ≠ 0 → m' k = m k) ∧ m' 0 0 = m 0 0 ∧ (∀ k, k ≠ 0 → M' k = M k) ∧ (∀ j, (j < 14 ∨ j = 20 ∨ 22 ≤ j) → M' 0 j = M 0 j) ∧ M' 0 21 = 0 := by
  unfold f_T_open f_T_open_23 f_m_startText
  have e600 : (if xw 600 < xw (L : Int) then 600 else (L : Int)) = L := by
    rw [if_neg]
    rw [b_xw (by omega), b_xw (by omega)]
    omega
  rw [e600]
  obtain ⟨Y, hY⟩ : ∃ Y, Y = xu (xu (xu (xu m 0 1 (L : Int)) 0 2 0) 0 4 0) 0 6 0 := ⟨_, rfl⟩
  obtain ⟨Z, hZ⟩ : ∃ Z, Z = xu (xu (xu (xu M 0 14 (L : Int)) 0 15 0) 0 18 0) 0 21 0 := ⟨_, rfl⟩
  rw [← hY, ← hZ]
  have y1 : Y 0 1 = L := by rw [hY, xu_d (by omega), xu_d (by omega), xu_d (by omega), xu_s rfl]
  have y2 : Y 0 2 = 0 := by rw [hY, xu_d (by omega), xu_d (by omega), xu_s rfl]
  have y4 : Y 0 4 = 0 := by rw [hY, xu_d (by omega), xu_s rfl]
  have y6 : Y 0 6 = 0 := by rw [hY, xu_s rfl]
  have y0 : Y 0 0 = m 0 0 := by rw [hY, xu_d (by omega), xu_d (by omega), xu_d (by omega), xu_d (by omega)]
  have yk : ∀ k, k ≠ 0 → Y k = m k := fun k hk => by rw [hY, xu_K hk, xu_K hk, xu_K hk, xu_K hk]
  have z14 : Z 0 14 = L := by rw [hZ, xu_d (by omega), xu_d (by omega), xu_d (by omega), xu_s rfl]
  have z15 : Z 0 15 = 0 := by rw [hZ, xu_d (by omega), xu_d (by omega), xu_s rfl]
  have z18 : Z 0 18 = 0 := by rw [hZ, xu_d (by omega), xu_s rfl]
  have z21 : Z 0 21 = 0 := by rw [hZ, xu_s rfl]
  have zk : ∀ k, k ≠ 0 → Z k = M k := fun k hk => by rw [hZ, xu_K hk, xu_K hk, xu_K hk, xu_K hk]
  have zj : ∀ j, j ≠ 14 → j ≠ 15 → j ≠ 18 → j ≠ 21 → Z 0 j = M 0 j := fun j h1 h2 h3 h4 => by rw [hZ, xu_d h4, xu_d h3, xu_d h2, xu_d h1]
  obtain ⟨m', M', s, e, a1, a2, a3, a4, a5, a6⟩ := go_next (M 8) L 0 (by omega) Y Z ⟨hL, y1, z14, fun i hi => by rw [yk 1 (by omega), zk 8 (by omega)]; exact ⟨(hB i hi).1, rfl, (hB i hi).2⟩⟩ (by rw [y2]; omega) (by rw [y4]; rfl) y6 (by rw [z15]; rfl) z18
  rw [a1, a2, Option.bind_some, Option.bind_some]
  exact ⟨m', M', s, e, rfl, rfl, a3, fun k hk => by rw [a4.1 k hk, yk k hk], by rw [a4.2.1, y0], fun k hk => by rw [a5.1 k hk, zk k hk], fun j hj => by rw [a5.2 j (by omega), zj j (by omega) (by omega) (by omega) (by omega)], by rw [a5.2 21 (by omega), z21]⟩
theorem bNoM.factor {B : Nat → Int} {L : Nat} {cc : Int} {q : Nat} {M : xM} (h : bNoM B L cc q M) (n : Nat) : f_m_compileFactor (n + 1) M = some M := by
  show f_m_compileFactorB (f_m_compileFactor n) M = some M
  have h2 := h.cmp (FF := f_m_compileFactor n)
  unfold m_cmp at h2
  unfold f_m_compileFactorB
  rw [h.word, b_bs, if_pos (by decide), h.symbol, b_bs, if_pos (by decide), h2]
theorem bNoM.testC {B : Nat → Int} {L : Nat} {cc : Int} {q : Nat} {M : xM} (h : bNoM B L cc q M) : f_m_compileTestC M = some M := by
  have c4 : f_m_compileConjunction_4 (f_m_compileFactor 8) fu M = some M := h.conj4 4999
  have t4 : f_m_compileTest_4 (f_m_compileFactor 8) fu M = some M := h.test4 4999
  unfold f_m_compileTestC f_m_compileTest f_m_compileConjunction
  rw [h.factor 7, b_bs, c4, b_bs, t4]
theorem word_ex {m : xM} (h1 : f_T_isWord 5 m = some 1) (h2 : f_T_isWord 6 m = some 1) : False := by
  unfold f_T_isWord at h1 h2
  by_cases c1 : xw (m 0 2) = xw 1
  · rw [if_pos c1] at h1 h2
    by_cases c2 : xw ((m 0 4) - (m 0 3)) = xw (xsl 5)
    · rw [c2, if_neg (by decide +kernel)] at h2
      exact absurd (Option.some.inj h2) (by decide)
    · rw [if_neg c2] at h1; exact absurd (Option.some.inj h1) (by decide)
  · rw [if_neg c1] at h1; exact absurd (Option.some.inj h1) (by decide)
/-- the events counted, by the reference -/
theorem m_count_sp {z : Int} {N : Nat → Int} {c T X : Nat} (hc : c ≤ 60) (hN10 : N 10 = c) (hT : T ≤ 200) (K : Nat → Int) (hseg : ∀ e, e < c → bSeg K N e 0 T (bb (X.testBit e))) : ∀ (r j n : Nat) (Q : xM), j + r = c → r < n → Q 1 = N → Q 10 = K → Q 0 25 = T → ∃ Q' : xM, f_m_query_124 z n 0 ((bc j X : Nat) : Int) (j : Int) Q = some (((bc c X : Nat) : Int), Q') ∧ ∀ k, k ≠ 11 → Q' k = Q k := by
  intro r
  induction r with
  | zero =>
    intro j n Q hj hn hN hK hC
    obtain ⟨p, rfl⟩ : ∃ p, n = p + 1 := ⟨n - 1, by omega⟩
    have hjc : j = c := by omega
    rw [f_m_query_124, if_pos (b_ib (by omega)), hN, hN10, hjc, if_neg (by omega)]
    unfold f_m_query_164
    rw [if_pos (by decide)]
    exact ⟨Q, rfl, fun _ _ => rfl⟩
  | succ r ih =>
    intro j n Q hj hn hN hK hC
    obtain ⟨p, rfl⟩ : ∃ p, n = p + 1 := ⟨n - 1, by omega⟩
    obtain ⟨Q1, a1, a2⟩ := m_holds_sp (Q := Q) (e := j) (T := T) (x := X.testBit j) (N := N) (by rw [hK]; exact hseg j (by omega)) hN hC hT
    obtain ⟨Q2, b1, b2⟩ := ih (j + 1) p Q1 (by omega) (by omega) (by rw [a2 1 (by omega), hN]) (by rw [a2 10 (by omega), hK]) (by rw [a2 0 (by omega), hC])
    refine ⟨Q2, ?_, fun k hk => by rw [b2 k hk, a2 k hk]⟩
    rw [f_m_query_124, if_pos (b_ib (by omega)), hN, hN10, b_xw (show -2147483648 ≤ (j : Int) ∧ (j : Int) < 2147483648 by omega), b_xw (show -2147483648 ≤ (c : Int) ∧ (c : Int) < 2147483648 by omega), if_pos (by omega), a1, b_bs]
    dsimp only
    rw [bc_top] at b1
    cases hb : X.testBit j with
    | false =>
      rw [hb] at b1
      rw [if_pos (show xw (bb false) = 0 by decide)]
      exact b1
    | true =>
      rw [hb] at b1
      rw [if_neg (show ¬ xw (bb true) = 0 by decide), if_pos (show xw 0 = 0 by decide)]
      exact b1
/-- the first event, by the reference -/
theorem m_first_sp {z : Int} {N : Nat → Int} {c T X : Nat} (hc : c ≤ 60) (hN10 : N 10 = c) (hT : T ≤ 200) (K : Nat → Int) (hseg : ∀ e, e < c → bSeg K N e 0 T (bb (X.testBit e))) {i : Nat} (hi : i ≤ c) (h0 : ∀ j, j < i → X.testBit j = false) (h1 : i < c → X.testBit i = true) : ∀ (r j n : Nat) (Q : xM), j + r = i → r < n → Q 1 = N → Q 10 = K → Q 0 25 = T → ∃ Q' : xM, f_m_query_124 z n 1 0 (j : Int) Q = some (if i < c then (i : Int) else -1, Q') ∧ ∀ k, k ≠ 11 → Q' k = Q k := by
  intro r
  induction r with
  | zero =>
    intro j n Q hj hn hN hK hC
    obtain ⟨p, rfl⟩ : ∃ p, n = p + 1 := ⟨n - 1, by omega⟩
    have hjc : j = i := by omega
    rw [f_m_query_124, if_pos (b_ib (by omega)), hN, hN10, hjc, b_xw (show -2147483648 ≤ (i : Int) ∧ (i : Int) < 2147483648 by omega), b_xw (show -2147483648 ≤ (c : Int) ∧ (c : Int) < 2147483648 by omega)]
    by_cases q : i < c
    · obtain ⟨Q1, a1, a2⟩ := m_holds_sp (Q := Q) (e := i) (T := T) (x := X.testBit i) (N := N) (by rw [hK]; exact hseg i q) hN hC hT
      rw [if_pos (by omega), if_pos q, a1, b_bs, h1 q]
      dsimp only
      rw [if_neg (show ¬ xw (bb true) = 0 by decide), if_neg (show ¬ xw 1 = 0 by decide)]
      exact ⟨Q1, rfl, a2⟩
    · rw [if_neg (by omega), if_neg q]
      unfold f_m_query_164
      rw [if_neg (by decide)]
      exact ⟨Q, rfl, fun _ _ => rfl⟩
  | succ r ih =>
    intro j n Q hj hn hN hK hC
    obtain ⟨p, rfl⟩ : ∃ p, n = p + 1 := ⟨n - 1, by omega⟩
    obtain ⟨Q1, a1, a2⟩ := m_holds_sp (Q := Q) (e := j) (T := T) (x := X.testBit j) (N := N) (by rw [hK]; exact hseg j (by omega)) hN hC hT
    obtain ⟨Q2, b1, b2⟩ := ih (j + 1) p Q1 (by omega) (by omega) (by rw [a2 1 (by omega), hN]) (by rw [a2 10 (by omega), hK]) (by rw [a2 0 (by omega), hC])
    refine ⟨Q2, ?_, fun k hk => by rw [b2 k hk, a2 k hk]⟩
    rw [f_m_query_124, if_pos (b_ib (by omega)), hN, hN10, b_xw (show -2147483648 ≤ (j : Int) ∧ (j : Int) < 2147483648 by omega), b_xw (show -2147483648 ≤ (c : Int) ∧ (c : Int) < 2147483648 by omega), if_pos (by omega), a1, b_bs, h0 j (by omega)]
    dsimp only
    rw [if_pos (show xw (bb false) = 0 by decide)]
    exact b1
/-- the answer of the class -/
theorem rqz_first {X c : Nat} (hc : c ≤ 60) (hX : X < 2 ^ c) : ∃ i, i ≤ c ∧ (∀ j, j < i → X.testBit j = false) ∧ (i < c → X.testBit i = true) ∧ f_Q_rqz 0 (X : Int) = (if i < c then (i : Int) else -1) := by
  have hp := p60 hc
  unfold f_Q_rqz
  rw [if_pos (by decide), lcmp_sp (X : Int) 0 ⟨by omega, by omega⟩ ⟨by omega, by omega⟩]
  by_cases q : X = 0
  · refine ⟨c, Nat.le_refl _, fun j _ => by rw [q]; exact Nat.zero_testBit j, fun h => absurd h (Nat.lt_irrefl _), ?_⟩
    rw [q, if_pos (show xw (if (0 : Int) < ((0 : Nat) : Int) then 1 else if ((0 : Nat) : Int) = 0 then 0 else -1) = 0 by decide), if_neg (Nat.lt_irrefl _)]
  · obtain ⟨i, k, hik⟩ := low_bit X q
    have hic : i < c := by
      by_cases g : i < c
      · exact g
      · exfalso
        have : 2 ^ c ≤ 2 ^ i := Nat.pow_le_pow_right (by decide) (by omega)
        omega
    refine ⟨i, by omega, fun j hj => ?_, fun _ => ?_, ?_⟩
    · rw [low_bits hik, if_pos (by omega)]; exact decide_eq_false (by omega)
    · rw [low_bits hik, if_pos (by omega)]; exact decide_eq_true rfl
    · rw [if_pos (show (0 : Int) < (X : Int) by omega), if_neg (by decide), if_pos hic]
      exact f_lntz_sp (by omega) hik (by omega)
theorem rqz_many {X c : Nat} (hc : c ≤ 60) (hX : X < 2 ^ c) : f_Q_rqz 1 (X : Int) = ((bc c X : Nat) : Int) := by
  have hp := p60 hc
  unfold f_Q_rqz
  rw [if_neg (by decide), f_bit_sp X (by omega)]
  have := bc_high c X hX (64 - c)
  rw [show c + (64 - c) = 64 by omega] at this
  rw [this]
/-- what the reference does behind the opening of the text -/
def m_tail (z : Int) (q1 : xM) : Option (Int × xM) := Option.bind (f_m_isWord 5 q1) fun q2 => if xw q2 = 0 then (Option.bind (f_m_isWord 6 q1) fun q9 => if xw q9 = 0 then f_m_query_67 z q2 0 q1 else f_m_query_62 z q2 q1) else f_m_query_62 z q2 q1
/-- how a query ends on both sides -/
def bEndQ (m' M : xM) (r : Int) (fm : Option (Int × xM)) : Prop := ∃ (M' : xM) (cc : Int) (q : Int), (0 ≤ cc ∧ cc ≤ 4) ∧ m' 1 6 = cc ∧ (cc ≠ 0 → m' 1 3 = q) ∧ fm = some (if cc = 0 then r else -1000000000 - cc, M') ∧ M' 0 13 = 0 ∧ M' 0 20 = (if cc = 0 then -1 else q) ∧ (∀ j, j < 13 → M' 0 j = M 0 j) ∧ ∀ k, k ≠ 0 → k ≠ 10 → k ≠ 11 → M' k = M k
theorem end_er {B : Nat → Int} {L : Nat} {z x2 : Int} {m' M M2 : xM} (r : Int) (hE : bEr B L (m' 1) M2) (hF : bFN M M2) : bEndQ m' M r (f_m_query_99 z x2 1 M2) := by
  obtain ⟨cc, q, d1, d2⟩ := hE
  have d3 := d2.1
  have d4 := d2.2.1
  have d5 := d2.2.2.1
  obtain ⟨M3, e1, e2, e3, e4, e5⟩ := m_finish_sp M2 (by omega)
  refine ⟨M3, cc, q, by omega, d1.2.1, fun _ => d1.2.2, ?_, e2, ?_, fun j hj => by rw [e4 j (by omega) (by omega), hF.2 j (by omega)], fun k k0 k1 k2 => by rw [e5 k k0, hF.1 k k0 k1]⟩
  · unfold f_m_query_99
    rw [m_check_1, b_bs, e1, b_bs]
    dsimp only
    rw [if_neg d2.ne, e4 18 (by omega) (by omega), d4, if_neg (by omega)]
  · rw [e3, d4, d5]
theorem Q_rest {B : Nat → Int} {L s e c : Nat} {N : Nat → Int} {z w x2 : Int} {m M : xM} (hL : L ≤ 200) (G : bGo B L s e (m 1) (m 2) M) (hk : bK B L s ≠ 0) (hS : bQs c N m M) (hN : N 10 = c) (h25 : M 0 25 = 0) (h21 : M 0 21 = 0) (hw : (w = 0 ∧ x2 = 1) ∨ (w = 1 ∧ x2 = 0)) : ∃ (r : Int) (m' : xM), f_Q_rq_37 w m = some (r, m') ∧ bFQ m m' ∧ bEndQ m' M r (f_m_query_67 z x2 1 M) := by
  have G' : bGo B L s e (xvw [1, 2] m 0) (xvw [1, 2] m 1) M := G
  obtain ⟨q, M1, s1, e1, b1, b2, b3, b4, b5, b6⟩ := G'.next
  obtain ⟨m1, c1, c2, c3, c4, c5, c6⟩ := R_mg m q b4
  have f1 : bFQ m m1 := ⟨c4, c5, c6⟩
  have G1 : bGo B L s1 e1 (m1 1) (m1 2) M1 := by rw [c2, c3]; exact b3
  have hc := hS.2.2.1
  obtain ⟨x, m2, M2, d1, d2, d3, d4, d5⟩ := Q_test_sp hL (Q_conj_sp hL (Q_factor_sp hL 8 0 (by omega) (by omega))) s1 e1 0 m1 M1 G1 (hS.cg f1 b5.toN) (by rw [b5.2 25 (by omega), h25]; rfl) (by omega) (by rw [b5.2 21 (by omega), h21]; rfl)
  have d1' : f_Q_testC 0 m1 = some (x, m2) := d1
  have d2' : f_m_compileTestC M1 = some M2 := d2
  have hS2 := (hS.cg f1 b5.toN).cg d3 d4
  unfold f_Q_rq_37 f_m_query_67
  rw [b1, b_bs, c1, d1', b_bs, m_check_1, b_bs, m_advance_0 G.err, b2, b_bs, d2', b_bs]
  dsimp only
  rcases d5 with ⟨s2, e2, X, C2, g1, G2, g3, g4, g5, g6, g7, g8, g9, g10⟩ | ⟨cc, qq, k1, k2⟩
  · have hle := G2.2.1
    have kin := bK_in B L s2
    rw [G2.err, if_pos (show xw 0 = 0 by decide)]
    by_cases hk2 : bK B L s2 = 0
    · rw [if_pos (show xw (m2 1 2) = 0 by rw [G2.isK.1, b_xw (by omega)]; exact hk2), if_pos (show xw (M2 0 17) = 0 by rw [G2.isK.2, b_xw (by omega)]; exact hk2)]
      refine ⟨_, m2, rfl, f1.trans d3, ?_⟩
      obtain ⟨M3, e1, e2, e3, e4, e5⟩ := m_finish_sp M2 (by rw [G2.err]; omega)
      unfold f_m_query_94 f_m_query_99
      rw [m_check_1, b_bs, e1, b_bs]
      dsimp only
      rw [G2.err, if_pos (show xw 0 = 0 by decide)]
      have hN3 : M3 1 = N := by rw [e5 1 (by omega), hS2.1]
      have h325 : M3 0 25 = C2 := by rw [e4 25 (by omega) (by omega), g5]
      have h310 : M3 10 = M2 10 := e5 10 (by omega)
      have h6 : m2 1 6 = 0 := by
        obtain ⟨_, _, _, _, _, _, _, w6, _⟩ := G2
        exact w6
      have fin : ∀ (r : Int) (Q : xM), f_m_query_124 z fu x2 0 0 M3 = some (r, Q) → (∀ k, k ≠ 11 → Q k = M3 k) → bEndQ m2 M r (f_m_query_124 z fu x2 0 0 M3) := fun r Q h1 h2 => by
        refine ⟨Q, 0, 0, by omega, h6, fun h => absurd rfl h, ?_, by rw [h2 0 (by omega), e2], ?_, fun j hj => by rw [h2 0 (by omega), e4 j (by omega) (by omega), d4.2 j (by omega), b5.2 j (by omega)], fun k k0 k1 k2 => by rw [h2 k k2, e5 k k0, d4.1 k k0 k1, b5.1 k k0]⟩
        · rw [h1, if_pos rfl]
        · rw [h2 0 (by omega), e3, G2.err, if_pos rfl, if_pos rfl]
      rcases hw with ⟨u1, u2⟩ | ⟨u1, u2⟩
      · rw [u1, u2, g3]
        rw [u2] at fin
        obtain ⟨i, i1, i2, i3, i4⟩ := rqz_first hc g4
        obtain ⟨Q, j1, j2⟩ := m_first_sp (z := z) hc hN (show C2 ≤ 200 by omega) (M2 10) g10 i1 i2 i3 i 0 fu M3 (by omega) (by unfold fu; omega) hN3 h310 h325
        rw [i4]
        exact fin _ Q j1 j2
      · rw [u1, u2, g3]
        rw [u2] at fin
        obtain ⟨Q, j1, j2⟩ := m_count_sp (z := z) hc hN (show C2 ≤ 200 by omega) (M2 10) g10 c 0 fu M3 (by omega) (by unfold fu; omega) hN3 h310 h325
        rw [rqz_many hc g4]
        exact fin _ Q j1 j2
    · rw [if_neg (show ¬ xw (m2 1 2) = 0 by rw [G2.isK.1, b_xw (by omega)]; exact hk2), if_neg (show ¬ xw (M2 0 17) = 0 by rw [G2.isK.2, b_xw (by omega)]; exact hk2)]
      have G2' : bGo B L s2 e2 (xvw [1, 2] m2 0) (xvw [1, 2] m2 1) M2 := G2
      obtain ⟨q3, M3, h1, h2, h3, h4, h5⟩ := G2'.fail 1 0 (by omega) rfl
      obtain ⟨m3, p1, p2, p3, p4, p5, p6⟩ := R_mg m2 q3 h4
      rw [h1, b_bs]
      dsimp only
      rw [p1]
      refine ⟨-1, m3, rfl, (f1.trans d3).trans ⟨p4, p5, p6⟩, ?_⟩
      have hE : bEr B L (m3 1) M3 := by rw [p2]; exact h3
      have := end_er (z := z) (x2 := x2) (-1) hE ((b5.toN.trans d4).trans h5.toN)
      have e99 : f_m_query_99 z x2 0 M2 = f_m_query_99 z x2 1 M3 := by
        unfold f_m_query_99
        rw [h2, m_check_1]
      rw [e99]
      exact this
  · have k1' : bNo cc qq (xvw [1, 2] m2 0) := k1
    obtain ⟨m3, p1, p2, p3, p4, p5, p6⟩ := R_mg m2 (xvw [1, 2] m2) bFc.rfl
    rw [if_neg (show ¬ xw (m2 1 2) = 0 by rw [show m2 1 2 = 4 from k1.1]; decide), k1'.fail, b_bs, if_neg k2.ne]
    dsimp only
    rw [p1]
    refine ⟨-1, m3, rfl, (f1.trans d3).trans ⟨p4, p5, p6⟩, ?_⟩
    exact end_er (z := z) (x2 := x2) (-1) ⟨cc, qq, by rw [p2]; exact k1, k2⟩ (b5.toN.trans d4)
theorem Q_query_sp {B : Nat → Int} {L s e c : Nat} {N : Nat → Int} {z : Int} {m M : xM} (hL : L ≤ 200) (G : bGo B L s e (m 1) (m 2) M) (hS : bQs c N m M) (hN : N 10 = c) (h25 : M 0 25 = 0) (h21 : M 0 21 = 0) : ∃ (r : Int) (m' : xM), f_Q_readQuery m = some (r, m') ∧ bFQ m m' ∧ bEndQ m' M r (m_tail z M) := by
  have G' : bGo B L s e (xvw [1, 2] m 0) (xvw [1, 2] m 1) M := G
  obtain ⟨x5, y5, z5, w5, _⟩ := G'.word 5
  obtain ⟨x6, y6, z6, w6, _⟩ := G'.word 6
  unfold f_Q_readQuery m_tail
  rw [z6, w5, b_bs, b_bs]
  rcases y6 with u6 | u6
  · rw [u6, if_pos (show xw 0 = 0 by decide), z5, b_bs]
    rw [u6] at w6
    rcases y5 with u5 | u5
    · rw [u5, if_pos (show xw 0 = 0 by decide), if_pos (show xw 0 = 0 by decide), w6, b_bs, if_pos (show xw 0 = 0 by decide)]
      obtain ⟨q3, M3, h1, h2, h3, h4, h5⟩ := G'.fail 1 0 (by omega) rfl
      obtain ⟨m3, p1, p2, p3, p4, p5, p6⟩ := R_mg m q3 h4
      rw [h1, b_bs]
      dsimp only
      rw [p1]
      refine ⟨-1, m3, rfl, ⟨p4, p5, p6⟩, ?_⟩
      obtain ⟨cc, qq, d1, d2⟩ := h3
      unfold f_m_query_67
      rw [h2, b_bs, d2.advance, b_bs, d2.testC, b_bs, if_neg d2.ne]
      exact end_er (z := z) (x2 := 0) (-1) ⟨cc, qq, by rw [p2]; exact d1, d2⟩ h5.toN
    · rw [u5] at z5
      rw [u5, if_neg (show ¬ xw 1 = 0 by decide), if_neg (show ¬ xw 1 = 0 by decide)]
      exact Q_rest hL G (G'.wordK z5) hS hN h25 h21 (Or.inl ⟨rfl, rfl⟩)
  · have u5 : x5 = 0 := by
      rcases y5 with u | u
      · exact u
      · rw [u] at z5; rw [u6] at z6; exact (word_ex z5 z6).elim
    rw [u6] at z6 w6
    rw [u6, u5, if_neg (show ¬ xw 1 = 0 by decide), if_pos (show xw 0 = 0 by decide), w6, b_bs, if_neg (show ¬ xw 1 = 0 by decide)]
    exact Q_rest hL G (G'.wordK z6) hS hN h25 h21 (Or.inr ⟨rfl, rfl⟩)
theorem P_mg (m q : xM) : ∃ m' : xM, xmg [444, 442, 441, 39, 40] 5 m q = m' ∧ (m' 444 = q 0 ∧ m' 442 = q 1 ∧ m' 441 = q 2 ∧ m' 39 = q 3 ∧ m' 40 = q 4) ∧ ∀ k, k ≠ 444 → k ≠ 442 → k ≠ 441 → k ≠ 39 → k ≠ 40 → m' k = m k := by
  refine ⟨_, rfl, ⟨rfl, rfl, rfl, rfl, rfl⟩, fun k h1 h2 h3 h4 h5 => xmg_no _ _ ?_⟩
  show xpos [444, 442, 441, 39, 40] 0 k = none
  unfold xpos xpos xpos xpos xpos xpos
  rw [if_neg h1, if_neg h2, if_neg h3, if_neg h4, if_neg h5]
/-- query, class against reference -/
theorem X_query_sp {G : bGt} (z : Int) (hz : bI z) (m M : xM) (h : bX G m M) : bOk G (f_X_query z m) (f_m_query z M) ∨ bTh G (h_X_query z m) (f_m_query z M) 1 1 m := by
  obtain ⟨n, a1, a2, a3, a4⟩ := id h.2.2.2.1
  obtain ⟨M0, hM0⟩ : ∃ Z, Z = xu M 0 6 0 := ⟨_, rfl⟩
  have k0 : ∀ k, k ≠ 0 → M0 k = M k := fun k hk => by rw [hM0, xu_K hk]
  have j0 : ∀ j, j ≠ 6 → M0 0 j = M 0 j := fun j hj => by rw [hM0, xu_d hj]
  have hcap : (if xw 200 < xw (M 0 13) then 200 else M 0 13) = ((if n < 200 then n else 200 : Nat) : Int) := by
    rw [a3, b_xw (show -2147483648 ≤ (n : Int) ∧ (n : Int) < 2147483648 by omega), b_xw (by omega)]
    by_cases q : n < 200
    · rw [if_pos q, if_neg (by omega)]
    · rw [if_neg q]
      by_cases q2 : n = 200
      · rw [if_neg (by omega), q2]
      · rw [if_pos (by omega)]; rfl
  have hin : f_m_inRange z 0 (if xw 200 < xw (M 0 13) then 200 else M 0 13) (xvw [] (xu M 0 6 0)) = some (if 0 ≤ z ∧ z ≤ ((if n < 200 then n else 200 : Nat) : Int) then 1 else 0) := by
    rw [hcap, m_inR z 0 _ _ hz (by unfold bI; omega) (by unfold bI; split <;> omega)]
  rcases X_chkL_sp z 200 n m hz (by omega) a2 a1 with ⟨d1, d2, d3, d4, d5⟩ | ⟨d2, d3⟩
  · left
    obtain ⟨L, hL⟩ : ∃ L : Nat, z = L := ⟨z.toNat, by omega⟩
    subst hL
    obtain ⟨Z0, hZ0⟩ : ∃ Z, Z = xu M0 0 25 0 := ⟨_, rfl⟩
    have zk : ∀ k, k ≠ 0 → Z0 k = M k := fun k hk => by rw [hZ0, xu_K hk, k0 k hk]
    have zj : ∀ j, j ≠ 6 → j ≠ 25 → Z0 0 j = M 0 j := fun j h1 h2 => by rw [hZ0, xu_d h2, j0 j h1]
    have z25 : Z0 0 25 = 0 := by rw [hZ0, xu_s rfl]
    have z6 : Z0 0 6 = 0 := by rw [hZ0, xu_d (by omega), hM0, xu_s rfl]
    obtain ⟨qo, M1, s, e, c1, c2, c3, c4, c5, c6, c7, c8⟩ := st_open21 L (by omega) (xvw [442, 441] m) Z0 (fun i hi => by rw [zk 8 (by omega)]; exact a4 i (by omega))
    obtain ⟨m1, e1, ⟨e2, e3⟩, e4⟩ := O_mg m qo
    have m441 : m1 441 = m 441 := by rw [e3, c4 1 (by omega)]; rfl
    obtain ⟨b, c, r1, r2, r3, r4, r5, r6, r7⟩ := h.1.1.1.2.2.1
    have hS : bQs c (M 1) (xvw [444, 442, 441, 39, 40] m1) M1 := by
      refine ⟨by rw [c6 1 (by omega), zk 1 (by omega)], ?_, r3, b, c, ?_, ?_, r3, r4, r5, r6, fun i w hi hw => ?_⟩
      · show m1 39 2 = (c : Int); rw [e4 39 (by omega) (by omega)]; exact r2
      · show m1 39 1 = (b : Int); rw [e4 39 (by omega) (by omega)]; exact r1
      · show m1 39 2 = (c : Int); rw [e4 39 (by omega) (by omega)]; exact r2
      · show _ = m1 40 _
        rw [e4 40 (by omega) (by omega)]
        exact r7 i w hi hw
    obtain ⟨r, q2, g1, g2, M', cc, qq, g3, g4, g5, g6, g7, g8, g9, g10⟩ := Q_query_sp (L := L) (z := (L : Int)) (m := xvw [444, 442, 441, 39, 40] m1) (by omega) (by
      rw [show xvw [444, 442, 441, 39, 40] m1 1 = qo 0 from e2, show xvw [444, 442, 441, 39, 40] m1 2 = qo 1 from e3]; exact c3) hS r6 (by rw [c7 25 (by omega), z25]) c8
    obtain ⟨m2, p1, ⟨p2, p3, p4, p5, p6⟩, p7⟩ := P_mg m1 q2
    have m2k : ∀ k, k ≠ 442 → m2 k = m1 k := fun k hk => by
      by_cases h1 : k = 444
      · rw [h1, p2, g2.1 0 (by omega)]; rfl
      · by_cases h2 : k = 441
        · rw [h2, p4, g2.1 2 (by omega)]; rfl
        · by_cases h3 : k = 39
          · rw [h3, p5, g2.1 3 (by omega)]; rfl
          · by_cases h4 : k = 40
            · rw [h4, p6, g2.1 4 (by omega)]; rfl
            · exact p7 k h1 hk h2 h3 h4
    have m26 : m2 442 6 = cc := by rw [p3, g4]
    obtain ⟨m3, t1, t2, t3, t4, t5⟩ := X_close_sp m2 (by omega)
    have mk : ∀ k, k ≠ 0 → k ≠ 442 → m3 k = m k := fun k h0 h1 => by
      rw [t5 k h0, m2k k h1]
      by_cases h2 : k = 441
      · rw [h2, m441]
      · exact e4 k h1 h2
    have m0 : ∀ j, j ≠ 10 → j ≠ 11 → m3 0 j = m 0 j := fun j h1 h2 => by rw [t4 j h1 h2, m2k 0 (by omega), e4 0 (by omega) (by omega)]
    have M0' : ∀ j, j ≠ 6 → j < 13 → M' 0 j = M 0 j := fun j h1 h2 => by rw [g9 j h2, c7 j (by omega), zj j h1 (by omega)]
    have Mk : ∀ k, k ≠ 0 → k ≠ 10 → k ≠ 11 → M' k = M k := fun k h0 h1 h2 => by rw [g10 k h0 h1 h2, c6 k h0, zk k h0]
    have fX : f_X_query (L : Int) m = some (if cc = 0 then r else -1000000000 - cc, m3) := by
      unfold f_X_query
      rw [d1, b_bs, c1, b_bs, e1, g1, b_bs]
      dsimp only
      rw [p1, t1, b_bs, show m3 442 6 = cc by rw [t5 442 (by omega), m26], b_xw (show -2147483648 ≤ cc ∧ cc < 2147483648 by omega)]
      by_cases q : cc = 0
      · rw [if_pos q, if_pos q]
      · rw [if_neg q, if_neg q]
    have fM : f_m_query (L : Int) M = some (if cc = 0 then r else -1000000000 - cc, M') := by
      unfold f_m_query
      rw [hin, b_bs, if_pos (show 0 ≤ (L : Int) ∧ (L : Int) ≤ ((if n < 200 then n else 200 : Nat) : Int) by split <;> omega), if_neg (show ¬ xw 1 = 0 by decide), ← hM0, ← hZ0, c2, b_bs]
      exact g6
    obtain ⟨x1, x2, x3, x4, x5, x6⟩ := h
    refine ⟨_, m3, M', fX, fM, by rw [g9 6 (by omega), c7 6 (by omega), z6], ?_, ?_, ?_, ?_, ?_, x6.cg (M0' 11 (by omega) (by omega)) (Mk 7 (by omega) (by omega) (by omega))⟩
    · exact x1.cg (bV_eq (by omega) (fun k h1 h2 => mk k (by omega) (by omega)) (fun k h1 h2 => mk k (by omega) (by omega))) (fun i _ => by rw [Mk 1 (by omega) (by omega) (by omega)])
    · exact x2.cg ⟨m0 8 (by omega) (by omega), m0 7 (by omega) (by omega)⟩ (fun k h1 h2 => mk k (by omega) (by omega)) (fun k h1 h2 => mk k (by omega) (by omega)) (M0' 5 (by omega) (by omega)) (Mk 5 (by omega) (by omega) (by omega))
    · exact x3.cg (m0 5 (by omega) (by omega)) (fun k h1 h2 => mk k (by omega) (by omega)) (fun k h1 h2 => mk k (by omega) (by omega)) (M0' 7 (by omega) (by omega)) (Mk 4 (by omega) (by omega) (by omega))
    · exact ⟨0, by omega, by rw [t2]; rfl, by rw [g7]; rfl, fun i hi => by omega⟩
    · rw [t3, m26, g8, p3]
      by_cases q : cc = 0
      · rw [if_pos q, if_pos q]
      · rw [if_neg q, if_neg q, g5 q]
  · right
    have hcd : ¬ (0 ≤ z ∧ z ≤ ((if n < 200 then n else 200 : Nat) : Int)) := fun x => d3 (by
      obtain ⟨x1, x2⟩ := x
      split at x2 <;> refine ⟨x1, ?_, ?_⟩ <;> omega)
    unfold f_m_query f_m_raise
    rw [hin, b_bs, if_neg hcd, if_pos (show xw 0 = 0 by decide), b_bs]
    refine ⟨by unfold h_X_query; rw [d2]; rfl, ?_⟩
    exact ⟨0, xu (xu M 0 6 0) 0 6 1, rfl, by rw [xu_s rfl], (h.thr 0).thr 1⟩

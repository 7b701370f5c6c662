/-! ===== conjunctions, tests, factors of a query ===== -/
/-- a reader of a part, on both sides -/
def bFFs (B : Nat → Int) (L c : Nat) (N : Nat → Int) (o : Nat) (FC : Int → xM → Option (Int × xM)) (FM : xM → Option xM) : Prop := ∀ (s e C : Nat) (m M : xM), bGo B L s e (m 1) (m 2) M → bQs c N m M → M 0 25 = C → C ≤ s → M 0 21 = o → bRes B L s c N C m M (FC (o : Int) m) (FM M)
theorem xland_m {c X Y : Nat} (hc : c ≤ 60) (hX : X < 2 ^ c) (hY : Y < 2 ^ c) : xland (X : Int) (Y : Int) = ((X &&& Y : Nat) : Int) ∧ X &&& Y < 2 ^ c ∧ ∀ e, bb ((X &&& Y).testBit e) = bb (X.testBit e && Y.testBit e) := by
  have := p60 hc
  exact ⟨xland_n X Y (by omega), Nat.and_lt_two_pow X hY, fun e => by rw [Nat.testBit_and]⟩
theorem xlor_m {c X Y : Nat} (hc : c ≤ 60) (hX : X < 2 ^ c) (hY : Y < 2 ^ c) : xlor (X : Int) (Y : Int) = ((X ||| Y : Nat) : Int) ∧ X ||| Y < 2 ^ c ∧ ∀ e, bb ((X ||| Y).testBit e) = bb (X.testBit e || Y.testBit e) := by
  have := p60 hc
  exact ⟨xlor_n X Y (by omega) (by omega), Nat.or_lt_two_pow hX hY, fun e => by rw [Nat.testBit_or]⟩
/-- in a flaw: nothing more -/
theorem bNo.conj9 {FC : Int → xM → Option (Int × xM)} {cc : Int} {q : Nat} {m : xM} (h : bNo cc q (m 1)) (o x k : Int) (p : Nat) : f_Q_conj_9 FC o (p + 1) x k m = some (x, m) := by
  have h' : bNo cc q (xvw [1, 2] m 0) := h
  rw [f_Q_conj_9]
  unfold f_Q_conj_50
  by_cases c : xw k < xw 200
  · rw [if_pos c, h'.word, b_bs, if_pos (by decide)]
  · rw [if_neg c]
theorem bNoM.conj4 {FM : xM → Option xM} {B : Nat → Int} {L : Nat} {cc : Int} {q : Nat} {M : xM} (h : bNoM B L cc q M) (p : Nat) : f_m_compileConjunction_4 FM (p + 1) M = some M := by
  rw [f_m_compileConjunction_4, h.accept, b_bs, if_pos (show xw 0 = 0 by decide)]
theorem Q_conj_loop {B : Nat → Int} {L c : Nat} {N : Nat → Int} {o : Nat} {FC : Int → xM → Option (Int × xM)} {FM : xM → Option xM} (hL : L ≤ 200) (hF : bFFs B L c N o FC FM) (C0 : Nat) : ∀ (r s e C X k n n' : Nat) (m M : xM), L ≤ s + r → r < n → r < n' → k ≤ s → bGo B L s e (m 1) (m 2) M → bQs c N m M → M 0 25 = C → C ≤ s → M 0 21 = o → X < 2 ^ c → C0 < C → (∀ ev, ev < c → bSeg (M 10) N ev C0 C (bb (X.testBit ev))) → ∃ (x : Int) (m' M' : xM), f_Q_conj_9 FC (o : Int) n (X : Int) (k : Int) m = some (x, m') ∧ f_m_compileConjunction_4 FM n' M = some M' ∧ bFQ m m' ∧ bFN M M' ∧ ((∃ s' e' X' C' : Nat, s ≤ s' ∧ bGo B L s' e' (m' 1) (m' 2) M' ∧ x = (X' : Int) ∧ X' < 2 ^ c ∧ M' 0 25 = (C' : Int) ∧ C ≤ C' ∧ C' + s ≤ s' + C ∧ M' 0 21 = M 0 21 ∧ (∀ i, i < C0 → M' 10 i = M 10 i) ∧ ∀ ev, ev < c → bSeg (M' 10) N ev C0 C' (bb (X'.testBit ev))) ∨ bEr B L (m' 1) M') := by
  intro r
  induction r with
  | zero =>
    intro s e C X k n n' m M hr hn hn' hk G hS hC hCs h21 hX hC0 hseg
    obtain ⟨p, rfl⟩ : ∃ p, n = p + 1 := ⟨n - 1, by omega⟩
    obtain ⟨p', rfl⟩ : ∃ p', n' = p' + 1 := ⟨n' - 1, by omega⟩
    have G' : bGo B L s e (xvw [1, 2] m 0) (xvw [1, 2] m 1) M := G
    rcases go_accept 8 G' with ⟨a1, a2⟩ | ⟨a1, q, M1, s1, e1, b1, b2, b3, b4, b5, b6⟩
    · refine ⟨(X : Int), m, M, ?_, ?_, bFQ.rfl, bFN.rfl, Or.inl ⟨s, e, X, C, Nat.le_refl _, G, rfl, hX, hC, Nat.le_refl _, by omega, rfl, fun _ _ => rfl, hseg⟩⟩
      · rw [f_Q_conj_9]
        unfold f_Q_conj_50
        by_cases c9 : xw (k : Int) < xw 200
        · rw [if_pos c9, a1, b_bs, if_pos (by decide)]
        · rw [if_neg c9]
      · rw [f_m_compileConjunction_4, a2, b_bs, if_pos (show xw 0 = 0 by decide)]
    · have := b6.2.1
      omega
  | succ r ih =>
    intro s e C X k n n' m M hr hn hn' hk G hS hC hCs h21 hX hC0 hseg
    obtain ⟨p, rfl⟩ : ∃ p, n = p + 1 := ⟨n - 1, by omega⟩
    obtain ⟨p', rfl⟩ : ∃ p', n' = p' + 1 := ⟨n' - 1, by omega⟩
    have G' : bGo B L s e (xvw [1, 2] m 0) (xvw [1, 2] m 1) M := G
    rcases go_accept 8 G' with ⟨a1, a2⟩ | ⟨a1, q, M1, s1, e1, b1, b2, b3, b4, b5, b6⟩
    · refine ⟨(X : Int), m, M, ?_, ?_, bFQ.rfl, bFN.rfl, Or.inl ⟨s, e, X, C, Nat.le_refl _, G, rfl, hX, hC, Nat.le_refl _, by omega, rfl, fun _ _ => rfl, hseg⟩⟩
      · rw [f_Q_conj_9]
        unfold f_Q_conj_50
        by_cases c9 : xw (k : Int) < xw 200
        · rw [if_pos c9, a1, b_bs, if_pos (by decide)]
        · rw [if_neg c9]
      · rw [f_m_compileConjunction_4, a2, b_bs, if_pos (show xw 0 = 0 by decide)]
    · have hle := b6.2.1
      obtain ⟨m1, c1, c2, c3, c4, c5, c6⟩ := R_mg m q b3
      have f1 : bFQ m m1 := ⟨c4, c5, c6⟩
      have G1 : bGo B L s1 e1 (m1 1) (m1 2) M1 := by rw [c2, c3]; exact b6
      have hS1 := hS.cg f1 b4.toN
      have hC1 : M1 0 25 = C := by rw [b4.2 25 (by omega), hC]
      obtain ⟨x2, m2, M2, d1, d2, d3, d4, d5⟩ := hF s1 e1 C m1 M1 G1 hS1 hC1 (by omega) (by rw [b4.2 21 (by omega), h21])
      rw [f_Q_conj_9, b_xw (show -2147483648 ≤ (k : Int) ∧ (k : Int) < 2147483648 by omega), if_pos (show (k : Int) < xw 200 by show (k : Int) < 200; omega), a1, b_bs, if_neg (by decide), b1, b_bs, c1, d1, b_bs]
      rw [f_m_compileConjunction_4, b2, b_bs, if_neg (show ¬ xw 1 = 0 by decide)]
      dsimp only
      rw [d2, b_bs]
      rcases d5 with ⟨s2, e2, X2, C2, g1, G2, g3, g4, g5, g6, g7, g8, g9, g10⟩ | ⟨cc, qq, h1, h2⟩
      · have hle2 := G2.2.1
        have hc := hS.2.2.1
        obtain ⟨y1, y2, y3⟩ := xland_m hc hX g4
        rw [m_emit_go (-24) G2.err g5 (by omega), b_bs, g3, y1]
        have hseg2 : ∀ ev, ev < c → bSeg (bPut M2 C2 (-24) 10) N ev C0 (C2 + 1) (bb ((X &&& X2).testBit ev)) := fun ev hev => by
          rw [y3]
          refine bSeg.op ((hseg ev hev).cg (fun i i1 i2 => ?_)) ((g10 ev hev).cg (fun i i1 i2 => ?_)) (show bOp (-24) by unfold bOp; omega) (bPut_s M2 C2 (-24)) (fun Q => op_and _ _ Q)
          · rw [bPut_d M2 C2 (-24) (by omega), g9 i i2, b4.1 10 (by omega)]
          · rw [bPut_d M2 C2 (-24) (by omega)]
        obtain ⟨x, m', M', k1, k2, k3, k4, k5⟩ := ih s2 e2 (C2 + 1) (X &&& X2) (k + 1) p p' m2 (bPut M2 C2 (-24)) (by omega) (by omega) (by omega) (by omega) (G2.put _ _) ((hS1.cg d3 d4).cg bFQ.rfl (bPut_N _ _ _)) (bPut_25 _ _ _) (by omega) (by rw [bPut_0 _ _ _ (by omega), g8, b4.2 21 (by omega), h21]) y2 (by omega) hseg2
        refine ⟨x, m', M', k1, k2, (f1.trans d3).trans k3, ((b4.toN.trans d4).trans (bPut_N _ _ _)).trans k4, ?_⟩
        rcases k5 with ⟨s3, e3, X3, C3, j1, j2, j3, j4, j5, j6, j7, j8, j9, j10⟩ | k5
        · refine Or.inl ⟨s3, e3, X3, C3, by omega, j2, j3, j4, j5, by omega, by omega, by rw [j8, bPut_0 _ _ _ (by omega), g8, b4.2 21 (by omega)], fun i hi => by rw [j9 i hi, bPut_d _ _ _ (by omega), g9 i (by omega), b4.1 10 (by omega)], j10⟩
        · exact Or.inr k5
      · rw [m_emit_er _ h2.ne, b_bs]
        obtain ⟨p1, rfl⟩ : ∃ p1, p = p1 + 1 := ⟨p - 1, by omega⟩
        obtain ⟨p2, rfl⟩ : ∃ p2, p' = p2 + 1 := ⟨p' - 1, by omega⟩
        rw [h1.conj9, h2.conj4]
        exact ⟨_, m2, M2, rfl, rfl, f1.trans d3, b4.toN.trans d4, Or.inr ⟨cc, qq, h1, h2⟩⟩
theorem Q_conj_sp {B : Nat → Int} {L c : Nat} {N : Nat → Int} {o : Nat} {FC : Int → xM → Option (Int × xM)} {FM : xM → Option xM} (hL : L ≤ 200) (hF : bFFs B L c N o FC FM) : bFFs B L c N o (f_Q_conj FC) (f_m_compileConjunction FM) := by
  intro s e C m M G hS hC hCs h21
  obtain ⟨x, m1, M1, a1, a2, a3, a4, a5⟩ := hF s e C m M G hS hC hCs h21
  unfold f_Q_conj f_m_compileConjunction
  rw [a1, a2, b_bs, b_bs]
  dsimp only
  rcases a5 with ⟨s1, e1, X, C1, g1, G1, g3, g4, g5, g6, g7, g8, g9, g10⟩ | ⟨cc, qq, h1, h2⟩
  · have hle := G1.2.1
    obtain ⟨x', m', M', k1, k2, k3, k4, k5⟩ := Q_conj_loop hL hF C L s1 e1 C1 X 0 fu fu m1 M1 (by omega) (by unfold fu; omega) (by unfold fu; omega) (by omega) G1 (hS.cg a3 a4) g5 (by omega) (by rw [g8, h21]) g4 g6 g10
    rw [g3]
    have k1' : f_Q_conj_9 FC (o : Int) fu (X : Int) 0 m1 = some (x', m') := k1
    rw [k1', k2]
    refine ⟨x', m', M', rfl, rfl, a3.trans k3, a4.trans k4, ?_⟩
    rcases k5 with ⟨s3, e3, X3, C3, j1, j2, j3, j4, j5, j6, j7, j8, j9, j10⟩ | k5
    · exact Or.inl ⟨s3, e3, X3, C3, by omega, j2, j3, j4, j5, by omega, by omega, by rw [j8, g8], fun i hi => by rw [j9 i hi, g9 i hi], j10⟩
    · exact Or.inr k5
  · have k1 : f_Q_conj_9 FC (o : Int) fu x 0 m1 = some (x, m1) := h1.conj9 (o : Int) x 0 4999
    have k2 : f_m_compileConjunction_4 FM fu M1 = some M1 := h2.conj4 4999
    rw [k1, k2]
    exact ⟨_, m1, M1, rfl, rfl, a3, a4, Or.inr ⟨cc, qq, h1, h2⟩⟩
/-- in a flaw: nothing more -/
theorem bNo.test9 {FC : Int → xM → Option (Int × xM)} {cc : Int} {q : Nat} {m : xM} (h : bNo cc q (m 1)) (o x k : Int) (p : Nat) : f_Q_test_9 FC o (p + 1) x k m = some (x, m) := by
  have h' : bNo cc q (xvw [1, 2] m 0) := h
  rw [f_Q_test_9]
  unfold f_Q_test_50
  by_cases c : xw k < xw 200
  · rw [if_pos c, h'.word, b_bs, if_pos (by decide)]
  · rw [if_neg c]
theorem bNoM.test4 {FM : xM → Option xM} {B : Nat → Int} {L : Nat} {cc : Int} {q : Nat} {M : xM} (h : bNoM B L cc q M) (p : Nat) : f_m_compileTest_4 FM (p + 1) M = some M := by
  rw [f_m_compileTest_4, h.accept, b_bs, if_pos (show xw 0 = 0 by decide)]
theorem Q_test_loop {B : Nat → Int} {L c : Nat} {N : Nat → Int} {o : Nat} {FC : Int → xM → Option (Int × xM)} {FM : xM → Option xM} (hL : L ≤ 200) (hF : bFFs B L c N o (f_Q_conj FC) (f_m_compileConjunction FM)) (C0 : Nat) : ∀ (r s e C X k n n' : Nat) (m M : xM), L ≤ s + r → r < n → r < n' → k ≤ s → bGo B L s e (m 1) (m 2) M → bQs c N m M → M 0 25 = C → C ≤ s → M 0 21 = o → X < 2 ^ c → C0 < C → (∀ ev, ev < c → bSeg (M 10) N ev C0 C (bb (X.testBit ev))) → ∃ (x : Int) (m' M' : xM), f_Q_test_9 FC (o : Int) n (X : Int) (k : Int) m = some (x, m') ∧ f_m_compileTest_4 FM n' M = some M' ∧ bFQ m m' ∧ bFN M M' ∧ ((∃ s' e' X' C' : Nat, s ≤ s' ∧ bGo B L s' e' (m' 1) (m' 2) M' ∧ x = (X' : Int) ∧ X' < 2 ^ c ∧ M' 0 25 = (C' : Int) ∧ C ≤ C' ∧ C' + s ≤ s' + C ∧ M' 0 21 = M 0 21 ∧ (∀ i, i < C0 → M' 10 i = M 10 i) ∧ ∀ ev, ev < c → bSeg (M' 10) N ev C0 C' (bb (X'.testBit ev))) ∨ bEr B L (m' 1) M') := by
  intro r
  induction r with
  | zero =>
    intro s e C X k n n' m M hr hn hn' hk G hS hC hCs h21 hX hC0 hseg
    obtain ⟨p, rfl⟩ : ∃ p, n = p + 1 := ⟨n - 1, by omega⟩
    obtain ⟨p', rfl⟩ : ∃ p', n' = p' + 1 := ⟨n' - 1, by omega⟩
    have G' : bGo B L s e (xvw [1, 2] m 0) (xvw [1, 2] m 1) M := G
    rcases go_accept 7 G' with ⟨a1, a2⟩ | ⟨a1, q, M1, s1, e1, b1, b2, b3, b4, b5, b6⟩
    · refine ⟨(X : Int), m, M, ?_, ?_, bFQ.rfl, bFN.rfl, Or.inl ⟨s, e, X, C, Nat.le_refl _, G, rfl, hX, hC, Nat.le_refl _, by omega, rfl, fun _ _ => rfl, hseg⟩⟩
      · rw [f_Q_test_9]
        unfold f_Q_test_50
        by_cases c9 : xw (k : Int) < xw 200
        · rw [if_pos c9, a1, b_bs, if_pos (by decide)]
        · rw [if_neg c9]
      · rw [f_m_compileTest_4, a2, b_bs, if_pos (show xw 0 = 0 by decide)]
    · have := b6.2.1
      omega
  | succ r ih =>
    intro s e C X k n n' m M hr hn hn' hk G hS hC hCs h21 hX hC0 hseg
    obtain ⟨p, rfl⟩ : ∃ p, n = p + 1 := ⟨n - 1, by omega⟩
    obtain ⟨p', rfl⟩ : ∃ p', n' = p' + 1 := ⟨n' - 1, by omega⟩
    have G' : bGo B L s e (xvw [1, 2] m 0) (xvw [1, 2] m 1) M := G
    rcases go_accept 7 G' with ⟨a1, a2⟩ | ⟨a1, q, M1, s1, e1, b1, b2, b3, b4, b5, b6⟩
    · refine ⟨(X : Int), m, M, ?_, ?_, bFQ.rfl, bFN.rfl, Or.inl ⟨s, e, X, C, Nat.le_refl _, G, rfl, hX, hC, Nat.le_refl _, by omega, rfl, fun _ _ => rfl, hseg⟩⟩
      · rw [f_Q_test_9]
        unfold f_Q_test_50
        by_cases c9 : xw (k : Int) < xw 200
        · rw [if_pos c9, a1, b_bs, if_pos (by decide)]
        · rw [if_neg c9]
      · rw [f_m_compileTest_4, a2, b_bs, if_pos (show xw 0 = 0 by decide)]
    · have hle := b6.2.1
      obtain ⟨m1, c1, c2, c3, c4, c5, c6⟩ := R_mg m q b3
      have f1 : bFQ m m1 := ⟨c4, c5, c6⟩
      have G1 : bGo B L s1 e1 (m1 1) (m1 2) M1 := by rw [c2, c3]; exact b6
      have hS1 := hS.cg f1 b4.toN
      have hC1 : M1 0 25 = C := by rw [b4.2 25 (by omega), hC]
      obtain ⟨x2, m2, M2, d1, d2, d3, d4, d5⟩ := hF s1 e1 C m1 M1 G1 hS1 hC1 (by omega) (by rw [b4.2 21 (by omega), h21])
      rw [f_Q_test_9, b_xw (show -2147483648 ≤ (k : Int) ∧ (k : Int) < 2147483648 by omega), if_pos (show (k : Int) < xw 200 by show (k : Int) < 200; omega), a1, b_bs, if_neg (by decide), b1, b_bs, c1, d1, b_bs]
      rw [f_m_compileTest_4, b2, b_bs, if_neg (show ¬ xw 1 = 0 by decide)]
      dsimp only
      rw [d2, b_bs]
      rcases d5 with ⟨s2, e2, X2, C2, g1, G2, g3, g4, g5, g6, g7, g8, g9, g10⟩ | ⟨cc, qq, h1, h2⟩
      · have hle2 := G2.2.1
        have hc := hS.2.2.1
        obtain ⟨y1, y2, y3⟩ := xlor_m hc hX g4
        rw [m_emit_go (-25) G2.err g5 (by omega), b_bs, g3, y1]
        have hseg2 : ∀ ev, ev < c → bSeg (bPut M2 C2 (-25) 10) N ev C0 (C2 + 1) (bb ((X ||| X2).testBit ev)) := fun ev hev => by
          rw [y3]
          refine bSeg.op ((hseg ev hev).cg (fun i i1 i2 => ?_)) ((g10 ev hev).cg (fun i i1 i2 => ?_)) (show bOp (-25) by unfold bOp; omega) (bPut_s M2 C2 (-25)) (fun Q => op_or _ _ Q)
          · rw [bPut_d M2 C2 (-25) (by omega), g9 i i2, b4.1 10 (by omega)]
          · rw [bPut_d M2 C2 (-25) (by omega)]
        obtain ⟨x, m', M', k1, k2, k3, k4, k5⟩ := ih s2 e2 (C2 + 1) (X ||| X2) (k + 1) p p' m2 (bPut M2 C2 (-25)) (by omega) (by omega) (by omega) (by omega) (G2.put _ _) ((hS1.cg d3 d4).cg bFQ.rfl (bPut_N _ _ _)) (bPut_25 _ _ _) (by omega) (by rw [bPut_0 _ _ _ (by omega), g8, b4.2 21 (by omega), h21]) y2 (by omega) hseg2
        refine ⟨x, m', M', k1, k2, (f1.trans d3).trans k3, ((b4.toN.trans d4).trans (bPut_N _ _ _)).trans k4, ?_⟩
        rcases k5 with ⟨s3, e3, X3, C3, j1, j2, j3, j4, j5, j6, j7, j8, j9, j10⟩ | k5
        · refine Or.inl ⟨s3, e3, X3, C3, by omega, j2, j3, j4, j5, by omega, by omega, by rw [j8, bPut_0 _ _ _ (by omega), g8, b4.2 21 (by omega)], fun i hi => by rw [j9 i hi, bPut_d _ _ _ (by omega), g9 i (by omega), b4.1 10 (by omega)], j10⟩
        · exact Or.inr k5
      · rw [m_emit_er _ h2.ne, b_bs]
        obtain ⟨p1, rfl⟩ : ∃ p1, p = p1 + 1 := ⟨p - 1, by omega⟩
        obtain ⟨p2, rfl⟩ : ∃ p2, p' = p2 + 1 := ⟨p' - 1, by omega⟩
        rw [h1.test9, h2.test4]
        exact ⟨_, m2, M2, rfl, rfl, f1.trans d3, b4.toN.trans d4, Or.inr ⟨cc, qq, h1, h2⟩⟩
theorem Q_test_sp {B : Nat → Int} {L c : Nat} {N : Nat → Int} {o : Nat} {FC : Int → xM → Option (Int × xM)} {FM : xM → Option xM} (hL : L ≤ 200) (hF : bFFs B L c N o (f_Q_conj FC) (f_m_compileConjunction FM)) : bFFs B L c N o (f_Q_test FC) (f_m_compileTest FM) := by
  intro s e C m M G hS hC hCs h21
  obtain ⟨x, m1, M1, a1, a2, a3, a4, a5⟩ := hF s e C m M G hS hC hCs h21
  unfold f_Q_test f_m_compileTest
  rw [a1, a2, b_bs, b_bs]
  dsimp only
  rcases a5 with ⟨s1, e1, X, C1, g1, G1, g3, g4, g5, g6, g7, g8, g9, g10⟩ | ⟨cc, qq, h1, h2⟩
  · have hle := G1.2.1
    obtain ⟨x', m', M', k1, k2, k3, k4, k5⟩ := Q_test_loop hL hF C L s1 e1 C1 X 0 fu fu m1 M1 (by omega) (by unfold fu; omega) (by unfold fu; omega) (by omega) G1 (hS.cg a3 a4) g5 (by omega) (by rw [g8, h21]) g4 g6 g10
    rw [g3]
    have k1' : f_Q_test_9 FC (o : Int) fu (X : Int) 0 m1 = some (x', m') := k1
    rw [k1', k2]
    refine ⟨x', m', M', rfl, rfl, a3.trans k3, a4.trans k4, ?_⟩
    rcases k5 with ⟨s3, e3, X3, C3, j1, j2, j3, j4, j5, j6, j7, j8, j9, j10⟩ | k5
    · exact Or.inl ⟨s3, e3, X3, C3, by omega, j2, j3, j4, j5, by omega, by omega, by rw [j8, g8], fun i hi => by rw [j9 i hi, g9 i hi], j10⟩
    · exact Or.inr k5
  · have k1 : f_Q_test_9 FC (o : Int) fu x 0 m1 = some (x, m1) := h1.test9 (o : Int) x 0 4999
    have k2 : f_m_compileTest_4 FM fu M1 = some M1 := h2.test4 4999
    rw [k1, k2]
    exact ⟨_, m1, M1, rfl, rfl, a3, a4, Or.inr ⟨cc, qq, h1, h2⟩⟩
theorem bGo.wordK {B : Nat → Int} {L s e w : Nat} {m M : xM} (h : bGo B L s e (m 0) (m 1) M) (h1 : f_T_isWord w m = some 1) : bK B L s ≠ 0 := fun h0 => by
  unfold f_T_isWord at h1
  rw [h.isK.1, h0, if_neg (by decide)] at h1
  exact absurd (Option.some.inj h1) (by decide)
theorem bGo.signK {B : Nat → Int} {L s e : Nat} {z : Int} {m M : xM} (h : bGo B L s e (m 0) (m 1) M) (h1 : f_T_isSign z m = some 1) : bK B L s ≠ 0 := fun h0 => by
  unfold f_T_isSign at h1
  rw [h.isK.1, h0, if_neg (by decide)] at h1
  exact absurd (Option.some.inj h1) (by decide)
/-- one level deeper -/
theorem Q_enter {B : Nat → Int} {L s e o : Nat} {m M : xM} (G : bGo B L s e (m 1) (m 2) M) (h21 : M 0 21 = o) (ho : o < 6) (hk : bK B L s ≠ 0) : ∃ (q m1 M1 : xM) (s1 e1 : Nat), f_T_next (xvw [1, 2] m) = some q ∧ xmg [1, 2] 2 m q = m1 ∧ f_m_enter M = some M1 ∧ bFQ m m1 ∧ bFN M M1 ∧ s < s1 ∧ bGo B L s1 e1 (m1 1) (m1 2) M1 ∧ M1 0 21 = ((o + 1 : Nat) : Int) ∧ M1 0 25 = M 0 25 ∧ M1 10 = M 10 := by
  have G' : bGo B L s e (xvw [1, 2] m 0) (xvw [1, 2] m 1) (xu M 0 21 ((o : Int) + 1)) := G.cg2 (fun j _ _ => xu_d (by omega)) (xu_K (by omega))
  obtain ⟨q, M1, s1, e1, b1, b2, b3, b4, b5, b6⟩ := G'.next
  obtain ⟨m1, c1, c2, c3, c4, c5, c6⟩ := R_mg m q b4
  have hlt := G.lt hk
  refine ⟨q, m1, M1, s1, e1, b1, c1, ?_, ⟨c4, c5, c6⟩, ⟨fun k k0 k1 => by rw [b5.1 k k0, xu_K k0], fun j hj => by rw [b5.2 j (by omega), xu_d (by omega)]⟩, by omega, by rw [c2, c3]; exact b3, by rw [b5.2 21 (by omega), xu_s rfl]; omega, by rw [b5.2 25 (by omega), xu_d (by omega)], by rw [b5.1 10 (by omega), xu_K (by omega)]⟩
  unfold f_m_enter f_m_enter_15
  rw [h21, b_xw (show -2147483648 ≤ (o : Int) ∧ (o : Int) < 2147483648 by omega), if_pos (show (o : Int) < xw 6 by show (o : Int) < 6; omega), m_check_1, b_bs, h21, m_advance_0 (by rw [xu_d (by omega)]; exact G.err), b2, b_bs]
/-- too deep -/
theorem Q_deep {B : Nat → Int} {L s e o : Nat} {m M : xM} (G : bGo B L s e (m 1) (m 2) M) (h21 : M 0 21 = o) (ho : o = 6) : ∃ (q m1 M1 : xM), f_T_fail 3 (xvw [1, 2] m) = some (0, q) ∧ xmg [1, 2] 2 m q = m1 ∧ f_m_enter M = some M1 ∧ bFQ m m1 ∧ bFN M M1 ∧ bEr B L (m1 1) M1 := by
  have G' : bGo B L s e (xvw [1, 2] m 0) (xvw [1, 2] m 1) M := G
  obtain ⟨q, M1, b1, b2, b3, b4, b5⟩ := G'.fail 3 0 (by omega) rfl
  obtain ⟨m1, c1, c2, c3, c4, c5, c6⟩ := R_mg m q b4
  obtain ⟨cc, qq, d1, d2⟩ := b3
  have hE : bEr B L (m1 1) (xu M1 0 21 (M1 0 21 + 1)) := bEr.cg2 (M := M1) ⟨cc, qq, by rw [c2]; exact d1, d2⟩ (fun j _ _ => xu_d (by omega)) (xu_K (by omega))
  refine ⟨q, m1, xu M1 0 21 (M1 0 21 + 1), b1, c1, ?_, ⟨c4, c5, c6⟩, ⟨fun k k0 k1 => by rw [xu_K k0, b5.1 k k0], fun j hj => by rw [xu_d (by omega), b5.2 j (by omega)]⟩, hE⟩
  unfold f_m_enter f_m_enter_15
  obtain ⟨cc2, qq2, d3, d4⟩ := hE
  rw [h21, ho, if_neg (by decide), b2, b_bs, d4.advance, b_bs]
theorem Q_factor_sp {B : Nat → Int} {L c : Nat} {N : Nat → Int} (hL : L ≤ 200) : ∀ n o : Nat, 7 ≤ n + o → o ≤ 6 → bFFs B L c N o (f_Q_factor n) (f_m_compileFactor n) := by
  intro n
  induction n with
  | zero => intro o h1 h2; omega
  | succ n ih =>
    intro o h1 h2 s e C m M G hS hC hCs h21
    have G' : bGo B L s e (xvw [1, 2] m 0) (xvw [1, 2] m 1) M := G
    have wo : xw (o : Int) = o := b_xw (by omega)
    have hc := hS.2.2.1
    show bRes B L s c N C m M (f_Q_factorB (f_Q_factor n) (o : Int) m) (f_m_compileFactorB (f_m_compileFactor n) M)
    obtain ⟨x9, y9, z9, w9, _⟩ := G'.word 9
    obtain ⟨x40, y40, z40, w40⟩ := G'.sign 40 (by omega)
    unfold f_Q_factorB f_m_compileFactorB
    rw [z9, w9, b_bs, b_bs]
    rcases y9 with u9 | u9
    · rw [u9, if_pos (show xw 0 = 0 by decide), if_pos (show xw 0 = 0 by decide), z40, w40, b_bs, b_bs]
      rcases y40 with u40 | u40
      · rw [u40, if_pos (show xw 0 = 0 by decide), if_pos (show xw 0 = 0 by decide)]
        obtain ⟨x, m', M', a1, a2, a3⟩ := Q_cmp_sp (FF := f_m_compileFactor n) G hS hL hC hCs
        unfold m_cmp at a2
        rw [a1, b_bs, a2]
        exact ⟨x, m', M', rfl, rfl, a3⟩
      · rw [u40, if_neg (show ¬ xw 1 = 0 by decide), if_neg (show ¬ xw 1 = 0 by decide)]
        rw [u40] at z40
        unfold f_Q_factorB_31
        rw [wo]
        by_cases ho : o < 6
        · rw [if_pos (show (o : Int) < xw 6 by show (o : Int) < 6; omega)]
          obtain ⟨q, m1, M1, s1, e1, b1, b2, b3, b4, b5, b6, G1, b8, b9, b10⟩ := Q_enter G h21 ho (G'.signK z40)
          rw [b1, b_bs, if_pos (show xw 0 = 0 by decide), b2, b3, b_bs, G1.err, if_pos (show xw 0 = 0 by decide)]
          obtain ⟨x, m2, M2, d1, d2, d3, d4, d5⟩ := Q_test_sp hL (Q_conj_sp hL (ih (o + 1) (by omega) (by omega))) s1 e1 C m1 M1 G1 (hS.cg b4 b5) (by rw [b9, hC]) (by omega) b8
          have d1' : f_Q_test (f_Q_factor n) ((o : Int) + 1) m1 = some (x, m2) := d1
          rw [d1', b_bs, d2, b_bs]
          dsimp only
          unfold f_m_compileFactorB_68
          rcases d5 with ⟨s2, e2, X, C2, g1, G2, g3, g4, g5, g6, g7, g8, g9, g10⟩ | ⟨cc, qq, k1, k2⟩
          · obtain ⟨q3, M3, x3, j1, j2, j3, j4, j5⟩ := st_sign (m := xvw [1, 2] m2) (f := s2) 41 (by omega) (Or.inl ⟨s2, e2, Nat.le_refl _, G2⟩)
            obtain ⟨m3, c1, c2, c3, c4, c5, c6⟩ := R_mg m2 q3 j3
            have k21 : M3 0 21 = ((o + 1 : Nat) : Int) := by rw [j4.2 21 (by omega), g8, b8]
            rw [j1, b_bs, j2, b_bs, k21]
            dsimp only
            rw [c1]
            refine ⟨x, m3, xu M3 0 21 (((o + 1 : Nat) : Int) - 1), rfl, rfl, (b4.trans d3).trans ⟨c4, c5, c6⟩, ((b5.trans d4).trans j4.toN).trans ⟨fun k k0 k1 => xu_K k0, fun j hj => xu_d (by omega)⟩, ?_⟩
            rcases j5 with ⟨_, s3, e3, l1, G3⟩ | ⟨_, l1⟩
            · refine Or.inl ⟨s3, e3, X, C2, by omega, ?_, g3, g4, by rw [xu_d (by omega), j4.2 25 (by omega), g5], g6, by omega, by rw [xu_s rfl, h21]; omega, fun i hi => by rw [xu_k (by omega), j4.1 10 (by omega), g9 i hi, b10], fun ev hev => (g10 ev hev).cg (fun i _ _ => by rw [xu_k (by omega), j4.1 10 (by omega)])⟩
              rw [c2, c3]
              exact G3.cg2 (fun j _ _ => xu_d (by omega)) (xu_K (by omega))
            · refine Or.inr ?_
              rw [c2]
              exact l1.cg2 (fun j _ _ => xu_d (by omega)) (xu_K (by omega))
          · have k1' : bNo cc qq (xvw [1, 2] m2 0) := k1
            obtain ⟨m3, c1, c2, c3, c4, c5, c6⟩ := R_mg m2 (xvw [1, 2] m2) bFc.rfl
            rw [k1'.takeSign, b_bs, k2.expect, b_bs]
            dsimp only
            rw [c1]
            refine ⟨x, m3, xu M2 0 21 (M2 0 21 - 1), rfl, rfl, (b4.trans d3).trans ⟨c4, c5, c6⟩, (b5.trans d4).trans ⟨fun k k0 k1 => xu_K k0, fun j hj => xu_d (by omega)⟩, Or.inr ?_⟩
            exact bEr.cg2 (M := M2) ⟨cc, qq, by rw [c2]; exact k1, k2⟩ (fun j _ _ => xu_d (by omega)) (xu_K (by omega))
        · rw [if_neg (show ¬ (o : Int) < xw 6 by show ¬ (o : Int) < 6; omega)]
          obtain ⟨q, m1, M1, b1, b2, b3, b4, b5, cc, qq, d1, d2⟩ := Q_deep G h21 (by omega)
          rw [b1, b_bs, b3, b_bs, if_neg d2.ne]
          dsimp only
          rw [b2]
          unfold f_m_compileFactorB_68
          rw [d2.expect, b_bs]
          exact ⟨0, m1, xu M1 0 21 (M1 0 21 - 1), rfl, rfl, b4, b5.trans ⟨fun k k0 k1 => xu_K k0, fun j hj => xu_d (by omega)⟩, Or.inr (bEr.cg2 (M := M1) ⟨cc, qq, d1, d2⟩ (fun j _ _ => xu_d (by omega)) (xu_K (by omega)))⟩
    · rw [u9, if_neg (show ¬ xw 1 = 0 by decide), if_neg (show ¬ xw 1 = 0 by decide)]
      rw [u9] at z9
      unfold f_Q_factorB_31
      rw [wo]
      by_cases ho : o < 6
      · rw [if_pos (show (o : Int) < xw 6 by show (o : Int) < 6; omega)]
        obtain ⟨q, m1, M1, s1, e1, b1, b2, b3, b4, b5, b6, G1, b8, b9, b10⟩ := Q_enter G h21 ho (G'.wordK z9)
        rw [b1, b_bs, if_neg (show ¬ xw 1 = 0 by decide), b2, b3, b_bs, G1.err, if_pos (show xw 0 = 0 by decide)]
        obtain ⟨x, m2, M2, d1, d2, d3, d4, d5⟩ := ih (o + 1) (by omega) (by omega) s1 e1 C m1 M1 G1 (hS.cg b4 b5) (by rw [b9, hC]) (by omega) b8
        have d1' : f_Q_factor n ((o : Int) + 1) m1 = some (x, m2) := d1
        have hS2 := (hS.cg b4 b5).cg d3 d4
        rw [d1', b_bs, d2, b_bs]
        dsimp only
        unfold f_m_compileFactorB_25
        rcases d5 with ⟨s2, e2, X, C2, g1, G2, g3, g4, g5, g6, g7, g8, g9, g10⟩ | ⟨cc, qq, k1, k2⟩
        · have hle := G2.2.1
          have h0 : 0 < 2 ^ c := Nat.two_pow_pos c
          rw [m_emit_go (-23) G2.err g5 (by omega), b_bs]
          show bRes B L s c N C m M (some (xland (xlxor x (-1)) (xlshl 1 (m2 3 2) - 1), m2)) (some (xu (bPut M2 C2 (-23)) 0 21 (bPut M2 C2 (-23) 0 21 - 1)))
          rw [g3, hS2.2.1, xlnot_n X c g4 hc, show bPut M2 C2 (-23) 0 21 = ((o + 1 : Nat) : Int) by rw [bPut_0 _ _ _ (by omega), g8, b8]]
          refine ⟨_, m2, xu (bPut M2 C2 (-23)) 0 21 (((o + 1 : Nat) : Int) - 1), rfl, rfl, b4.trans d3, ((b5.trans d4).trans (bPut_N _ _ _)).trans ⟨fun k k0 k1 => xu_K k0, fun j hj => xu_d (by omega)⟩, Or.inl ⟨s2, e2, (2 ^ c - 1) ^^^ X, C2 + 1, by omega, (G2.put C2 (-23)).cg2 (fun j _ _ => xu_d (by omega)) (xu_K (by omega)), rfl, Nat.xor_lt_two_pow (by omega) g4, by rw [xu_d (by omega), bPut_25], by omega, by omega, by rw [xu_s rfl, h21]; omega, fun i hi => by rw [xu_k (by omega), bPut_d _ _ _ (by omega), g9 i hi, b10], fun ev hev => ?_⟩⟩
          have hb : bb (((2 ^ c - 1) ^^^ X).testBit ev) = 1 - bb (X.testBit ev) := by
            rw [Nat.testBit_xor, Nat.testBit_two_pow_sub_one]
            cases X.testBit ev <;> simp [hev, bb]
          rw [hb]
          refine bSeg.not ((g10 ev hev).cg (fun i i1 i2 => ?_)) ?_
          · rw [xu_k (by omega), bPut_d _ _ _ (by omega)]
          · rw [xu_k (by omega), bPut_s]
        · rw [m_emit_er _ k2.ne, b_bs]
          exact ⟨_, m2, xu M2 0 21 (M2 0 21 - 1), rfl, rfl, b4.trans d3, (b5.trans d4).trans ⟨fun k k0 k1 => xu_K k0, fun j hj => xu_d (by omega)⟩, Or.inr (bEr.cg2 (M := M2) ⟨cc, qq, k1, k2⟩ (fun j _ _ => xu_d (by omega)) (xu_K (by omega)))⟩
      · rw [if_neg (show ¬ (o : Int) < xw 6 by show ¬ (o : Int) < 6; omega)]
        obtain ⟨q, m1, M1, b1, b2, b3, b4, b5, cc, qq, d1, d2⟩ := Q_deep G h21 (by omega)
        rw [b1, b_bs, b3, b_bs, if_neg d2.ne]
        dsimp only
        rw [b2]
        unfold f_m_compileFactorB_25
        rw [m_emit_er _ d2.ne, b_bs]
        exact ⟨0, m1, xu M1 0 21 (M1 0 21 - 1), rfl, rfl, b4, b5.trans ⟨fun k k0 k1 => xu_K k0, fun j hj => xu_d (by omega)⟩, Or.inr (bEr.cg2 (M := M1) ⟨cc, qq, d1, d2⟩ (fun j _ _ => xu_d (by omega)) (xu_K (by omega)))⟩

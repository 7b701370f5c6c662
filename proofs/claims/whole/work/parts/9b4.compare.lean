/-! ===== a comparison of a query, by both ===== -/
/-- what the reader of a query leaves alone, in the class and in the reference -/
def bFQ (m m' : xM) : Prop := (∀ k, k ≠ 1 → m' k = m k) ∧ m' 1 0 = m 1 0 ∧ m' 1 1 = m 1 1
def bFN (M M' : xM) : Prop := (∀ k, k ≠ 0 → k ≠ 10 → M' k = M k) ∧ ∀ j, j < 15 ∨ j = 20 ∨ (22 ≤ j ∧ j ≠ 25) → M' 0 j = M 0 j
theorem bFQ.rfl {m : xM} : bFQ m m := ⟨fun _ _ => _root_.rfl, _root_.rfl, _root_.rfl⟩
theorem bFN.rfl {m : xM} : bFN m m := ⟨fun _ _ _ => _root_.rfl, fun _ _ => _root_.rfl⟩
theorem bFQ.trans {m m1 m2 : xM} (h : bFQ m m1) (g : bFQ m1 m2) : bFQ m m2 := ⟨fun k hk => by rw [g.1 k hk, h.1 k hk], by rw [g.2.1, h.2.1], by rw [g.2.2, h.2.2]⟩
theorem bFN.trans {m m1 m2 : xM} (h : bFN m m1) (g : bFN m1 m2) : bFN m m2 := ⟨fun k h0 h1 => by rw [g.1 k h0 h1, h.1 k h0 h1], fun j hj => by rw [g.2 j hj, h.2 j hj]⟩
theorem bFm.toN {M M' : xM} (h : bFm M M') : bFN M M' := ⟨fun k h0 _ => h.1 k h0, fun j hj => h.2 j (by omega)⟩
theorem bGo.cg2 {B : Nat → Int} {L s e : Nat} {A Y : Nat → Int} {M M' : xM} (h : bGo B L s e A Y M) (h0 : ∀ j, 14 ≤ j → j ≤ 18 → M' 0 j = M 0 j) (h8 : M' 8 = M 8) : bGo B L s e A Y M' := by
  unfold bGo bTx at h ⊢
  rw [h0 14 (by omega) (by omega), h0 15 (by omega) (by omega), h0 16 (by omega) (by omega), h0 17 (by omega) (by omega), h0 18 (by omega) (by omega), h8]
  exact h
theorem bEr.cg2 {B : Nat → Int} {L : Nat} {A : Nat → Int} {M M' : xM} (h : bEr B L A M) (h0 : ∀ j, 14 ≤ j → j ≤ 19 → M' 0 j = M 0 j) (h8 : M' 8 = M 8) : bEr B L A M' := by
  unfold bEr bNoM at h ⊢
  rw [h0 14 (by omega) (by omega), h0 15 (by omega) (by omega), h0 16 (by omega) (by omega), h0 17 (by omega) (by omega), h0 18 (by omega) (by omega), h0 19 (by omega) (by omega), h8]
  exact h
/-- the log that a query asks, and the class's reader -/
def bQs (c : Nat) (N : Nat → Int) (m M : xM) : Prop := M 1 = N ∧ m 3 2 = c ∧ c ≤ 60 ∧ bREv 3 m N
theorem bQs.cg {c : Nat} {N : Nat → Int} {m M m' M' : xM} (h : bQs c N m M) (h1 : bFQ m m') (h2 : bFN M M') : bQs c N m' M' := by
  obtain ⟨a, b, d, e⟩ := h
  exact ⟨by rw [h2.1 1 (by omega) (by omega), a], by rw [h1.1 3 (by omega), b], d, e.cg (h1.1 3 (by omega)) (h1.1 4 (by omega)) _root_.rfl (fun _ _ _ => _root_.rfl)⟩
theorem m_emit_go (z : Int) {M : xM} {C : Nat} (h18 : M 0 18 = 0) (hC : M 0 25 = C) (hC2 : C < 200) : f_m_emit z M = some (xu (xu M 10 C z) 0 25 ((C + 1 : Nat) : Int)) := by
  have x1 : xix (C : Int) = C := by rw [b_ix (by omega)]; omega
  unfold f_m_emit
  rw [h18, if_pos (by decide), hC, if_pos (b_ib (by omega)), x1]
  rfl
theorem m_emit_er (z : Int) {M : xM} (h : ¬ xw (M 0 18) = 0) : f_m_emit z M = some M := by
  unfold f_m_emit
  rw [if_neg h]
/-- one code more -/
def bPut (M : xM) (C : Nat) (z : Int) : xM := xu (xu M 10 C z) 0 25 ((C + 1 : Nat) : Int)
theorem bPut_N (M : xM) (C : Nat) (z : Int) : bFN M (bPut M C z) := ⟨fun k h0 h1 => by unfold bPut; rw [xu_K h0, xu_K h1], fun j hj => by unfold bPut; rw [xu_d (by omega), xu_k (by omega)]⟩
theorem bPut_0 (M : xM) (C : Nat) (z : Int) {j : Nat} (hj : j ≠ 25) : bPut M C z 0 j = M 0 j := by unfold bPut; rw [xu_d hj, xu_k (by omega)]
theorem bPut_25 (M : xM) (C : Nat) (z : Int) : bPut M C z 0 25 = ((C + 1 : Nat) : Int) := by unfold bPut; rw [xu_s rfl]
theorem bPut_8 (M : xM) (C : Nat) (z : Int) : bPut M C z 8 = M 8 := by unfold bPut; rw [xu_K (by omega), xu_K (by omega)]
theorem bPut_s (M : xM) (C : Nat) (z : Int) : bPut M C z 10 C = z := by unfold bPut; rw [xu_k (by omega), xu_s rfl]
theorem bPut_d (M : xM) (C : Nat) (z : Int) {i : Nat} (hi : i ≠ C) : bPut M C z 10 i = M 10 i := by unfold bPut; rw [xu_k (by omega), xu_d hi]
theorem bGo.put {B : Nat → Int} {L s e : Nat} {A Y : Nat → Int} {M : xM} (h : bGo B L s e A Y M) (C : Nat) (z : Int) : bGo B L s e A Y (bPut M C z) := h.cg2 (fun j _ _ => bPut_0 M C z (by omega)) (bPut_8 M C z)
theorem bNoM.value {B : Nat → Int} {L : Nat} {c : Int} {q : Nat} {M : xM} (h : bNoM B L c q M) : f_m_compileValue M = some M := by
  unfold f_m_compileValue f_m_compileValue_15
  rw [if_neg h.ne, h.number, b_bs, m_emit_er _ h.ne, b_bs]
theorem m_val_29s {M : xM} {X : Nat → Int} (hX : ∀ w, (X w = 0 ∨ X w = 1) ∧ f_m_isWord w M = some (X w)) (k p : Nat) (hk : k < 5) : f_m_compileValue_29 (p + 1) (k : Int) M = (if X k = 1 then f_m_compileValue_57 (k : Int) M else f_m_compileValue_29 p ((k + 1 : Nat) : Int) M) := by
  have x1 : xix (k : Int) = k := by rw [b_ix (by omega)]; omega
  rw [f_m_compileValue_29, if_pos (show xw (k : Int) < xw 5 by rw [b_xw (by omega)]; show (k : Int) < 5; omega), if_pos (b_ib (by omega)), x1, (hX k).2, b_bs]
  rcases (hX k).1 with q | q
  · rw [q, if_pos (by decide), if_neg (by decide)]; rfl
  · rw [q, if_neg (by decide), if_pos rfl]
theorem m_val_29 {M : xM} {X : Nat → Int} (hX : ∀ w, (X w = 0 ∨ X w = 1) ∧ f_m_isWord w M = some (X w)) : f_m_compileValue_29 fu 0 M = (if X 0 = 1 then f_m_compileValue_57 0 M else if X 1 = 1 then f_m_compileValue_57 1 M else if X 2 = 1 then f_m_compileValue_57 2 M else if X 3 = 1 then f_m_compileValue_57 3 M else if X 4 = 1 then f_m_compileValue_57 4 M else f_m_compileValue_57 5 M) := by
  have h0 := m_val_29s hX 0 4999 (by omega)
  have h1 := m_val_29s hX 1 4998 (by omega)
  have h2 := m_val_29s hX 2 4997 (by omega)
  have h3 := m_val_29s hX 3 4996 (by omega)
  have h4 := m_val_29s hX 4 4995 (by omega)
  have h5 : f_m_compileValue_29 4995 ((4 + 1 : Nat) : Int) M = f_m_compileValue_57 5 M := by
    show f_m_compileValue_29 (4994 + 1) 5 M = _
    rw [f_m_compileValue_29, if_neg (by decide)]
  rw [h5] at h4
  rw [show ((3 + 1 : Nat) : Int) = ((4 : Nat) : Int) from rfl, h4] at h3
  rw [show ((2 + 1 : Nat) : Int) = ((3 : Nat) : Int) from rfl, h3] at h2
  rw [show ((1 + 1 : Nat) : Int) = ((2 : Nat) : Int) from rfl, h2] at h1
  rw [show ((0 + 1 : Nat) : Int) = ((1 : Nat) : Int) from rfl, h1] at h0
  exact h0
/-- a property -/
theorem Q_prop_ok {B : Nat → Int} {L s e C : Nat} {m M : xM} (G : bGo B L s e (m 1) (m 2) M) (hL : L ≤ 200) (hC : M 0 25 = C) (hCs : C ≤ s) (hs : s < L) (v : Int) (hv : -5 ≤ v ∧ v ≤ -1) : ∃ (m' M' : xM) (s' e' : Nat), f_Q_readValue_107 v m = some (v, m') ∧ f_m_compileValue_57 (-1 - v) M = some M' ∧ bFQ m m' ∧ bFN M M' ∧ s < s' ∧ bGo B L s' e' (m' 1) (m' 2) M' ∧ M' 0 25 = ((C + 1 : Nat) : Int) ∧ M' 0 21 = M 0 21 ∧ (∀ i, i ≠ C → M' 10 i = M 10 i) ∧ M' 10 C = v := by
  have hk : bK B L s ≠ 0 := by
    rw [bK_eq B hs]
    have := bKd_in (B s)
    omega
  have wv : xw v = v := b_xw (by omega)
  have w1 : xw (-1 - v) = -1 - v := b_xw (by omega)
  have e1 : (-1 : Int) - (-1 - v) = v := by omega
  have G' : bGo B L s e (xvw [1, 2] m 0) (xvw [1, 2] m 1) (bPut M C v) := G.put C v
  obtain ⟨q, M', s', e', b1, b2, b3, b4, b5, b6⟩ := G'.next
  obtain ⟨m', c1, c2, c3, c4, c5, c6⟩ := R_mg m q b4
  have hlt := G.lt hk
  refine ⟨m', M', s', e', ?_, ?_, ⟨c4, c5, c6⟩, (bPut_N M C v).trans b5.toN, by omega, by rw [c2, c3]; exact b3, by rw [b5.2 25 (by omega), bPut_25], by rw [b5.2 21 (by omega), bPut_0 M C v (by omega)], fun i hi => by rw [b5.1 10 (by omega), bPut_d M C v hi], by rw [b5.1 10 (by omega), bPut_s]⟩
  · unfold f_Q_readValue_107 f_Q_readValue_121
    rw [wv, if_neg (by omega), b1, b_bs, c1]
  · unfold f_m_compileValue_57 f_m_compileValue_72
    rw [w1, if_pos (show -1 - v < xw 5 by show -1 - v < 5; omega), m_check_1, b_bs, e1, m_emit_go v G.err hC (by omega), b_bs]
    show Option.bind (f_m_advance (bPut M C v)) _ = _
    rw [m_advance_0 (by rw [bPut_0 M C v (by omega)]; exact G.err), b2, b_bs]
/-- a number or a property -/
theorem Q_value_sp {B : Nat → Int} {L s e C : Nat} {m M : xM} (G : bGo B L s e (m 1) (m 2) M) (hL : L ≤ 200) (hC : M 0 25 = C) (hCs : C ≤ s) : ∃ (v : Int) (m' M' : xM), f_Q_readValue m = some (v, m') ∧ f_m_compileValue M = some M' ∧ bFQ m m' ∧ bFN M M' ∧ (-5 ≤ v ∧ v ≤ 99999) ∧ ((∃ s' e' : Nat, s < s' ∧ bGo B L s' e' (m' 1) (m' 2) M' ∧ M' 0 25 = ((C + 1 : Nat) : Int) ∧ M' 0 21 = M 0 21 ∧ (∀ i, i ≠ C → M' 10 i = M 10 i) ∧ M' 10 C = v) ∨ bEr B L (m' 1) M') := by
  have kin := bK_in B L s
  have G' : bGo B L s e (xvw [1, 2] m 0) (xvw [1, 2] m 1) M := G
  have wk : xw (bK B L s) = bK B L s := b_xw (by omega)
  unfold f_Q_readValue f_m_compileValue
  rw [G.err, if_pos (show xw 0 = 0 by decide), G.isK.1, G.isK.2, wk]
  by_cases hk : bK B L s = 2
  · rw [if_pos (show bK B L s = xw 2 from hk), if_pos (show bK B L s = xw 2 from hk)]
    obtain ⟨q, M1, x, X, a1, a2, a3, a4, a5⟩ := st_number (m := xvw [1, 2] m) (f := s) 0 99999 (by omega) (Or.inl ⟨s, e, Nat.le_refl _, G'⟩)
    obtain ⟨m', c1, c2, c3, c4, c5, c6⟩ := R_mg m q a3
    rw [a1, b_bs]
    dsimp only
    rw [c1]
    unfold f_m_compileValue_15
    rw [a2, b_bs]
    dsimp only
    rcases a5 with ⟨b1, b2, b3, s', e', b4, b5⟩ | ⟨b1, b2, b3⟩
    · have h25 : M1 0 25 = C := by rw [a4.2 25 (by omega), hC]
      have hle := b5.2.1
      rw [m_emit_go X b5.err h25 (by omega), b_bs]
      refine ⟨x, m', bPut M1 C X, rfl, rfl, ⟨c4, c5, c6⟩, a4.toN.trans (bPut_N M1 C X), ⟨by omega, b3⟩, Or.inl ⟨s', e', b4, by rw [c2, c3]; exact b5.put C X, bPut_25 M1 C X, by rw [bPut_0 M1 C X (by omega), a4.2 21 (by omega)], fun i hi => by rw [bPut_d M1 C X hi, a4.1 10 (by omega)], by rw [bPut_s, b1]⟩⟩
    · obtain ⟨cc, qq, d1, d2⟩ := b3
      rw [m_emit_er _ d2.ne, b_bs]
      exact ⟨x, m', M1, rfl, rfl, ⟨c4, c5, c6⟩, a4.toN, by rw [b1]; omega, Or.inr ⟨cc, qq, by rw [c2]; exact d1, d2⟩⟩
  · rw [if_neg (show ¬ bK B L s = xw 2 from hk), if_neg (show ¬ bK B L s = xw 2 from hk)]
    have hX : ∀ w, ∃ x : Int, (x = 0 ∨ x = 1) ∧ f_T_isWord w (xvw [1, 2] m) = some x ∧ f_m_isWord w M = some x ∧ (x = 1 → s < L) := fun w => G'.word w
    obtain ⟨X, X1⟩ : ∃ X : Nat → Int, ∀ w, (X w = 0 ∨ X w = 1) ∧ f_T_isWord w (xvw [1, 2] m) = some (X w) ∧ f_m_isWord w M = some (X w) ∧ (X w = 1 → s < L) := ⟨fun w => (hX w).choose, fun w => (hX w).choose_spec⟩
    rw [m_val_29 (X := X) (fun w => ⟨(X1 w).1, (X1 w).2.2.1⟩), (X1 0).2.1, b_bs]
    have ok : ∀ (w : Nat) (v : Int), X w = 1 → (-5 ≤ v ∧ v ≤ -1) → ∃ (v' : Int) (m' M' : xM), f_Q_readValue_107 v m = some (v', m') ∧ f_m_compileValue_57 (-1 - v) M = some M' ∧ bFQ m m' ∧ bFN M M' ∧ (-5 ≤ v' ∧ v' ≤ 99999) ∧ ((∃ s' e' : Nat, s < s' ∧ bGo B L s' e' (m' 1) (m' 2) M' ∧ M' 0 25 = ((C + 1 : Nat) : Int) ∧ M' 0 21 = M 0 21 ∧ (∀ i, i ≠ C → M' 10 i = M 10 i) ∧ M' 10 C = v') ∨ bEr B L (m' 1) M') := fun w v h1 h2 => by
      obtain ⟨m', M', s', e', g1, g2, g3, g4, g5⟩ := Q_prop_ok G hL hC hCs ((X1 w).2.2.2 h1) v h2
      exact ⟨v, m', M', g1, g2, g3, g4, by omega, Or.inl ⟨s', e', g5⟩⟩
    rcases (X1 0).1 with h0 | h0
    · rw [h0, if_pos (show xw 0 = 0 by decide), if_neg (show ¬ (0 : Int) = 1 by decide), (X1 1).2.1, b_bs]
      rcases (X1 1).1 with h1 | h1
      · rw [h1, if_pos (show xw 0 = 0 by decide), if_neg (show ¬ (0 : Int) = 1 by decide), (X1 2).2.1, b_bs]
        rcases (X1 2).1 with h2 | h2
        · rw [h2, if_pos (show xw 0 = 0 by decide), if_neg (show ¬ (0 : Int) = 1 by decide), (X1 3).2.1, b_bs]
          rcases (X1 3).1 with h3 | h3
          · rw [h3, if_pos (show xw 0 = 0 by decide), if_neg (show ¬ (0 : Int) = 1 by decide), (X1 4).2.1, b_bs]
            rcases (X1 4).1 with h4 | h4
            · rw [h4, if_pos (show xw 0 = 0 by decide), if_neg (show ¬ (0 : Int) = 1 by decide)]
              obtain ⟨q, M', b1, b2, b3, b4, b5⟩ := G'.fail 1 0 (by omega) rfl
              obtain ⟨m1, c1, c2, c3, c4, c5, c6⟩ := R_mg m q b4
              obtain ⟨cc, qq, d1, d2⟩ := b3
              unfold f_Q_readValue_107 f_Q_readValue_121 f_m_compileValue_57 f_m_compileValue_72
              rw [if_pos (show xw 0 = 0 by decide), b1, b_bs]
              dsimp only
              rw [c1, if_neg (by decide), b2, b_bs, m_emit_er _ d2.ne, b_bs, d2.advance, b_bs]
              have d3 : bNo cc qq (xvw [1, 2] m1 0) := by show bNo cc qq (m1 1); rw [c2]; exact d1
              rw [d3.next, b_bs]
              obtain ⟨m2, g1, g2, g3, g4, g5, g6⟩ := R_mg m1 (xvw [1, 2] m1) bFc.rfl
              rw [g1]
              exact ⟨0, m2, M', rfl, rfl, (show bFQ m m1 from ⟨c4, c5, c6⟩).trans ⟨g4, g5, g6⟩, b5.toN, by omega, Or.inr ⟨cc, qq, by rw [g2]; exact d3, d2⟩⟩
            · rw [h4, if_neg (show ¬ xw 1 = 0 by decide), if_pos (show (1 : Int) = 1 from rfl)]
              exact ok 4 (-5) h4 (by omega)
          · rw [h3, if_neg (show ¬ xw 1 = 0 by decide), if_pos (show (1 : Int) = 1 from rfl)]
            exact ok 3 (-4) h3 (by omega)
        · rw [h2, if_neg (show ¬ xw 1 = 0 by decide), if_pos (show (1 : Int) = 1 from rfl)]
          exact ok 2 (-3) h2 (by omega)
      · rw [h1, if_neg (show ¬ xw 1 = 0 by decide), if_pos (show (1 : Int) = 1 from rfl)]
        exact ok 1 (-2) h1 (by omega)
    · rw [h0, if_neg (show ¬ xw 1 = 0 by decide), if_pos (show (1 : Int) = 1 from rfl)]
      exact ok 0 (-1) h0 (by omega)
/-- what the class reads of an event -/
theorem Q_value_of {c : Nat} {N : Nat → Int} {m : xM} (hc : m 3 2 = c) (hR : bREv 3 m N) {e : Nat} (he : e < c) {v : Int} (hv : -5 ≤ v ∧ v ≤ 99999) : f_Q_value v (e : Int) m = some (bQv N v e) := by
  obtain ⟨b, c', b1, b2, b3, b4, b5, b6, b7⟩ := hR
  have hcc : c' = c := by rw [b2] at hc; omega
  have gp : ∀ w : Nat, w < 4 → f_G_prop (e : Int) (w : Int) (xvw [3, 4] m) = some (N (1490 + 4 * e + w)) := fun w hw => by
    have hl : (b + e) % 60 < 60 := Nat.mod_lt _ (by decide)
    unfold f_G_prop
    have v0 : xvw [3, 4] m 0 1 = (b : Int) := b1
    have v1 : xvw [3, 4] m 1 = m 4 := rfl
    have hf : f_floorMod (xvw [3, 4] m 0 1 + e) 60 (xvw [] (xvw [3, 4] m)) = some (((b + e) % 60 : Nat) : Int) := by
      rw [v0, show (b : Int) + (e : Int) = ((b + e : Nat) : Int) by omega, show (60 : Int) = ((60 : Nat) : Int) from rfl, b_floorMod _ 60 _ (by omega) (by decide) (by decide)]
    have ww : xw (w : Int) = w := b_xw (by omega)
    rw [hf, b_bs, ww, if_neg (by omega), if_pos (show (w : Int) < xw 4 by show (w : Int) < 4; omega), if_pos (show xib ((((b + e) % 60 : Nat) : Int) * 4 + w) 240 from b_ib (by omega)), v1, b7 e w (by omega) hw]
    congr 2
    rw [b_ix (by omega)]; omega
  have wv : xw v = v := b_xw (by omega)
  have g0 := gp 0 (by omega)
  have g1 := gp 1 (by omega)
  have g2 := gp 2 (by omega)
  have g3 := gp 3 (by omega)
  unfold f_Q_value bQv
  rw [wv]
  by_cases q5 : v = -5
  · rw [if_pos q5, if_neg (by omega), if_neg (by omega), if_neg (by omega), if_neg (by omega), if_pos q5]
    show Option.bind (f_G_prop (e : Int) ((3 : Nat) : Int) (xvw [3, 4] m)) _ = _
    rw [g3, b_bs]
  · rw [if_neg q5]
    by_cases q4 : v = -4
    · rw [if_pos q4, if_neg (by omega), if_neg (by omega), if_neg (by omega), if_pos q4]
      show Option.bind (f_G_prop (e : Int) ((2 : Nat) : Int) (xvw [3, 4] m)) _ = _
      rw [g2, b_bs]
    · rw [if_neg q4]
      by_cases q3 : v = -3
      · rw [if_pos q3, if_neg (by omega), if_neg (by omega), if_pos q3]
        show Option.bind (f_G_prop (e : Int) ((1 : Nat) : Int) (xvw [3, 4] m)) _ = _
        rw [g1, b_bs]
      · rw [if_neg q3]
        by_cases q2 : v = -2
        · rw [if_pos q2, if_neg (by omega), if_pos q2]
          show Option.bind (f_G_prop (e : Int) ((0 : Nat) : Int) (xvw [3, 4] m)) _ = _
          rw [g0, b_bs]
          rfl
        · rw [if_neg q2]
          by_cases q1 : v = -1
          · rw [if_pos q1, if_pos q1]
          · rw [if_neg q1, if_neg q1, if_neg q2, if_neg q3, if_neg q4, if_neg q5]
/-- the mask of a comparison -/
theorem Q_loop {c : Nat} {N : Nat → Int} {m : xM} (hc : m 3 2 = c) (hc60 : c ≤ 60) (hR : bREv 3 m N) {v1 v4 : Int} (h1 : -5 ≤ v1 ∧ v1 ≤ 99999) (h4 : -5 ≤ v4 ∧ v4 ≤ 99999) (x2 x3 o : Int) (ho : (x2 = 1 ∧ o = -20) ∨ (x2 = 0 ∧ x3 = 1 ∧ o = -22) ∨ (x2 = 0 ∧ x3 = 0 ∧ o = -21)) : ∀ (r j X n : Nat), j + r = c → r < n → X < 2 ^ j → (∀ i, i < j → X.testBit i = bSat o (xw (bQv N v1 i)) (xw (bQv N v4 i))) → ∃ X' : Nat, f_Q_comparison_75 n v1 x2 x3 v4 (X : Int) (j : Int) m = some ((X' : Int), m) ∧ X' < 2 ^ c ∧ ∀ i, i < c → X'.testBit i = bSat o (xw (bQv N v1 i)) (xw (bQv N v4 i)) := by
  intro r
  induction r with
  | zero =>
    intro j X n hj hn hX hb
    obtain ⟨p, rfl⟩ : ∃ p, n = p + 1 := ⟨n - 1, by omega⟩
    have hjc : j = c := by omega
    rw [f_Q_comparison_75, hc, if_neg (by rw [hjc]; omega)]
    exact ⟨X, rfl, by rw [← hjc]; exact hX, fun i hi => hb i (by omega)⟩
  | succ r ih =>
    intro j X n hj hn hX hb
    obtain ⟨p, rfl⟩ : ∃ p, n = p + 1 := ⟨n - 1, by omega⟩
    have hp := p60 (c := j) (by omega)
    have wj : xw (j : Int) = j := b_xw (by omega)
    have wc : xw (c : Int) = c := b_xw (by omega)
    have wa := xw_in (bQv N v1 j)
    have wb := xw_in (bQv N v4 j)
    have hX1 : X < 2 ^ (j + 1) := Nat.lt_of_lt_of_le hX (Nat.pow_le_pow_right (by decide) (by omega))
    have e145 : bSat o (xw (bQv N v1 j)) (xw (bQv N v4 j)) = false → ∃ X' : Nat, f_Q_comparison_145 (f_Q_comparison_75 p) v1 x2 x3 v4 (X : Int) (j : Int) m = some ((X' : Int), m) ∧ X' < 2 ^ c ∧ ∀ i, i < c → X'.testBit i = bSat o (xw (bQv N v1 i)) (xw (bQv N v4 i)) := fun hf => by
      refine ih (j + 1) X p (by omega) (by omega) hX1 (fun i hi => ?_)
      by_cases hij : i = j
      · rw [hij, hf]; exact Nat.testBit_lt_two_pow hX
      · exact hb i (by omega)
    have e136 : bSat o (xw (bQv N v1 j)) (xw (bQv N v4 j)) = true → ∃ X' : Nat, f_Q_comparison_136 (f_Q_comparison_75 p) v1 x2 x3 v4 (X : Int) (j : Int) m = some ((X' : Int), m) ∧ X' < 2 ^ c ∧ ∀ i, i < c → X'.testBit i = bSat o (xw (bQv N v1 i)) (xw (bQv N v4 i)) := fun hf => by
      unfold f_Q_comparison_136
      rw [xlshl_n j (by omega), xlor_n X (2 ^ j) (by omega) (by omega)]
      have hlt : 2 ^ j < 2 ^ (j + 1) := Nat.pow_lt_pow_right (by decide) (by omega)
      refine ih (j + 1) (X ||| 2 ^ j) p (by omega) (by omega) (Nat.or_lt_two_pow hX1 hlt) (fun i hi => ?_)
      rw [Nat.testBit_or, Nat.testBit_two_pow]
      by_cases hij : i = j
      · rw [hij, hf]; simp
      · rw [hb i (by omega)]
        simp [show ¬ j = i by omega]
    rw [f_Q_comparison_75, hc, wj, wc, if_pos (by omega), Q_value_of hc hR (show j < c by omega) h1, b_bs, Q_value_of hc hR (show j < c by omega) h4, b_bs]
    unfold f_icompare
    generalize hga : xw (bQv N v1 j) = a at e145 e136 wa ⊢
    generalize hgb : xw (bQv N v4 j) = b at e145 e136 wb ⊢
    rcases ho with ⟨u1, u2⟩ | ⟨u1, u2, u3⟩ | ⟨u1, u2, u3⟩
    · have es : bSat o a b = decide (a < b) := by unfold bSat; rw [u2, if_pos rfl]
      rw [es] at e145 e136
      have key : (Option.bind (if a < b then some (-1) else if a = b then some 0 else some (1 : Int)) fun q7 => if xw x2 = 0 then (if xw x3 = 0 then (if xw q7 = 0 then f_Q_comparison_136 (f_Q_comparison_75 p) v1 x2 x3 v4 (X : Int) (j : Int) m else f_Q_comparison_145 (f_Q_comparison_75 p) v1 x2 x3 v4 (X : Int) (j : Int) m) else (if 0 < xw q7 then f_Q_comparison_136 (f_Q_comparison_75 p) v1 x2 x3 v4 (X : Int) (j : Int) m else f_Q_comparison_145 (f_Q_comparison_75 p) v1 x2 x3 v4 (X : Int) (j : Int) m)) else (if xw q7 < 0 then f_Q_comparison_136 (f_Q_comparison_75 p) v1 x2 x3 v4 (X : Int) (j : Int) m else f_Q_comparison_145 (f_Q_comparison_75 p) v1 x2 x3 v4 (X : Int) (j : Int) m)) = (if a < b then f_Q_comparison_136 (f_Q_comparison_75 p) v1 x2 x3 v4 (X : Int) (j : Int) m else f_Q_comparison_145 (f_Q_comparison_75 p) v1 x2 x3 v4 (X : Int) (j : Int) m) := by
        by_cases g1 : a < b
        · rw [if_pos g1, if_pos g1, b_bs, u1, if_neg (by decide), if_pos (by decide)]
        · rw [if_neg g1, if_neg g1]
          by_cases g2 : a = b
          · rw [if_pos g2, b_bs, u1, if_neg (by decide), if_neg (by decide)]
          · rw [if_neg g2, b_bs, u1, if_neg (by decide), if_neg (by decide)]
      rw [key]
      by_cases g1 : a < b
      · rw [if_pos g1]; exact e136 (decide_eq_true g1)
      · rw [if_neg g1]; exact e145 (decide_eq_false g1)
    · have es : bSat o a b = decide (b < a) := by unfold bSat; rw [u3, if_neg (by decide), if_neg (by decide)]
      rw [es] at e145 e136
      have key : (Option.bind (if a < b then some (-1) else if a = b then some 0 else some (1 : Int)) fun q7 => if xw x2 = 0 then (if xw x3 = 0 then (if xw q7 = 0 then f_Q_comparison_136 (f_Q_comparison_75 p) v1 x2 x3 v4 (X : Int) (j : Int) m else f_Q_comparison_145 (f_Q_comparison_75 p) v1 x2 x3 v4 (X : Int) (j : Int) m) else (if 0 < xw q7 then f_Q_comparison_136 (f_Q_comparison_75 p) v1 x2 x3 v4 (X : Int) (j : Int) m else f_Q_comparison_145 (f_Q_comparison_75 p) v1 x2 x3 v4 (X : Int) (j : Int) m)) else (if xw q7 < 0 then f_Q_comparison_136 (f_Q_comparison_75 p) v1 x2 x3 v4 (X : Int) (j : Int) m else f_Q_comparison_145 (f_Q_comparison_75 p) v1 x2 x3 v4 (X : Int) (j : Int) m)) = (if b < a then f_Q_comparison_136 (f_Q_comparison_75 p) v1 x2 x3 v4 (X : Int) (j : Int) m else f_Q_comparison_145 (f_Q_comparison_75 p) v1 x2 x3 v4 (X : Int) (j : Int) m) := by
        by_cases g1 : a < b
        · rw [if_pos g1, if_neg (show ¬ b < a by omega), b_bs, u1, u2, if_pos (by decide), if_neg (by decide), if_neg (by decide)]
        · rw [if_neg g1]
          by_cases g2 : a = b
          · rw [if_pos g2, if_neg (show ¬ b < a by omega), b_bs, u1, u2, if_pos (by decide), if_neg (by decide), if_neg (by decide)]
          · rw [if_neg g2, if_pos (show b < a by omega), b_bs, u1, u2, if_pos (by decide), if_neg (by decide), if_pos (by decide)]
      rw [key]
      by_cases g1 : b < a
      · rw [if_pos g1]; exact e136 (decide_eq_true g1)
      · rw [if_neg g1]; exact e145 (decide_eq_false g1)
    · have es : bSat o a b = decide (a = b) := by unfold bSat; rw [u3, if_neg (by decide), if_pos rfl]
      rw [es] at e145 e136
      have key : (Option.bind (if a < b then some (-1) else if a = b then some 0 else some (1 : Int)) fun q7 => if xw x2 = 0 then (if xw x3 = 0 then (if xw q7 = 0 then f_Q_comparison_136 (f_Q_comparison_75 p) v1 x2 x3 v4 (X : Int) (j : Int) m else f_Q_comparison_145 (f_Q_comparison_75 p) v1 x2 x3 v4 (X : Int) (j : Int) m) else (if 0 < xw q7 then f_Q_comparison_136 (f_Q_comparison_75 p) v1 x2 x3 v4 (X : Int) (j : Int) m else f_Q_comparison_145 (f_Q_comparison_75 p) v1 x2 x3 v4 (X : Int) (j : Int) m)) else (if xw q7 < 0 then f_Q_comparison_136 (f_Q_comparison_75 p) v1 x2 x3 v4 (X : Int) (j : Int) m else f_Q_comparison_145 (f_Q_comparison_75 p) v1 x2 x3 v4 (X : Int) (j : Int) m)) = (if a = b then f_Q_comparison_136 (f_Q_comparison_75 p) v1 x2 x3 v4 (X : Int) (j : Int) m else f_Q_comparison_145 (f_Q_comparison_75 p) v1 x2 x3 v4 (X : Int) (j : Int) m) := by
        by_cases g1 : a < b
        · rw [if_pos g1, if_neg (show ¬ a = b by omega), b_bs, u1, u2, if_pos (by decide), if_pos (by decide), if_neg (by decide)]
        · rw [if_neg g1]
          by_cases g2 : a = b
          · rw [if_pos g2, if_pos g2, b_bs, u1, u2, if_pos (by decide), if_pos (by decide), if_pos (by decide)]
          · rw [if_neg g2, if_neg g2, b_bs, u1, u2, if_pos (by decide), if_pos (by decide), if_neg (by decide)]
      rw [key]
      by_cases g1 : a = b
      · rw [if_pos g1]; exact e136 (decide_eq_true g1)
      · rw [if_neg g1]; exact e145 (decide_eq_false g1)
theorem sign_ex {m : xM} (h1 : f_T_isSign 61 m = some 1) (h2 : f_T_isSign 62 m = some 1) : False := by
  unfold f_T_isSign at h1 h2
  by_cases c1 : xw (m 0 2) = xw 3
  · rw [if_pos c1] at h1 h2
    by_cases c2 : xib (m 0 3) 600
    · rw [if_pos c2] at h1 h2
      by_cases c3 : xw (m 1 (xix (m 0 3))) = xw 61
      · rw [c3, if_neg (by decide)] at h2; exact absurd (Option.some.inj h2) (by decide)
      · rw [if_neg c3] at h1; exact absurd (Option.some.inj h1) (by decide)
    · rw [if_neg c2] at h1; cases h1
  · rw [if_neg c1] at h1; exact absurd (Option.some.inj h1) (by decide)
/-- a part of a query read by both: the mask of the class, the code of the reference -/
def bRes (B : Nat → Int) (L s c : Nat) (N : Nat → Int) (C : Nat) (m M : xM) (fc : Option (Int × xM)) (fm : Option xM) : Prop := ∃ (x : Int) (m' M' : xM), fc = some (x, m') ∧ fm = some M' ∧ bFQ m m' ∧ bFN M M' ∧ ((∃ s' e' X C' : Nat, s < s' ∧ bGo B L s' e' (m' 1) (m' 2) M' ∧ x = (X : Int) ∧ X < 2 ^ c ∧ M' 0 25 = (C' : Int) ∧ C < C' ∧ C' + s ≤ s' + C ∧ M' 0 21 = M 0 21 ∧ (∀ i, i < C → M' 10 i = M 10 i) ∧ ∀ e, e < c → bSeg (M' 10) N e C C' (bb (X.testBit e))) ∨ bEr B L (m' 1) M')
def m_cmp (FF : xM → Option xM) (M : xM) : Option xM := Option.bind (f_m_compileValue M) fun q2 => Option.bind (f_m_isSymbol 60 q2) fun q3 => if xw q3 = 0 then (Option.bind (f_m_isSymbol 61 q2) fun q4 => if xw q4 = 0 then f_m_compileFactorB_121 FF (-22) q2 else f_m_compileFactorB_121 FF (-21) q2) else f_m_compileFactorB_121 FF (-20) q2
theorem bNoM.m143 {FF : xM → Option xM} {B : Nat → Int} {L : Nat} {c x1 s0 : Int} {q : Nat} {M : xM} (h : bNoM B L c q M) : f_m_compileFactorB_143 FF x1 s0 M = some M := by
  unfold f_m_compileFactorB_143
  rw [h.check, b_bs, h.advance, b_bs, h.value, b_bs, m_emit_er _ h.ne, b_bs]
theorem bNoM.cmp {FF : xM → Option xM} {B : Nat → Int} {L : Nat} {c : Int} {q : Nat} {M : xM} (h : bNoM B L c q M) : m_cmp FF M = some M := by
  unfold m_cmp
  rw [h.value, b_bs, h.symbol, b_bs, if_pos (by decide), h.symbol, b_bs, if_pos (by decide)]
  unfold f_m_compileFactorB_121
  rw [if_pos rfl, h.symbol, b_bs, if_pos (by decide), h.m143]
theorem Q_cmp_sp {FF : xM → Option xM} {B : Nat → Int} {L s e C c : Nat} {N : Nat → Int} {m M : xM} (G : bGo B L s e (m 1) (m 2) M) (hS : bQs c N m M) (hL : L ≤ 200) (hC : M 0 25 = C) (hCs : C ≤ s) : bRes B L s c N C m M (f_Q_comparison m) (m_cmp FF M) := by
  obtain ⟨v1, m1, M1, a1, a2, a3, a4, a5, a6⟩ := Q_value_sp G hL hC hCs
  unfold f_Q_comparison m_cmp
  rw [a1, a2, b_bs, b_bs]
  dsimp only
  rcases a6 with ⟨s1, e1, g1, G1, g3, g4, g5, g6⟩ | ⟨cc, qq, d1, d2⟩
  · have G1' : bGo B L s1 e1 (xvw [1, 2] m1 0) (xvw [1, 2] m1 1) M1 := G1
    have hS1 := hS.cg a3 a4
    obtain ⟨x60, y60, z60, w60⟩ := G1'.sign 60 (by omega)
    obtain ⟨x61, y61, z61, w61⟩ := G1'.sign 61 (by omega)
    obtain ⟨x62, y62, z62, w62⟩ := G1'.sign 62 (by omega)
    have sk : ∀ z x : Int, f_T_isSign z (xvw [1, 2] m1) = some x → x = 1 → bK B L s1 ≠ 0 := fun z x h1 h2 h0 => by
      unfold f_T_isSign at h1
      rw [show xvw [1, 2] m1 0 2 = bK B L s1 from G1.isK.1, h0, if_neg (by decide)] at h1
      have := Option.some.inj h1
      omega
    have good : ∀ o : Int, (o = -20 ∨ o = -21 ∨ o = -22) → ((x60 = 1 ∧ o = -20) ∨ (x60 = 0 ∧ x62 = 1 ∧ o = -22) ∨ (x60 = 0 ∧ x62 = 0 ∧ o = -21)) → bK B L s1 ≠ 0 → bRes B L s c N C m M (f_Q_comparison_56 v1 x60 x62 m1) (f_m_compileFactorB_143 FF o 1 M1) := fun o ho hx hk => by
      obtain ⟨q, M2, s2, e2, b1, b2, b3, b4, b5, b6⟩ := G1'.next
      obtain ⟨m2, c1, c2, c3, c4, c5, c6⟩ := R_mg m1 q b4
      have hlt := G1.lt hk
      have G2 : bGo B L s2 e2 (m2 1) (m2 2) M2 := by rw [c2, c3]; exact b3
      have h25 : M2 0 25 = ((C + 1 : Nat) : Int) := by rw [b5.2 25 (by omega), g3]
      obtain ⟨v4, m3, M3, k1, k2, k3, k4, k5, k6⟩ := Q_value_sp G2 hL h25 (by omega)
      have f12 : bFQ m1 m2 := ⟨c4, c5, c6⟩
      have hS3 := (hS1.cg f12 b5.toN).cg k3 k4
      unfold f_Q_comparison_56 f_m_compileFactorB_143
      rw [b1, b_bs, c1, k1, b_bs]
      dsimp only
      rw [m_check_1, b_bs, m_advance_0 G1.err, b2, b_bs, k2, b_bs]
      have hlp : ∃ X' : Nat, f_Q_comparison_75 fu v1 x60 x62 v4 ((0 : Nat) : Int) ((0 : Nat) : Int) m3 = some ((X' : Int), m3) ∧ X' < 2 ^ c ∧ ∀ i, i < c → X'.testBit i = bSat o (xw (bQv N v1 i)) (xw (bQv N v4 i)) :=
        Q_loop hS3.2.1 hS3.2.2.1 hS3.2.2.2 a5 k5 x60 x62 o hx c 0 0 fu (by omega) (by have := hS3.2.2.1; unfold fu; omega) (by decide) (fun i hi => by omega)
      obtain ⟨X, X1, X2, X3⟩ := hlp
      have X1' : f_Q_comparison_75 fu v1 x60 x62 v4 0 0 m3 = some ((X : Int), m3) := X1
      rw [X1']
      rcases k6 with ⟨s3, e3, j1, G3, j3, j4, j5, j6⟩ | ⟨cc, qq, d1, d2⟩
      · have hle := G3.2.1
        rw [m_emit_go o G3.err j3 (by omega), b_bs]
        have p1 : ∀ i, i < C → bPut M3 (C + 1 + 1) o 10 i = M 10 i := fun i hi => by rw [bPut_d _ _ _ (by omega), j5 i (by omega), b5.1 10 (by omega), g5 i (by omega)]
        have p2 : bPut M3 (C + 1 + 1) o 10 C = v1 := by rw [bPut_d _ _ _ (by omega), j5 C (by omega), b5.1 10 (by omega), g6]
        have p3 : bPut M3 (C + 1 + 1) o 10 (C + 1) = v4 := by rw [bPut_d _ _ _ (by omega), j6]
        have p4 : bPut M3 (C + 1 + 1) o 10 (C + 1 + 1) = o := bPut_s _ _ _
        refine ⟨(X : Int), m3, bPut M3 (C + 1 + 1) o, rfl, rfl, (a3.trans f12).trans k3, ((a4.trans b5.toN).trans k4).trans (bPut_N _ _ _), Or.inl ⟨s3, e3, X, C + 1 + 1 + 1, by omega, G3.put _ _, rfl, X2, bPut_25 _ _ _, by omega, by omega, by rw [bPut_0 _ _ _ (by omega), j4, b5.2 21 (by omega), g4], p1, fun ev hev => ?_⟩⟩
        have hc60 := hS.2.2.1
        have hop : bOp o := by rcases ho with u | u | u <;> rw [u] <;> unfold bOp <;> omega
        refine bSeg.op (seg_val (by omega) a5 p2) (seg_val (by omega) k5 p3) hop p4 (fun Q => ?_)
        rw [op_cmp ho, X3 ev hev]
        rfl
      · rw [m_emit_er _ d2.ne, b_bs]
        exact ⟨(X : Int), m3, M3, rfl, rfl, (a3.trans f12).trans k3, (a4.trans b5.toN).trans k4, Or.inr ⟨cc, qq, d1, d2⟩⟩
    rw [z60, z62, w60, b_bs, b_bs, b_bs]
    rcases y60 with u60 | u60
    · rw [u60, if_pos (show xw 0 = 0 by decide), if_pos (show xw 0 = 0 by decide), w61, b_bs]
      rw [u60] at good
      rcases y62 with u62 | u62
      · rw [u62, if_pos (show xw 0 = 0 by decide), z61, b_bs]
        rw [u62] at good w62
        rcases y61 with u61 | u61
        · rw [u61, if_pos (show xw 0 = 0 by decide), if_pos (show xw 0 = 0 by decide)]
          obtain ⟨q, M2, b1, b2, b3, b4, b5⟩ := G1'.fail 1 0 (by omega) rfl
          obtain ⟨m2, c1, c2, c3, c4, c5, c6⟩ := R_mg m1 q b4
          obtain ⟨cc, qq, d1, d2⟩ := b3
          rw [b1, b_bs]
          dsimp only
          rw [c1]
          unfold f_m_compileFactorB_121
          rw [if_pos rfl, w62, b_bs, if_pos (by decide)]
          unfold f_m_compileFactorB_143
          rw [b2, b_bs, d2.advance, b_bs, d2.value, b_bs, m_emit_er _ d2.ne, b_bs]
          exact ⟨0, m2, M2, rfl, rfl, a3.trans ⟨c4, c5, c6⟩, a4.trans b5.toN, Or.inr ⟨cc, qq, by rw [c2]; exact d1, d2⟩⟩
        · rw [if_neg (show ¬ xw x61 = 0 by rw [u61]; decide), if_neg (show ¬ xw x61 = 0 by rw [u61]; decide)]
          unfold f_m_compileFactorB_121 f_m_compileFactorB_138
          rw [if_neg (by decide)]
          exact good (-21) (Or.inr (Or.inl rfl)) (Or.inr (Or.inr ⟨rfl, rfl, rfl⟩)) (sk 61 x61 z61 u61)
      · have u61 : x61 = 0 := by
          rcases y61 with u | u
          · exact u
          · rw [u] at z61; rw [u62] at z62; exact (sign_ex z61 z62).elim
        rw [u61, if_pos (show xw 0 = 0 by decide), if_neg (show ¬ xw x62 = 0 by rw [u62]; decide)]
        unfold f_m_compileFactorB_121 f_m_compileFactorB_138
        rw [if_pos rfl, w62, b_bs, if_neg (show ¬ xw x62 = 0 by rw [u62]; decide)]
        exact good (-22) (Or.inr (Or.inr rfl)) (Or.inr (Or.inl ⟨rfl, u62, rfl⟩)) (sk 62 x62 z62 u62)
    · rw [if_neg (show ¬ xw x60 = 0 by rw [u60]; decide), if_neg (show ¬ xw x60 = 0 by rw [u60]; decide)]
      unfold f_m_compileFactorB_121 f_m_compileFactorB_138
      rw [if_neg (by decide)]
      exact good (-20) (Or.inl rfl) (Or.inl ⟨u60, rfl⟩) (sk 60 x60 z60 u60)
  · have d3 : bNo cc qq (xvw [1, 2] m1 0) := d1
    obtain ⟨m2, c1, c2, c3, c4, c5, c6⟩ := R_mg m1 (xvw [1, 2] m1) bFc.rfl
    rw [d3.sign, b_bs, d3.sign, b_bs, if_pos (by decide), if_pos (by decide), d3.sign, b_bs, if_pos (by decide), d3.fail, b_bs]
    dsimp only
    rw [c1, d2.symbol, b_bs, if_pos (by decide), d2.symbol, b_bs, if_pos (by decide)]
    unfold f_m_compileFactorB_121
    rw [if_pos rfl, d2.symbol, b_bs, if_pos (by decide), d2.m143]
    exact ⟨0, m2, M1, rfl, rfl, a3.trans ⟨c4, c5, c6⟩, a4, Or.inr ⟨cc, qq, by rw [c2]; exact d1, d2⟩⟩

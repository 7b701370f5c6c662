/-! ===== the clauses of a line's text ===== -/
theorem bEq_1 (B : Nat → Int) (w s : Nat) : ∀ n i, bEq B w s n i = 1 → ∀ k, k < n → xw (B (s + i + k)) = xw (xsc w (i + k)) := by
  intro n
  induction n with
  | zero => intro i _ k hk; omega
  | succ n ih =>
    intro i h k hk
    unfold bEq at h
    by_cases c : xw (B (s + i)) = xw (xsc w i)
    · rw [if_pos c] at h
      by_cases hk0 : k = 0
      · rw [hk0]; exact c
      · have := ih (i + 1) h (k - 1) (by omega)
        rw [show s + (i + 1) + (k - 1) = s + i + k by omega, show i + 1 + (k - 1) = i + k by omega] at this
        exact this
    · rw [if_neg c] at h; omega
theorem bWx : ∀ v, v < 8 → ∀ w, w < 8 → v ≠ w → (xSby.getD (12 + v) []).length = (xSby.getD (12 + w) []).length → ∃ i, i < (xSby.getD (12 + v) []).length ∧ xw (xsc (12 + v) i) ≠ xw (xsc (12 + w) i) := by decide +kernel
/-- which word stands -/
theorem go_words {B : Nat → Int} {L s e : Nat} {m M : xM} (h : bGo B L s e (m 0) (m 1) M) : ∃ X : Nat → Int, (∀ w, (X w = 0 ∨ X w = 1) ∧ f_T_isWord w m = some (X w) ∧ f_m_isWord w M = some (X w)) ∧ ∀ v w, v < 8 → w < 8 → X (12 + v) = 1 → X (12 + w) = 1 → v = w := by
  have hX : ∀ w, ∃ x : Int, (x = 0 ∨ x = 1) ∧ f_T_isWord w m = some x ∧ f_m_isWord w M = some x := fun w => by
    obtain ⟨x, a, b, c, _⟩ := h.word w
    exact ⟨x, a, b, c⟩
  refine ⟨fun w => (hX w).choose, fun w => (hX w).choose_spec, fun v w hv hw h1 h2 => ?_⟩
  have g1 := (hX (12 + v)).choose_spec.2.1
  have g2 := (hX (12 + w)).choose_spec.2.1
  rw [show (hX (12 + v)).choose = 1 from h1] at g1
  rw [show (hX (12 + w)).choose = 1 from h2] at g2
  obtain ⟨⟨t1, t2, t3, t4⟩, u2, u3, u4, u5, u6, _⟩ := h
  have kq := bK_in B L s
  have key : ∀ w, f_T_isWord w m = some 1 → e - s = (xSby.getD w []).length ∧ ∀ k, k < (xSby.getD w []).length → xw (B (s + k)) = xw (xsc w k) := fun w g => by
    have hl := bLen w
    unfold f_T_isWord at g
    by_cases c1 : xw (m 0 2) = xw 1
    · rw [if_pos c1] at g
      by_cases c2 : xw ((m 0 4) - (m 0 3)) = xw (xsl w)
      · rw [if_pos c2] at g
        have c3 : e - s = (xSby.getD w []).length := by
          unfold xsl at c2
          rw [u5, u6, b_xw (by omega), b_xw (by omega)] at c2
          omega
        have := T_word_28 B w s (4999 - (xSby.getD w []).length) m u5 (by omega) (xSby.getD w []).length 0 (by omega) (by omega) (fun k hk => (t4 _ (by omega)).1)
        rw [show 4999 - (xSby.getD w []).length + (xSby.getD w []).length + 1 = fu by unfold fu; omega] at this
        have e0 : f_T_isWord_28 w m fu 0 = some (bEq B w s (xSby.getD w []).length 0) := this
        rw [e0] at g
        refine ⟨c3, fun k hk => ?_⟩
        have := bEq_1 B w s _ 0 (Option.some.inj g) k hk
        rw [Nat.add_zero, Nat.zero_add] at this
        exact this
      · rw [if_neg c2] at g
        have := Option.some.inj g
        omega
    · rw [if_neg c1] at g
      have := Option.some.inj g
      omega
  obtain ⟨k1, k2⟩ := key _ g1
  obtain ⟨k3, k4⟩ := key _ g2
  by_cases c : v = w
  · exact c
  · obtain ⟨i, i1, i2⟩ := bWx v hv w hw c (by omega)
    exact absurd ((k2 i i1).symm.trans (k4 i (by omega))) i2
theorem m_accept_0 {w : Nat} {M : xM} (h : f_m_isWord w M = some 0) : f_m_accept w M = some (0, M) := by
  unfold f_m_accept
  rw [h, Option.bind_some, if_pos (by decide), if_pos (by decide)]
theorem m_accept_1 {w : Nat} {M M' : xM} (h : f_m_isWord w M = some 1) (h2 : f_m_scan M = some M') : f_m_accept w M = some (1, M') := by
  unfold f_m_accept
  rw [h, Option.bind_some, if_neg (by decide), h2, Option.bind_some, if_pos (by decide)]
/-- what the reader of the class leaves alone -/
def bFR (m m' : xM) : Prop := (∀ k, k = 0 ∨ k = 2 ∨ 8 ≤ k → m' k = m k) ∧ m' 1 0 = m 1 0 ∧ m' 1 1 = m 1 1
theorem bFR.rfl {m : xM} : bFR m m := ⟨fun _ _ => _root_.rfl, _root_.rfl, _root_.rfl⟩
theorem bFR.trans {m m1 m2 : xM} (h : bFR m m1) (g : bFR m1 m2) : bFR m m2 := ⟨fun k hk => by rw [g.1 k hk, h.1 k hk], by rw [g.2.1, h.2.1], by rw [g.2.2, h.2.2]⟩
/-- the draft -/
def bDr (m M : xM) : Prop := bRP (bUp m) (M 2) ∧ M 2 2 = m 3 6 ∧ 0 ≤ m 3 6 ∧ m 3 6 ≤ 9
theorem bRP.one {m m' : xM} {N N' : Nat → Int} {x : Int} (h : bRP m N) (j f : Nat) (hjf : (j = 7 ∧ f = 12 ∧ 0 ≤ x ∧ x ≤ 9) ∨ (j = 8 ∧ f = 13 ∧ 0 ≤ x ∧ x ≤ 50) ∨ (j = 9 ∧ f = 14 ∧ 1 ≤ x ∧ x ≤ 7) ∨ (j = 12 ∧ f = 17 ∧ 1 ≤ x ∧ x ≤ 5) ∨ (j = 13 ∧ f = 18 ∧ 1 ≤ x ∧ x ≤ 50)) (h1 : m' 33 j = x) (h2 : N' f = x) (h3 : ∀ i, 4 ≤ i → i ≠ j → m' 33 i = m 33 i) (h4 : ∀ i, i ≠ f → N' i = N i) (h5 : ∀ k, 34 ≤ k → k ≤ 37 → m' k = m k) : bRP m' N' := by
  obtain ⟨a, b, c, d, e, f', g, i, j', k1, l1, n1⟩ := h
  have h34 := h5 34 (by omega) (by omega)
  have h35 := h5 35 (by omega) (by omega)
  have h36 := h5 36 (by omega) (by omega)
  have h37 := h5 37 (by omega) (by omega)
  unfold bRP
  rw [h34, h35, h36, h37]
  have q4 : m' 33 4 = m 33 4 := h3 4 (by omega) (by omega)
  have q5 : m' 33 5 = m 33 5 := h3 5 (by omega) (by omega)
  have q10 : m' 33 10 = m 33 10 := h3 10 (by omega) (by omega)
  have q11 : m' 33 11 = m 33 11 := h3 11 (by omega) (by omega)
  rw [q4, q5, q10, q11, h4 11 (by omega), h4 15 (by omega), h4 16 (by omega), h4 19 (by omega)]
  refine ⟨a, ?_, ?_, ?_, e, f', ?_, ?_, j', fun s hs => by rw [h4 _ (by omega)]; exact k1 s hs, fun i hi => by rw [h4 _ (by omega)]; exact l1 i hi, fun i hi => by rw [h4 _ (by omega), h4 _ (by omega)]; exact n1 i hi⟩
  · rcases hjf with ⟨u1, u2, u3⟩ | ⟨u1, u2, u3⟩ | ⟨u1, u2, u3⟩ | ⟨u1, u2, u3⟩ | ⟨u1, u2, u3⟩
    · rw [u1] at h1; rw [u2] at h2; rw [h1, h2]; exact ⟨rfl, u3⟩
    all_goals (rw [h4 12 (by omega), h3 7 (by omega) (by omega)]; exact b)
  · rcases hjf with ⟨u1, u2, u3⟩ | ⟨u1, u2, u3⟩ | ⟨u1, u2, u3⟩ | ⟨u1, u2, u3⟩ | ⟨u1, u2, u3⟩
    rotate_left
    · rw [u1] at h1; rw [u2] at h2; rw [h1, h2]; exact ⟨rfl, u3⟩
    all_goals (rw [h4 13 (by omega), h3 8 (by omega) (by omega)]; exact c)
  · rcases hjf with ⟨u1, u2, u3⟩ | ⟨u1, u2, u3⟩ | ⟨u1, u2, u3⟩ | ⟨u1, u2, u3⟩ | ⟨u1, u2, u3⟩
    rotate_left 2
    · rw [u1] at h1; rw [u2] at h2; rw [h1, h2]; exact ⟨rfl, u3⟩
    all_goals (rw [h4 14 (by omega), h3 9 (by omega) (by omega)]; exact d)
  · rcases hjf with ⟨u1, u2, u3⟩ | ⟨u1, u2, u3⟩ | ⟨u1, u2, u3⟩ | ⟨u1, u2, u3⟩ | ⟨u1, u2, u3⟩
    rotate_left 3
    · rw [u1] at h1; rw [u2] at h2; rw [h1, h2]; exact ⟨rfl, u3⟩
    all_goals (rw [h4 17 (by omega), h3 12 (by omega) (by omega)]; exact g)
  · rcases hjf with ⟨u1, u2, u3⟩ | ⟨u1, u2, u3⟩ | ⟨u1, u2, u3⟩ | ⟨u1, u2, u3⟩ | ⟨u1, u2, u3⟩
    rotate_left 4
    · rw [u1] at h1; rw [u2] at h2; rw [h1, h2]; exact ⟨rfl, u3⟩
    all_goals (rw [h4 18 (by omega), h3 13 (by omega) (by omega)]; exact i)
/-- a clause of one number -/
theorem R_numc {B : Nat → Int} {L f0 : Nat} {m q6 M M6 : xM} (j f : Nat) (a b : Int) (hab : 0 ≤ a ∧ a ≤ b ∧ b ≤ 99999) (hf : f = 2 ∨ (11 ≤ f ∧ f < 20)) (hq : bFc (xvw [1, 2] m) q6) (hM : bFm M M6) (h : bSs B L f0 (q6 0) (q6 1) M6) : ∃ (m' M1 M' : xM), (Option.bind (f_T_takeLast a b (xvw [1, 2] (xmg [1, 2] 2 m q6))) fun q7 => some (xu (xmg [1, 2] 2 (xmg [1, 2] 2 m q6) q7.2) 3 j q7.1)) = some m' ∧ f_m_readOne (f : Int) a b M6 = some M1 ∧ f_m_expect 59 M1 = some M' ∧ bFR m m' ∧ bF2 M M' ∧ (∀ i, i ≠ f → M' 2 i = M 2 i) ∧ ((∃ s' e', f0 < s' ∧ bGo B L s' e' (m' 1) (m' 2) M' ∧ M' 2 f = m' 3 j ∧ a ≤ m' 3 j ∧ m' 3 j ≤ b ∧ (∀ i, i ≠ j → m' 3 i = m 3 i) ∧ ∀ k, 4 ≤ k → m' k = m k) ∨ bEr B L (m' 1) M') := by
  obtain ⟨n1, e1, e2, e3, e4, e5, e6⟩ := R_mg m q6 hq
  rw [e1]
  obtain ⟨q, x, M1, M', a1, a2, a3, a4, a5, a6, a7⟩ := R_one (m := xvw [1, 2] n1) f a b hab hf (show bSs B L f0 (n1 1) (n1 2) M6 by rw [e2, e3]; exact h)
  obtain ⟨n2, g1, g2, g3, g4, g5, g6⟩ := R_mg n1 q a4
  rw [a1, Option.bind_some]
  dsimp only
  rw [g1]
  refine ⟨_, M1, M', rfl, a2, a3, ⟨fun k hk => by rw [xu_K (by omega), g4 k (by omega), e4 k (by omega)], by rw [xu_k (by omega), g5, e5], by rw [xu_k (by omega), g6, e6]⟩, hM.to.trans a5, fun i hi => by rw [a6 i hi, hM.1 2 (by omega)], ?_⟩
  rw [xu_K (show 1 ≠ 3 by omega), xu_K (show 2 ≠ 3 by omega), xu_s rfl, g2, g3]
  rcases a7 with ⟨s', e', b1, b2, b3, b4, b5⟩ | b1
  · exact Or.inl ⟨s', e', b1, b2, b3, b4, b5, fun i hi => by rw [xu_d hi, g4 3 (by omega), e4 3 (by omega)], fun k hk => by rw [xu_K (by omega), g4 k (by omega), e4 k (by omega)]⟩
  · exact Or.inr b1

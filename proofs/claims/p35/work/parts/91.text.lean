/-! ===== the whole text of a line ===== -/
/-- the reference's draft, cleared -/
def bCl (N : Nat → Int) : Prop := (N 12 = 2 ∧ N 13 = 5 ∧ N 14 = 4 ∧ N 15 = 1 ∧ N 16 = 3 ∧ N 17 = 2 ∧ N 18 = 8 ∧ N 19 = 1) ∧ (∀ j, 21 ≤ j → j < 25 → N j = 2) ∧ ∀ j, (j < 12 ∨ j = 20 ∨ 25 ≤ j) → j < 3530 → N j = 0
theorem D_mg (m q : xM) : ∃ m' : xM, xmg [3, 4, 5, 6, 7] 5 m q = m' ∧ (m' 3 = q 0 ∧ m' 4 = q 1 ∧ m' 5 = q 2 ∧ m' 6 = q 3 ∧ m' 7 = q 4) ∧ ∀ k, (k < 3 ∨ 8 ≤ k) → m' k = m k := by
  refine ⟨_, rfl, ⟨rfl, rfl, rfl, rfl, rfl⟩, fun k hk => xmg_no _ _ ?_⟩
  show xpos [3, 4, 5, 6, 7] 0 k = none
  unfold xpos xpos xpos xpos xpos xpos
  rw [if_neg (by omega), if_neg (by omega), if_neg (by omega), if_neg (by omega), if_neg (by omega)]
theorem no_read_11 {B : Nat → Int} {L : Nat} {c : Int} {q : Nat} {M : xM} (h : bNoM B L c q M) (h11 : M 2 11 = 0) : (Option.bind (f_m_readRate M) fun q4 => f_m_readAll_32 fu q4) = some M := by
  rw [no_rate h 0 (by omega) h11, Option.bind_some]
  have e : f_m_readAll_32 fu M = f_m_readAll_86 fu M := no_32 h 4999
  rw [e]
  exact no_all h 4999
theorem no_read_2 {B : Nat → Int} {L : Nat} {c : Int} {q : Nat} {M : xM} (h : bNoM B L c q M) (h11 : M 2 11 = 0) : (Option.bind (f_m_readOne 2 0 9 M) fun q1 => (Option.bind (f_m_expect 59 q1) fun q2 => (Option.bind (f_m_expectWord 11 q2) fun q3 => (Option.bind (f_m_readRate q3) fun q4 => f_m_readAll_32 fu q4)))) = some M := by
  have e1 : f_m_readOne 2 0 9 M = some M := by
    unfold f_m_readOne
    rw [h.number, Option.bind_some]
    dsimp only
    rw [if_neg h.ne, if_pos (b_ib (by omega))]
    unfold f_m_readOne_31
    rw [if_pos (b_ib (by omega)), xu_self]
  rw [e1, Option.bind_some, h.expect, Option.bind_some, h.expectWord, Option.bind_some]
  exact no_read_11 h h11
theorem bRP_def {m : xM} {N : Nat → Int} (C : Nat) (hC : 1 ≤ C ∧ C ≤ 5) (s4 : m 3 4 = C) (n11 : N 11 = C) (hr : ∀ i, i < C → N (35 + i) = m 4 i ∧ N (40 + i) = m 5 i ∧ (4 ≤ m 4 i ∧ m 4 i ≤ 80) ∧ 1 ≤ m 5 i ∧ m 5 i ≤ 9) (hs : m 3 5 = 1 ∧ m 3 7 = 2 ∧ m 3 8 = 5 ∧ m 3 9 = 4 ∧ m 3 10 = 1 ∧ m 3 11 = 3 ∧ m 3 12 = 2 ∧ m 3 13 = 8) (h7 : m 7 0 = 0) (h6 : ∀ j, j < 4 → m 6 j = 2) (hN : N 12 = 2 ∧ N 13 = 5 ∧ N 14 = 4 ∧ N 15 = 1 ∧ N 16 = 3 ∧ N 17 = 2 ∧ N 18 = 8 ∧ N 19 = 1) (hT : ∀ j, 21 ≤ j → j < 25 → N j = 2) (h25 : N 25 = 0) : bRP (bUp m) N := by
  obtain ⟨a1, a2, a3, a4, a5, a6, a7, a8⟩ := hs
  obtain ⟨b1, b2, b3, b4, b5, b6, b7, b8⟩ := hN
  have w33 : bUp m 33 = m 3 := rfl
  have w34 : bUp m 34 = m 4 := rfl
  have w35 : bUp m 35 = m 5 := rfl
  have w36 : bUp m 36 = m 6 := rfl
  have w37 : bUp m 37 = m 7 := rfl
  unfold bRP
  rw [w33, w34, w35, w36, w37, a1, a2, a3, a4, a5, a6, a7, a8, s4, n11, b1, b2, b3, b4, b5, b6, b7, b8]
  refine ⟨⟨rfl, by omega, by omega⟩, ⟨rfl, by omega, by omega⟩, ⟨rfl, by omega, by omega⟩, ⟨rfl, by omega, by omega⟩, ⟨rfl, by omega, by omega⟩, ⟨rfl, by omega, by omega⟩, ⟨rfl, by omega, by omega⟩, ⟨rfl, by omega, by omega⟩, ⟨rfl, by omega, by omega⟩, fun s hs => ?_, fun i hi => ?_, fun i hi => ?_⟩
  · rw [hT _ (by omega) (by omega), h6 s hs]; omega
  · have hi0 : i = 0 := by omega
    rw [hi0, h7, show N (25 + 0) = 0 from h25]; omega
  · obtain ⟨c1, c2, c3, c4⟩ := hr i (by omega)
    exact ⟨c1, c2, c3.1, c3.2, c4⟩
theorem R_text_sp {B : Nat → Int} {L : Nat} (hL : L ≤ 600) {m M : xM} (h : bSs B L 0 (m 1) (m 2) M) (hC : bCl (M 2)) : ∃ m' M' : xM, f_R_text m = some m' ∧ f_m_readAll M = some M' ∧ bFR m m' ∧ bF2 M M' ∧ ((∃ s' e', bGo B L s' e' (m' 1) (m' 2) M' ∧ bDr m' M') ∨ bEr B L (m' 1) M') := by
  obtain ⟨q0, s1, s2, s3, s4, s5, s6⟩ := S_def_sp (xvw [3, 4, 5, 6, 7] m)
  obtain ⟨m1, e1, e2, e3⟩ := D_mg m q0
  have y0 : xw 0 = 0 := by decide
  have n0 : ¬ xw 1 = 0 := by decide
  unfold f_R_text f_m_readAll
  rw [s1, Option.bind_some, e1]
  have f1 : bFR m m1 := ⟨fun k hk => e3 k (by omega), by rw [e3 1 (by omega)], by rw [e3 1 (by omega)]⟩
  obtain ⟨qa, M1, x1, a1, a2, a3, a4, a5⟩ := st_word (m := xvw [1, 2] m1) (f := 0) (M := M) (B := B) (L := L) 10 (by rw [show xvw [1, 2] m1 0 = m 1 from e3 1 (by omega), show xvw [1, 2] m1 1 = m 2 from e3 2 (by omega)]; exact h)
  obtain ⟨m2, w1, w2, w3, w4, w5, w6⟩ := R_mg m1 qa a3
  have f2 : bFR m1 m2 := ⟨fun k hk => w4 k (by omega), w5, w6⟩
  have h11 : M 2 11 = 0 := hC.2.2 11 (by omega) (by omega)
  rw [a1, a2, Option.bind_some, Option.bind_some]
  dsimp only
  rw [w1]
  rcases a5 with ⟨hx, s, e, g1, g2⟩ | ⟨hx, c, r, u1, u2⟩
  · rw [hx, if_neg n0]
    obtain ⟨qb, x, Ma, M2, b1, b2, b3, b4, b5, b6, b7⟩ := R_one (m := xvw [1, 2] m2) (f0 := 0) (M := M1) (B := B) (L := L) 2 0 9 (by omega) (Or.inl rfl) (Or.inl ⟨s, e, by omega, by rw [show xvw [1, 2] m2 0 = qa 0 from w2, show xvw [1, 2] m2 1 = qa 1 from w3]; exact g2⟩)
    have b2' : f_m_readOne 2 0 9 M1 = some Ma := b2
    obtain ⟨m3, v1, v2, v3, v4, v5, v6⟩ := R_mg m2 qb b4
    rw [b1, b2', Option.bind_some, Option.bind_some, b3, Option.bind_some]
    dsimp only
    rw [v1]
    obtain ⟨Y, hY⟩ : ∃ Y, Y = xu m3 3 6 x := ⟨_, rfl⟩
    rw [← hY]
    have Y1 : Y 1 = qb 0 := by rw [hY, xu_K (by omega), v2]
    have Y2 : Y 2 = qb 1 := by rw [hY, xu_K (by omega), v3]
    have fY : bFR m Y := (f1.trans f2).trans ⟨fun k hk => by rw [hY, xu_K (by omega), v4 k (by omega)], by rw [hY, xu_k (by omega), v5], by rw [hY, xu_k (by omega), v6]⟩
    have hb7 : bSs B L 0 ((xvw [1, 2] Y) 0) ((xvw [1, 2] Y) 1) M2 := by
      rw [show xvw [1, 2] Y 0 = qb 0 from Y1, show xvw [1, 2] Y 1 = qb 1 from Y2]
      rcases b7 with ⟨s', e', k1, k2, _⟩ | k
      · exact Or.inl ⟨s', e', by omega, k2⟩
      · exact Or.inr k
    obtain ⟨qc, M3, x3, c1, c2, c3, c4, c5⟩ := st_word 11 hb7
    obtain ⟨m4, t1, t2, t3, t4, t5, t6⟩ := R_mg Y qc c3
    have f4 : bFR m m4 := fY.trans ⟨fun k hk => t4 k (by omega), t5, t6⟩
    have F3 : bF2 M M3 := (a4.to.trans b5).trans c4.to
    have M3i : ∀ i, i ≠ 2 → M3 2 i = M 2 i := fun i hi => by rw [c4.1 2 (by omega), b6 i hi, a4.1 2 (by omega)]
    unfold f_R_text_31
    rw [c1, c2, Option.bind_some, Option.bind_some]
    dsimp only
    rw [t1]
    rcases c5 with ⟨hx3, s', e', g3, g4⟩ | ⟨hx3, c, r, u1, u2⟩
    · rw [hx3, if_neg n0]
      unfold f_R_rates
      obtain ⟨z, m5, M5, d1, d2, d3, d4, d5, d6, d7, d8⟩ := R_rates_sp (f0 := 0) (B := B) (L := L) 4994 4994 4 0 m4 M3 rfl (by rw [M3i 11 (by omega)]; exact h11) (fun i hi => by omega) (Or.inl ⟨s', e', by omega, by rw [t2, t3]; exact g4⟩)
      have d1' : f_R_rates_2 fu 0 m4 = some (z, m5) := d1
      have d2' : (Option.bind (f_m_readRate M3) fun q => f_m_readAll_32 fu q) = f_m_readAll_86 fu M5 := d2
      rw [d1', d2', Option.bind_some]
      dsimp only
      have f5 : bFR m m5 := f4.trans ⟨fun k hk => d3 k (by omega) (by omega) (by omega) (by omega), d5.1, d5.2⟩
      rcases d8 with ⟨hz, ⟨s5', e5', g5, g6⟩, C, k1, k2, k3, k4, k5⟩ | ⟨hz, c, r, u1, u2⟩
      · rw [hz, if_neg n0]
        have b7' : ∃ s' e', 0 < s' ∧ bGo B L s' e' (qb 0) (qb 1) M2 ∧ M2 2 2 = x ∧ 0 ≤ x ∧ x ≤ 9 := by
          rcases b7 with b | ⟨c, r, u1, u2⟩
          · exact b
          · exfalso
            rw [u2.expectWord] at c2
            have hM : M2 = M3 := Option.some.inj c2
            exact u2.ne (by rw [hM, g4.err]; decide)
        obtain ⟨_, _, _, _, b8, b9⟩ := b7'
        have M5i : ∀ i, i ≠ 2 → i ≠ 11 → (i < 35 ∨ 45 ≤ i) → M5 2 i = M 2 i := fun i h1 h2 h3 => by rw [d7 i h2 h3, M3i i h1]
        have m5s : ∀ i, i ≠ 4 → i ≠ 6 → m5 3 i = q0 0 i := fun i h1 h2 => by rw [d4 i h1, t4 3 (by omega), hY, xu_d h2, v4 3 (by omega), w4 3 (by omega), e2.1]
        have m56 : m5 3 6 = x := by rw [d4 6 (by omega), t4 3 (by omega), hY, xu_s rfl]
        have m57 : m5 7 = q0 4 := by rw [d3 7 (by omega) (by omega) (by omega) (by omega), t4 7 (by omega), hY, xu_K (by omega), v4 7 (by omega), w4 7 (by omega), e2.2.2.2.2]
        have m5t : m5 6 = q0 3 := by rw [d3 6 (by omega) (by omega) (by omega) (by omega), t4 6 (by omega), hY, xu_K (by omega), v4 6 (by omega), w4 6 (by omega), e2.2.2.2.1]
        obtain ⟨p4, p5, p6, p7, p8, p9, p10, p11, p12, p13⟩ := s2
        obtain ⟨l12, l13, l14, l15, l16, l17, l18, l19⟩ := hC.1
        have hd : bDr m5 M5 := by
          refine ⟨bRP_def C ⟨k1, k2⟩ k4 k3 k5 ?_ ?_ ?_ ?_ ?_ ?_, ?_, ?_, ?_⟩
          · rw [m5s 5 (by omega) (by omega), m5s 7 (by omega) (by omega), m5s 8 (by omega) (by omega), m5s 9 (by omega) (by omega), m5s 10 (by omega) (by omega), m5s 11 (by omega) (by omega), m5s 12 (by omega) (by omega), m5s 13 (by omega) (by omega)]
            exact ⟨p5, p7, p8, p9, p10, p11, p12, p13⟩
          · rw [m57]; exact s3.2.2
          · intro j hj; rw [m5t]; exact s4 j hj
          · rw [M5i 12 (by omega) (by omega) (by omega), M5i 13 (by omega) (by omega) (by omega), M5i 14 (by omega) (by omega) (by omega), M5i 15 (by omega) (by omega) (by omega), M5i 16 (by omega) (by omega) (by omega), M5i 17 (by omega) (by omega) (by omega), M5i 18 (by omega) (by omega) (by omega), M5i 19 (by omega) (by omega) (by omega)]
            exact hC.1
          · intro j h1 h2; rw [M5i j (by omega) (by omega) (by omega)]; exact hC.2.1 j h1 h2
          · rw [M5i 25 (by omega) (by omega) (by omega)]; exact hC.2.2 25 (by omega) (by omega)
          · rw [d7 2 (by omega) (by omega), c4.1 2 (by omega), b8, m56]
          · rw [m56]; exact b9.1
          · rw [m56]; exact b9.2
        obtain ⟨m6, M6, r1, r2, r3, r4, r5⟩ := R_text_54_sp hL 4398 4398 600 0 s5' e5' m5 M5 (by omega) (by omega) g6 hd
        have r1' : f_R_text_54 fu 0 m5 = some m6 := r1
        have r2' : f_m_readAll_86 fu M5 = some M6 := r2
        exact ⟨m6, M6, r1', r2', f5.trans r3, (F3.trans d6).trans r4, r5⟩
      · rw [hz, if_pos y0]
        have r2' : f_m_readAll_86 fu M5 = some M5 := no_all u2 4999
        exact ⟨m5, M5, rfl, r2', f5, F3.trans d6, Or.inr ⟨c, r, u1, u2⟩⟩
    · rw [hx3, if_pos y0, no_read_11 u2 (by rw [M3i 11 (by omega)]; exact h11)]
      exact ⟨m4, M3, rfl, rfl, f4, F3, Or.inr ⟨c, r, by rw [t2]; exact u1, u2⟩⟩
  · rw [hx, if_pos y0, no_read_2 u2 (by rw [a4.1 2 (by omega)]; exact h11)]
    exact ⟨m2, M1, rfl, rfl, f1.trans f2, a4.to, Or.inr ⟨c, r, by rw [w2]; exact u1, u2⟩⟩

/-! ===== coming online ===== -/
theorem greatest_2 (q : Int) (m M : xM) (rc : Nat) (hrc : rc ≤ 5) (h1 : m 0 4 = rc) (h2 : M 1 11 = rc) (h3 : ∀ i, i < rc → M 1 (40 + i) = m 2 i) : ∀ (k p n n' : Nat) (x : Int), p + k = rc → k < n → k < n' → -1 ≤ x → x < rc → ∃ g : Int, f_S_greatest_4 q m n x (p : Int) = some g ∧ f_m_greatestRate_4 q M n' x (p : Int) = some g ∧ -1 ≤ g ∧ g < rc := by
  intro k
  induction k with
  | zero =>
    intro p n n' x e1 e2 e3 e4 e5
    obtain ⟨n, rfl⟩ : ∃ z, n = z + 1 := ⟨n - 1, by omega⟩
    obtain ⟨n', rfl⟩ : ∃ z, n' = z + 1 := ⟨n' - 1, by omega⟩
    refine ⟨x, ?_, ?_, e4, e5⟩
    · rw [f_S_greatest_4, h1, if_neg (by rw [b_xw (by omega), b_xw (by omega)]; omega)]
    · rw [f_m_greatestRate_4, h2, if_pos (b_ib (by omega)), if_neg (by rw [b_xw (by omega), b_xw (by omega)]; omega)]
  | succ k ih =>
    intro p n n' x e1 e2 e3 e4 e5
    obtain ⟨n, rfl⟩ : ∃ z, n = z + 1 := ⟨n - 1, by omega⟩
    obtain ⟨n', rfl⟩ : ∃ z, n' = z + 1 := ⟨n' - 1, by omega⟩
    rw [f_S_greatest_4, h1, if_pos (by rw [b_xw (by omega), b_xw (by omega)]; omega), if_pos (by rw [b_xw (by omega), b_xw (by omega)]; omega), if_pos (b_ib (by omega)), b_ix (by omega), Int.toNat_natCast,
      f_m_greatestRate_4, h2, if_pos (show xib 11 3530 from b_ib (by omega)), if_pos (show xw (p : Int) < xw (rc : Int) by rw [b_xw (by omega), b_xw (by omega)]; omega), if_pos (show xib (40 + (p : Int)) 3530 from b_ib (by omega)), b_ix (i := 40 + (p : Int)) (by omega), show ((40 : Int) + (p : Int)).toNat = 40 + p by omega, h3 p (by omega)]
    unfold f_S_greatest_33 f_m_greatestRate_33
    rw [show (p : Int) + 1 = ((p + 1 : Nat) : Int) by omega]
    by_cases hq : xw q < xw (m 2 p)
    · rw [if_pos hq, if_pos hq]
      exact ih (p + 1) n n' x (by omega) (by omega) (by omega) e4 e5
    · rw [if_neg hq, if_neg hq]
      exact ih (p + 1) n n' p (by omega) (by omega) (by omega) (by omega) (by omega)
abbrev bT5 : List Nat := [33, 34, 35, 36, 37]
/-- the greatest rate, in both the same -/
theorem L_greatest (q : Int) (m M : xM) (h : bRP m (M 1)) : ∃ g : Int, f_S_greatest q (xvw bT5 m) = some g ∧ f_m_greatestRate q M = some g ∧ -1 ≤ g ∧ g < m 33 4 := by
  obtain ⟨⟨a1, a2, a3⟩, -, -, -, -, -, -, -, -, -, -, n1⟩ := h
  obtain ⟨rc, hrc⟩ : ∃ rc : Nat, m 33 4 = rc := ⟨(m 33 4).toNat, by omega⟩
  rw [hrc] at a1 a2 a3 n1 ⊢
  exact greatest_2 q (xvw bT5 m) M rc (by omega) hrc a1 (fun i hi => (n1 i (by omega)).2.1) rc 0 fu fu (-1) (by omega) (by show _ < 5000; omega) (by show _ < 5000; omega) (by omega) (by omega)
/-- the flags of the frames, all to be sent again -/
def bMk (o C : Nat) (N N' : Nat → Int) : Prop := (∀ p, p < C → N' (o + 26 + 13 * p + 3) = 1) ∧ ∀ i, (∀ p, p < C → i ≠ o + 26 + 13 * p + 3) → N' i = N i
theorem beginAgain_38 (e o C : Nat) (he : e < 2) (ho : o = 56 + 717 * e) (hC : C ≤ 7) : ∀ (k p n : Nat) (M : xM), M 1 (o + 1) = C → p + k = C → k < n → ∃ M' : xM, f_m_beginAgain_38 (e : Int) n (p : Int) M = f_m_beginAgain_66 (e : Int) M' ∧ (∀ p', p ≤ p' → p' < C → M' 1 (o + 26 + 13 * p' + 3) = 1) ∧ (∀ i, (∀ p', p ≤ p' → p' < C → i ≠ o + 26 + 13 * p' + 3) → M' 1 i = M 1 i) ∧ ∀ k, k ≠ 1 → M' k = M k := by
  intro k
  induction k with
  | zero =>
    intro p n M hM h1 h2
    obtain ⟨n, rfl⟩ : ∃ z, n = z + 1 := ⟨n - 1, by omega⟩
    rw [f_m_beginAgain_38, m_of (i := o + 1) M (by omega) (by omega), b_bs, hM, if_neg (by rw [b_xw (by omega), b_xw (by omega)]; omega)]
    exact ⟨M, rfl, fun p' h3 h4 => by omega, fun _ _ => rfl, fun _ _ => rfl⟩
  | succ k ih =>
    intro p n M hM h1 h2
    obtain ⟨n, rfl⟩ : ∃ z, n = z + 1 := ⟨n - 1, by omega⟩
    rw [f_m_beginAgain_38, m_of (i := o + 1) M (by omega) (by omega), b_bs, hM, if_pos (by rw [b_xw (by omega), b_xw (by omega)]; omega), m_frameAt (i := o + 26 + 13 * p + 3) _ (by omega), b_bs, if_pos (b_ib (by omega)), b_ix (by omega), Int.toNat_natCast, show (p : Int) + 1 = ((p + 1 : Nat) : Int) by omega]
    obtain ⟨M', e1, e2, e3, e4⟩ := ih (p + 1) n (xu M 1 (o + 26 + 13 * p + 3) 1) (by rw [xu_d (by omega), hM]) (by omega) (by omega)
    refine ⟨M', e1, fun p' h3 h4 => ?_, fun i hi => ?_, fun k hk => by rw [e4 k hk, xu_K hk]⟩
    · by_cases h5 : p' = p
      · rw [h5, e3 _ (fun p2 h6 h7 => by omega), xu_s rfl]
      · exact e2 p' (by omega) h4
    · rw [e3 i (fun p' h3 h4 => hi p' (by omega) h4), xu_d (hi p (Nat.le_refl _) (by omega))]
theorem timer_39 (e o C : Nat) (he : e < 2) (ho : o = 56 + 717 * e) (hC : C ≤ 7) : ∀ (k p n : Nat) (M : xM), M 1 (o + 1) = C → p + k = C → k < n → ∃ M' : xM, f_m_timer_39 (e : Int) n (p : Int) M = f_m_timer_67 (e : Int) M' ∧ (∀ p', p ≤ p' → p' < C → M' 1 (o + 26 + 13 * p' + 3) = 1) ∧ (∀ i, (∀ p', p ≤ p' → p' < C → i ≠ o + 26 + 13 * p' + 3) → M' 1 i = M 1 i) ∧ ∀ k, k ≠ 1 → M' k = M k := by
  intro k
  induction k with
  | zero =>
    intro p n M hM h1 h2
    obtain ⟨n, rfl⟩ : ∃ z, n = z + 1 := ⟨n - 1, by omega⟩
    rw [f_m_timer_39, m_of (i := o + 1) M (by omega) (by omega), b_bs, hM, if_neg (by rw [b_xw (by omega), b_xw (by omega)]; omega)]
    exact ⟨M, rfl, fun p' h3 h4 => by omega, fun _ _ => rfl, fun _ _ => rfl⟩
  | succ k ih =>
    intro p n M hM h1 h2
    obtain ⟨n, rfl⟩ : ∃ z, n = z + 1 := ⟨n - 1, by omega⟩
    rw [f_m_timer_39, m_of (i := o + 1) M (by omega) (by omega), b_bs, hM, if_pos (by rw [b_xw (by omega), b_xw (by omega)]; omega), m_frameAt (i := o + 26 + 13 * p + 3) _ (by omega), b_bs, if_pos (b_ib (by omega)), b_ix (by omega), Int.toNat_natCast, show (p : Int) + 1 = ((p + 1 : Nat) : Int) by omega]
    obtain ⟨M', e1, e2, e3, e4⟩ := ih (p + 1) n (xu M 1 (o + 26 + 13 * p + 3) 1) (by rw [xu_d (by omega), hM]) (by omega) (by omega)
    refine ⟨M', e1, fun p' h3 h4 => ?_, fun i hi => ?_, fun k hk => by rw [e4 k hk, xu_K hk]⟩
    · by_cases h5 : p' = p
      · rw [h5, e3 _ (fun p2 h6 h7 => by omega), xu_s rfl]
      · exact e2 p' (by omega) h4
    · rw [e3 i (fun p' h3 h4 => hi p' (by omega) h4), xu_d (hi p (Nat.le_refl _) (by omega))]
/-- none is sent any more -/
theorem bRF.unsent {kf : Nat} {m m' : xM} {o : Nat} {N N' : Nat → Int} (h : bRF kf m o N) (h3 : m' kf 3 = m kf 3) (h4 : m' kf 4 = m kf 4) (h5 : m' kf 5 = 0) (h1 : m' (kf + 1) = m (kf + 1)) (h2 : m' (kf + 2) = m (kf + 2)) (h6 : m' (kf + 3) = m (kf + 3))
    (hN : ∀ p, p < (m kf 4).toNat → N' (o + 26 + 13 * p + 3) = 1) (hN2 : ∀ i, (i = o + 1 ∨ i = o + 2 ∨ (o + 26 ≤ i ∧ i < o + 117)) → (∀ p, p < (m kf 4).toNat → i ≠ o + 26 + 13 * p + 3) → N' i = N i) : bRF kf m' o N' := by
  obtain ⟨F, C, S, a1, a2, a3, a4, a5, a6, a7, a8, a9⟩ := h
  rw [a2, Int.toNat_natCast] at hN hN2
  refine ⟨F, C, 0, by rw [h3, a1], by rw [h4, a2], h5, by omega, a5, a6, by rw [hN2 _ (by omega) (fun p hp => by omega), a7], by rw [hN2 _ (by omega) (fun p hp => by omega), a8], fun p hp => ?_⟩
  obtain ⟨c1, c2, c3, c4, c5, c6⟩ := a9 p hp
  unfold bFr
  rw [h1, h2, h6]
  refine ⟨?_, ?_, c3, ?_, ?_, fun j hj hj2 => ?_⟩
  · rw [hN2 _ (by omega) (fun p' hp' => by omega), c1]
  · rw [hN2 _ (by omega) (fun p' hp' => by omega), c2]
  · rw [hN2 _ (by omega) (fun p' hp' => by omega), c4]
  · rw [hN p hp, if_neg (by omega)]
  · rw [hN2 _ (by omega) (fun p' hp' => by omega), c6 j hj hj2]
/-- the frames that the other end has are forgotten, in both -/
theorem RF_below (e o : Nat) (X : Int) (he : e < 2) (ho : o = 56 + 717 * e) (hX : -1000000000 ≤ X ∧ X ≤ 1000000000) : ∀ (c n n' x : Nat) (m M : xM), bRF 0 m o (M 1) → m 0 4 = (c : Int) → M 1 (56 + 717 * (1 - e) + 3) = X → x + c ≤ 7 → c < n → c < n' →
    ∃ m' M' : xM, f_F_forget_2 X n (x : Int) m = some m' ∧ f_m_beginAgain_0 (e : Int) n' M = f_m_beginAgain_36 (e : Int) M' ∧ bRF 0 m' o (M' 1) ∧ m' 0 3 + m' 0 4 = m 0 3 + m 0 4 ∧ (m' 0 3 = if X ≤ m 0 3 then m 0 3 else if m 0 3 + m 0 4 ≤ X then m 0 3 + m 0 4 else X) ∧ (∀ k, k ≠ 0 → m' k = m k) ∧ (∀ i, i ≠ o + 1 → (i < o + 26 ∨ o + 117 ≤ i) → M' 1 i = M 1 i) ∧ ∀ k, k ≠ 1 → M' k = M k := by
  intro c
  induction c with
  | zero =>
    intro n n' x m M h h1 h2 h3 h4 h5
    obtain ⟨n, rfl⟩ : ∃ z, n = z + 1 := ⟨n - 1, by omega⟩
    obtain ⟨n', rfl⟩ : ∃ z, n' = z + 1 := ⟨n' - 1, by omega⟩
    have h0 := h
    obtain ⟨F, C, S, a1, a2, a3, a4, a5, a6, a7, a8, a9⟩ := h0
    have hN : M 1 (o + 1) = 0 := by omega
    refine ⟨m, M, ?_, ?_, h, rfl, ?_, fun _ _ => rfl, fun _ _ _ => rfl, fun _ _ => rfl⟩
    · rw [f_F_forget_2, h1]
      by_cases hx : x < 7
      · rw [if_pos (by rw [b_xw (by omega), b_xw (by omega)]; omega), if_neg (by rw [b_xw (by omega)]; omega)]
      · rw [if_neg (by rw [b_xw (by omega), b_xw (by omega)]; omega)]
    · rw [f_m_beginAgain_0, m_of (i := o + 1) M (by omega) (by omega), b_bs, hN, if_neg (by rw [b_xw (by omega)]; omega)]
    · split
      · rfl
      · rw [if_pos (by omega)]; omega
  | succ c ih =>
    intro n n' x m M h h1 h2 h3 h4 h5
    obtain ⟨n, rfl⟩ : ∃ z, n = z + 1 := ⟨n - 1, by omega⟩
    obtain ⟨n', rfl⟩ : ∃ z, n' = z + 1 := ⟨n' - 1, by omega⟩
    have h0 := h
    obtain ⟨F, C, S, a1, a2, a3, a4, a5, a6, a7, a8, a9⟩ := h0
    have hC : C = c + 1 := by omega
    have hc1 := (a9 0 (by omega)).1
    rw [f_F_forget_2, if_pos (by rw [b_xw (by omega), b_xw (by omega)]; omega), a2, if_pos (show 0 < xw (C : Int) by rw [b_xw (by omega)]; omega), a1, b_xw (x := (F : Int)) (by omega), b_xw (x := X) (by omega),
      f_m_beginAgain_0, m_of (i := o + 1) M (by omega) (by omega), b_bs, a7, if_pos (show 0 < xw (C : Int) by rw [b_xw (by omega)]; omega), m_ofFrame (i := o + 26 + 13 * 0) M (by omega) (by omega), b_bs, m_of (i := 56 + 717 * (1 - e) + 3) M (by omega) (by omega), b_bs, h2, hc1, b_xw (x := ((F + 0 : Nat) : Int)) (by omega), b_xw (x := X) (by omega)]
    by_cases hx : (F : Int) < X
    · rw [if_pos hx, if_pos (by omega)]
      obtain ⟨m1, M1, e1, e2, e3, ⟨e4, e5, -, e6⟩, e7, e8⟩ := RF_forget m M e o he ho h (by omega)
      rw [e1, e2, b_bs, b_bs, show (x : Int) + 1 = ((x + 1 : Nat) : Int) by omega]
      obtain ⟨m2, M2, p1, p2, p3, p4, p5, p6, p7, p8⟩ := ih n n' (x + 1) m1 M1 e3 (by omega) (by rw [e7 _ (by omega) (by omega), h2]) (by omega) (by omega) (by omega)
      refine ⟨m2, M2, p1, p2, p3, by omega, ?_, fun k hk => by rw [p6 k hk, e6 k hk], fun i hi hi2 => by rw [p7 i hi hi2, e7 i hi hi2], fun k hk => by rw [p8 k hk, e8 k hk]⟩
      rw [p5, e4, e5, a1, a2, if_neg (show ¬ X ≤ (F : Int) by omega)]
      split <;> split <;> (try split) <;> omega
    · rw [if_neg hx, if_neg (by omega)]
      refine ⟨m, M, rfl, rfl, h, by rw [a1, a2], ?_, fun _ _ => rfl, fun _ _ _ => rfl, fun _ _ => rfl⟩
      rw [a1, if_pos (by omega)]
/-- an end begins again behind a training -/
theorem RE_online (m M : xM) (e o : Nat) (X : Int) (he : e < 2) (ho : o = 56 + 717 * e) (h : bRE 0 m o (M 1)) (hX0 : M 1 (56 + 717 * (1 - e) + 3) = X) (hX : -1000000000 ≤ X ∧ X ≤ 1000000000) :
    ∃ m' M' : xM, f_E_online X m = some m' ∧ f_m_beginAgain (e : Int) M = some M' ∧ bRE 0 m' o (M' 1) ∧ (m' 3 3 + m' 3 4 = m 3 3 + m 3 4 ∧ (m' 3 3 = if X ≤ m 3 3 then m 3 3 else if m 3 3 + m 3 4 ≤ X then m 3 3 + m 3 4 else X) ∧ m' 3 5 = 0) ∧ (m' 0 8 = 0 ∧ m' 0 9 = 0 ∧ m' 0 10 = 1 ∧ ∀ j, j < 8 → m' 0 j = m 0 j) ∧ (∀ k, k ≠ 0 → k ≠ 3 → m' k = m k) ∧ (∀ i, (i < o ∨ o + 717 ≤ i) → M' 1 i = M 1 i) ∧ ∀ k, k ≠ 1 → M' k = M k := by
  obtain ⟨r1, r2, r3, r4, r5, r6⟩ := h
  have hrF := r1
  obtain ⟨F, C, S, a1, a2, a3, a4, a5, a6, a7, a8, a9⟩ := hrF
  have r1' : bRF 0 (xvw [3, 4, 5, 6] m) o (M 1) := ⟨F, C, S, a1, a2, a3, a4, a5, a6, a7, a8, fun p hp => a9 p hp⟩
  obtain ⟨q, M1, e1, e2, e3, e4, e5, e6, e7, e8⟩ := RF_below e o X he ho hX C fu fu 0 (xvw [3, 4, 5, 6] m) M r1' a2 hX0 (by omega) (by show _ < 5000; omega) (by show _ < 5000; omega)
  have hq0 := e3
  obtain ⟨F1, C1, S1, b1, b2, b3, b4, b5, b6, b7, b8, b9⟩ := hq0
  obtain ⟨M2, g1, g2, g3, g4⟩ := beginAgain_38 e o C1 he ho b5 C1 0 fu M1 b7 (by omega) (by show _ < 5000; omega)
  have g2' : ∀ p, p < C1 → M2 1 (o + 26 + 13 * p + 3) = 1 := fun p hp => g2 p (Nat.zero_le _) hp
  have g3' : ∀ i, (∀ p, p < C1 → i ≠ o + 26 + 13 * p + 3) → M2 1 i = M1 1 i := fun i hi => g3 i (fun p _ hp => hi p hp)
  have gq : ∀ k, k ≠ 3 → k ≠ 4 → k ≠ 5 → k ≠ 6 → xmg [3, 4, 5, 6] 4 m q k = m k := fun k h3 h4 h5 h6 => xmg_no _ _ (xpos_not (by simp [h3, h4, h5, h6]))
  have q4 : q 1 = m 4 := e6 1 (by omega)
  have q5 : q 2 = m 5 := e6 2 (by omega)
  have q6 : q 3 = m 6 := e6 3 (by omega)
  have eC : f_E_online X m = some (xu (xu (xu (xu (xmg [3, 4, 5, 6] 4 m q) 3 5 0) 0 8 0) 0 9 0) 0 10 1) := by
    unfold f_E_online f_F_forget
    rw [show (0 : Int) = ((0 : Nat) : Int) from rfl, e1, b_bs]
  have eM : f_m_beginAgain (e : Int) M = some (xu (xu (xu M2 1 (o + 5) 0) 1 (o + 6) 0) 1 (o + 9) 1) := by
    unfold f_m_beginAgain
    rw [e2]
    unfold f_m_beginAgain_36
    rw [show (0 : Int) = ((0 : Nat) : Int) from rfl, g1]
    unfold f_m_beginAgain_66
    rw [m_endAt (i := o + 5) _ (by omega), b_bs, if_pos (b_ib (by omega)), b_ix (by omega), Int.toNat_natCast, m_endAt (i := o + 6) _ (by omega), b_bs, if_pos (b_ib (by omega)), b_ix (by omega), Int.toNat_natCast, m_endAt (i := o + 9) _ (by omega), b_bs, if_pos (b_ib (by omega)), b_ix (by omega), Int.toNat_natCast]
    rfl
  have hNa : ∀ i, i ≠ o + 5 → i ≠ o + 6 → i ≠ o + 9 → xu (xu (xu M2 1 (o + 5) 0) 1 (o + 6) 0) 1 (o + 9) 1 1 i = M2 1 i := fun i h1 h2 h3 => by rw [xu_d h3, xu_d h2, xu_d h1]
  have hNb : ∀ i, i ≠ o + 5 → i ≠ o + 6 → i ≠ o + 9 → i ≠ o + 1 → (i < o + 26 ∨ o + 117 ≤ i) → xu (xu (xu M2 1 (o + 5) 0) 1 (o + 6) 0) 1 (o + 9) 1 1 i = M 1 i := fun i h1 h2 h3 h4 h5 => by
    rw [hNa i h1 h2 h3, g3' i (fun p hp => by omega), e7 i h4 h5]
  refine ⟨_, _, eC, eM, ⟨?_, ?_, ?_, ?_, ?_, ?_⟩, ⟨?_, ?_, ?_⟩, ⟨?_, ?_, ?_, fun j hj => ?_⟩, fun k h0 h3 => ?_, fun i hi => hNb i (by omega) (by omega) (by omega) (by omega) (by omega), fun k hk => by rw [xu_K hk, xu_K hk, xu_K hk, g4 k hk, e8 k hk]⟩
  · have := e3.unsent (kf := 0) (m' := xu q 0 5 0) (N' := xu (xu (xu M2 1 (o + 5) 0) 1 (o + 6) 0) 1 (o + 9) 1 1) (by rw [xu_d (by omega)]) (by rw [xu_d (by omega)]) (by rw [xu_s rfl]) (by rw [xu_K (by omega)]) (by rw [xu_K (by omega)]) (by rw [xu_K (by omega)])
      (by rw [b2, Int.toNat_natCast]; intro p hp; rw [hNa _ (by omega) (by omega) (by omega), g2' p hp]) (by rw [b2, Int.toNat_natCast]; intro i hi hi2; rw [hNa _ (by omega) (by omega) (by omega), g3' i hi2])
    obtain ⟨F2, C2, S2, c1, c2, c3, c4, c5, c6, c7, c8, c9⟩ := this
    exact ⟨F2, C2, S2, c1, c2, c3, c4, c5, c6, c7, c8, fun p hp => c9 p hp⟩
  · exact r2.cg rfl rfl (hNb _ (by omega) (by omega) (by omega) (by omega) (by omega)) (fun j hj => hNb _ (by omega) (by omega) (by omega) (by omega) (by omega))
  · exact r3.cg rfl rfl (hNb _ (by omega) (by omega) (by omega) (by omega) (by omega)) (fun j hj => hNb _ (by omega) (by omega) (by omega) (by omega) (by omega))
  · exact r4.cg rfl rfl (hNb _ (by omega) (by omega) (by omega) (by omega) (by omega)) (fun i h1 h2 => hNb _ (by omega) (by omega) (by omega) (by omega) (by omega))
  · exact r5.cg rfl rfl (hNb _ (by omega) (by omega) (by omega) (by omega) (by omega)) (fun i h1 h2 => hNb _ (by omega) (by omega) (by omega) (by omega) (by omega))
  · obtain ⟨s1, s2, s3, s4, s5, s6⟩ := r6
    refine ⟨?_, ?_, ?_, ?_, Or.inl rfl, Or.inr rfl⟩
    · rw [hNb _ (by omega) (by omega) (by omega) (by omega) (by omega), s1]; rfl
    · rw [xu_d (by omega), xu_d (by omega), xu_s rfl]; rfl
    · rw [xu_d (by omega), xu_s rfl]; rfl
    · rw [xu_s rfl]; rfl
  · exact e4
  · exact e5
  · rfl
  · rfl
  · rfl
  · rfl
  · rw [xu_d (by omega), xu_d (by omega), xu_d (by omega), xu_k (by omega)]
    rw [gq 0 (by omega) (by omega) (by omega) (by omega)]
  · rw [xu_K h0, xu_K h0, xu_K h0, xu_K h3]
    by_cases hk : k = 4 ∨ k = 5 ∨ k = 6
    · rcases hk with rfl | rfl | rfl
      · exact q4
      · exact q5
      · exact q6
    · exact gq k h3 (by omega) (by omega) (by omega)

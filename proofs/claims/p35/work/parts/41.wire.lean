/-! ===== how many can be under way ===== -/
theorem b_php : ∀ (n c : Nat) (f : Nat → Nat), (∀ i, i < c → f i < n) → (∀ i j, i < j → j < c → f i ≠ f j) → c ≤ n
  | 0, c, f, h1, _ => by
    by_cases hc : c = 0
    · omega
    · have := h1 0 (by omega); omega
  | n + 1, c, f, h1, h2 => by
    by_cases he : ∃ i, i < c ∧ f i = n
    · obtain ⟨i, hi, hf⟩ := he
      have := b_php n (c - 1) (fun j => if j < i then f j else f (j + 1)) (fun j hj => by
        show (if j < i then f j else f (j + 1)) < n
        by_cases hji : j < i
        · rw [if_pos hji]
          have a := h1 j (by omega)
          have b := h2 j i hji hi
          omega
        · rw [if_neg hji]
          have a := h1 (j + 1) (by omega)
          have b := h2 i (j + 1) (by omega) (by omega)
          omega) (fun j k hjk hk => by
        show (if j < i then f j else f (j + 1)) ≠ (if k < i then f k else f (k + 1))
        by_cases hj : j < i
        · rw [if_pos hj]
          by_cases hk2 : k < i
          · rw [if_pos hk2]; exact h2 j k hjk (by omega)
          · rw [if_neg hk2]; exact h2 j (k + 1) (by omega) (by omega)
        · rw [if_neg hj, if_neg (by omega)]; exact h2 (j + 1) (k + 1) (by omega) (by omega))
      omega
    · have := b_php n c f (fun i hi => by
        have a := h1 i hi
        have b : f i ≠ n := fun e => he ⟨i, hi, e⟩
        omega) h2
      omega
theorem bUnder {F0 C0 S0 X0 F1 C1 S1 X1 : Int} {st0 st1 : Int → Int} {time dl : Int} {c : Nat} {T Sn Nn Tr : Nat → Int} (h0 : bDir 0 F0 C0 S0 X0 st0 time dl c T Sn Nn Tr) (h1 : bDir 1 F1 C1 S1 X1 st1 time dl c T Sn Nn Tr) (hs : ∀ i, i < c → Sn i = 0 ∨ Sn i = 1) : c ≤ 42 := by
  obtain ⟨⟨a1, a2, a3, a4, a5⟩, p1, p2, p3, p4, p5, p6, p7, p8⟩ := h0
  obtain ⟨⟨b1, b2, b3, b4, b5⟩, q1, q2, q3, q4, q5, q6, q7, q8⟩ := h1
  refine b_php 42 c (fun i => (if Tr i = 1 then (if Sn i = 0 then 28 else 35) else (if Sn i = 0 then (if Nn i < F0 + S0 ∧ T i = st0 (Nn i) then 0 else 7) else (if Nn i < F1 + S1 ∧ T i = st1 (Nn i) then 14 else 21))) + (Nn i % 7).toNat) (fun i hi => ?_) (fun i j hij hj => ?_)
  · show (if Tr i = 1 then (if Sn i = 0 then 28 else 35) else (if Sn i = 0 then (if Nn i < F0 + S0 ∧ T i = st0 (Nn i) then 0 else 7) else (if Nn i < F1 + S1 ∧ T i = st1 (Nn i) then 14 else 21))) + (Nn i % 7).toNat < 42
    split <;> split <;> (try split) <;> omega
  · show (if Tr i = 1 then (if Sn i = 0 then 28 else 35) else (if Sn i = 0 then (if Nn i < F0 + S0 ∧ T i = st0 (Nn i) then 0 else 7) else (if Nn i < F1 + S1 ∧ T i = st1 (Nn i) then 14 else 21))) + (Nn i % 7).toNat ≠ (if Tr j = 1 then (if Sn j = 0 then 28 else 35) else (if Sn j = 0 then (if Nn j < F0 + S0 ∧ T j = st0 (Nn j) then 0 else 7) else (if Nn j < F1 + S1 ∧ T j = st1 (Nn j) then 14 else 21))) + (Nn j % 7).toNat
    have hi : i < c := by omega
    rcases hs i hi with si | si <;> rcases hs j hj with sj | sj
    · by_cases ti : Tr i = 1
      · by_cases tj : Tr j = 1
        · rw [if_pos ti, if_pos tj, if_pos si, if_pos sj]
          have h1 := q6 i j hij hj (by omega) ti (by omega) tj
          have h2 := q5 i hi (by omega) ti
          have h3 := q5 j hj (by omega) tj
          omega
        · rw [if_pos ti, if_neg tj, if_pos si, if_pos sj]
          split <;> omega
      · by_cases tj : Tr j = 1
        · rw [if_neg ti, if_pos tj, if_pos si, if_pos sj]
          split <;> omega
        · rw [if_neg ti, if_neg tj, if_pos si, if_pos sj]
          have h2 := p1 i hi si ti
          have h3 := p1 j hj sj tj
          by_cases hn : Nn i = Nn j
          · obtain ⟨h4, h5⟩ := p2 i j hij hj si ti sj tj hn
            unfold bFre at h4 h5
            rw [if_neg h4, if_pos h5]
            omega
          · split <;> split <;> omega
    · by_cases ti : Tr i = 1
      · by_cases tj : Tr j = 1
        · rw [if_pos ti, if_pos tj, if_pos si, if_neg (show ¬ Sn j = 0 by omega)]; omega
        · rw [if_pos ti, if_neg tj, if_pos si, if_neg (show ¬ Sn j = 0 by omega)]; split <;> omega
      · by_cases tj : Tr j = 1
        · rw [if_neg ti, if_pos tj, if_pos si, if_neg (show ¬ Sn j = 0 by omega)]; split <;> omega
        · rw [if_neg ti, if_neg tj, if_pos si, if_neg (show ¬ Sn j = 0 by omega)]; split <;> split <;> omega
    · by_cases ti : Tr i = 1
      · by_cases tj : Tr j = 1
        · rw [if_pos ti, if_pos tj, if_neg (show ¬ Sn i = 0 by omega), if_pos sj]; omega
        · rw [if_pos ti, if_neg tj, if_neg (show ¬ Sn i = 0 by omega), if_pos sj]; split <;> omega
      · by_cases tj : Tr j = 1
        · rw [if_neg ti, if_pos tj, if_neg (show ¬ Sn i = 0 by omega), if_pos sj]; split <;> omega
        · rw [if_neg ti, if_neg tj, if_neg (show ¬ Sn i = 0 by omega), if_pos sj]; split <;> split <;> omega
    · by_cases ti : Tr i = 1
      · by_cases tj : Tr j = 1
        · rw [if_pos ti, if_pos tj, if_neg (show ¬ Sn i = 0 by omega), if_neg (show ¬ Sn j = 0 by omega)]
          have h1 := p6 i j hij hj (by omega) ti (by omega) tj
          have h2 := p5 i hi (by omega) ti
          have h3 := p5 j hj (by omega) tj
          omega
        · rw [if_pos ti, if_neg tj, if_neg (show ¬ Sn i = 0 by omega), if_neg (show ¬ Sn j = 0 by omega)]; split <;> omega
      · by_cases tj : Tr j = 1
        · rw [if_neg ti, if_pos tj, if_neg (show ¬ Sn i = 0 by omega), if_neg (show ¬ Sn j = 0 by omega)]; split <;> omega
        · rw [if_neg ti, if_neg tj, if_neg (show ¬ Sn i = 0 by omega), if_neg (show ¬ Sn j = 0 by omega)]
          have h2 := q1 i hi si ti
          have h3 := q1 j hj sj tj
          by_cases hn : Nn i = Nn j
          · obtain ⟨h4, h5⟩ := q2 i j hij hj si ti sj tj hn
            unfold bFre at h4 h5
            rw [if_neg h4, if_pos h5]
            omega
          · split <;> split <;> omega
/-! ===== putting one more under way ===== -/
theorem W_put_sp (t s b z : Int) (m : xM) (f c : Nat) (hf : f ≤ 64) (hc : c < 64) (h4 : m 0 4 = f) (h5 : m 0 5 = c) : ∃ m' : xM, f_W_put t s b z m = some m' ∧ m' 1 ((f + c) % 64) = t ∧ m' 2 ((f + c) % 64) = s ∧ m' 3 ((f + c) % 64) = b ∧ m' 4 ((f + c) % 64) = z ∧ m' 0 5 = ((c + 1 : Nat) : Int) ∧ (∀ j, j ≠ 5 → m' 0 j = m 0 j) ∧ (∀ k i, k ≠ 0 → i ≠ (f + c) % 64 → m' k i = m k i) ∧ ∀ k, 5 ≤ k → m' k = m k := by
  have hl : (f + c) % 64 < 64 := Nat.mod_lt _ (by decide)
  have ha : xiand (m 0 4 + m 0 5) 63 = (((f + c) % 64 : Nat) : Int) := by rw [h4, h5, show (f : Int) + (c : Int) = ((f + c : Nat) : Int) by omega, b_iand63]
  unfold f_W_put f_W_put_40
  rw [ha, h5, if_pos (by rw [b_xw (by omega), b_xw (by omega)]; omega), if_pos (b_ib (by omega)), if_pos (b_ib (by omega)), if_pos (b_ib (by omega)), if_pos (b_ib (by omega)), b_ix (by omega), Int.toNat_natCast]
  generalize (f + c) % 64 = p at *
  refine ⟨_, rfl, ?_, ?_, ?_, ?_, ?_, fun j hj => ?_, fun k i hk hi => ?_, fun k hk => ?_⟩
  · rw [xu_k (by omega), xu_k (by omega), xu_k (by omega), xu_k (by omega), xu_s rfl]
  · rw [xu_k (by omega), xu_k (by omega), xu_k (by omega), xu_s rfl]
  · rw [xu_k (by omega), xu_k (by omega), xu_s rfl]
  · rw [xu_k (by omega), xu_s rfl]
  · rw [xu_s rfl, xu_k (by omega), xu_k (by omega), h5]; all_goals omega
  · rw [xu_d hj, xu_k (by omega), xu_k (by omega), xu_k (by omega), xu_k (by omega)]
  · rw [xu_k hk]
    by_cases k4 : k = 4
    · subst k4; rw [xu_d hi, xu_k (by omega), xu_k (by omega), xu_k (by omega)]
    · rw [xu_k k4]
      by_cases k3 : k = 3
      · subst k3; rw [xu_d hi, xu_k (by omega), xu_k (by omega)]
      · rw [xu_k k3]
        by_cases k2 : k = 2
        · subst k2; rw [xu_d hi, xu_k (by omega)]
        · rw [xu_k k2]
          by_cases k1 : k = 1
          · subst k1; rw [xu_d hi]
          · rw [xu_k k1]
  · rw [xu_K (by omega), xu_K (by omega), xu_K (by omega), xu_K (by omega), xu_K (by omega)]
theorem m_fly_sp (a t b : Int) (M : xM) (c : Nat) (hc : c < 119) (h : M 1 20 = c) : ∃ M' : xM, f_m_fly a t b M = some ((c : Int), M') ∧ M' 1 (1730 + 15 * c) = M 1 0 + M 1 15 ∧ M' 1 (1730 + 15 * c + 1) = a ∧ M' 1 (1730 + 15 * c + 2) = t ∧ M' 1 (1730 + 15 * c + 3) = b ∧ M' 1 20 = ((c + 1 : Nat) : Int) ∧ (∀ i, i ≠ 20 → (i < 1730 + 15 * c ∨ 1730 + 15 * c + 4 ≤ i) → M' 1 i = M 1 i) ∧ ∀ k, k ≠ 1 → M' k = M k := by
  unfold f_m_fly f_m_fly_58
  rw [h, if_pos (b_ib (by omega)), m_flyAt (i := 1730 + 15 * c) _ (by omega), b_bs, if_pos (b_ib (by omega)), if_pos (b_ib (by omega)), if_pos (b_ib (by omega)), b_ix (by omega), Int.toNat_natCast, m_flyAt (i := 1730 + 15 * c + 1) _ (by omega), b_bs, if_pos (b_ib (by omega)), b_ix (by omega), Int.toNat_natCast, m_flyAt (i := 1730 + 15 * c + 2) _ (by omega), b_bs, if_pos (b_ib (by omega)), b_ix (by omega), Int.toNat_natCast, m_flyAt (i := 1730 + 15 * c + 3) _ (by omega), b_bs, if_pos (b_ib (by omega)), if_pos (b_ib (by omega)), if_pos (b_ib (by omega)), b_ix (by omega), Int.toNat_natCast]
  refine ⟨_, rfl, ?_, ?_, ?_, ?_, ?_, fun i h1 h2 => ?_, fun k hk => ?_⟩
  · rw [xu_d (by omega), xu_d (by omega), xu_d (by omega), xu_d (by omega), xu_s rfl]
  · rw [xu_d (by omega), xu_d (by omega), xu_d (by omega), xu_s rfl]
  · rw [xu_d (by omega), xu_d (by omega), xu_s rfl]
  · rw [xu_d (by omega), xu_s rfl]
  · rw [xu_s rfl, xu_d (by omega), xu_d (by omega), xu_d (by omega), xu_d (by omega), h]; all_goals omega
  · rw [xu_d h1, xu_d (by omega), xu_d (by omega), xu_d (by omega), xu_d (by omega)]
  · rw [xu_K hk, xu_K hk, xu_K hk, xu_K hk, xu_K hk]
theorem land_17 (p : Int) (c' : Nat) (hc : c' ≤ 118) : ∀ (k a n : Nat) (M : xM), M 1 20 = c' → a + k = 1730 + 15 * c' → 1730 ≤ a → k < n → ∃ M' : xM, f_m_land_17 p n (a : Int) M = some M' ∧ bMv 15 a (1730 + 15 * c') (M 1) (M' 1) ∧ ∀ k, k ≠ 1 → M' k = M k := by
  intro k
  induction k with
  | zero =>
    intro a n M hM h1 h2 h3
    obtain ⟨n, rfl⟩ : ∃ z, n = z + 1 := ⟨n - 1, by omega⟩
    rw [f_m_land_17, if_pos (b_ib (by omega)), hM, m_flyAt (i := 1730 + 15 * c') _ (by omega), b_bs, if_neg (by rw [b_xw (by omega), b_xw (by omega)]; omega)]
    refine ⟨M, rfl, ?_, fun _ _ => rfl⟩
    rw [show 1730 + 15 * c' = a by omega]
    exact bMv.none
  | succ k ih =>
    intro a n M hM h1 h2 h3
    obtain ⟨n, rfl⟩ : ∃ z, n = z + 1 := ⟨n - 1, by omega⟩
    rw [f_m_land_17, if_pos (b_ib (by omega)), hM, m_flyAt (i := 1730 + 15 * c') _ (by omega), b_bs, if_pos (by rw [b_xw (by omega), b_xw (by omega)]; omega), if_pos (b_ib (by omega)), if_pos (b_ib (by omega)), b_ix (by omega), b_ix (by omega), Int.toNat_natCast, show ((a : Int) + 15).toNat = a + 15 by omega, show (a : Int) + 1 = ((a + 1 : Nat) : Int) by omega]
    obtain ⟨M', e1, e2, e3⟩ := ih (a + 1) n (xu M 1 a (M 1 (a + 15))) (by rw [xu_d (by omega), hM]) (by omega) (by omega) (by omega)
    exact ⟨M', e1, bMv.step (by omega) (by omega) e2, fun k hk => by rw [e3 k hk, xu_K hk]⟩
/-- the oldest is taken off the reference's row -/
theorem m_land_sp (M : xM) (c : Nat) (hc : c ≤ 118) (h : M 1 20 = ((c + 1 : Nat) : Int)) : ∃ M' : xM, f_m_land 0 M = some M' ∧ M' 1 20 = c ∧ (∀ i, 1730 ≤ i → i < 1730 + 15 * c → M' 1 i = M 1 (i + 15)) ∧ (∀ i, i ≠ 20 → i < 1730 → M' 1 i = M 1 i) ∧ ∀ k, k ≠ 1 → M' k = M k := by
  unfold f_m_land
  rw [if_pos (b_ib (by omega)), if_pos (b_ib (by omega)), h, show ((c + 1 : Nat) : Int) - 1 = (c : Int) by omega, m_flyAt (i := 1730) _ (by omega), b_bs]
  obtain ⟨M', e1, e2, e3⟩ := land_17 0 c hc (15 * c) 1730 fu (xu M 1 20 (c : Int)) (xu_s rfl) (by omega) (by omega) (by show _ < 5000; omega)
  exact ⟨M', e1, by rw [e2.2 20 (by omega), xu_s rfl], fun i h1 h2 => by rw [e2.1 i h1 h2, xu_d (by omega)], fun i h1 h2 => by rw [e2.2 i (by omega), xu_d h1], fun k hk => by rw [e3 k hk, xu_K hk]⟩

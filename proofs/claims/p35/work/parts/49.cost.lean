/-! ===== what a frame costs ===== -/
theorem D_cp_sp (m : xM) : f_D_cp m = some (xu (xcp m 3 1 0 0 8) 0 1 (m 2 1)) := by
  unfold f_D_cp
  rw [if_pos (by decide)]
  rfl
theorem xcp_at {m : xM} {k0 k1 n j : Nat} (h : j < n) : xcp m k0 k1 0 0 n k1 j = m k0 j := by
  unfold xcp
  rw [if_pos rfl, if_pos (by omega), Nat.zero_add, Nat.sub_zero]
theorem xcp_K {m : xM} {k0 k1 sp dp n k : Nat} (h : k ≠ k1) : xcp m k0 k1 sp dp n k = m k := by
  unfold xcp
  rw [if_neg h]
/-- the reference keeps its words -/
theorem keepWords_sp (e o : Nat) (M : xM) (he : e < 2) (ho : o = 56 + 717 * e) : ∃ M' : xM, f_m_keepWords (e : Int) M = some M' ∧ M' 0 9 = M 1 (o + 7) ∧ (∀ j, j < 8 → M' 6 j = M 1 (o + 10 + j)) ∧ (∀ j, j ≠ 9 → M' 0 j = M 0 j) ∧ ∀ k, k ≠ 0 → k ≠ 6 → M' k = M k := by
  have key : ∀ (k p n : Nat) (M : xM), p + k = 8 → k < n → ∃ M' : xM, f_m_keepWords_13 (e : Int) n (p : Int) M = some M' ∧ (∀ j, p ≤ j → j < 8 → M' 6 j = M 1 (o + 10 + j)) ∧ (∀ j, j < p → M' 6 j = M 6 j) ∧ ∀ k, k ≠ 6 → M' k = M k := by
    intro k
    induction k with
    | zero =>
      intro p n M h1 h2
      obtain ⟨n, rfl⟩ : ∃ z, n = z + 1 := ⟨n - 1, by omega⟩
      rw [f_m_keepWords_13, if_neg (by rw [b_xw (by omega), b_xw (by omega)]; omega)]
      exact ⟨M, rfl, fun j h3 h4 => by omega, fun _ _ => rfl, fun _ _ => rfl⟩
    | succ k ih =>
      intro p n M h1 h2
      obtain ⟨n, rfl⟩ : ∃ z, n = z + 1 := ⟨n - 1, by omega⟩
      rw [f_m_keepWords_13, if_pos (by rw [b_xw (by omega), b_xw (by omega)]; omega), m_of (i := o + 10 + p) M (by omega) (by omega), b_bs, if_pos (b_ib (by omega)), b_ix (by omega), Int.toNat_natCast, show (p : Int) + 1 = ((p + 1 : Nat) : Int) by omega]
      obtain ⟨M', e1, e2, e3, e4⟩ := ih (p + 1) n (xu M 6 p (M 1 (o + 10 + p))) (by omega) (by omega)
      refine ⟨M', e1, fun j h3 h4 => ?_, fun j h3 => ?_, fun k hk => by rw [e4 k hk, xu_K hk]⟩
      · by_cases h5 : j = p
        · rw [h5, e3 p (by omega), xu_s rfl]
        · rw [e2 j (by omega) h4, xu_k (by omega)]
      · rw [e3 j (by omega), xu_d (by omega)]
  unfold f_m_keepWords
  rw [m_of (i := o + 7) M (by omega) (by omega), b_bs]
  obtain ⟨M', e1, e2, e3, e4⟩ := key 8 0 fu (xu M 0 9 (M 1 (o + 7))) (by omega) (by show _ < 5000; omega)
  refine ⟨M', e1, by rw [e4 0 (by omega), xu_s rfl], fun j hj => by rw [e2 j (by omega) hj, xu_k (by omega)], fun j hj => by rw [e4 0 (by omega), xu_d hj], fun k h0 h6 => by rw [e4 k h6, xu_K h0]⟩
theorem takeWords_sp (e o : Nat) (M : xM) (he : e < 2) (ho : o = 56 + 717 * e) : ∃ M' : xM, f_m_takeWordsBack (e : Int) M = some M' ∧ M' 1 (o + 7) = M 0 9 ∧ (∀ j, j < 8 → M' 1 (o + 10 + j) = M 6 j) ∧ (∀ i, i ≠ o + 7 → (i < o + 10 ∨ o + 18 ≤ i) → M' 1 i = M 1 i) ∧ ∀ k, k ≠ 1 → M' k = M k := by
  have key : ∀ (k p n : Nat) (M : xM), p + k = 8 → k < n → ∃ M' : xM, f_m_takeWordsBack_17 (e : Int) n (p : Int) M = some M' ∧ (∀ j, p ≤ j → j < 8 → M' 1 (o + 10 + j) = M 6 j) ∧ (∀ i, (i < o + 10 + p ∨ o + 18 ≤ i) → M' 1 i = M 1 i) ∧ ∀ k, k ≠ 1 → M' k = M k := by
    intro k
    induction k with
    | zero =>
      intro p n M h1 h2
      obtain ⟨n, rfl⟩ : ∃ z, n = z + 1 := ⟨n - 1, by omega⟩
      rw [f_m_takeWordsBack_17, if_neg (by rw [b_xw (by omega), b_xw (by omega)]; omega)]
      exact ⟨M, rfl, fun j h3 h4 => by omega, fun _ _ => rfl, fun _ _ => rfl⟩
    | succ k ih =>
      intro p n M h1 h2
      obtain ⟨n, rfl⟩ : ∃ z, n = z + 1 := ⟨n - 1, by omega⟩
      rw [f_m_takeWordsBack_17, if_pos (by rw [b_xw (by omega), b_xw (by omega)]; omega), m_endAt (i := o + 10 + p) _ (by omega), b_bs, if_pos (b_ib (by omega)), if_pos (b_ib (by omega)), b_ix (by omega), b_ix (by omega), Int.toNat_natCast, Int.toNat_natCast, show (p : Int) + 1 = ((p + 1 : Nat) : Int) by omega]
      obtain ⟨M', e1, e2, e3, e4⟩ := ih (p + 1) n (xu M 1 (o + 10 + p) (M 6 p)) (by omega) (by omega)
      refine ⟨M', e1, fun j h3 h4 => ?_, fun i h3 => ?_, fun k hk => by rw [e4 k hk, xu_K hk]⟩
      · by_cases h5 : j = p
        · rw [h5, e3 _ (by omega), xu_s rfl]
        · rw [e2 j (by omega) h4, xu_k (by omega)]
      · rw [e3 i (by omega), xu_d (by omega)]
  unfold f_m_takeWordsBack
  rw [m_endAt (i := o + 7) _ (by omega), b_bs, if_pos (b_ib (by omega)), b_ix (by omega), Int.toNat_natCast]
  obtain ⟨M', e1, e2, e3, e4⟩ := key 8 0 fu (xu M 1 (o + 7) (M 0 9)) (by omega) (by show _ < 5000; omega)
  refine ⟨M', e1, by rw [e3 _ (by omega), xu_s rfl], fun j hj => by rw [e2 j (by omega) hj, xu_k (by omega)], fun i h1 h2 => by rw [e3 i (by omega), xu_d h1], fun k hk => by rw [e4 k hk, xu_K hk]⟩
theorem L_cost_35 (e o a fr z : Nat) (he : e < 2) (ho : o = 56 + 717 * e) (ha : a + z ≤ 200) (hfr : fr + z ≤ 3530) (hfr2 : o + 18 ≤ fr) : ∀ (k p n n' : Nat) (co : Nat) (m M : xM), p + k = z → k < n → k < n' → co + 3 * k ≤ 1000 → bRD 1 2 m (o + 7) (o + 10) (M 1) → (∀ i, i < z → M 1 (fr + i) = m 6 (a + i)) → ∃ (r : Nat) (m' M' : xM), f_L_cost_35 (a : Int) (z : Int) n (co : Int) ((a + p : Nat) : Int) m = some ((r : Int), m') ∧ f_m_write_50 (e : Int) (fr : Int) (z : Int) n' (co : Int) (p : Int) M = some ((r : Int), M') ∧ (co ≤ r ∧ r ≤ co + 3 * k) ∧ bRD 1 2 m' (o + 7) (o + 10) (M' 1) ∧ (∀ k, k ≠ 1 → k ≠ 2 → m' k = m k) ∧ (∀ i, i ≠ o + 7 → (i < o + 10 ∨ o + 18 ≤ i) → M' 1 i = M 1 i) ∧ ∀ k, k ≠ 1 → M' k = M k := by
  intro k
  induction k with
  | zero =>
    intro p n n' co m M h1 h2 h3 h4 h5 h6
    obtain ⟨n, rfl⟩ : ∃ z, n = z + 1 := ⟨n - 1, by omega⟩
    obtain ⟨n', rfl⟩ : ∃ z, n' = z + 1 := ⟨n' - 1, by omega⟩
    refine ⟨co, m, M, ?_, ?_, by omega, h5, fun _ _ _ => rfl, fun _ _ _ => rfl, fun _ _ => rfl⟩
    · rw [f_L_cost_35, if_neg (by rw [b_xw (by omega), b_xw (by omega)]; omega)]
    · rw [f_m_write_50, if_neg (by rw [b_xw (by omega), b_xw (by omega)]; omega)]
  | succ k ih =>
    intro p n n' co m M h1 h2 h3 h4 h5 h6
    obtain ⟨n, rfl⟩ : ∃ z, n = z + 1 := ⟨n - 1, by omega⟩
    obtain ⟨n', rfl⟩ : ∃ z, n' = z + 1 := ⟨n' - 1, by omega⟩
    have hv : M 1 (fr + p) = m 6 (a + p) := h6 p (by omega)
    obtain ⟨cost, q, M1, p1, p2, p3, p4, p5, p6, p7, p8⟩ := RD_put (m 6 (a + p)) (e : Int) 1 (xvw [1, 2] m) M (o + 7) (o + 10) h5 (by omega) (by omega) (fun P => m_wordsAt P (Or.inr ⟨rfl, by omega⟩)) (fun P => m_countAt P (Or.inr ⟨rfl, by omega⟩))
    obtain ⟨m1, hm1⟩ : ∃ Z, Z = xmg [1, 2] 2 m q := ⟨_, rfl⟩
    have g1 : m1 1 = q 0 := by rw [hm1]; rfl
    have g2 : m1 2 = q 1 := by rw [hm1]; rfl
    have gk : ∀ k, k ≠ 1 → k ≠ 2 → m1 k = m k := fun k h1 h2 => by rw [hm1]; exact xmg_no _ _ (xpos_not (by simp [h1, h2]))
    obtain ⟨c9, hc9⟩ : ∃ c9 : Nat, cost = c9 := ⟨cost.toNat, by omega⟩
    obtain ⟨r, m', M', e1, e2, e3, e4, e5, e6, e7⟩ := ih (p + 1) n n' (co + c9) m1 M1 (by omega) (by omega) (by omega) (by omega) (p4.cg (by rw [g1]) g2 rfl (fun _ _ => rfl)) (fun i hi => by rw [p7 _ (by omega) (by omega), gk 6 (by omega) (by omega), h6 i hi])
    refine ⟨r, m', M', ?_, ?_, by omega, e4, fun k h1 h2 => by rw [e5 k h1 h2, gk k h1 h2], fun i h1 h2 => by rw [e6 i h1 h2, p7 i h1 h2], fun k hk => by rw [e7 k hk, p8 k hk]⟩
    · rw [f_L_cost_35, if_pos (by rw [b_xw (by omega), b_xw (by omega)]; omega), if_pos (by rw [b_xw (by omega), b_xw (by omega)]; omega), if_pos (b_ib (by omega)), b_ix (by omega), Int.toNat_natCast, p1, b_bs]
      dsimp only
      rw [← hm1, hc9, show (co : Int) + (c9 : Int) = ((co + c9 : Nat) : Int) by omega, show ((a + p : Nat) : Int) + 1 = ((a + (p + 1) : Nat) : Int) by omega, e1]
    · rw [f_m_write_50, if_pos (by rw [b_xw (by omega), b_xw (by omega)]; omega), if_pos (b_ib (by omega)), b_ix (by omega), show ((fr : Int) + (p : Int)).toNat = fr + p by omega, hv, p2, b_bs]
      dsimp only
      rw [hc9, show (co : Int) + (c9 : Int) = ((co + c9 : Nat) : Int) by omega, show (p : Int) + 1 = ((p + 1 : Nat) : Int) by omega, e2]
/-- what a frame would cost, class and reference; the words behind it lie in what is tried, and in the reference's own -/
theorem L_cost_sp (e o a fr z : Nat) (m M : xM) (he : e < 2) (ho : o = 56 + 717 * e) (ha : a + z ≤ 200) (hz8 : z ≤ 8) (hfr : fr + z ≤ 3530) (hfr2 : o + 18 ≤ fr) (h : bRD 4 5 m (o + 7) (o + 10) (M 1)) (hmk : M 1 (o + 9) = m 3 10) (hmk2 : m 3 10 = 0 ∨ m 3 10 = 1) (hsrc : ∀ i, i < z → M 1 (fr + i) = m 6 (a + i)) :
    ∃ (r : Nat) (m' M' : xM), f_L_cost (a : Int) (z : Int) m = some ((r : Int), m') ∧ f_m_write (e : Int) (fr : Int) (z : Int) M = some ((r : Int), M') ∧ (4 ≤ r ∧ r ≤ 29) ∧ bRD 1 2 m' (o + 7) (o + 10) (M' 1) ∧ (∀ k, k ≠ 1 → k ≠ 2 → m' k = m k) ∧ (∀ i, i ≠ o + 7 → (i < o + 10 ∨ o + 18 ≤ i) → M' 1 i = M 1 i) ∧ ∀ k, k ≠ 1 → M' k = M k := by
  obtain ⟨c, a1, a2, a3, a4⟩ := h
  obtain ⟨q, hq⟩ : ∃ Z, Z = xu (xcp (xvw [1, 2, 4, 5] m) 3 1 0 0 8) 0 1 (xvw [1, 2, 4, 5] m 2 1) := ⟨_, rfl⟩
  obtain ⟨m1, hm1⟩ : ∃ Z, Z = xmg [1, 2, 4, 5] 4 m q := ⟨_, rfl⟩
  have g11 : m1 1 1 = m 4 1 := by rw [hm1]; show q 0 1 = _; rw [hq, xu_s rfl]; rfl
  have g2 : ∀ j, j < 8 → m1 2 j = m 5 j := fun j hj => by
    rw [hm1]; show q 1 j = _; rw [hq, xu_k (by omega), xcp_at hj]; rfl
  have gk : ∀ k, k ≠ 1 → k ≠ 2 → m1 k = m k := fun k h1 h2 => by
    by_cases h4 : k = 4
    · rw [h4, hm1]; show q 2 = _; rw [hq, xu_K (by omega), xcp_K (by omega)]; rfl
    · by_cases h5 : k = 5
      · rw [h5, hm1]; show q 3 = _; rw [hq, xu_K (by omega), xcp_K (by omega)]; rfl
      · rw [hm1]; exact xmg_no _ _ (xpos_not (by simp [h1, h2, h4, h5]))
  have hfu : 8 < fu := by show 8 < 5000; omega
  unfold f_L_cost f_m_write
  rw [D_cp_sp, b_bs, ← hq, ← hm1, gk 3 (by omega) (by omega), m_of (i := o + 9) M (by omega) (by omega), b_bs, hmk]
  rcases hmk2 with h0 | h0
  · rw [h0, if_pos (by decide), if_neg (by decide)]
    unfold f_L_cost_32 f_m_write_16 f_m_write_35 f_m_write_45
    rw [if_pos (by decide), if_pos (by decide)]
    obtain ⟨r, m', M', e1, e2, e3, e4, e5, e6, e7⟩ := L_cost_35 e o a fr z he ho ha hfr hfr2 z 0 fu fu 4 m1 M (by omega) (by omega) (by omega) (by omega) ⟨c, a1, by rw [g11, a2], a3, fun j hj => by rw [g2 j (by omega), a4 j hj]⟩ (fun i hi => by rw [gk 6 (by omega) (by omega), hsrc i hi])
    exact ⟨r, m', M', e1, e2, by omega, e4, fun k h1 h2 => by rw [e5 k h1 h2, gk k h1 h2], e6, e7⟩
  · rw [h0, if_neg (by decide), if_pos (by decide)]
    unfold f_L_cost_32 f_m_write_16 f_m_write_35 f_m_write_45
    rw [if_neg (by decide), m_endAt (i := o + 7) _ (by omega), b_bs, if_pos (b_ib (by omega)), b_ix (by omega), Int.toNat_natCast, if_neg (by decide)]
    obtain ⟨r, m', M', e1, e2, e3, e4, e5, e6, e7⟩ := L_cost_35 e o a fr z he ho ha hfr hfr2 z 0 fu fu 5 (xu m1 1 1 0) (xu M 1 (o + 7) 0) (by omega) (by omega) (by omega) (by omega) ⟨0, by omega, by rw [xu_s rfl]; rfl, by rw [xu_s rfl]; rfl, fun j hj => by omega⟩ (fun i hi => by rw [xu_d (by omega), xu_k (by omega), gk 6 (by omega) (by omega), hsrc i hi])
    exact ⟨r, m', M', e1, e2, by omega, e4, fun k h1 h2 => by rw [e5 k h1 h2, xu_K h1, gk k h1 h2], fun i h1 h2 => by rw [e6 i h1 h2, xu_d h1], fun k hk => by rw [e7 k hk, xu_K hk]⟩
theorem L_cost56_35 (e o a fr z : Nat) (he : e < 2) (ho : o = 56 + 717 * e) (ha : a + z ≤ 56) (hfr : fr + z ≤ 3530) (hfr2 : o + 18 ≤ fr) : ∀ (k p n n' : Nat) (co : Nat) (m M : xM), p + k = z → k < n → k < n' → co + 3 * k ≤ 1000 → bRD 1 2 m (o + 7) (o + 10) (M 1) → (∀ i, i < z → M 1 (fr + i) = m 6 (a + i)) → ∃ (r : Nat) (m' M' : xM), f_L_cost56_35 (a : Int) (z : Int) n (co : Int) ((a + p : Nat) : Int) m = some ((r : Int), m') ∧ f_m_write_50 (e : Int) (fr : Int) (z : Int) n' (co : Int) (p : Int) M = some ((r : Int), M') ∧ (co ≤ r ∧ r ≤ co + 3 * k) ∧ bRD 1 2 m' (o + 7) (o + 10) (M' 1) ∧ (∀ k, k ≠ 1 → k ≠ 2 → m' k = m k) ∧ (∀ i, i ≠ o + 7 → (i < o + 10 ∨ o + 18 ≤ i) → M' 1 i = M 1 i) ∧ ∀ k, k ≠ 1 → M' k = M k := by
  intro k
  induction k with
  | zero =>
    intro p n n' co m M h1 h2 h3 h4 h5 h6
    obtain ⟨n, rfl⟩ : ∃ z, n = z + 1 := ⟨n - 1, by omega⟩
    obtain ⟨n', rfl⟩ : ∃ z, n' = z + 1 := ⟨n' - 1, by omega⟩
    refine ⟨co, m, M, ?_, ?_, by omega, h5, fun _ _ _ => rfl, fun _ _ _ => rfl, fun _ _ => rfl⟩
    · rw [f_L_cost56_35, if_neg (by rw [b_xw (by omega), b_xw (by omega)]; omega)]
    · rw [f_m_write_50, if_neg (by rw [b_xw (by omega), b_xw (by omega)]; omega)]
  | succ k ih =>
    intro p n n' co m M h1 h2 h3 h4 h5 h6
    obtain ⟨n, rfl⟩ : ∃ z, n = z + 1 := ⟨n - 1, by omega⟩
    obtain ⟨n', rfl⟩ : ∃ z, n' = z + 1 := ⟨n' - 1, by omega⟩
    have hv : M 1 (fr + p) = m 6 (a + p) := h6 p (by omega)
    obtain ⟨cost, q, M1, p1, p2, p3, p4, p5, p6, p7, p8⟩ := RD_put (m 6 (a + p)) (e : Int) 1 (xvw [1, 2] m) M (o + 7) (o + 10) h5 (by omega) (by omega) (fun P => m_wordsAt P (Or.inr ⟨rfl, by omega⟩)) (fun P => m_countAt P (Or.inr ⟨rfl, by omega⟩))
    obtain ⟨m1, hm1⟩ : ∃ Z, Z = xmg [1, 2] 2 m q := ⟨_, rfl⟩
    have g1 : m1 1 = q 0 := by rw [hm1]; rfl
    have g2 : m1 2 = q 1 := by rw [hm1]; rfl
    have gk : ∀ k, k ≠ 1 → k ≠ 2 → m1 k = m k := fun k h1 h2 => by rw [hm1]; exact xmg_no _ _ (xpos_not (by simp [h1, h2]))
    obtain ⟨c9, hc9⟩ : ∃ c9 : Nat, cost = c9 := ⟨cost.toNat, by omega⟩
    obtain ⟨r, m', M', e1, e2, e3, e4, e5, e6, e7⟩ := ih (p + 1) n n' (co + c9) m1 M1 (by omega) (by omega) (by omega) (by omega) (p4.cg (by rw [g1]) g2 rfl (fun _ _ => rfl)) (fun i hi => by rw [p7 _ (by omega) (by omega), gk 6 (by omega) (by omega), h6 i hi])
    refine ⟨r, m', M', ?_, ?_, by omega, e4, fun k h1 h2 => by rw [e5 k h1 h2, gk k h1 h2], fun i h1 h2 => by rw [e6 i h1 h2, p7 i h1 h2], fun k hk => by rw [e7 k hk, p8 k hk]⟩
    · rw [f_L_cost56_35, if_pos (by rw [b_xw (by omega), b_xw (by omega)]; omega), if_pos (by rw [b_xw (by omega), b_xw (by omega)]; omega), if_pos (b_ib (by omega)), b_ix (by omega), Int.toNat_natCast, p1, b_bs]
      dsimp only
      rw [← hm1, hc9, show (co : Int) + (c9 : Int) = ((co + c9 : Nat) : Int) by omega, show ((a + p : Nat) : Int) + 1 = ((a + (p + 1) : Nat) : Int) by omega, e1]
    · rw [f_m_write_50, if_pos (by rw [b_xw (by omega), b_xw (by omega)]; omega), if_pos (b_ib (by omega)), b_ix (by omega), show ((fr : Int) + (p : Int)).toNat = fr + p by omega, hv, p2, b_bs]
      dsimp only
      rw [hc9, show (co : Int) + (c9 : Int) = ((co + c9 : Nat) : Int) by omega, show (p : Int) + 1 = ((p + 1 : Nat) : Int) by omega, e2]
/-- what a frame would cost, class and reference; the words behind it lie in what is tried, and in the reference's own -/
theorem L_cost56_sp (e o a fr z : Nat) (m M : xM) (he : e < 2) (ho : o = 56 + 717 * e) (ha : a + z ≤ 56) (hz8 : z ≤ 8) (hfr : fr + z ≤ 3530) (hfr2 : o + 18 ≤ fr) (h : bRD 4 5 m (o + 7) (o + 10) (M 1)) (hmk : M 1 (o + 9) = m 3 10) (hmk2 : m 3 10 = 0 ∨ m 3 10 = 1) (hsrc : ∀ i, i < z → M 1 (fr + i) = m 6 (a + i)) :
    ∃ (r : Nat) (m' M' : xM), f_L_cost56 (a : Int) (z : Int) m = some ((r : Int), m') ∧ f_m_write (e : Int) (fr : Int) (z : Int) M = some ((r : Int), M') ∧ (4 ≤ r ∧ r ≤ 29) ∧ bRD 1 2 m' (o + 7) (o + 10) (M' 1) ∧ (∀ k, k ≠ 1 → k ≠ 2 → m' k = m k) ∧ (∀ i, i ≠ o + 7 → (i < o + 10 ∨ o + 18 ≤ i) → M' 1 i = M 1 i) ∧ ∀ k, k ≠ 1 → M' k = M k := by
  obtain ⟨c, a1, a2, a3, a4⟩ := h
  obtain ⟨q, hq⟩ : ∃ Z, Z = xu (xcp (xvw [1, 2, 4, 5] m) 3 1 0 0 8) 0 1 (xvw [1, 2, 4, 5] m 2 1) := ⟨_, rfl⟩
  obtain ⟨m1, hm1⟩ : ∃ Z, Z = xmg [1, 2, 4, 5] 4 m q := ⟨_, rfl⟩
  have g11 : m1 1 1 = m 4 1 := by rw [hm1]; show q 0 1 = _; rw [hq, xu_s rfl]; rfl
  have g2 : ∀ j, j < 8 → m1 2 j = m 5 j := fun j hj => by
    rw [hm1]; show q 1 j = _; rw [hq, xu_k (by omega), xcp_at hj]; rfl
  have gk : ∀ k, k ≠ 1 → k ≠ 2 → m1 k = m k := fun k h1 h2 => by
    by_cases h4 : k = 4
    · rw [h4, hm1]; show q 2 = _; rw [hq, xu_K (by omega), xcp_K (by omega)]; rfl
    · by_cases h5 : k = 5
      · rw [h5, hm1]; show q 3 = _; rw [hq, xu_K (by omega), xcp_K (by omega)]; rfl
      · rw [hm1]; exact xmg_no _ _ (xpos_not (by simp [h1, h2, h4, h5]))
  have hfu : 8 < fu := by show 8 < 5000; omega
  unfold f_L_cost56 f_m_write
  rw [D_cp_sp, b_bs, ← hq, ← hm1, gk 3 (by omega) (by omega), m_of (i := o + 9) M (by omega) (by omega), b_bs, hmk]
  rcases hmk2 with h0 | h0
  · rw [h0, if_pos (by decide), if_neg (by decide)]
    unfold f_L_cost56_32 f_m_write_16 f_m_write_35 f_m_write_45
    rw [if_pos (by decide), if_pos (by decide)]
    obtain ⟨r, m', M', e1, e2, e3, e4, e5, e6, e7⟩ := L_cost56_35 e o a fr z he ho ha hfr hfr2 z 0 fu fu 4 m1 M (by omega) (by omega) (by omega) (by omega) ⟨c, a1, by rw [g11, a2], a3, fun j hj => by rw [g2 j (by omega), a4 j hj]⟩ (fun i hi => by rw [gk 6 (by omega) (by omega), hsrc i hi])
    exact ⟨r, m', M', e1, e2, by omega, e4, fun k h1 h2 => by rw [e5 k h1 h2, gk k h1 h2], e6, e7⟩
  · rw [h0, if_neg (by decide), if_pos (by decide)]
    unfold f_L_cost56_32 f_m_write_16 f_m_write_35 f_m_write_45
    rw [if_neg (by decide), m_endAt (i := o + 7) _ (by omega), b_bs, if_pos (b_ib (by omega)), b_ix (by omega), Int.toNat_natCast, if_neg (by decide)]
    obtain ⟨r, m', M', e1, e2, e3, e4, e5, e6, e7⟩ := L_cost56_35 e o a fr z he ho ha hfr hfr2 z 0 fu fu 5 (xu m1 1 1 0) (xu M 1 (o + 7) 0) (by omega) (by omega) (by omega) (by omega) ⟨0, by omega, by rw [xu_s rfl]; rfl, by rw [xu_s rfl]; rfl, fun j hj => by omega⟩ (fun i hi => by rw [xu_d (by omega), xu_k (by omega), gk 6 (by omega) (by omega), hsrc i hi])
    exact ⟨r, m', M', e1, e2, by omega, e4, fun k h1 h2 => by rw [e5 k h1 h2, xu_K h1, gk k h1 h2], fun i h1 h2 => by rw [e6 i h1 h2, xu_d h1], fun k hk => by rw [e7 k hk, xu_K hk]⟩

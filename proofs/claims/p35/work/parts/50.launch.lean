/-! ===== a frame goes out ===== -/
/-- whether the next frame is damaged, as both reckon it -/
def bDm (N : Nat → Int) (k nc : Nat) : Int := if xw (N 2) < xw (N (25 + k % nc) + N 3) then 1 else 0
theorem launch_173 (e b x6 x9 : Int) (fr z c : Nat) (hfr : fr + z ≤ 1490) (hz : z ≤ 8) (hc : c ≤ 100) : ∀ (k p n : Nat) (M : xM), p + k = z → k < n → ∃ M' : xM, f_m_launch_173 e b (fr : Int) (z : Int) n x6 (c : Int) x9 (p : Int) M = f_m_launch_210 e b (fr : Int) (z : Int) x6 x9 M' ∧ (∀ j, p ≤ j → j < z → M' 1 (1730 + 15 * c + 7 + j) = M 1 (fr + j)) ∧ (∀ i, (i < 1730 + 15 * c + 7 + p ∨ 1730 + 15 * c + 7 + z ≤ i) → M' 1 i = M 1 i) ∧ ∀ k, k ≠ 1 → M' k = M k := by
  intro k
  induction k with
  | zero =>
    intro p n M h1 h2
    obtain ⟨n, rfl⟩ : ∃ z, n = z + 1 := ⟨n - 1, by omega⟩
    rw [f_m_launch_173, if_neg (by rw [b_xw (by omega), b_xw (by omega)]; omega)]
    exact ⟨M, rfl, fun j h3 h4 => by omega, fun _ _ => rfl, fun _ _ => rfl⟩
  | succ k ih =>
    intro p n M h1 h2
    obtain ⟨n, rfl⟩ : ∃ z, n = z + 1 := ⟨n - 1, by omega⟩
    rw [f_m_launch_173, if_pos (by rw [b_xw (by omega), b_xw (by omega)]; omega), m_flyAt (i := 1730 + 15 * c + 7 + p) _ (by omega), b_bs, if_pos (b_ib (by omega)), if_pos (b_ib (by omega)), b_ix (by omega), b_ix (by omega), Int.toNat_natCast, show ((fr : Int) + (p : Int)).toNat = fr + p by omega, show (p : Int) + 1 = ((p + 1 : Nat) : Int) by omega]
    obtain ⟨M', e1, e2, e3, e4⟩ := ih (p + 1) n (xu M 1 (1730 + 15 * c + 7 + p) (M 1 (fr + p))) (by omega) (by omega)
    refine ⟨M', e1, fun j h3 h4 => ?_, fun i hi => ?_, fun k hk => by rw [e4 k hk, xu_K hk]⟩
    · by_cases h5 : j = p
      · rw [h5, e3 _ (by omega), xu_s rfl]
      · rw [e2 j (by omega) h4, xu_d (by omega)]
    · rw [e3 i (by omega), xu_d (by omega)]
/-- what the reference's numbers are behind a launch -/
def bLa (e o c fr z : Nat) (b r dm mk : Int) (N N' : Nat → Int) : Prop :=
  (N' (o + 5) = N (o + 5) - r ∧ N' (o + 9) = 0) ∧ N' 20 = ((c + 1 : Nat) : Int) ∧ (N' 45 = N 45 + 1 ∧ N' 46 = N 46 + dm ∧ N' 54 = N 54 + r) ∧
  (N' (1730 + 15 * c) = N 0 + N 15 ∧ N' (1730 + 15 * c + 1) = 0 ∧ N' (1730 + 15 * c + 2) = 1 - (e : Int) ∧ N' (1730 + 15 * c + 3) = b ∧ N' (1730 + 15 * c + 4) = z ∧ N' (1730 + 15 * c + 5) = dm ∧ N' (1730 + 15 * c + 6) = mk ∧ ∀ j, j < z → N' (1730 + 15 * c + 7 + j) = N (fr + j)) ∧
  ∀ i, i ≠ o + 5 → i ≠ o + 7 → i ≠ o + 9 → (i < o + 10 ∨ o + 18 ≤ i) → i ≠ 20 → i ≠ 45 → i ≠ 46 → i ≠ 54 → (i < 1730 + 15 * c ∨ 1745 + 15 * c ≤ i) → N' i = N i
theorem m_launch_dm (e fr z mk r b c : Int) (k nc d : Nat) (M M1 : xM) (f1 : f_m_fly 0 (1 - e) b M = some (c, M1)) (hd : k % nc = d) (hd2 : d < 10) (h45 : M1 1 45 = k) (hk : k < 2147483647) (h19 : M1 1 19 = nc) (hnc : 1 ≤ nc ∧ nc ≤ 10) : f_m_launch_69 e b fr z mk r M = f_m_launch_128 e b fr z mk r c (if xw (M1 1 2) < xw (M1 1 (25 + d) + M1 1 3) then 1 else 0) M1 := by
  have hr : xirem (M1 1 45) (M1 1 19) = (d : Int) := by rw [h45, h19, b_irem k nc (by omega) (by omega) (by omega), hd]
  have hx : xix (25 + xirem (M1 1 45) (M1 1 19)) = 25 + d := by rw [hr, b_ix (by omega)]; omega
  have h0 : ¬ xw (M1 1 19) = 0 := by rw [h19, b_xw (by omega)]; omega
  have hb : xib (25 + xirem (M1 1 45) (M1 1 19)) 3530 := by rw [hr]; exact b_ib (by omega)
  have i45 : xib 45 3530 := b_ib (by omega)
  have i19 : xib 19 3530 := b_ib (by omega)
  have i3 : xib 3 3530 := b_ib (by omega)
  have i2 : xib 2 3530 := b_ib (by omega)
  unfold f_m_launch_69
  rw [f1, b_bs]
  dsimp only
  rw [if_pos i45, if_pos i19, if_neg h0, if_pos hb, if_pos i3, if_pos i2, hx]
  split <;> rfl
/-- the reference's launch behind its reckoning of the cost -/
theorem m_launch_69 (e o c fr z k nc : Nat) (b mk r : Int) (M : xM) (he : e < 2) (ho : o = 56 + 717 * e) (hfr : fr + z ≤ 1490) (hfr2 : o + 18 ≤ fr) (hz : z ≤ 8) (hc : c ≤ 100) (h20 : M 1 20 = c) (h45 : M 1 45 = k) (hk : k < 2147483647) (h19 : M 1 19 = nc) (hnc : 1 ≤ nc ∧ nc ≤ 10) :
    ∃ M' : xM, f_m_launch_69 (e : Int) b (fr : Int) (z : Int) mk r M = some (1, M') ∧ M' 1 20 = ((c + 1 : Nat) : Int) ∧ (M' 1 45 = M 1 45 + 1 ∧ M' 1 46 = M 1 46 + bDm (M 1) k nc ∧ M' 1 54 = M 1 54 + r) ∧
      (M' 1 (1730 + 15 * c) = M 1 0 + M 1 15 ∧ M' 1 (1730 + 15 * c + 1) = 0 ∧ M' 1 (1730 + 15 * c + 2) = 1 - (e : Int) ∧ M' 1 (1730 + 15 * c + 3) = b ∧ M' 1 (1730 + 15 * c + 4) = z ∧ M' 1 (1730 + 15 * c + 5) = bDm (M 1) k nc ∧ M' 1 (1730 + 15 * c + 6) = mk ∧ ∀ j, j < z → M' 1 (1730 + 15 * c + 7 + j) = M 1 (fr + j)) ∧
      (∀ i, i ≠ 20 → i ≠ 45 → i ≠ 46 → i ≠ 54 → (i < 1730 + 15 * c ∨ 1745 + 15 * c ≤ i) → M' 1 i = M 1 i) ∧ ∀ k, k ≠ 1 → M' k = M k := by
  obtain ⟨M1, f1, f2, f3, f4, f5, f6, f7, f8⟩ := m_fly_sp 0 (1 - (e : Int)) b M c (by omega) h20
  have hmod : k % nc < nc := Nat.mod_lt _ (by omega)
  have g : ∀ i, i ≠ 20 → i < 1730 → M1 1 i = M 1 i := fun i h1 h2 => f7 i h1 (by omega)
  have key : ∀ d : Int, ∃ M' : xM, f_m_launch_128 (e : Int) b (fr : Int) (z : Int) mk r (c : Int) d M1 = some (1, M') ∧ M' 1 20 = ((c + 1 : Nat) : Int) ∧ (M' 1 45 = M 1 45 + 1 ∧ M' 1 46 = M 1 46 + d ∧ M' 1 54 = M 1 54 + r) ∧
      (M' 1 (1730 + 15 * c) = M 1 0 + M 1 15 ∧ M' 1 (1730 + 15 * c + 1) = 0 ∧ M' 1 (1730 + 15 * c + 2) = 1 - (e : Int) ∧ M' 1 (1730 + 15 * c + 3) = b ∧ M' 1 (1730 + 15 * c + 4) = z ∧ M' 1 (1730 + 15 * c + 5) = d ∧ M' 1 (1730 + 15 * c + 6) = mk ∧ ∀ j, j < z → M' 1 (1730 + 15 * c + 7 + j) = M 1 (fr + j)) ∧
      (∀ i, i ≠ 20 → i ≠ 45 → i ≠ 46 → i ≠ 54 → (i < 1730 + 15 * c ∨ 1745 + 15 * c ≤ i) → M' 1 i = M 1 i) ∧ ∀ k, k ≠ 1 → M' k = M k := by
    intro d
    obtain ⟨M2, hM2⟩ : ∃ Z, Z = xu (xu (xu M1 1 (1730 + 15 * c + 4) (z : Int)) 1 (1730 + 15 * c + 5) d) 1 (1730 + 15 * c + 6) mk := ⟨_, rfl⟩
    obtain ⟨M3, t1, t2, t3, t4⟩ := launch_173 (e : Int) b r d fr z c hfr hz hc z 0 fu M2 (by omega) (by show _ < 5000; omega)
    have w : ∀ i, i ≠ 1730 + 15 * c + 4 → i ≠ 1730 + 15 * c + 5 → i ≠ 1730 + 15 * c + 6 → M2 1 i = M1 1 i := fun i h1 h2 h3 => by rw [hM2, xu_d h3, xu_d h2, xu_d h1]
    have w4 : M2 1 (1730 + 15 * c + 4) = z := by rw [hM2, xu_d (by omega), xu_d (by omega), xu_s rfl]
    have w5 : M2 1 (1730 + 15 * c + 5) = d := by rw [hM2, xu_d (by omega), xu_s rfl]
    have w6 : M2 1 (1730 + 15 * c + 6) = mk := by rw [hM2, xu_s rfl]
    have a45 : M3 1 45 = M 1 45 := by rw [t3 _ (by omega), w _ (by omega) (by omega) (by omega), g _ (by omega) (by omega)]
    have a46 : M3 1 46 = M 1 46 := by rw [t3 _ (by omega), w _ (by omega) (by omega) (by omega), g _ (by omega) (by omega)]
    have a54 : M3 1 54 = M 1 54 := by rw [t3 _ (by omega), w _ (by omega) (by omega) (by omega), g _ (by omega) (by omega)]
    have x : ∀ i, i ≠ 45 → i ≠ 46 → i ≠ 54 → xu (xu (xu M3 1 45 (M3 1 45 + 1)) 1 46 (M3 1 46 + d)) 1 54 (M3 1 54 + r) 1 i = M3 1 i := fun i h1 h2 h3 => by rw [xu_d h3, xu_d h2, xu_d h1]
    refine ⟨xu (xu (xu M3 1 45 (M3 1 45 + 1)) 1 46 (M3 1 46 + d)) 1 54 (M3 1 54 + r), ?_, ?_, ⟨?_, ?_, ?_⟩, ⟨?_, ?_, ?_, ?_, ?_, ?_, ?_, fun j hj => ?_⟩, fun i h1 h2 h3 h4 h5 => ?_, fun k hk => ?_⟩
    · unfold f_m_launch_128
      rw [m_flyAt (i := 1730 + 15 * c + 4) _ (by omega), b_bs, if_pos (b_ib (by omega)), b_ix (by omega), Int.toNat_natCast, m_flyAt (i := 1730 + 15 * c + 5) _ (by omega), b_bs, if_pos (b_ib (by omega)), b_ix (by omega), Int.toNat_natCast, m_flyAt (i := 1730 + 15 * c + 6) _ (by omega), b_bs, if_pos (b_ib (by omega)), b_ix (by omega), Int.toNat_natCast, ← hM2]
      have t1' : f_m_launch_173 (e : Int) b (fr : Int) (z : Int) fu r (c : Int) d 0 M2 = f_m_launch_210 (e : Int) b (fr : Int) (z : Int) r d M3 := t1
      rw [t1']
      unfold f_m_launch_210
      rw [if_pos (b_ib (by omega)), if_pos (b_ib (by omega)), if_pos (b_ib (by omega)), if_pos (b_ib (by omega)), if_pos (b_ib (by omega)), if_pos (b_ib (by omega))]
    · rw [x _ (by omega) (by omega) (by omega), t3 _ (by omega), w _ (by omega) (by omega) (by omega), f6]
    · rw [xu_d (by omega), xu_d (by omega), xu_s rfl, a45]
    · rw [xu_d (by omega), xu_s rfl, a46]
    · rw [xu_s rfl, a54]
    · rw [x _ (by omega) (by omega) (by omega), t3 _ (by omega), w _ (by omega) (by omega) (by omega), f2]
    · rw [x _ (by omega) (by omega) (by omega), t3 _ (by omega), w _ (by omega) (by omega) (by omega), f3]
    · rw [x _ (by omega) (by omega) (by omega), t3 _ (by omega), w _ (by omega) (by omega) (by omega), f4]
    · rw [x _ (by omega) (by omega) (by omega), t3 _ (by omega), w _ (by omega) (by omega) (by omega), f5]
    · rw [x _ (by omega) (by omega) (by omega), t3 _ (by omega), w4]
    · rw [x _ (by omega) (by omega) (by omega), t3 _ (by omega), w5]
    · rw [x _ (by omega) (by omega) (by omega), t3 _ (by omega), w6]
    · rw [x _ (by omega) (by omega) (by omega), t2 j (by omega) hj, w _ (by omega) (by omega) (by omega), g _ (by omega) (by omega)]
    · rw [x _ h2 h3 h4, t3 _ (by omega), w _ (by omega) (by omega) (by omega), f7 i h1 (by omega)]
    · rw [xu_K hk, xu_K hk, xu_K hk, t4 k hk, hM2, xu_K hk, xu_K hk, xu_K hk, f8 k hk]
  have e1 : f_m_launch_69 (e : Int) b (fr : Int) (z : Int) mk r M = f_m_launch_128 (e : Int) b (fr : Int) (z : Int) mk r (c : Int) (bDm (M 1) k nc) M1 := by
    rw [m_launch_dm (e : Int) fr z mk r b c k nc (k % nc) M M1 f1 rfl (by omega) (by rw [g 45 (by omega) (by omega), h45]) hk (by rw [g 19 (by omega) (by omega), h19]) hnc, g 2 (by omega) (by omega), g 3 (by omega) (by omega), g (25 + k % nc) (by omega) (by omega)]
    rfl
  rw [e1]
  exact key _
/-- the cost, and the reference's launch -/
theorem L_cost_launch (e o a fr z c k nc : Nat) (b : Int) (m M : xM) (he : e < 2) (ho : o = 56 + 717 * e) (ha : a + z ≤ 200) (hz8 : z ≤ 8) (hfr : fr + z ≤ 1490) (hfr2 : o + 18 ≤ fr) (h : bRD 4 5 m (o + 7) (o + 10) (M 1)) (hmk : M 1 (o + 9) = m 3 10) (hmk2 : m 3 10 = 0 ∨ m 3 10 = 1) (hsrc : ∀ i, i < z → M 1 (fr + i) = m 6 (a + i))
    (hc : c ≤ 100) (h20 : M 1 20 = c) (h45 : M 1 45 = k) (hk : k < 2147483647) (h19 : M 1 19 = nc) (hnc : 1 ≤ nc ∧ nc ≤ 10) (hcr : 0 ≤ M 1 (o + 5) ∧ M 1 (o + 5) ≤ 1000) :
    ∃ (r : Nat) (m' M' : xM), f_L_cost (a : Int) (z : Int) m = some ((r : Int), m') ∧ (4 ≤ r ∧ r ≤ 29) ∧ (∀ k, k ≠ 1 → k ≠ 2 → m' k = m k) ∧ (∀ k, k ≠ 0 → k ≠ 1 → k ≠ 6 → M' k = M k) ∧ (∀ j, j ≠ 9 → M' 0 j = M 0 j) ∧
      ((M 1 (o + 5) < r ∧ f_m_launch (e : Int) b (fr : Int) (z : Int) M = some (0, M') ∧ M' 1 = M 1) ∨ ((r : Int) ≤ M 1 (o + 5) ∧ f_m_launch (e : Int) b (fr : Int) (z : Int) M = some (1, M') ∧ bLa e o c fr z b r (bDm (M 1) k nc) (m 3 10) (M 1) (M' 1) ∧ bRD 1 2 m' (o + 7) (o + 10) (M' 1))) := by
  obtain ⟨M0, k1, k2, k3, k4, k5⟩ := keepWords_sp e o M he ho
  have k01 : M0 1 = M 1 := k5 1 (by omega) (by omega)
  obtain ⟨r, m', Mw, c1, c2, c3, c4, c5, c6, c7⟩ := L_cost_sp e o a fr z m M0 he ho ha hz8 (by omega) hfr2 (by rw [k01]; exact h) (by rw [k01]; exact hmk) hmk2 (by rw [k01]; exact hsrc)
  rw [k01] at c6
  have w5 : Mw 1 (o + 5) = M 1 (o + 5) := c6 _ (by omega) (by omega)
  by_cases hlt : M 1 (o + 5) < (r : Int)
  · obtain ⟨M', t1, t2, t3, t4, t5⟩ := takeWords_sp e o Mw he ho
    refine ⟨r, m', M', c1, c3, c5, fun k h0 h1 h6 => by rw [t5 k h1, c7 k h1, k5 k h0 h6], fun j hj => by rw [t5 0 (by omega), c7 0 (by omega), k4 j hj], Or.inl ⟨hlt, ?_, ?_⟩⟩
    · unfold f_m_launch
      rw [k1, b_bs, m_of (i := o + 9) M0 (by omega) (by omega), b_bs, c2, b_bs]
      dsimp only
      rw [m_of (i := o + 5) Mw (by omega) (by omega), b_bs, w5, if_pos (by rw [b_xw (by omega), b_xw (by omega)]; exact hlt), t1, b_bs]
    · funext i
      by_cases h7 : i = o + 7
      · rw [h7, t2, c7 0 (by omega), k2]
      · by_cases h10 : i < o + 10 ∨ o + 18 ≤ i
        · rw [t4 i h7 h10, c6 i h7 h10]
        · obtain ⟨j, hj⟩ : ∃ j, i = o + 10 + j := ⟨i - (o + 10), by omega⟩
          rw [hj, t3 j (by omega), c7 6 (by omega), k3 j (by omega)]
  · obtain ⟨M2, hM2⟩ : ∃ Z, Z = xu (xu Mw 1 (o + 5) (Mw 1 (o + 5) - (r : Int))) 1 (o + 9) 0 := ⟨_, rfl⟩
    have g : ∀ i, i ≠ o + 5 → i ≠ o + 9 → M2 1 i = Mw 1 i := fun i h1 h2 => by rw [hM2, xu_d h2, xu_d h1]
    have gN : ∀ i, i ≠ o + 5 → i ≠ o + 9 → i ≠ o + 7 → (i < o + 10 ∨ o + 18 ≤ i) → M2 1 i = M 1 i := fun i h1 h2 h3 h4 => by rw [g i h1 h2, c6 i h3 h4]
    obtain ⟨M', l1, l2, l3, l4, l5, l6⟩ := m_launch_69 e o c fr z k nc b (m 3 10) (r : Int) M2 he ho hfr hfr2 hz8 hc (by rw [gN _ (by omega) (by omega) (by omega) (by omega), h20]) (by rw [gN _ (by omega) (by omega) (by omega) (by omega), h45]) hk (by rw [gN _ (by omega) (by omega) (by omega) (by omega), h19]) hnc
    have hmod : k % nc < nc := Nat.mod_lt _ (by omega)
    have hdm : bDm (M2 1) k nc = bDm (M 1) k nc := by
      unfold bDm
      rw [gN 2 (by omega) (by omega) (by omega) (by omega), gN 3 (by omega) (by omega) (by omega) (by omega), gN (25 + k % nc) (by omega) (by omega) (by omega) (by omega)]
    rw [hdm] at l3 l4
    refine ⟨r, m', M', c1, c3, c5, fun k h0 h1 h6 => by rw [l6 k h1, hM2, xu_K h1, xu_K h1, c7 k h1, k5 k h0 h6], fun j hj => by rw [l6 0 (by omega), hM2, xu_k (by omega), xu_k (by omega), c7 0 (by omega), k4 j hj], Or.inr ⟨by omega, ?_, ⟨⟨?_, ?_⟩, l2, ⟨?_, ?_, ?_⟩, ⟨?_, ?_, ?_, ?_, ?_, ?_, ?_, fun j hj => ?_⟩, fun i h1 h2 h3 h4 h5 h6 h7 h8 h9 => ?_⟩, ?_⟩⟩
    · unfold f_m_launch
      rw [k1, b_bs, m_of (i := o + 9) M0 (by omega) (by omega), b_bs, c2, b_bs]
      dsimp only
      rw [m_of (i := o + 5) Mw (by omega) (by omega), b_bs, if_neg (by rw [w5, b_xw (by omega), b_xw (by omega)]; exact hlt), m_endAt (i := o + 5) _ (by omega), b_bs, if_pos (b_ib (by omega)), if_pos (b_ib (by omega)), b_ix (by omega), Int.toNat_natCast, m_endAt (i := o + 9) _ (by omega), b_bs, if_pos (b_ib (by omega)), b_ix (by omega), Int.toNat_natCast, ← hM2, k01, hmk, l1]
    · rw [l5 _ (by omega) (by omega) (by omega) (by omega) (by omega), hM2, xu_d (by omega), xu_s rfl, w5]
    · rw [l5 _ (by omega) (by omega) (by omega) (by omega) (by omega), hM2, xu_s rfl]
    · rw [l3.1, gN _ (by omega) (by omega) (by omega) (by omega)]
    · rw [l3.2.1, gN _ (by omega) (by omega) (by omega) (by omega)]
    · rw [l3.2.2, gN _ (by omega) (by omega) (by omega) (by omega)]
    · rw [l4.1, gN _ (by omega) (by omega) (by omega) (by omega), gN _ (by omega) (by omega) (by omega) (by omega)]
    · exact l4.2.1
    · exact l4.2.2.1
    · exact l4.2.2.2.1
    · exact l4.2.2.2.2.1
    · exact l4.2.2.2.2.2.1
    · exact l4.2.2.2.2.2.2.1
    · rw [l4.2.2.2.2.2.2.2 j hj, gN _ (by omega) (by omega) (by omega) (by omega)]
    · rw [l5 i h5 h6 h7 h8 h9, gN i h1 h3 h2 h4]
    · exact c4.cg rfl rfl (by rw [l5 _ (by omega) (by omega) (by omega) (by omega) (by omega), g _ (by omega) (by omega)]) (fun j hj => by rw [l5 _ (by omega) (by omega) (by omega) (by omega) (by omega), g _ (by omega) (by omega)])
/-- the cost, and the reference's launch -/
theorem L_cost56_launch (e o a fr z c k nc : Nat) (b : Int) (m M : xM) (he : e < 2) (ho : o = 56 + 717 * e) (ha : a + z ≤ 56) (hz8 : z ≤ 8) (hfr : fr + z ≤ 1490) (hfr2 : o + 18 ≤ fr) (h : bRD 4 5 m (o + 7) (o + 10) (M 1)) (hmk : M 1 (o + 9) = m 3 10) (hmk2 : m 3 10 = 0 ∨ m 3 10 = 1) (hsrc : ∀ i, i < z → M 1 (fr + i) = m 6 (a + i))
    (hc : c ≤ 100) (h20 : M 1 20 = c) (h45 : M 1 45 = k) (hk : k < 2147483647) (h19 : M 1 19 = nc) (hnc : 1 ≤ nc ∧ nc ≤ 10) (hcr : 0 ≤ M 1 (o + 5) ∧ M 1 (o + 5) ≤ 1000) :
    ∃ (r : Nat) (m' M' : xM), f_L_cost56 (a : Int) (z : Int) m = some ((r : Int), m') ∧ (4 ≤ r ∧ r ≤ 29) ∧ (∀ k, k ≠ 1 → k ≠ 2 → m' k = m k) ∧ (∀ k, k ≠ 0 → k ≠ 1 → k ≠ 6 → M' k = M k) ∧ (∀ j, j ≠ 9 → M' 0 j = M 0 j) ∧
      ((M 1 (o + 5) < r ∧ f_m_launch (e : Int) b (fr : Int) (z : Int) M = some (0, M') ∧ M' 1 = M 1) ∨ ((r : Int) ≤ M 1 (o + 5) ∧ f_m_launch (e : Int) b (fr : Int) (z : Int) M = some (1, M') ∧ bLa e o c fr z b r (bDm (M 1) k nc) (m 3 10) (M 1) (M' 1) ∧ bRD 1 2 m' (o + 7) (o + 10) (M' 1))) := by
  obtain ⟨M0, k1, k2, k3, k4, k5⟩ := keepWords_sp e o M he ho
  have k01 : M0 1 = M 1 := k5 1 (by omega) (by omega)
  obtain ⟨r, m', Mw, c1, c2, c3, c4, c5, c6, c7⟩ := L_cost56_sp e o a fr z m M0 he ho ha hz8 (by omega) hfr2 (by rw [k01]; exact h) (by rw [k01]; exact hmk) hmk2 (by rw [k01]; exact hsrc)
  rw [k01] at c6
  have w5 : Mw 1 (o + 5) = M 1 (o + 5) := c6 _ (by omega) (by omega)
  by_cases hlt : M 1 (o + 5) < (r : Int)
  · obtain ⟨M', t1, t2, t3, t4, t5⟩ := takeWords_sp e o Mw he ho
    refine ⟨r, m', M', c1, c3, c5, fun k h0 h1 h6 => by rw [t5 k h1, c7 k h1, k5 k h0 h6], fun j hj => by rw [t5 0 (by omega), c7 0 (by omega), k4 j hj], Or.inl ⟨hlt, ?_, ?_⟩⟩
    · unfold f_m_launch
      rw [k1, b_bs, m_of (i := o + 9) M0 (by omega) (by omega), b_bs, c2, b_bs]
      dsimp only
      rw [m_of (i := o + 5) Mw (by omega) (by omega), b_bs, w5, if_pos (by rw [b_xw (by omega), b_xw (by omega)]; exact hlt), t1, b_bs]
    · funext i
      by_cases h7 : i = o + 7
      · rw [h7, t2, c7 0 (by omega), k2]
      · by_cases h10 : i < o + 10 ∨ o + 18 ≤ i
        · rw [t4 i h7 h10, c6 i h7 h10]
        · obtain ⟨j, hj⟩ : ∃ j, i = o + 10 + j := ⟨i - (o + 10), by omega⟩
          rw [hj, t3 j (by omega), c7 6 (by omega), k3 j (by omega)]
  · obtain ⟨M2, hM2⟩ : ∃ Z, Z = xu (xu Mw 1 (o + 5) (Mw 1 (o + 5) - (r : Int))) 1 (o + 9) 0 := ⟨_, rfl⟩
    have g : ∀ i, i ≠ o + 5 → i ≠ o + 9 → M2 1 i = Mw 1 i := fun i h1 h2 => by rw [hM2, xu_d h2, xu_d h1]
    have gN : ∀ i, i ≠ o + 5 → i ≠ o + 9 → i ≠ o + 7 → (i < o + 10 ∨ o + 18 ≤ i) → M2 1 i = M 1 i := fun i h1 h2 h3 h4 => by rw [g i h1 h2, c6 i h3 h4]
    obtain ⟨M', l1, l2, l3, l4, l5, l6⟩ := m_launch_69 e o c fr z k nc b (m 3 10) (r : Int) M2 he ho hfr hfr2 hz8 hc (by rw [gN _ (by omega) (by omega) (by omega) (by omega), h20]) (by rw [gN _ (by omega) (by omega) (by omega) (by omega), h45]) hk (by rw [gN _ (by omega) (by omega) (by omega) (by omega), h19]) hnc
    have hmod : k % nc < nc := Nat.mod_lt _ (by omega)
    have hdm : bDm (M2 1) k nc = bDm (M 1) k nc := by
      unfold bDm
      rw [gN 2 (by omega) (by omega) (by omega) (by omega), gN 3 (by omega) (by omega) (by omega) (by omega), gN (25 + k % nc) (by omega) (by omega) (by omega) (by omega)]
    rw [hdm] at l3 l4
    refine ⟨r, m', M', c1, c3, c5, fun k h0 h1 h6 => by rw [l6 k h1, hM2, xu_K h1, xu_K h1, c7 k h1, k5 k h0 h6], fun j hj => by rw [l6 0 (by omega), hM2, xu_k (by omega), xu_k (by omega), c7 0 (by omega), k4 j hj], Or.inr ⟨by omega, ?_, ⟨⟨?_, ?_⟩, l2, ⟨?_, ?_, ?_⟩, ⟨?_, ?_, ?_, ?_, ?_, ?_, ?_, fun j hj => ?_⟩, fun i h1 h2 h3 h4 h5 h6 h7 h8 h9 => ?_⟩, ?_⟩⟩
    · unfold f_m_launch
      rw [k1, b_bs, m_of (i := o + 9) M0 (by omega) (by omega), b_bs, c2, b_bs]
      dsimp only
      rw [m_of (i := o + 5) Mw (by omega) (by omega), b_bs, if_neg (by rw [w5, b_xw (by omega), b_xw (by omega)]; exact hlt), m_endAt (i := o + 5) _ (by omega), b_bs, if_pos (b_ib (by omega)), if_pos (b_ib (by omega)), b_ix (by omega), Int.toNat_natCast, m_endAt (i := o + 9) _ (by omega), b_bs, if_pos (b_ib (by omega)), b_ix (by omega), Int.toNat_natCast, ← hM2, k01, hmk, l1]
    · rw [l5 _ (by omega) (by omega) (by omega) (by omega) (by omega), hM2, xu_d (by omega), xu_s rfl, w5]
    · rw [l5 _ (by omega) (by omega) (by omega) (by omega) (by omega), hM2, xu_s rfl]
    · rw [l3.1, gN _ (by omega) (by omega) (by omega) (by omega)]
    · rw [l3.2.1, gN _ (by omega) (by omega) (by omega) (by omega)]
    · rw [l3.2.2, gN _ (by omega) (by omega) (by omega) (by omega)]
    · rw [l4.1, gN _ (by omega) (by omega) (by omega) (by omega), gN _ (by omega) (by omega) (by omega) (by omega)]
    · exact l4.2.1
    · exact l4.2.2.1
    · exact l4.2.2.2.1
    · exact l4.2.2.2.2.1
    · exact l4.2.2.2.2.2.1
    · exact l4.2.2.2.2.2.2.1
    · rw [l4.2.2.2.2.2.2.2 j hj, gN _ (by omega) (by omega) (by omega) (by omega)]
    · rw [l5 i h5 h6 h7 h8 h9, gN i h1 h3 h2 h4]
    · exact c4.cg rfl rfl (by rw [l5 _ (by omega) (by omega) (by omega) (by omega) (by omega), g _ (by omega) (by omega)]) (fun j hj => by rw [l5 _ (by omega) (by omega) (by omega) (by omega) (by omega), g _ (by omega) (by omega)])

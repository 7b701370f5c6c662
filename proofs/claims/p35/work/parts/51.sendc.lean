/-! ===== a frame goes out, the class's own ===== -/
/-- what the class's line is behind a launch: F the first number, S the place, c what is under way from f on -/
def bLc (e F S f c : Nat) (dm : Int) (m m' : xM) : Prop :=
  (m' 30 0 = m 30 0 + 1 ∧ m' 30 1 = m 30 1 + dm ∧ ∀ j, j ≠ 0 → j ≠ 1 → m' 30 j = m 30 j) ∧ (m' 4 5 = ((S + 1 : Nat) : Int) ∧ ∀ j, j ≠ 5 → m' 4 j = m 4 j) ∧ (m' 1 10 = 0 ∧ ∀ j, j ≠ 10 → m' 1 j = m 1 j) ∧ (m' 7 ((F + S) % 7) = m 0 7 ∧ ∀ j, j ≠ (F + S) % 7 → m' 7 j = m 7 j) ∧
  (m' 24 ((f + c) % 64) = m 0 7 ∧ m' 25 ((f + c) % 64) = e ∧ m' 26 ((f + c) % 64) = ((F + S : Nat) : Int) ∧ m' 27 ((f + c) % 64) = (if m 1 10 = 0 then 0 else 4) + (if dm = 0 then 0 else 2) ∧ m' 23 5 = ((c + 1 : Nat) : Int) ∧ m' 23 4 = m 23 4 ∧ ∀ k i, 24 ≤ k → k ≤ 27 → i ≠ (f + c) % 64 → m' k i = m k i) ∧
  ∀ k, k ≠ 1 → k ≠ 4 → k ≠ 7 → (k < 23 ∨ 27 < k) → k ≠ 30 → m' k = m k
theorem S_noise_sp (k nc : Nat) (m : xM) (hk : k < 2147483647) (h : m 0 5 = nc) (hnc : 1 ≤ nc ∧ nc ≤ 10) : f_S_noise (k : Int) m = some (m 4 (k % nc)) := by
  have hmod : k % nc < nc := Nat.mod_lt _ (by omega)
  obtain ⟨d, hd⟩ : ∃ d, k % nc = d := ⟨_, rfl⟩
  rw [hd] at hmod ⊢
  have hr : xirem (k : Int) (m 0 5) = (d : Int) := by rw [h, b_irem k nc (by omega) (by omega) (by omega), hd]
  have h0 : ¬ xw (m 0 5) = 0 := by rw [h, b_xw (by omega)]; omega
  have h1 : 0 < xw (m 0 5) := by rw [h, b_xw (by omega)]; omega
  have h2 : ¬ xw (k : Int) < 0 := by rw [b_xw (by omega)]; omega
  have h3 : xw (d : Int) < xw 10 := by rw [b_xw (by omega), b_xw (by omega)]; omega
  have h4 : xib (d : Int) 10 := b_ib (by omega)
  unfold f_S_noise
  rw [if_neg h2, if_pos h1, if_neg h0, hr, if_pos h3, if_pos h4, b_ix (by omega), Int.toNat_natCast]
theorem F_slot_sp (F p : Nat) (z : Int) (m : xM) (h : m 0 3 + z = ((F + p : Nat) : Int)) (hb : F + p < 2147483648) : f_F_slot z m = some (((F + p) % 7 : Nat) : Int) := by
  unfold f_F_slot
  rw [h, show (7 : Int) = ((7 : Nat) : Int) from rfl, b_floorMod _ 7 _ hb (by decide) (by decide), b_bs]
theorem L_launch_66_sp (e F S f c : Nat) (z : Int) (m : xM) (he : e < 2) (h43 : m 4 3 = F) (h45 : m 4 5 = S) (hFS : F + S < 2000000000) (hf : m 23 4 = f) (hf64 : f ≤ 64) (hc : m 23 5 = c) (hc64 : c < 64) : ∃ m' : xM, f_L_launch_66 (e : Int) z m = some m' ∧
    (m' 30 0 = m 30 0 + 1 ∧ ∀ j, j ≠ 0 → m' 30 j = m 30 j) ∧ (m' 4 5 = ((S + 1 : Nat) : Int) ∧ ∀ j, j ≠ 5 → m' 4 j = m 4 j) ∧ (m' 1 10 = 0 ∧ ∀ j, j ≠ 10 → m' 1 j = m 1 j) ∧ (m' 7 ((F + S) % 7) = m 0 7 ∧ ∀ j, j ≠ (F + S) % 7 → m' 7 j = m 7 j) ∧
    (m' 24 ((f + c) % 64) = m 0 7 ∧ m' 25 ((f + c) % 64) = e ∧ m' 26 ((f + c) % 64) = ((F + S : Nat) : Int) ∧ m' 27 ((f + c) % 64) = z ∧ m' 23 5 = ((c + 1 : Nat) : Int) ∧ m' 23 4 = m 23 4 ∧ ∀ k i, 24 ≤ k → k ≤ 27 → i ≠ (f + c) % 64 → m' k i = m k i) ∧
    ∀ k, k ≠ 1 → k ≠ 4 → k ≠ 7 → (k < 23 ∨ 27 < k) → k ≠ 30 → m' k = m k := by
  obtain ⟨m1, hm1⟩ : ∃ Z, Z = xu m 30 0 (m 30 0 + 1) := ⟨_, rfl⟩
  have g : ∀ k, k ≠ 30 → m1 k = m k := fun k hk => by rw [hm1, xu_K hk]
  have v0 : xvw bT4 m1 0 = m 23 := by show m1 23 = _; rw [g 23 (by omega)]
  obtain ⟨q, p1, p2, p3, p4, p5, p6, p7, p8, p9⟩ := W_put_sp (m 0 7) (e : Int) (m 4 3 + m 4 5) z (xvw bT4 m1) f c hf64 hc64 (by rw [v0, hf]) (by rw [v0, hc])
  obtain ⟨m2, hm2⟩ : ∃ Z, Z = xmg bT4 5 m1 q := ⟨_, rfl⟩
  have hl : (f + c) % 64 < 64 := Nat.mod_lt _ (by decide)
  have a23 : m2 23 = q 0 := by rw [hm2]; rfl
  have a24 : m2 24 = q 1 := by rw [hm2]; rfl
  have a25 : m2 25 = q 2 := by rw [hm2]; rfl
  have a26 : m2 26 = q 3 := by rw [hm2]; rfl
  have a27 : m2 27 = q 4 := by rw [hm2]; rfl
  have ak : ∀ k, (k < 23 ∨ 27 < k) → m2 k = m1 k := fun k hk => by
    rw [hm2]
    refine xmg_no _ _ (xpos_not (fun hz => ?_))
    have hz' : k ∈ bT4 := hz
    simp only [bT4, List.mem_cons, List.not_mem_nil, or_false] at hz'
    omega
  have a4 : m2 4 = m 4 := by rw [ak 4 (by omega), g 4 (by omega)]
  have sl : f_F_slot (m2 4 5) (xvw [4, 5, 6, 7] m2) = some (((F + S) % 7 : Nat) : Int) := by
    refine F_slot_sp F S _ _ ?_ (by omega)
    have : xvw [4, 5, 6, 7] m2 0 = m2 4 := rfl
    rw [this, a4, h43, h45]; omega
  have hs7 : (F + S) % 7 < 7 := Nat.mod_lt _ (by decide)
  obtain ⟨m3, hm3⟩ : ∃ Z, Z = xu m2 7 ((F + S) % 7) (m2 0 7) := ⟨_, rfl⟩
  have e0 : m2 0 7 = m 0 7 := by rw [ak 0 (by omega), g 0 (by omega)]
  have b4 : m3 4 = m 4 := by rw [hm3, xu_K (by omega), a4]
  refine ⟨xu (xu m3 4 5 (m3 4 5 + 1)) 1 10 0, ?_, ⟨?_, fun j hj => ?_⟩, ⟨?_, fun j hj => ?_⟩, ⟨?_, fun j hj => ?_⟩, ⟨?_, fun j hj => ?_⟩, ⟨?_, ?_, ?_, ?_, ?_, ?_, fun k i h1 h2 h3 => ?_⟩, fun k h1 h2 h3 h4 h5 => ?_⟩
  · unfold f_L_launch_66
    rw [if_pos (show xib 0 11 from b_ib (by omega)), if_pos (show xib 0 11 from b_ib (by omega)), ← hm1, p1, b_bs, ← hm2, sl, b_bs, if_pos (b_ib (by omega)), b_ix (by omega), Int.toNat_natCast, ← hm3]
    rfl
  · rw [xu_k (by omega), xu_k (by omega), hm3, xu_k (by omega), ak 30 (by omega), hm1, xu_s rfl]
  · rw [xu_k (by omega), xu_k (by omega), hm3, xu_k (by omega), ak 30 (by omega), hm1, xu_d hj]
  · rw [xu_k (by omega), xu_s rfl, b4, h45]; omega
  · rw [xu_k (by omega), xu_d hj, b4]
  · rw [xu_s rfl]
  · rw [xu_d hj, xu_k (by omega), hm3, xu_k (by omega), ak 1 (by omega), g 1 (by omega)]
  · rw [xu_k (by omega), xu_k (by omega), hm3, xu_s rfl, e0]
  · rw [xu_k (by omega), xu_k (by omega), hm3, xu_d hj, ak 7 (by omega), g 7 (by omega)]
  · rw [xu_k (by omega), xu_k (by omega), hm3, xu_k (by omega), a24, p2]
  · rw [xu_k (by omega), xu_k (by omega), hm3, xu_k (by omega), a25, p3]
  · rw [xu_k (by omega), xu_k (by omega), hm3, xu_k (by omega), a26, p4, h43, h45]; omega
  · rw [xu_k (by omega), xu_k (by omega), hm3, xu_k (by omega), a27, p5]
  · rw [xu_k (by omega), xu_k (by omega), hm3, xu_k (by omega), a23, p6]
  · rw [xu_k (by omega), xu_k (by omega), hm3, xu_k (by omega), a23, p7 4 (by omega), v0]
  · rw [xu_k (by omega), xu_k (by omega), hm3, xu_k (by omega)]
    rcases (by omega : k = 24 ∨ k = 25 ∨ k = 26 ∨ k = 27) with rfl | rfl | rfl | rfl
    · rw [a24, p8 1 i (by omega) h3]; show m1 24 i = _; rw [g 24 (by omega)]
    · rw [a25, p8 2 i (by omega) h3]; show m1 25 i = _; rw [g 25 (by omega)]
    · rw [a26, p8 3 i (by omega) h3]; show m1 26 i = _; rw [g 26 (by omega)]
    · rw [a27, p8 4 i (by omega) h3]; show m1 27 i = _; rw [g 27 (by omega)]
  · rw [xu_K h1, xu_K h2, hm3, xu_K h3, ak k h4, g k h5]
theorem L_launch_sp (e F S f c k nc : Nat) (N : Nat → Int) (m : xM) (he : e < 2) (h43 : m 4 3 = F) (h45 : m 4 5 = S) (hFS : F + S < 2000000000) (hf : m 23 4 = f) (hf64 : f ≤ 64) (hc : m 23 5 = c) (hc64 : c < 64) (hmk : m 1 10 = 0 ∨ m 1 10 = 1)
    (h30 : m 30 0 = k) (hk : k < 2147483647) (hn : m 33 5 = nc) (hnc : 1 ≤ nc ∧ nc ≤ 10) (hN2 : N 2 = m 0 9) (hN3 : N 3 = m 0 10) (hN : N (25 + k % nc) = m 37 (k % nc)) : ∃ m' : xM, f_L_launch (e : Int) m = some m' ∧ bLc e F S f c (bDm N k nc) m m' := by
  have v0 : xvw bT5 m 0 = m 33 := rfl
  have v4 : xvw bT5 m 4 = m 37 := rfl
  have hno : f_S_noise (m 30 0) (xvw bT5 m) = some (m 37 (k % nc)) := by rw [h30, S_noise_sp k nc _ hk (by rw [v0, hn]) hnc, v4]
  have hL : f_L_launch (e : Int) m = f_L_launch_23 (e : Int) (if m 1 10 = 0 then 0 else 4) m := by
    unfold f_L_launch
    rcases hmk with h0 | h0
    · rw [h0, if_pos (by decide), if_pos rfl]
    · rw [h0, if_neg (by decide), if_neg (by decide)]
  rw [hL]
  unfold f_L_launch_23 bDm
  rw [if_pos (show xib 0 11 from b_ib (by omega)), hno, b_bs, hN2, hN3, hN]
  by_cases hd : xw (m 0 9) < xw (m 37 (k % nc) + m 0 10)
  · rw [if_pos hd, if_pos hd, if_pos (show xib 1 11 from b_ib (by omega)), if_pos (show xib 1 11 from b_ib (by omega))]
    have g : ∀ k, k ≠ 30 → xu m 30 1 (m 30 1 + 1) k = m k := fun k hk => xu_K hk
    obtain ⟨m', p1, ⟨p2, p3⟩, ⟨p4, p5⟩, ⟨p6, p7⟩, ⟨p8, p9⟩, ⟨q1, q2, q3, q4, q5, q6, q7⟩, q8⟩ := L_launch_66_sp e F S f c (xior (if m 1 10 = 0 then 0 else 4) 2) (xu m 30 1 (m 30 1 + 1)) he (by rw [g _ (by omega), h43]) (by rw [g _ (by omega), h45]) hFS (by rw [g _ (by omega), hf]) hf64 (by rw [g _ (by omega), hc]) hc64
    refine ⟨m', p1, ⟨by rw [p2, xu_d (by omega)], by rw [p3 1 (by omega), xu_s rfl], fun j h0 h1 => by rw [p3 j h0, xu_d h1]⟩, ⟨p4, fun j hj => by rw [p5 j hj, g _ (by omega)]⟩, ⟨p6, fun j hj => by rw [p7 j hj, g _ (by omega)]⟩, ⟨by rw [p8, g _ (by omega)], fun j hj => by rw [p9 j hj, g _ (by omega)]⟩, ⟨by rw [q1, g _ (by omega)], q2, q3, ?_, q5, by rw [q6, g _ (by omega)], fun k i h1 h2 h3 => by rw [q7 k i h1 h2 h3, g _ (by omega)]⟩, fun k h1 h2 h3 h4 h5 => by rw [q8 k h1 h2 h3 h4 h5, g _ h5]⟩
    rw [q4]
    rcases hmk with h0 | h0
    · rw [h0]; decide
    · rw [h0]; decide
  · rw [if_neg hd, if_neg hd]
    obtain ⟨m', p1, ⟨p2, p3⟩, ⟨p4, p5⟩, ⟨p6, p7⟩, ⟨p8, p9⟩, ⟨q1, q2, q3, q4, q5, q6, q7⟩, q8⟩ := L_launch_66_sp e F S f c (if m 1 10 = 0 then 0 else 4) m he h43 h45 hFS hf hf64 hc hc64
    refine ⟨m', p1, ⟨p2, by rw [p3 1 (by omega)]; omega, fun j h0 h1 => p3 j h0⟩, ⟨p4, p5⟩, ⟨p6, p7⟩, ⟨p8, p9⟩, ⟨q1, q2, q3, ?_, q5, q6, q7⟩, q8⟩
    rw [q4, if_pos rfl]; omega
/-- the queue moves up, in the class -/
theorem E_make_30 (s : Int) (z q' : Nat) (hz : z ≤ 8) (hq : q' + z ≤ 200) : ∀ (k p n : Nat) (m : xM), m 0 5 = q' → p + k = q' → k < n → ∃ m' : xM, f_E_make_30 s n (z : Int) (p : Int) m = some m' ∧ (∀ i, p ≤ i → i < q' → m' 1 i = m 1 (i + z)) ∧ (∀ i, (i < p ∨ q' ≤ i) → m' 1 i = m 1 i) ∧ ∀ k, k ≠ 1 → m' k = m k := by
  intro k
  induction k with
  | zero =>
    intro p n m h0 h1 h2
    obtain ⟨n, rfl⟩ : ∃ z, n = z + 1 := ⟨n - 1, by omega⟩
    rw [f_E_make_30, h0, if_neg (by rw [b_xw (by omega), b_xw (by omega)]; omega)]
    exact ⟨m, rfl, fun i h3 h4 => by omega, fun _ _ => rfl, fun _ _ => rfl⟩
  | succ k ih =>
    intro p n m h0 h1 h2
    obtain ⟨n, rfl⟩ : ∃ z, n = z + 1 := ⟨n - 1, by omega⟩
    rw [f_E_make_30, h0, if_pos (by rw [b_xw (by omega), b_xw (by omega)]; omega), if_pos (b_ib (by omega)), if_pos (b_ib (by omega)), b_ix (by omega), b_ix (by omega), Int.toNat_natCast, show ((p : Int) + (z : Int)).toNat = p + z by omega, show (p : Int) + 1 = ((p + 1 : Nat) : Int) by omega]
    obtain ⟨m', e1, e2, e3, e4⟩ := ih (p + 1) n (xu m 1 p (m 1 (p + z))) (by rw [xu_k (by omega), h0]) (by omega) (by omega)
    refine ⟨m', e1, fun i h3 h4 => ?_, fun i h3 => ?_, fun k hk => by rw [e4 k hk, xu_K hk]⟩
    · by_cases h5 : i = p
      · rw [h5, e3 p (by omega), xu_s rfl]
      · rw [e2 i (by omega) h4]
        by_cases hz0 : z = 0
        · subst hz0
          rw [xu_d (by omega)]
        · rw [xu_d (by omega)]
    · rw [e3 i (by omega), xu_d (by omega)]
/-- a new frame is made in the class -/
theorem E_make_sp (F C q z : Nat) (m : xM) (h5 : m 0 5 = q) (hq : q ≤ 200) (hz : z = if 8 < q then 8 else q) (h33 : m 3 3 = F) (h34 : m 3 4 = C) (hFC : F + C < 2000000000) : ∃ m' : xM, f_E_make (((F + C) % 7 : Nat) : Int) m = some m' ∧ (m' 0 5 = ((q - z : Nat) : Int) ∧ ∀ j, j ≠ 5 → m' 0 j = m 0 j) ∧ (∀ i, i < q - z → m' 1 i = m 1 (i + z)) ∧ (m' 3 4 = ((C + 1 : Nat) : Int) ∧ ∀ j, j ≠ 4 → m' 3 j = m 3 j) ∧
    (m' 5 ((F + C) % 7) = z ∧ ∀ j, j ≠ (F + C) % 7 → m' 5 j = m 5 j) ∧ ((∀ j, j < z → m' 4 ((F + C) % 7 * 8 + j) = m 1 j) ∧ ∀ i, (i < (F + C) % 7 * 8 ∨ (F + C) % 7 * 8 + z ≤ i) → m' 4 i = m 4 i) ∧ ∀ k, k ≠ 0 → k ≠ 1 → k ≠ 3 → k ≠ 4 → k ≠ 5 → m' k = m k := by
  have hs7 : (F + C) % 7 < 7 := Nat.mod_lt _ (by decide)
  have hz8 : z ≤ 8 ∧ z ≤ q := by rw [hz]; split <;> omega
  have e1 : f_E_next m = some (z : Int) := by
    unfold f_E_next
    rw [h5, hz, b_xw (by omega), b_xw (by omega)]
    by_cases h8 : 8 < q
    · rw [if_pos (by omega), if_pos h8]; rfl
    · rw [if_neg (by omega), if_neg h8]
  obtain ⟨sl, hsl⟩ : ∃ sl, (F + C) % 7 = sl := ⟨_, rfl⟩
  rw [hsl] at hs7 ⊢
  obtain ⟨v, hv⟩ : ∃ v, v = xvw [3, 4, 5, 6, 1] m := ⟨_, rfl⟩
  have v0 : v 0 = m 3 := by rw [hv]; rfl
  have v1 : v 1 = m 4 := by rw [hv]; rfl
  have v2 : v 2 = m 5 := by rw [hv]; rfl
  have v3 : v 3 = m 6 := by rw [hv]; rfl
  have v4 : v 4 = m 1 := by rw [hv]; rfl
  obtain ⟨g, hg⟩ : ∃ g, g = xu (xcp (xu v 2 sl (z : Int)) 4 1 0 (sl * 8) z) 0 4 ((C : Int) + 1) := ⟨_, rfl⟩
  have e2 : f_F_make (sl : Int) (z : Int) v = some g := by
    unfold f_F_make
    rw [if_pos (b_ib (by omega))]
    have hcb : xcb 0 ((sl : Int) * 8) (z : Int) 200 56 := by
      unfold xcb
      rw [b_xw (by omega), b_xw (by omega), b_xw (by omega)]
      omega
    have w0 : (xcp (xu v 2 sl (z : Int)) 4 1 0 (sl * 8) z) 0 4 = (C : Int) := by rw [xcp_K (by omega), xu_k (by omega), v0, h34]
    rw [if_pos hcb, b_ix (by omega), b_ix (by omega), b_ix (by omega), Int.toNat_natCast, Int.toNat_natCast, show ((sl : Int) * 8).toNat = sl * 8 by omega, w0, ← hg]
  obtain ⟨m1, hm1⟩ : ∃ Z, Z = xu (xmg [3, 4, 5, 6, 1] 5 m g) 0 5 ((q : Int) - (z : Int)) := ⟨_, rfl⟩
  have a0 : ∀ j, j ≠ 5 → m1 0 j = m 0 j := fun j hj => by rw [hm1, xu_d hj]; rfl
  have a05 : m1 0 5 = ((q - z : Nat) : Int) := by rw [hm1, xu_s rfl]; omega
  have a1 : m1 1 = m 1 := by rw [hm1, xu_K (by omega)]; show g 4 = _; rw [hg, xu_K (by omega), xcp_K (by omega), xu_K (by omega), v4]
  have a3 : m1 3 = g 0 := by rw [hm1, xu_K (by omega)]; rfl
  have a4 : m1 4 = g 1 := by rw [hm1, xu_K (by omega)]; rfl
  have a5 : m1 5 = g 2 := by rw [hm1, xu_K (by omega)]; rfl
  have a6 : m1 6 = m 6 := by rw [hm1, xu_K (by omega)]; show g 3 = _; rw [hg, xu_K (by omega), xcp_K (by omega), xu_K (by omega), v3]
  have ak : ∀ k, k ≠ 0 → k ≠ 1 → k ≠ 3 → k ≠ 4 → k ≠ 5 → m1 k = m k := fun k h0 h1 h3 h4 h5 => by
    by_cases h6 : k = 6
    · rw [h6, a6]
    · rw [hm1, xu_K h0]; exact xmg_no _ _ (xpos_not (by simp [h1, h3, h4, h5, h6]))
  obtain ⟨m', p1, p2, p3, p4⟩ := E_make_30 (sl : Int) z (q - z) hz8.1 (by omega) (q - z) 0 fu m1 a05 (by omega) (by show _ < 5000; omega)
  have p1' : f_E_make_30 (sl : Int) fu (z : Int) 0 m1 = some m' := p1
  refine ⟨m', ?_, ⟨by rw [p4 0 (by omega), a05], fun j hj => by rw [p4 0 (by omega), a0 j hj]⟩, fun i hi => by rw [p2 i (by omega) hi, a1], ⟨?_, fun j hj => ?_⟩, ⟨?_, fun j hj => ?_⟩, ⟨fun j hj => ?_, fun i hi => ?_⟩, fun k h0 h1 h3 h4 h5 => by rw [p4 k h1, ak k h0 h1 h3 h4 h5]⟩
  · unfold f_E_make f_E_make_28
    have w1 : xmg [3, 4, 5, 6, 1] 5 m g 0 5 = (q : Int) := h5
    rw [e1, b_bs, ← hv, e2, b_bs, w1, ← hm1, p1']
  · rw [p4 3 (by omega), a3, hg, xu_s rfl]; omega
  · rw [p4 3 (by omega), a3, hg, xu_d hj, xcp_K (by omega), xu_k (by omega), v0]
  · rw [p4 5 (by omega), a5, hg, xu_k (by omega), xcp_K (by omega), xu_s rfl]
  · rw [p4 5 (by omega), a5, hg, xu_k (by omega), xcp_K (by omega), xu_d hj, v2]
  · rw [p4 4 (by omega), a4, hg, xu_k (by omega)]
    unfold xcp
    rw [if_pos rfl, if_pos (by omega), xu_k (by omega), v4, show 0 + (sl * 8 + j - sl * 8) = j by omega]
  · rw [p4 4 (by omega), a4, hg, xu_k (by omega)]
    unfold xcp
    rw [if_pos rfl, if_neg (by omega), xu_k (by omega), v1]

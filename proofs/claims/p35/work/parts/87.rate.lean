/-! ===== one rate ===== -/
theorem xvw12 (m : xM) (i : Nat) (v : Int) : xvw [1, 2] (xu m 3 i v) = xvw [1, 2] m := by
  funext k
  show xu m 3 i v (xT [1, 2] k) = m (xT [1, 2] k)
  refine xu_K ?_
  unfold xT
  by_cases h : k < 1000
  · rw [if_pos h]
    match k with
    | 0 => decide
    | 1 => decide
    | k + 2 => show (0 : Nat) ≠ 3; decide
  · rw [if_neg h]; omega
theorem R_greater_sp {B : Nat → Int} {L f0 : Nat} {m M : xM} (p : Nat) (hp : p < 5) (a b t : Int) (hab : 1 ≤ a ∧ a ≤ b ∧ b ≤ 99999) (ht : (p = 0 ∧ t = 0) ∨ (0 < p ∧ t = m 3 (p - 1) ∧ 0 ≤ t ∧ t ≤ 99999)) (h : bSs B L f0 (m 1) (m 2) M) : ∃ (x : Int) (m' M' : xM) (W : Int), f_R_greater (p : Int) a b m = some (x, m') ∧ f_m_readGreater a b t M = some (W, M') ∧ (∀ k, k ≠ 1 → k ≠ 3 → m' k = m k) ∧ (m' 1 0 = m 1 0 ∧ m' 1 1 = m 1 1) ∧ bFm M M' ∧ (∀ i, i ≠ p → m' 3 i = m 3 i) ∧ ((x = 1 ∧ m' 3 p = W ∧ a ≤ W ∧ W ≤ b ∧ t < W ∧ ∃ s' e', f0 < s' ∧ bGo B L s' e' (m' 1) (m' 2) M') ∨ (x = 0 ∧ bEr B L (m' 1) M')) := by
  have hx : xix (p : Int) = p := by rw [b_ix (by omega)]; exact Int.toNat_natCast _
  have t9 : 0 ≤ t ∧ t ≤ 99999 := by omega
  unfold f_R_greater
  rcases st_greater (m := xvw [1, 2] m) a b (by omega) h with ⟨c1, V, v1, v2, v3, c2⟩ | ⟨q2, c1, c2, c3⟩
  · have v1' : m 1 5 = V := v1
    have hc := c2 t t9.1 t9.2
    rw [c1, Option.bind_some]
    dsimp only
    rw [if_neg (show ¬ xw 1 = 0 by decide), xmg_self [1, 2] 2 (by omega) m, if_neg (show ¬ xw (p : Int) < 0 by rw [b_xw (by omega)]; omega), if_pos (show xw (p : Int) < xw 5 by rw [b_xw (by omega), b_xw (by omega)]; omega)]
    have good : t < V → ∃ (x : Int) (m' M' : xM) (W : Int), f_R_greater_53 (p : Int) a b m = some (x, m') ∧ f_m_readGreater a b t M = some (W, M') ∧ (∀ k, k ≠ 1 → k ≠ 3 → m' k = m k) ∧ (m' 1 0 = m 1 0 ∧ m' 1 1 = m 1 1) ∧ bFm M M' ∧ (∀ i, i ≠ p → m' 3 i = m 3 i) ∧ ((x = 1 ∧ m' 3 p = W ∧ a ≤ W ∧ W ≤ b ∧ t < W ∧ ∃ s' e', f0 < s' ∧ bGo B L s' e' (m' 1) (m' 2) M') ∨ (x = 0 ∧ bEr B L (m' 1) M')) := fun hV => by
      obtain ⟨q3, M3, d1, d2, d3, d4, s3, e3', d5, d6⟩ := hc.1 hV
      unfold f_R_greater_53
      rw [if_pos (b_ib (by omega)), hx, xvw12, d1, Option.bind_some, v1']
      obtain ⟨n1, w1, w2, w3, w4, w5, w6⟩ := R_mg (xu m 3 p V) q3 (by rw [xvw12]; exact d3)
      rw [w1]
      exact ⟨1, n1, M3, V, rfl, d2, fun k k1 k3 => by rw [w4 k k1, xu_K k3], ⟨by rw [w5, xu_k (by omega)], by rw [w6, xu_k (by omega)]⟩, d4, fun i hi => by rw [w4 3 (by omega), xu_d hi], Or.inl ⟨rfl, by rw [w4 3 (by omega), xu_s rfl], v2, v3, hV, s3, e3', d5, by rw [w2, w3]; exact d6⟩⟩
    rcases ht with ⟨h0, h1⟩ | ⟨h0, h1, h2⟩
    · rw [if_neg (show ¬ 0 < xw (p : Int) by rw [b_xw (by omega)]; omega)]
      exact good (by omega)
    · have e1 : (p : Int) - 1 = ((p - 1 : Nat) : Int) := by omega
      have hx1 : xix ((p - 1 : Nat) : Int) = p - 1 := by rw [b_ix (by omega)]; exact Int.toNat_natCast _
      rw [if_pos (show 0 < xw (p : Int) by rw [b_xw (by omega)]; omega), e1, if_pos (b_ib (by omega)), hx1, ← h1, v1', b_xw (show -2147483648 ≤ t ∧ t < 2147483648 by omega), b_xw (show -2147483648 ≤ V ∧ V < 2147483648 by omega)]
      by_cases hV : t < V
      · rw [if_pos hV]; exact good hV
      · rw [if_neg hV]
        obtain ⟨q3, M3, W, d1, d2, d3, d4, d5⟩ := hc.2 hV
        rw [d1, Option.bind_some]
        dsimp only
        rw [if_pos (show xbz 0 by decide)]
        obtain ⟨n1, w1, w2, w3, w4, w5, w6⟩ := R_mg m q3 d3
        rw [w1]
        exact ⟨0, n1, M3, W, rfl, d2, fun k k1 k3 => w4 k k1, ⟨w5, w6⟩, d4, fun i hi => by rw [w4 3 (by omega)], Or.inr ⟨rfl, by rw [w2]; exact d5⟩⟩
  · rw [c1, Option.bind_some]
    dsimp only
    rw [if_pos (show xw 0 = 0 by decide)]
    obtain ⟨M3, W, d1, d2, d3⟩ := c3 t
    obtain ⟨n1, w1, w2, w3, w4, w5, w6⟩ := R_mg m q2 c2
    rw [w1]
    exact ⟨0, n1, M3, W, rfl, d1, fun k k1 k3 => w4 k k1, ⟨w5, w6⟩, d2, fun i hi => by rw [w4 3 (by omega)], Or.inr ⟨rfl, by rw [w2]; exact d3⟩⟩
theorem G_mg (m q : xM) (c : Nat) (hc : c = 4 ∨ c = 5) (h0 : q 0 = m 0) (h2 : q 2 = m 2) : ∃ m' : xM, xmg [0, 1, 2, c] 4 m q = m' ∧ m' 1 = q 1 ∧ m' 2 = q 2 ∧ m' c = q 3 ∧ ∀ k, k ≠ 1 → k ≠ c → m' k = m k := by
  have key : ∀ k, xmg [0, 1, 2, c] 4 m q k = if k = 0 then q 0 else if k = 1 then q 1 else if k = 2 then q 2 else if k = c then q 3 else m k := fun k => by
    unfold xmg
    show (match xpos [0, 1, 2, c] 0 k with | some k => q k | none => m k) = _
    unfold xpos xpos xpos xpos xpos
    by_cases a0 : k = 0
    · rw [if_pos a0, if_pos a0]
    · rw [if_neg a0, if_neg a0]
      by_cases a1 : k = 1
      · rw [if_pos a1, if_pos a1]
      · rw [if_neg a1, if_neg a1]
        by_cases a2 : k = 2
        · rw [if_pos a2, if_pos a2]
        · rw [if_neg a2, if_neg a2]
          by_cases a3 : k = c
          · rw [if_pos a3, if_pos a3]
          · rw [if_neg a3, if_neg a3]
  refine ⟨_, rfl, by rw [key 1]; rfl, by rw [key 2]; rfl, ?_, fun k k1 kc => ?_⟩
  · rw [key c, if_neg (by omega), if_neg (by omega), if_neg (by omega), if_pos rfl]
  · rw [key k]
    by_cases a0 : k = 0
    · rw [if_pos a0, h0, a0]
    · rw [if_neg a0, if_neg k1]
      by_cases a2 : k = 2
      · rw [if_pos a2, h2, a2]
      · rw [if_neg a2, if_neg kc]

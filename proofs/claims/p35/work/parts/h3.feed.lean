/-! ===== bytes fed ===== -/
theorem b_idiv (a b : Nat) (ha : a < 2147483648) (hb : 0 < b) (hb2 : b < 2147483648) : xidiv (a : Int) (b : Int) = ((a / b : Nat) : Int) := by
  have hl : a / b ≤ a := Nat.div_le_self a b
  unfold xidiv
  rw [b_of, b_of, pk_div ha hb hb2, nI_toInt (by omega)]
theorem xidiv_pos {x y : Int} (hx : 0 ≤ x ∧ x < 2147483648) (hy : 0 < y ∧ y < 2147483648) : xidiv x y = x / y := by
  obtain ⟨a, rfl⟩ := Int.eq_ofNat_of_zero_le hx.1
  obtain ⟨b, rfl⟩ := Int.eq_ofNat_of_zero_le (by omega : 0 ≤ y)
  rw [b_idiv a b (by omega) (by omega) (by omega)]
  rfl
def fbW (a b c d e : Int) (k : Nat) : Int := if k < 4 then a else if k < 8 then b else if k < 12 then c else if k < 16 then d else e
def fbB (a b c d e : Int) (k : Nat) : Int := xiand (xishr (fbW a b c d e k) (24 - 8 * ((k % 4 : Nat) : Int))) 255
def fbL (a b c d e : Int) : List Int := (List.range 20).map (fbB a b c d e)
section
variable {s : aS} {B : Int} {M : xM} {H : List aS} {S : Option aS} {bf : List Int}
theorem r_feed_23 (a b c d e : Int) : ∀ (j k n N : Nat) (M : xM), k + j = 20 → j < n → N + 20 ≤ 600 → M 0 13 = ((N + k : Nat) : Int) → ∃ M' : xM, f_m_feed_23 a b c d e n (k : Int) M = some (((N + 20 : Nat) : Int), M') ∧ M' 0 13 = ((N + 20 : Nat) : Int) ∧ (∀ i, i ≠ 13 → M' 0 i = M 0 i) ∧ (∀ i, i < N + k → M' 8 i = M 8 i) ∧ (∀ i, k ≤ i → i < 20 → M' 8 (N + i) = fbB a b c d e i) ∧ ∀ z, z ≠ 0 → z ≠ 8 → M' z = M z := by
  intro j
  induction j with
  | zero =>
    intro k n N M h1 h2 h3 h4
    obtain ⟨n, rfl⟩ : ∃ z, n = z + 1 := ⟨n - 1, by omega⟩
    refine ⟨M, ?_, by rw [h4]; congr 1; omega, fun _ _ => rfl, fun _ _ => rfl, fun i a b => by omega, fun _ _ _ => rfl⟩
    rw [f_m_feed_23, if_neg (by rw [xw_nat (by omega), show xw 20 = 20 by decide]; omega)]
    unfold f_m_feed_120
    rw [h4, show N + k = N + 20 by omega]
  | succ j ih =>
    intro k n N M h1 h2 h3 h4
    obtain ⟨n, rfl⟩ : ∃ z, n = z + 1 := ⟨n - 1, by omega⟩
    obtain ⟨M1, hM1⟩ : ∃ Z, Z = xu (xu M 8 (N + k) (fbB a b c d e k)) 0 13 (((N + k : Nat) : Int) + 1) := ⟨_, rfl⟩
    obtain ⟨M', m1, m2, m3, m4, m5, m6⟩ := ih (k + 1) n N M1 (by omega) (by omega) h3 (by rw [hM1, xu_s rfl]; omega)
    refine ⟨M', ?_, m2, fun i hi => by rw [m3 i hi, hM1, xu_d hi, xu_k (by omega)], fun i hi => by rw [m4 i (by omega), hM1, xu_k (by omega), xu_d (by omega)], fun i i1 i2 => ?_, fun z z0 z8 => by rw [m6 z z0 z8, hM1, xu_K z0, xu_K z8]⟩
    · have s76 : ∀ W : Int, W = fbW a b c d e k → f_m_feed_76 a b c d e (f_m_feed_23 a b c d e n) (k : Int) W M = some (((N + 20 : Nat) : Int), M') := fun W hW => by
        unfold f_m_feed_76 f_m_feed_104
        rw [if_neg (by decide), h4, if_pos (by unfold xib; rw [xw_nat (by omega)]; omega), xirem_pos (x := (k : Int)) (y := 4) ⟨by omega, by omega⟩ ⟨by omega, by omega⟩, show (k : Int) % 4 = ((k % 4 : Nat) : Int) by omega, hW]
        have e1 : xix ((N + k : Nat) : Int) = N + k := xix_nat (by omega)
        rw [e1, xu_k (by omega), h4]
        show f_m_feed_23 a b c d e n ((k : Int) + 1) (xu (xu M 8 (N + k) (fbB a b c d e k)) 0 13 (((N + k : Nat) : Int) + 1)) = _
        rw [← hM1, show (k : Int) + 1 = ((k + 1 : Nat) : Int) by omega]
        exact m1
      rw [f_m_feed_23, xw_nat (by omega), show xw 20 = 20 by decide, show xw 4 = 4 by decide, show xw 8 = 8 by decide, show xw 12 = 12 by decide, show xw 16 = 16 by decide, if_pos (by omega)]
      by_cases c4 : k < 4
      · rw [if_pos (by omega), s76 a (by unfold fbW; rw [if_pos c4])]
      · rw [if_neg (by omega)]
        by_cases c8 : k < 8
        · rw [if_pos (by omega), s76 b (by unfold fbW; rw [if_neg c4, if_pos c8])]
        · rw [if_neg (by omega)]
          by_cases c12 : k < 12
          · rw [if_pos (by omega), s76 c (by unfold fbW; rw [if_neg c4, if_neg c8, if_pos c12])]
          · rw [if_neg (by omega)]
            by_cases c16 : k < 16
            · rw [if_pos (by omega), s76 d (by unfold fbW; rw [if_neg c4, if_neg c8, if_neg c12, if_pos c16])]
            · rw [if_neg (by omega), s76 e (by unfold fbW; rw [if_neg c4, if_neg c8, if_neg c12, if_neg c16])]
    · by_cases ci : i = k
      · rw [ci, m4 _ (by omega), hM1, xu_k (by omega), xu_s rfl]
      · exact m5 i (by omega) i2
theorem fbL_get (a b c d e : Int) {i : Nat} (hi : i < 20) : (fbL a b c d e).getD i 0 = fbB a b c d e i := by
  unfold fbL
  rw [List.getD_eq_getElem?_getD, List.getElem?_map, List.getElem?_range hi]
  rfl
theorem fbL_len (a b c d e : Int) : (fbL a b c d e).length = 20 := by
  unfold fbL
  rw [List.length_map, List.length_range]
theorem r_feed (h : rX B M s H S bf) (hl : bf.length + 20 ≤ 600) (a b c d e : Int) : ∃ M' : xM, f_m_feed a b c d e M = some (((bf.length + 20 : Nat) : Int), M') ∧ M' 0 6 = 0 ∧ rX B M' s H S (bf ++ fbL a b c d e) := by
  have h0 := h.z06
  obtain ⟨a1, ⟨a2, a3, a4⟩, a5, a6, a7, a8⟩ := h0
  obtain ⟨M', m1, m2, m3, m4, m5, m6⟩ := r_feed_23 a b c d e 20 0 fu bf.length (xu M 0 6 0) (by omega) (by show _ < 5000; omega) hl (by rw [a6, Nat.add_zero])
  refine ⟨M', ?_, by rw [m3 6 (by omega), xu_s rfl], ?_, ⟨by rw [m3 5 (by omega), a2], a3, fun i t ht => by rw [m6 5 (by omega) (by omega)]; exact a4 i t ht⟩, fun t ht => ⟨by rw [m3 7 (by omega)]; exact (a5 t ht).1, by rw [m6 4 (by omega) (by omega)]; exact (a5 t ht).2⟩, ?_, ?_, fun i hi => ?_⟩
  · unfold f_m_feed
    have h13 : M 0 13 = (bf.length : Int) := h.2.2.2.1
    rw [h13, if_neg (by rw [show xw 600 = 600 by decide, xw_id (x := (bf.length : Int) + 20) (by omega) (by omega)]; omega)]
    exact m1
  · rw [m6 1 (by omega) (by omega)]; exact a1
  · rw [m2, List.length_append, fbL_len]
  · rw [List.length_append, fbL_len]; exact hl
  · rw [List.length_append, fbL_len] at hi
    rw [getD_app2]
    by_cases ci : i < bf.length
    · rw [if_pos ci, m4 i (by omega), a8 i ci]
    · rw [if_neg ci, fbL_get a b c d e (by omega), ← m5 (i - bf.length) (by omega) (by omega), show bf.length + (i - bf.length) = i by omega]
theorem aX.feed {m : xM} (h : aX B m s H S bf) (hl : bf.length + 20 ≤ 600) (a b c d e : Int) : ∃ m' : xM, f_X_feed a b c d e m = some (((bf.length + 20 : Nat) : Int), m') ∧ aX B m' s H S (bf ++ fbL a b c d e) := by
  obtain ⟨G, M, g1, g2⟩ := h
  obtain ⟨M', e1, e2, e3⟩ := r_feed g2 hl a b c d e
  obtain ⟨m', f1, f2⟩ := (X_feed_sp a b c d e m M g1).val e1
  exact ⟨m', f1, G, M', f2, e3⟩
end

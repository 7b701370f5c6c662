/-! ===== what is foreseen comes ===== -/
section
variable {s : aS} {B : Int} {m : xM} {H : List aS} {S : Option aS} {bf : List Int}
theorem aX.fly (h : aX B m s H S bf) : ((s.2.2 1730)).length ≤ 42 := by
  obtain ⟨G, M, h1, h2⟩ := h
  exact h2.1.fly (h1.line1 h2.1.1).1 rfl
theorem aDo_0 (hi : aI B s) (h1 : 108 ≤ B) (hf : ((s.2.2 1730)).length ≤ 150) (hv : vB s) : (aTick s).1 0 = s.1 0 + 1 := by
  have k : vK (s.1 0) (vC (aDo s)) (aDo s) := by
    unfold aDo
    split
    · exact hv.k.train rfl (by assumption)
    · split
      · exact hv.k.wait rfl (by assumption)
      · split
        · exact hv.k.live rfl (by assumption) hi h1 hf
        · exact hv.k
  unfold aTick
  rw [aN_1, if_pos rfl, k.1]
/-- a tick of the class -/
theorem aX.tick1 (h : aX B m s H S bf) (hv : vB s) (ht : s.1 0 + 1 ≤ 99999) (h1 : 108 ≤ B) (hB : B + 30000 ≤ 500000000) : vB (aTick s) ∧ (aTick s).1 0 = s.1 0 + 1 ∧ ∃ m' : xM, aX (B + 30000) m' (aTick s) (aPush H s) S bf := by
  have hf := h.fly
  have hi := h.ai.1
  obtain ⟨m', -, h2⟩ := h.pass 1 (by omega) (by omega) h1 (by omega)
  refine ⟨hv.tick hi h1 (by omega), aDo_0 hi h1 (by omega) hv, m', ?_⟩
  have e : aTicks 1 s = aTick s := rfl
  rw [e] at h2
  exact h2.le (by omega)
theorem aX.ticks : ∀ (k : Nat) {B : Int} {m : xM} {s : aS} {H : List aS}, aX B m s H S bf → vB s → s.1 0 + k ≤ 99999 → 108 ≤ B → B + 30000 * k ≤ 500000000 → vB (aTicks k s) ∧ (aTicks k s).1 0 = s.1 0 + k := by
  intro k
  induction k with
  | zero =>
    intro B m s H h hv ht h1 hB
    exact ⟨hv, by show s.1 0 = _; omega⟩
  | succ k ih =>
    intro B m s H h hv ht h1 hB
    obtain ⟨v1, v2, m', h2⟩ := h.tick1 hv (by omega) h1 (by omega)
    obtain ⟨w1, w2⟩ := ih h2 v1 (by omega) (by omega) (by omega)
    refine ⟨w1, ?_⟩
    show (aTicks k (aTick s)).1 0 = _
    rw [w2, v2]
    omega
theorem aFin_rg : ∀ (k : Nat) (x : Int) (s : aS), 0 ≤ x → (aFin k x s = -1 ∨ x ≤ aFin k x s) ∧ aFin k x s < x + k ∧ -1 ≤ aFin k x s
  | 0, x, s, h => ⟨Or.inl rfl, by show (-1 : Int) < _; omega, by show (-1 : Int) ≤ -1; omega⟩
  | k + 1, x, s, h => by
    obtain ⟨i1, i2, i3⟩ := aFin_rg k (x + 1) (aTick s) (by omega)
    show ((if s.1 1 = 0 then -1 else if aDone s = true then x else aFin k (x + 1) (aTick s)) = -1 ∨ x ≤ (if s.1 1 = 0 then -1 else if aDone s = true then x else aFin k (x + 1) (aTick s))) ∧ (if s.1 1 = 0 then -1 else if aDone s = true then x else aFin k (x + 1) (aTick s)) < _ ∧ -1 ≤ (if s.1 1 = 0 then -1 else if aDone s = true then x else aFin k (x + 1) (aTick s))
    split
    · exact ⟨Or.inl rfl, by omega, by omega⟩
    · split
      · exact ⟨Or.inr (by omega), by omega, by omega⟩
      · exact ⟨by omega, by omega, i3⟩
theorem aFin_sh : ∀ (k : Nat) (x : Int) (s : aS), 0 ≤ x → aFin k (x + 1) s = if aFin k x s < 0 then -1 else aFin k x s + 1
  | 0, x, s, h => by
    show (-1 : Int) = if (-1 : Int) < 0 then -1 else _
    rw [if_pos (by omega)]
  | k + 1, x, s, h => by
    have ih := aFin_sh k (x + 1) (aTick s) (by omega)
    show (if s.1 1 = 0 then -1 else if aDone s = true then x + 1 else aFin k (x + 1 + 1) (aTick s)) = if (if s.1 1 = 0 then -1 else if aDone s = true then x else aFin k (x + 1) (aTick s)) < 0 then -1 else (if s.1 1 = 0 then -1 else if aDone s = true then x else aFin k (x + 1) (aTick s)) + 1
    by_cases c : s.1 1 = 0
    · rw [if_pos c, if_pos c, if_pos (by omega)]
    · rw [if_neg c, if_neg c]
      by_cases d : aDone s = true
      · rw [if_pos d, if_pos d, if_neg (by omega)]
      · rw [if_neg d, if_neg d]
        exact ih
theorem aFin_mo : ∀ (k : Nat) (x : Int) (s : aS), 0 ≤ x → 0 ≤ aFin k x s → aFin (k + 1) x s = aFin k x s
  | 0, x, s, h, w => absurd w (by show ¬ (0 : Int) ≤ -1; omega)
  | k + 1, x, s, h, w => by
    have e : ∀ k, aFin (k + 1) x s = if s.1 1 = 0 then -1 else if aDone s = true then x else aFin k (x + 1) (aTick s) := fun k => rfl
    rw [e k] at w
    rw [e (k + 1), e k]
    by_cases c : s.1 1 = 0
    · rw [if_pos c, if_pos c]
    · rw [if_neg c] at w ⊢
      rw [if_neg c]
      by_cases d : aDone s = true
      · rw [if_pos d, if_pos d]
      · rw [if_neg d] at w ⊢
        rw [if_neg d]
        exact aFin_mo k (x + 1) (aTick s) (by omega) w
theorem aDone_ph {s : aS} (h : aDone s = true) : s.1 1 = 2 := by
  unfold aDone at h
  exact (of_decide_eq_true h).1
theorem aFin_e (k : Nat) (x : Int) (s : aS) : aFin (k + 1) x s = if s.1 1 = 0 then -1 else if aDone s = true then x else aFin k (x + 1) (aTick s) := rfl
theorem aFin_dn {s : aS} : aFin 401 0 s = 0 ↔ aDone s = true := by
  have i := aFin_rg 400 (0 + 1) (aTick s) (by omega)
  rw [aFin_e 400]
  by_cases c : s.1 1 = 0
  · rw [if_pos c]
    exact ⟨fun w => absurd w (by decide), fun w => by have := aDone_ph w; omega⟩
  · rw [if_neg c]
    by_cases d : aDone s = true
    · rw [if_pos d]
      exact ⟨fun _ => d, fun _ => rfl⟩
    · rw [if_neg d]
      exact ⟨fun w => by omega, fun w => absurd w d⟩
theorem aFin_tk : ∀ (n : Nat) (s : aS), (n : Int) ≤ aFin 401 0 s → aFin 401 0 (aTicks n s) = aFin 401 0 s - n
  | 0, s, h => by show aFin 401 0 s = _; omega
  | n + 1, s, h => by
    have e : aFin 401 0 s = if s.1 1 = 0 then -1 else if aDone s = true then 0 else aFin 400 (0 + 1) (aTick s) := aFin_e 400 0 s
    by_cases c : s.1 1 = 0
    · rw [if_pos c] at e
      omega
    · rw [if_neg c] at e
      by_cases d : aDone s = true
      · rw [if_pos d] at e
        omega
      · rw [if_neg d, aFin_sh 400 0 (aTick s) (by omega)] at e
        by_cases w : aFin 400 0 (aTick s) < 0
        · rw [if_pos w] at e
          omega
        · rw [if_neg w] at e
          have mo : aFin 401 0 (aTick s) = aFin 400 0 (aTick s) := aFin_mo 400 0 (aTick s) (by omega) (by omega)
          have := aFin_tk n (aTick s) (by omega)
          show aFin 401 0 (aTicks n (aTick s)) = _
          rw [this]
          omega
theorem aTick_0 {s : aS} (h : s.1 1 = 0) : (aTick s).1 1 = 0 := by
  unfold aTick aDo
  rw [aN_1, if_neg (by omega), if_neg (by omega), if_neg (by omega), if_neg (by omega)]
  exact h
theorem aTicks_0 : ∀ (n : Nat) {s : aS}, s.1 1 = 0 → (aTicks n s).1 1 = 0
  | 0, _, h => h
  | n + 1, s, h => by
    show (aTicks n (aTick s)).1 1 = 0
    exact aTicks_0 n (aTick_0 h)
theorem aFin_le : ∀ (n k : Nat) (s : aS), n < k → aDone (aTicks n s) = true → 0 ≤ aFin k 0 s ∧ aFin k 0 s ≤ n
  | 0, k, s, hk, h => by
    obtain ⟨k, rfl⟩ : ∃ z, k = z + 1 := ⟨k - 1, by omega⟩
    have h' : aDone s = true := h
    have := aDone_ph h'
    rw [aFin_e, if_neg (by omega), if_pos h']
    exact ⟨Int.le_refl _, Int.le_refl _⟩
  | n + 1, k, s, hk, h => by
    obtain ⟨k, rfl⟩ : ∃ z, k = z + 1 := ⟨k - 1, by omega⟩
    have h' : aDone (aTicks n (aTick s)) = true := h
    rw [aFin_e]
    by_cases c : s.1 1 = 0
    · have := aDone_ph h'
      have := aTicks_0 n (aTick_0 c)
      omega
    · rw [if_neg c]
      by_cases d : aDone s = true
      · rw [if_pos d]
        omega
      · rw [if_neg d, aFin_sh k 0 (aTick s) (by omega)]
        have := aFin_le n k (aTick s) (by omega) h'
        rw [if_neg (by omega)]
        omega
theorem xlcmp_self (x : Int) : xw (xlcmp x x) = 0 := by
  unfold xlcmp
  rw [(lg_cmp_eq (Int64.ofInt x) (Int64.ofInt x)).mpr rfl]
  decide
theorem aPush_lt (H : List aS) (s : aS) (h : H.length < 10) : aPush H s = H ++ [s] := by
  unfold aPush
  rw [if_neg (by omega)]
theorem aX.isPassed (h : aX B m s H S bf) (hv : vB s) {n : Nat} (hn : 1 ≤ n ∧ n ≤ 200) (ht : s.1 0 + n ≤ 99999) (hH : H.length < 10) (h1 : 108 ≤ B) (hB : B + 30000 * n + 30000 * 401 ≤ 400000000) (hp : gH) : ∃ m' : xM, f_L_isPassed (n : Int) hp m = some (1, m') ∧ aX (B + 30000 * n) m' s H S bf := by
  obtain ⟨hi, hu⟩ := h.ai
  obtain ⟨d, hd⟩ := d_all hi
  obtain ⟨m1, a1, a2⟩ := h.behind (e := 0) (by omega) n (by omega) h1 (by omega)
  obtain ⟨m2, b1, b2⟩ := a2.behind (e := 1) (by omega) n (by omega) h1 (by omega)
  obtain ⟨m3, c1, c2⟩ := b2.finish h1 (by omega)
  obtain ⟨m4, d1, d2⟩ := c2.pass n hn ht h1 (by omega)
  obtain ⟨v1, v2⟩ := h.ticks n hv ht h1 (by omega)
  obtain ⟨t, ht'⟩ : ∃ t, t = aTicks n s := ⟨_, rfl⟩
  rw [← ht'] at a1 b1 d1 d2 v1 v2
  rw [show ((0 : Nat) : Int) = 0 from rfl] at a1
  rw [show ((1 : Nat) : Int) = 1 from rfl] at b1
  obtain ⟨m5, e1, e2⟩ := d2.sound (by omega) (by omega) v1 hp
  rw [aPush_lt H s hH] at e2
  have g0 : f_L_all m hp = some d := hd m hp (h.see (by omega))
  have g3 : f_L_all m3 hp = some d := hd m3 hp (c2.see (by omega))
  have t10 : f_X_total 10 m3 = some (s.1 55) := (c2.see (by omega)).2.1 10 (by omega)
  have s4 := d2.see (by omega)
  have s5 := e2.see (by omega)
  have x05 : f_X_end 0 5 m4 = some (t.1 ((56 + 717 * 0) + 4)) := s4.2.2.1 0 5 (by omega) (by omega)
  have x15 : f_X_end 1 5 m4 = some (t.1 ((56 + 717 * 1) + 4)) := s4.2.2.1 1 5 (by omega) (by omega)
  have y1 : f_X_size 1 m5 = some (t.1 1) := s5.1 1 (by omega)
  have y00 : f_X_end 0 0 m5 = some (((t.2.1 (56 + 717 * 0 + 117))).length : Int) := s5.2.2.1 0 0 (by omega) (by omega)
  have y10 : f_X_end 1 0 m5 = some (((t.2.1 (56 + 717 * 1 + 117))).length : Int) := s5.2.2.1 1 0 (by omega) (by omega)
  have y01 : f_X_end 0 1 m5 = some (aCnt 0 ((t.2.2 (56 + 717 * 0 + 26)))) := s5.2.2.1 0 1 (by omega) (by omega)
  have y11 : f_X_end 1 1 m5 = some (aCnt 0 ((t.2.2 (56 + 717 * 1 + 26)))) := s5.2.2.1 1 1 (by omega) (by omega)
  have y02 : f_X_end 0 2 m5 = some (aCnt 1 ((t.2.2 (56 + 717 * 0 + 26)))) := s5.2.2.1 0 2 (by omega) (by omega)
  have y12 : f_X_end 1 2 m5 = some (aCnt 1 ((t.2.2 (56 + 717 * 1 + 26)))) := s5.2.2.1 1 2 (by omega) (by omega)
  have it := e2.ai.1
  obtain ⟨f0, q0, -⟩ := it.2.2.2.1 0 (by omega)
  obtain ⟨f1, q1, -⟩ := it.2.2.2.1 1 (by omega)
  have k0 := aCnt_all _ fun f hf => (f0.2.1 f hf).2.1
  have k1 := aCnt_all _ fun f hf => (f1.2.1 f hf).2.1
  have lf0 : ((t.2.2 (56 + 717 * 0 + 26))).length ≤ 7 := f0.1
  have lf1 : ((t.2.2 (56 + 717 * 1 + 26))).length ≤ 7 := f1.1
  have lq0 : ((t.2.1 (56 + 717 * 0 + 117))).length ≤ 300 := q0.1
  have lq1 : ((t.2.1 (56 + 717 * 1 + 117))).length ≤ 300 := q1.1
  have k0' : aCnt 0 ((t.2.2 (56 + 717 * 0 + 26))) + aCnt 1 ((t.2.2 (56 + 717 * 0 + 26))) = (((t.2.2 (56 + 717 * 0 + 26))).length : Int) := k0
  have k1' : aCnt 0 ((t.2.2 (56 + 717 * 1 + 26))) + aCnt 1 ((t.2.2 (56 + 717 * 1 + 26))) = (((t.2.2 (56 + 717 * 1 + 26))).length : Int) := k1
  have n1 : t.1 ((56 + 717 * 0) + 4) + t.1 ((56 + 717 * 1) + 4) = t.1 55 := v1.1.1
  have fr := aFin_rg 401 0 s (by omega)
  have ph := it.1.2.1
  obtain ⟨z, hz⟩ : ∃ z, z = aFin 401 0 s := ⟨_, rfl⟩
  rw [← hz] at c1 fr
  -- the end of what is asked
  have t199 : ∀ m6 : xM, aX (B + 30000 * n) m6 t (H ++ [s]) S bf → ∃ m' : xM, f_L_isPassed_199 (n : Int) hp d m6 = some (1, m') ∧ aX (B + 30000 * n) m' s H S bf := fun m6 h6 => by
    obtain ⟨m7, u1, u2⟩ := h6.undo
    have g7 : f_L_all m7 hp = some d := hd m7 hp (u2.see (by omega))
    refine ⟨m7, ?_, u2⟩
    unfold f_L_isPassed_199
    rw [u1, Option.bind_some, if_neg (by rw [xw_nat (by omega)]; omega), g7, Option.bind_some, if_pos (xlcmp_self d)]
  have t180 : ∃ m' : xM, f_L_isPassed_180 (n : Int) hp d z m5 = some (1, m') ∧ aX (B + 30000 * n) m' s H S bf := by
    unfold f_L_isPassed_180
    rw [xw_nat (by omega), xw_id (x := z) (by omega) (by omega)]
    by_cases c : (n : Int) < z
    · obtain ⟨m6, w1, w2⟩ := e2.finish (by omega) (by omega)
      have tk := aFin_tk n s (by omega)
      rw [← ht', ← hz] at tk
      rw [tk] at w1
      rw [if_pos c, w1, Option.bind_some, if_pos rfl]
      exact t199 m6 w2
    · rw [if_neg c]
      exact t199 m5 e2
  have dn1 : z = (n : Int) → aDone t = true := fun w => by
    have tk := aFin_tk n s (by omega)
    rw [← ht', ← hz, w] at tk
    exact aFin_dn.mp (by omega)
  have dn2 : aDone t = true → 0 ≤ z ∧ z ≤ n := fun w => by
    rw [hz]
    exact aFin_le n 401 s (by omega) (by rw [← ht']; exact w)
  have dne : aDone t = true ↔ (t.1 1 = 2 ∧ ((t.2.1 (56 + 717 * 0 + 117))).length = 0 ∧ ((t.2.1 (56 + 717 * 1 + 117))).length = 0 ∧ ((t.2.2 (56 + 717 * 0 + 26))).length = 0 ∧ ((t.2.2 (56 + 717 * 1 + 26))).length = 0) := by
    unfold aDone
    rw [decide_eq_true_eq]
  have t149 : ∀ y : Int, (y = if aDone t = true then 1 else 0) → ∃ m' : xM, f_L_isPassed_149 (n : Int) hp d z y m5 = some (1, m') ∧ aX (B + 30000 * n) m' s H S bf := fun y hy => by
    obtain ⟨m', w1, w2⟩ := t180
    refine ⟨m', ?_, w2⟩
    have t162 : f_L_isPassed_162 (n : Int) hp d z y m5 = some (1, m') := by
      unfold f_L_isPassed_162
      rw [w1, xw_id (x := z) (by omega) (by omega), xw_nat (by omega)]
      by_cases c : aDone t = true
      · rw [if_pos c] at hy
        have := dn2 c
        rw [hy, if_neg (by decide), if_neg (by omega), if_neg (by omega)]
      · rw [if_neg c] at hy
        rw [hy, if_pos (by decide)]
    unfold f_L_isPassed_149
    rw [xw_id (x := z) (by omega) (by omega), xw_nat (by omega), t162]
    by_cases c : z = (n : Int)
    · rw [if_pos c, hy, if_pos (dn1 c), if_neg (by decide)]
    · rw [if_neg c]
  unfold f_L_isPassed
  rw [g0, Option.bind_some, a1, Option.bind_some, b1, Option.bind_some, c1, Option.bind_some, t10, Option.bind_some, g3, Option.bind_some, if_pos (xlcmp_self d), d1, Option.bind_some]
  dsimp only
  rw [if_pos (by rw [n1]), x05, Option.bind_some, if_pos rfl, x15, Option.bind_some, if_pos rfl, e1, Option.bind_some]
  dsimp only
  rw [if_neg (by decide), y1, Option.bind_some, xw_id (x := t.1 1) (by omega) (by omega), show xw 2 = 2 by decide]
  by_cases c : t.1 1 = 2
  · rw [if_pos c, y00, Option.bind_some, y10, Option.bind_some, y01, Option.bind_some, y11, Option.bind_some, y02, Option.bind_some, y12, Option.bind_some, xw_id (by omega) (by omega)]
    by_cases e : aDone t = true
    · have := dne.mp e
      rw [if_pos (by omega)]
      exact t149 1 (by rw [if_pos e])
    · have : ¬ (((t.2.1 (56 + 717 * 0 + 117))).length = 0 ∧ ((t.2.1 (56 + 717 * 1 + 117))).length = 0 ∧ ((t.2.2 (56 + 717 * 0 + 26))).length = 0 ∧ ((t.2.2 (56 + 717 * 1 + 26))).length = 0) := fun w => e (dne.mpr ⟨c, w⟩)
      rw [if_neg (by omega)]
      unfold f_L_isPassed_148
      exact t149 0 (by rw [if_neg e])
  · rw [if_neg c]
    unfold f_L_isPassed_148
    exact t149 0 (by rw [if_neg fun w => c (dne.mp w).1])
end

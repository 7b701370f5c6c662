/-! ===== one token, read by both ===== -/
/-- what kind of token a byte begins -/
def bKd (b : Int) : Int := if 48 ≤ b ∧ b ≤ 57 then 2 else if 97 ≤ b ∧ b ≤ 122 then 1 else 3
def bSkip (B : Nat → Int) : Nat → Nat → Nat
  | 0, p => p
  | n + 1, p => if B p = 32 ∨ B p = 10 then bSkip B n (p + 1) else p
def bEnd (B : Nat → Int) (k : Int) : Nat → Nat → Nat
  | 0, p => p
  | n + 1, p => if bKd (B p) = k then bEnd B k n (p + 1) else p
def bVal (B : Nat → Int) (cap : Int) : Nat → Nat → Int → Int
  | 0, _, v => v
  | n + 1, p, v => bVal B cap n (p + 1) (if cap < v * 10 + B p - 48 then cap else v * 10 + B p - 48)
def bK (B : Nat → Int) (L s : Nat) : Int := if s < L then bKd (B s) else 0
def bE (B : Nat → Int) (L s : Nat) : Nat := if bK B L s = 3 then s + 1 else bEnd B (bK B L s) (L - s) s
theorem bKd_in (b : Int) : bKd b = 1 ∨ bKd b = 2 ∨ bKd b = 3 := by
  unfold bKd
  split
  · right; left; rfl
  · split
    · left; rfl
    · right; right; rfl
theorem bSkip_in (B : Nat → Int) : ∀ n p, p ≤ bSkip B n p ∧ bSkip B n p ≤ p + n := by
  intro n
  induction n with
  | zero => intro p; exact ⟨Nat.le_refl _, Nat.le_refl _⟩
  | succ n ih =>
    intro p
    unfold bSkip
    split
    · have := ih (p + 1); omega
    · omega
theorem bEnd_in (B : Nat → Int) (k : Int) : ∀ n p, p ≤ bEnd B k n p ∧ bEnd B k n p ≤ p + n ∧ ∀ i, p ≤ i → i < bEnd B k n p → bKd (B i) = k := by
  intro n
  induction n with
  | zero => intro p; exact ⟨Nat.le_refl _, Nat.le_refl _, fun i h1 h2 => by simp only [bEnd] at h2; omega⟩
  | succ n ih =>
    intro p
    unfold bEnd
    by_cases h : bKd (B p) = k
    · rw [if_pos h]
      obtain ⟨a1, a2, a3⟩ := ih (p + 1)
      refine ⟨by omega, by omega, fun i h1 h2 => ?_⟩
      by_cases hi : i = p
      · rw [hi]; exact h
      · exact a3 i (by omega) h2
    · rw [if_neg h]; exact ⟨by omega, by omega, fun i h1 h2 => by omega⟩
theorem T_kind_sp (s : Int) (m : xM) (h : 0 ≤ s ∧ s ≤ 255) : f_T_kind s m = some (bKd s) := by
  have e : xw s = s := b_xw (by omega)
  unfold f_T_kind f_T_kind_14 bKd
  rw [e, show xw 97 = 97 from rfl, show xw 122 = 122 from rfl, show xw 48 = 48 from rfl, show xw 57 = 57 from rfl]
  by_cases h1 : s < 48
  · rw [if_pos h1, if_pos (show s < 97 by omega), if_neg (by omega), if_neg (by omega)]
  · rw [if_neg h1]
    by_cases h2 : 57 < s
    · rw [if_pos h2, if_neg (show ¬ (48 ≤ s ∧ s ≤ 57) by omega)]
      by_cases h3 : s < 97
      · rw [if_pos h3, if_neg (by omega)]
      · rw [if_neg h3]
        by_cases h4 : 122 < s
        · rw [if_pos h4, if_neg (by omega)]
        · rw [if_neg h4, if_pos (by omega)]
    · rw [if_neg h2, if_pos (by omega)]
/-- the blanks, by the class -/
theorem T_next_17_sp (B : Nat → Int) (L : Nat) (hL : L ≤ 600) (n : Nat) : ∀ (r p : Nat) (m : xM), m 0 1 = L → (∀ i, i < L → m 1 i = B i ∧ 0 ≤ B i ∧ B i ≤ 255) → m 0 3 = p → p + r = L → ∃ m' : xM, f_T_next_17 (n + r + 1) m = f_T_next_69 m' ∧ m' 0 3 = (bSkip B r p : Nat) ∧ (∀ j, j ≠ 3 → m' 0 j = m 0 j) ∧ ∀ k, k ≠ 0 → m' k = m k := by
  intro r
  induction r with
  | zero =>
    intro p m h1 hB h3 hp
    refine ⟨m, ?_, h3, fun _ _ => rfl, fun _ _ => rfl⟩
    rw [f_T_next_17, if_neg (by rw [h3, h1, b_xw (by omega), b_xw (by omega)]; omega)]
  | succ r ih =>
    intro p m h1 hB h3 hp
    have hb : xib (p : Int) 600 := b_ib (by omega)
    have hx : xix (p : Int) = p := by rw [b_ix (by omega)]; exact Int.toNat_natCast _
    obtain ⟨v1, v2⟩ := hB p (by omega)
    have hw : xw (B p) = B p := b_xw (by omega)
    unfold bSkip
    rw [show n + (r + 1) + 1 = (n + r + 1) + 1 by omega, f_T_next_17, h3, h1, if_pos (show xw (p : Int) < xw (L : Int) by rw [b_xw (by omega), b_xw (by omega)]; omega), if_pos hb, hx, v1, hw, show xw 32 = 32 from rfl, show xw 10 = 10 from rfl]
    have go : ∃ m' : xM, f_T_next_56 (f_T_next_17 (n + r + 1)) m = f_T_next_69 m' ∧ m' 0 3 = (bSkip B r (p + 1) : Nat) ∧ (∀ j, j ≠ 3 → m' 0 j = m 0 j) ∧ ∀ k, k ≠ 0 → m' k = m k := by
      unfold f_T_next_56
      obtain ⟨m', e1, e2, e3, e4⟩ := ih (p + 1) (xu m 0 3 ((m 0 3) + 1)) (by rw [xu_d (by omega), h1]) (fun i hi => by rw [xu_k (by omega)]; exact hB i hi) (by rw [xu_s rfl, h3]; omega) (by omega)
      exact ⟨m', e1, e2, fun j hj => by rw [e3 j hj, xu_d hj], fun k hk => by rw [e4 k hk]; exact xu_K hk⟩
    by_cases c1 : B p = 32
    · rw [if_pos c1, if_pos (Or.inl c1)]; exact go
    · rw [if_neg c1, if_pos hb]
      by_cases c2 : B p = 10
      · rw [if_pos c2, if_pos (Or.inr c2)]; exact go
      · rw [if_neg c2, if_neg (by omega)]
        exact ⟨m, rfl, h3, fun _ _ => rfl, fun _ _ => rfl⟩
/-- the body of a token, by the class -/
theorem T_next_135_sp (B : Nat → Int) (L : Nat) (hL : L ≤ 600) (x k : Int) (hk : k = 0 ∨ k = 1 ∨ k = 2 ∨ k = 3) (n : Nat) : ∀ (r p : Nat) (v : Int) (m : xM), 0 ≤ v ∧ v ≤ 1000000 → (∀ i, i < L → m 1 i = B i ∧ 0 ≤ B i ∧ B i ≤ 255) → m 0 2 = k → m 0 4 = p → m 0 5 = v → x = ((p + r : Nat) : Int) → p + r ≤ L → ∃ m' : xM, f_T_next_135 (n + r + 1) x m = some m' ∧ m' 0 4 = (bEnd B k r p : Nat) ∧ m' 0 5 = (if k = 2 then bVal B 1000000 (bEnd B k r p - p) p v else v) ∧ (∀ j, j ≠ 4 → j ≠ 5 → m' 0 j = m 0 j) ∧ ∀ k, k ≠ 0 → m' k = m k := by
  intro r
  induction r with
  | zero =>
    intro p v m hv hB h2 h4 h5 hx hp
    refine ⟨m, ?_, h4, ?_, fun _ _ _ => rfl, fun _ _ => rfl⟩
    · rw [f_T_next_135, if_neg (by rw [h4, hx, b_xw (by omega), b_xw (by omega)]; omega)]
    · show m 0 5 = (if k = 2 then bVal B 1000000 (p - p) p v else v)
      rw [show p - p = 0 by omega, h5]
      split <;> rfl
  | succ r ih =>
    intro p v m hv hB h2 h4 h5 hx hp
    have hb : xib (p : Int) 600 := b_ib (by omega)
    have hi : xix (p : Int) = p := by rw [b_ix (by omega)]; exact Int.toNat_natCast _
    obtain ⟨v1, v2⟩ := hB p (by omega)
    have kd := bKd_in (B p)
    unfold bEnd
    rw [show n + (r + 1) + 1 = (n + r + 1) + 1 by omega, f_T_next_135, h4, if_pos (show xw (p : Int) < xw x by rw [hx, b_xw (by omega), b_xw (by omega)]; omega), if_pos hb, hi, v1, T_kind_sp (B p) m v2, Option.bind_some, h2, b_xw (show -2147483648 ≤ bKd (B p) ∧ bKd (B p) < 2147483648 by omega), b_xw (show -2147483648 ≤ k ∧ k < 2147483648 by omega)]
    by_cases c : bKd (B p) = k
    · rw [if_pos c, if_pos c]
      by_cases c2 : k = 2
      · rw [if_pos (show k = xw 2 from c2), h5]
        have hd : 48 ≤ B p ∧ B p ≤ 57 := by
          have : bKd (B p) = 2 := by omega
          unfold bKd at this
          split at this
          · assumption
          · split at this <;> omega
        obtain ⟨w, hw⟩ : ∃ w, w = (if 1000000 < v * 10 + B p - 48 then 1000000 else v * 10 + B p - 48) := ⟨_, rfl⟩
        have hw2 : 0 ≤ w ∧ w ≤ 1000000 := by rw [hw]; split <;> omega
        have hw3 : (if xw 1000000 < xw (v * 10 + B p - 48) then 1000000 else v * 10 + B p - 48) = w := by
          rw [hw, show xw 1000000 = 1000000 from rfl, b_xw (by omega)]
        rw [hw3, if_pos hb]
        unfold f_T_next_199
        obtain ⟨m', e1, e2, e3, e4, e5⟩ := ih (p + 1) w (xu (xu m 0 5 w) 0 4 (((xu m 0 5 w) 0 4) + 1)) hw2 (fun i hi => by rw [xu_k (by omega), xu_k (by omega)]; exact hB i hi) (by rw [xu_d (by omega), xu_d (by omega), h2]) (by rw [xu_s rfl, xu_d (by omega), h4]; omega) (by rw [xu_d (by omega), xu_s rfl]) (by rw [hx]; omega) (by omega)
        refine ⟨m', e1, e2, ?_, fun j h1 h2 => by rw [e4 j h1 h2, xu_d h1, xu_d h2], fun k hk => by rw [e5 k hk, xu_K hk]; exact xu_K hk⟩
        have := (bEnd_in B k r (p + 1)).1
        rw [e3, if_pos c2, if_pos c2, show bEnd B k r (p + 1) - p = (bEnd B k r (p + 1) - (p + 1)) + 1 by omega, bVal, ← hw]
      · rw [if_neg (show ¬ k = xw 2 from c2)]
        unfold f_T_next_199
        obtain ⟨m', e1, e2, e3, e4, e5⟩ := ih (p + 1) v (xu m 0 4 ((m 0 4) + 1)) hv (fun i hi => by rw [xu_k (by omega)]; exact hB i hi) (by rw [xu_d (by omega), h2]) (by rw [xu_s rfl, h4]; omega) (by rw [xu_d (by omega), h5]) (by rw [hx]; omega) (by omega)
        refine ⟨m', e1, e2, ?_, fun j h1 h2 => by rw [e4 j h1 h2, xu_d h1], fun k hk => by rw [e5 k hk]; exact xu_K hk⟩
        rw [e3, if_neg c2, if_neg c2]
    · rw [if_neg c, if_neg c]
      refine ⟨m, rfl, h4, ?_, fun _ _ _ => rfl, fun _ _ => rfl⟩
      rw [show p - p = 0 by omega, h5]
      split <;> rfl
/-- the next token, by the class -/
theorem T_next_sp (B : Nat → Int) (L p : Nat) (hL : L ≤ 600) (hp : p ≤ L) (m : xM) (h1 : m 0 1 = L) (hB : ∀ i, i < L → m 1 i = B i ∧ 0 ≤ B i ∧ B i ≤ 255) (h2 : 0 ≤ m 0 2 ∧ m 0 2 ≤ 3) (h4 : m 0 4 = p) : ∃ (m' : xM) (s e : Nat), f_T_next m = some m' ∧ s = bSkip B (L - p) p ∧ e = bE B L s ∧ m' 0 3 = s ∧ m' 0 2 = bK B L s ∧ m' 0 4 = e ∧ m' 0 5 = (if bK B L s = 2 then bVal B 1000000 (e - s) s 0 else 0) ∧ (∀ j, j ≠ 2 → j ≠ 3 → j ≠ 4 → j ≠ 5 → m' 0 j = m 0 j) ∧ ∀ k, k ≠ 0 → m' k = m k := by
  unfold f_T_next
  rw [if_neg (by rw [b_xw (by omega)]; show ¬ m 0 2 = 4; omega), h4]
  obtain ⟨q, hq⟩ : ∃ q : Nat, fu = q + 700 := ⟨4300, rfl⟩
  obtain ⟨m1, a1, a2, a3, a4⟩ := T_next_17_sp B L hL (q + 699 - (L - p)) (L - p) p (xu m 0 3 p) (by rw [xu_d (by omega), h1]) (fun i hi => by rw [xu_k (by omega)]; exact hB i hi) (by rw [xu_s rfl]) (by omega)
  rw [show q + 699 - (L - p) + (L - p) + 1 = fu by omega] at a1
  obtain ⟨s, hs⟩ : ∃ s, s = bSkip B (L - p) p := ⟨_, rfl⟩
  have hs2 := bSkip_in B (L - p) p
  rw [← hs] at a2 hs2
  rw [a1]
  have h31 : m1 0 1 = L := by rw [a3 1 (by omega), xu_d (by omega), h1]
  have hB1 : ∀ i, i < L → m1 1 i = B i ∧ 0 ≤ B i ∧ B i ≤ 255 := fun i hi => by rw [a4 1 (by omega), xu_k (by omega)]; exact hB i hi
  have kk : bK B L s = 0 ∨ bK B L s = 1 ∨ bK B L s = 2 ∨ bK B L s = 3 := by
    unfold bK
    have := bKd_in (B s)
    split <;> omega
  have e1 : f_T_next_69 m1 = f_T_next_97 (bK B L s) m1 := by
    unfold f_T_next_69 bK
    rw [a2, h31]
    by_cases c : s < L
    · rw [if_pos (show xw (s : Int) < xw (L : Int) by rw [b_xw (by omega), b_xw (by omega)]; omega), if_pos (b_ib (by omega)), show xix (s : Int) = s by rw [b_ix (by omega)]; exact Int.toNat_natCast _, (hB1 s c).1, T_kind_sp _ _ (hB1 s c).2, Option.bind_some, if_pos c]
    · rw [if_neg (show ¬ xw (s : Int) < xw (L : Int) by rw [b_xw (by omega), b_xw (by omega)]; omega), if_neg c]
  rw [e1]
  have fin : ∀ r : Nat, s + r ≤ L → (bEnd B (bK B L s) r s = bE B L s) → ∃ (m' : xM) (t e : Nat), f_T_next_121 ((s + r : Nat) : Int) (xu m1 0 2 (bK B L s)) = some m' ∧ t = bSkip B (L - p) p ∧ e = bE B L t ∧ m' 0 3 = t ∧ m' 0 2 = bK B L t ∧ m' 0 4 = e ∧ m' 0 5 = (if bK B L t = 2 then bVal B 1000000 (e - t) t 0 else 0) ∧ (∀ j, j ≠ 2 → j ≠ 3 → j ≠ 4 → j ≠ 5 → m' 0 j = m 0 j) ∧ ∀ k, k ≠ 0 → m' k = m k := fun r hr he => by
    unfold f_T_next_121
    obtain ⟨Z, hZ⟩ : ∃ Z, Z = (xu (xu (xu m1 0 2 (bK B L s)) 0 5 0) 0 4 ((xu (xu m1 0 2 (bK B L s)) 0 5 0) 0 3)) := ⟨_, rfl⟩
    obtain ⟨m', d1, d2, d3, d4, d5⟩ := T_next_135_sp B L hL ((s + r : Nat) : Int) (bK B L s) kk (q + 699 - r) r s 0 Z (by omega) (fun i hi => by rw [hZ, xu_k (by omega), xu_k (by omega), xu_k (by omega)]; exact hB1 i hi) (by rw [hZ, xu_d (by omega), xu_d (by omega), xu_s rfl]) (by rw [hZ, xu_s rfl, xu_d (by omega), xu_d (by omega), a2]) (by rw [hZ, xu_d (by omega), xu_s rfl]) rfl hr
    rw [show q + 699 - r + r + 1 = fu by omega] at d1
    rw [he] at d2 d3
    refine ⟨m', s, bE B L s, ?_, hs, rfl, ?_, ?_, d2, d3, fun j j2 j3 j4 j5 => ?_, fun k hk => ?_⟩
    · rw [xu_d (by omega)] at hZ
      have e9 : (xu m1 0 2 (bK B L s)) 0 3 = m1 0 3 := xu_d (by omega)
      rw [e9] at hZ ⊢
      rw [← hZ]; exact d1
    · rw [d4 3 (by omega) (by omega), hZ, xu_d (by omega), xu_d (by omega), xu_d (by omega), a2]
    · rw [d4 2 (by omega) (by omega), hZ, xu_d (by omega), xu_d (by omega), xu_s rfl]
    · rw [d4 j j4 j5, hZ, xu_d j4, xu_d j5, xu_d j2, a3 j j3, xu_d j3]
    · rw [d5 k hk, hZ, xu_K hk, xu_K hk, xu_K hk, a4 k hk]; exact xu_K hk
  unfold f_T_next_97
  rw [b_xw (show -2147483648 ≤ bK B L s ∧ bK B L s < 2147483648 by omega)]
  by_cases c3 : bK B L s = 3
  · rw [if_pos (show bK B L s = xw 3 from c3), a2, show (s : Int) + 1 = ((s + 1 : Nat) : Int) by omega]
    have hsL : s < L := by
      unfold bK at c3
      by_cases c : s < L
      · exact c
      · rw [if_neg c] at c3; omega
    refine fin 1 (by omega) ?_
    unfold bE
    rw [if_pos c3]
    show (if bKd (B s) = bK B L s then s + 1 else s) = s + 1
    rw [if_pos]
    unfold bK
    rw [if_pos hsL]
  · rw [if_neg (show ¬ bK B L s = xw 3 from c3), h31, show (L : Int) = ((s + (L - s) : Nat) : Int) by omega]
    refine fin (L - s) (by omega) ?_
    unfold bE
    rw [if_neg c3]

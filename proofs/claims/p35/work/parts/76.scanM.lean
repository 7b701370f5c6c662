/-! ===== one token, read by the reference ===== -/
theorem m_byteAt_sp (B : Nat → Int) (L : Nat) (hL : L ≤ 600) (p : Nat) (hp : p ≤ L) (M : xM) (h1 : M 0 14 = L) (hB : ∀ i, i < L → M 8 i = B i ∧ 0 ≤ B i ∧ B i ≤ 255) : f_m_byteAt (p : Int) M = some (if p < L then B p else -1) := by
  unfold f_m_byteAt
  have w1 : xw (p : Int) = p := b_xw (by omega)
  have w2 : xw (L : Int) = L := b_xw (by omega)
  by_cases c : p < L
  · rw [if_pos (show xw (p : Int) < xw (M 0 14) by rw [h1, w1, w2]; omega), if_pos (b_ib (by omega)), show xix (p : Int) = p by rw [b_ix (by omega)]; exact Int.toNat_natCast _, (hB p c).1, if_pos c]
  · rw [if_neg (show ¬ xw (p : Int) < xw (M 0 14) by rw [h1, w1, w2]; omega), if_neg c]
theorem m_letter_sp (B : Nat → Int) (L : Nat) (hL : L ≤ 600) (p : Nat) (hp : p ≤ L) (M : xM) (h1 : M 0 14 = L) (hB : ∀ i, i < L → M 8 i = B i ∧ 0 ≤ B i ∧ B i ≤ 255) : f_m_isLetter (p : Int) M = some (if bK B L p = 1 then 1 else 0) := by
  unfold f_m_isLetter bK
  rw [m_byteAt_sp B L hL p hp M h1 hB, Option.bind_some]
  by_cases c : p < L
  · obtain ⟨v1, v2⟩ := hB p c
    rw [if_pos c, if_pos c, b_xw (show -2147483648 ≤ B p ∧ B p < 2147483648 by omega), show xw 97 = 97 from rfl, show xw 122 = 122 from rfl]
    unfold bKd
    by_cases c1 : B p < 97
    · rw [if_pos c1]
      by_cases c2 : 48 ≤ B p ∧ B p ≤ 57
      · rw [if_pos c2, if_neg (by omega)]
      · rw [if_neg c2, if_neg (show ¬ (97 ≤ B p ∧ B p ≤ 122) by omega), if_neg (by omega)]
    · rw [if_neg c1, Option.bind_some, if_neg (show ¬ (48 ≤ B p ∧ B p ≤ 57) by omega), b_xw (show -2147483648 ≤ B p ∧ B p < 2147483648 by omega)]
      by_cases c2 : 122 < B p
      · rw [if_pos c2, if_neg (show ¬ (97 ≤ B p ∧ B p ≤ 122) by omega), if_neg (by omega)]
      · rw [if_neg c2, if_pos (show (97 ≤ B p ∧ B p ≤ 122) by omega), if_pos rfl]
  · rw [if_neg c, if_neg c, if_pos (by decide), if_neg (by omega)]
theorem m_digit_sp (B : Nat → Int) (L : Nat) (hL : L ≤ 600) (p : Nat) (hp : p ≤ L) (M : xM) (h1 : M 0 14 = L) (hB : ∀ i, i < L → M 8 i = B i ∧ 0 ≤ B i ∧ B i ≤ 255) : f_m_isDigit (p : Int) M = some (if bK B L p = 2 then 1 else 0) := by
  unfold f_m_isDigit bK
  rw [m_byteAt_sp B L hL p hp M h1 hB, Option.bind_some]
  by_cases c : p < L
  · obtain ⟨v1, v2⟩ := hB p c
    rw [if_pos c, if_pos c, b_xw (show -2147483648 ≤ B p ∧ B p < 2147483648 by omega), show xw 48 = 48 from rfl, show xw 57 = 57 from rfl]
    unfold bKd
    by_cases c1 : B p < 48
    · rw [if_pos c1, if_neg (show ¬ (48 ≤ B p ∧ B p ≤ 57) by omega), if_neg (show ¬ (97 ≤ B p ∧ B p ≤ 122) by omega), if_neg (by omega)]
    · rw [if_neg c1, Option.bind_some, b_xw (show -2147483648 ≤ B p ∧ B p < 2147483648 by omega)]
      by_cases c2 : 57 < B p
      · rw [if_pos c2, if_neg (show ¬ (48 ≤ B p ∧ B p ≤ 57) by omega)]
        split
        · rw [if_neg (by omega)]
        · rw [if_neg (by omega)]
      · rw [if_neg c2, if_pos (show (48 ≤ B p ∧ B p ≤ 57) by omega), if_pos rfl]
  · rw [if_neg c, if_neg c, if_pos (by decide), if_neg (by omega)]
theorem bK_eq (B : Nat → Int) {L p : Nat} (h : p < L) : bK B L p = bKd (B p) := by unfold bK; rw [if_pos h]
theorem bK_0 (B : Nat → Int) {L p : Nat} (h : ¬ p < L) : bK B L p = 0 := by unfold bK; rw [if_neg h]
theorem m_scan_0_sp (B : Nat → Int) (L : Nat) (hL : L ≤ 600) (n : Nat) : ∀ (r p : Nat) (M : xM), M 0 14 = L → (∀ i, i < L → M 8 i = B i ∧ 0 ≤ B i ∧ B i ≤ 255) → M 0 15 = p → p + r = L → ∃ M' : xM, f_m_scan_0 (n + r + 1) M = f_m_scan_39 M' ∧ M' 0 15 = (bSkip B r p : Nat) ∧ (∀ j, j ≠ 15 → M' 0 j = M 0 j) ∧ ∀ k, k ≠ 0 → M' k = M k := by
  intro r
  induction r with
  | zero =>
    intro p M h1 hB h3 hp
    refine ⟨M, ?_, h3, fun _ _ => rfl, fun _ _ => rfl⟩
    rw [f_m_scan_0, h3, m_byteAt_sp B L hL p (by omega) M h1 hB, Option.bind_some, if_neg (show ¬ p < L by omega), if_neg (by decide), Option.bind_some, if_neg (by decide)]
  | succ r ih =>
    intro p M h1 hB h3 hp
    obtain ⟨v1, v2⟩ := hB p (by omega)
    have hw : xw (B p) = B p := b_xw (by omega)
    unfold bSkip
    rw [show n + (r + 1) + 1 = (n + r + 1) + 1 by omega, f_m_scan_0, h3, m_byteAt_sp B L hL p (by omega) M h1 hB, Option.bind_some, if_pos (show p < L by omega), hw, show xw 32 = 32 from rfl, show xw 10 = 10 from rfl]
    have go : ∃ M' : xM, f_m_scan_26 (f_m_scan_0 (n + r + 1)) M = f_m_scan_39 M' ∧ M' 0 15 = (bSkip B r (p + 1) : Nat) ∧ (∀ j, j ≠ 15 → M' 0 j = M 0 j) ∧ ∀ k, k ≠ 0 → M' k = M k := by
      unfold f_m_scan_26
      obtain ⟨M', e1, e2, e3, e4⟩ := ih (p + 1) (xu M 0 15 ((M 0 15) + 1)) (by rw [xu_d (by omega), h1]) (fun i hi => by rw [xu_k (by omega)]; exact hB i hi) (by rw [xu_s rfl, h3]; omega) (by omega)
      exact ⟨M', e1, e2, fun j hj => by rw [e3 j hj, xu_d hj], fun k hk => by rw [e4 k hk]; exact xu_K hk⟩
    by_cases c1 : B p = 32
    · rw [if_pos c1, if_pos (Or.inl c1)]; exact go
    · rw [if_neg c1, Option.bind_some, hw]
      by_cases c2 : B p = 10
      · rw [if_pos c2, if_pos (Or.inr c2)]; exact go
      · rw [if_neg c2, if_neg (by omega)]
        exact ⟨M, rfl, h3, fun _ _ => rfl, fun _ _ => rfl⟩
theorem m_scan_120_sp (B : Nat → Int) (L : Nat) (hL : L ≤ 600) (n : Nat) : ∀ (r p : Nat) (M : xM), M 0 14 = L → (∀ i, i < L → M 8 i = B i ∧ 0 ≤ B i ∧ B i ≤ 255) → M 0 15 = p → p + r = L → ∃ M' : xM, f_m_scan_120 (n + r + 1) M = some M' ∧ M' 0 15 = (bEnd B 2 r p : Nat) ∧ M' 0 17 = 2 ∧ (∀ j, j ≠ 15 → j ≠ 17 → M' 0 j = M 0 j) ∧ ∀ k, k ≠ 0 → M' k = M k := by
  intro r
  induction r with
  | zero =>
    intro p M h1 hB h3 hp
    refine ⟨xu M 0 17 2, ?_, by rw [xu_d (by omega)]; exact h3, xu_s rfl, fun j h1 h2 => xu_d h2, fun _ hk => xu_K hk⟩
    rw [f_m_scan_120, h3, m_digit_sp B L hL p (by omega) M h1 hB, Option.bind_some, bK_0 B (show ¬ p < L by omega), if_pos (by decide)]
    rfl
  | succ r ih =>
    intro p M h1 hB h3 hp
    unfold bEnd
    rw [show n + (r + 1) + 1 = (n + r + 1) + 1 by omega, f_m_scan_120, h3, m_digit_sp B L hL p (by omega) M h1 hB, Option.bind_some, bK_eq B (show p < L by omega)]
    by_cases c : bKd (B p) = 2
    · rw [if_pos c, if_pos c, if_neg (by decide)]
      obtain ⟨M', e1, e2, e3, e4, e5⟩ := ih (p + 1) (xu M 0 15 ((p : Int) + 1)) (by rw [xu_d (by omega), h1]) (fun i hi => by rw [xu_k (by omega)]; exact hB i hi) (by rw [xu_s rfl]; omega) (by omega)
      exact ⟨M', e1, e2, e3, fun j hj h2 => by rw [e4 j hj h2, xu_d hj], fun k hk => by rw [e5 k hk]; exact xu_K hk⟩
    · rw [if_neg c, if_neg c, if_pos (by decide)]
      exact ⟨xu M 0 17 2, rfl, by rw [xu_d (by omega)]; exact h3, xu_s rfl, fun j h1 h2 => xu_d h2, fun _ hk => xu_K hk⟩
theorem m_scan_77_sp (B : Nat → Int) (L : Nat) (hL : L ≤ 600) (n : Nat) : ∀ (r p : Nat) (M : xM), M 0 14 = L → (∀ i, i < L → M 8 i = B i ∧ 0 ≤ B i ∧ B i ≤ 255) → M 0 15 = p → p + r = L → ∃ M' : xM, f_m_scan_77 (n + r + 1) M = some M' ∧ M' 0 15 = (bEnd B 1 r p : Nat) ∧ M' 0 17 = 1 ∧ (∀ j, j ≠ 15 → j ≠ 17 → M' 0 j = M 0 j) ∧ ∀ k, k ≠ 0 → M' k = M k := by
  intro r
  induction r with
  | zero =>
    intro p M h1 hB h3 hp
    refine ⟨xu M 0 17 1, ?_, by rw [xu_d (by omega)]; exact h3, xu_s rfl, fun j h1 h2 => xu_d h2, fun _ hk => xu_K hk⟩
    rw [f_m_scan_77, h3, m_letter_sp B L hL p (by omega) M h1 hB, Option.bind_some, bK_0 B (show ¬ p < L by omega), if_pos (by decide)]
    rfl
  | succ r ih =>
    intro p M h1 hB h3 hp
    unfold bEnd
    rw [show n + (r + 1) + 1 = (n + r + 1) + 1 by omega, f_m_scan_77, h3, m_letter_sp B L hL p (by omega) M h1 hB, Option.bind_some, bK_eq B (show p < L by omega)]
    by_cases c : bKd (B p) = 1
    · rw [if_pos c, if_pos c, if_neg (by decide)]
      obtain ⟨M', e1, e2, e3, e4, e5⟩ := ih (p + 1) (xu M 0 15 ((p : Int) + 1)) (by rw [xu_d (by omega), h1]) (fun i hi => by rw [xu_k (by omega)]; exact hB i hi) (by rw [xu_s rfl]; omega) (by omega)
      exact ⟨M', e1, e2, e3, fun j hj h2 => by rw [e4 j hj h2, xu_d hj], fun k hk => by rw [e5 k hk]; exact xu_K hk⟩
    · rw [if_neg c, if_neg c, if_pos (by decide)]
      exact ⟨xu M 0 17 1, rfl, by rw [xu_d (by omega)]; exact h3, xu_s rfl, fun j h1 h2 => xu_d h2, fun _ hk => xu_K hk⟩
/-- the next token, by the reference -/
theorem m_scan_sp (B : Nat → Int) (L p : Nat) (hL : L ≤ 600) (hp : p ≤ L) (M : xM) (h1 : M 0 14 = L) (hB : ∀ i, i < L → M 8 i = B i ∧ 0 ≤ B i ∧ B i ≤ 255) (h3 : M 0 15 = p) : ∃ (M' : xM) (s e : Nat), f_m_scan M = some M' ∧ s = bSkip B (L - p) p ∧ e = bE B L s ∧ M' 0 16 = s ∧ M' 0 17 = bK B L s ∧ M' 0 15 = e ∧ (∀ j, j ≠ 15 → j ≠ 16 → j ≠ 17 → M' 0 j = M 0 j) ∧ ∀ k, k ≠ 0 → M' k = M k := by
  unfold f_m_scan
  obtain ⟨q, hq⟩ : ∃ q : Nat, fu = q + 700 := ⟨4300, rfl⟩
  obtain ⟨M1, a1, a2, a3, a4⟩ := m_scan_0_sp B L hL (q + 699 - (L - p)) (L - p) p M h1 hB h3 (by omega)
  rw [show q + 699 - (L - p) + (L - p) + 1 = fu by omega] at a1
  obtain ⟨s, hs⟩ : ∃ s, s = bSkip B (L - p) p := ⟨_, rfl⟩
  have hs2 := bSkip_in B (L - p) p
  rw [← hs] at a2 hs2
  rw [a1]
  have h31 : M1 0 14 = L := by rw [a3 14 (by omega), h1]
  have hB1 : ∀ i, i < L → M1 8 i = B i ∧ 0 ≤ B i ∧ B i ≤ 255 := fun i hi => by rw [a4 8 (by omega)]; exact hB i hi
  obtain ⟨Z, hZ⟩ : ∃ Z, Z = xu M1 0 16 (M1 0 15) := ⟨_, rfl⟩
  have z15 : Z 0 15 = s := by rw [hZ, xu_d (by omega), a2]
  have z16 : Z 0 16 = s := by rw [hZ, xu_s rfl, a2]
  have z14 : Z 0 14 = L := by rw [hZ, xu_d (by omega), h31]
  have zB : ∀ i, i < L → Z 8 i = B i ∧ 0 ≤ B i ∧ B i ≤ 255 := fun i hi => by rw [hZ, xu_k (by omega)]; exact hB1 i hi
  have z0 : ∀ j, j ≠ 15 → j ≠ 16 → Z 0 j = M 0 j := fun j g1 g2 => by rw [hZ, xu_d g2, a3 j g1]
  have zk : ∀ k, k ≠ 0 → Z k = M k := fun k hk => by rw [hZ, xu_K hk, a4 k hk]
  unfold f_m_scan_39
  rw [← hZ, a2, h31, b_xw (show -2147483648 ≤ (s : Int) ∧ (s : Int) < 2147483648 by omega), b_xw (show -2147483648 ≤ (L : Int) ∧ (L : Int) < 2147483648 by omega)]
  by_cases c : s < L
  · rw [if_pos (by omega), m_letter_sp B L hL s (by omega) Z z14 zB, Option.bind_some]
    have kd := bKd_in (B s)
    have kq := bK_eq B c
    by_cases c1 : bK B L s = 1
    · rw [if_pos c1, if_neg (by decide)]
      obtain ⟨M', e1, e2, e3, e4, e5⟩ := m_scan_77_sp B L hL (q + 699 - (L - s)) (L - s) s Z z14 zB z15 (by omega)
      rw [show q + 699 - (L - s) + (L - s) + 1 = fu by omega] at e1
      refine ⟨M', s, bE B L s, e1, hs, rfl, by rw [e4 16 (by omega) (by omega), z16], by rw [e3, c1], ?_, fun j g1 g2 g3 => by rw [e4 j g1 g3, z0 j g1 g2], fun k hk => by rw [e5 k hk, zk k hk]⟩
      rw [e2]
      unfold bE
      rw [if_neg (by omega), c1]
    · rw [if_neg c1, if_pos (by decide), m_digit_sp B L hL s (by omega) Z z14 zB, Option.bind_some]
      by_cases c2 : bK B L s = 2
      · rw [if_pos c2, if_neg (by decide)]
        obtain ⟨M', e1, e2, e3, e4, e5⟩ := m_scan_120_sp B L hL (q + 699 - (L - s)) (L - s) s Z z14 zB z15 (by omega)
        rw [show q + 699 - (L - s) + (L - s) + 1 = fu by omega] at e1
        refine ⟨M', s, bE B L s, e1, hs, rfl, by rw [e4 16 (by omega) (by omega), z16], by rw [e3, c2], ?_, fun j g1 g2 g3 => by rw [e4 j g1 g3, z0 j g1 g2], fun k hk => by rw [e5 k hk, zk k hk]⟩
        rw [e2]
        unfold bE
        rw [if_neg (by omega), c2]
      · rw [if_neg c2, if_pos (by decide)]
        have c3 : bK B L s = 3 := by omega
        have he : bE B L s = s + 1 := by unfold bE; rw [if_pos c3]
        refine ⟨_, s, bE B L s, rfl, hs, rfl, ?_, ?_, ?_, fun j g1 g2 g3 => ?_, fun k hk => ?_⟩
        · rw [xu_d (by omega), xu_d (by omega), z16]
        · rw [xu_s rfl, c3]
        · rw [xu_d (by omega), xu_s rfl, he]; first | (rw [z15]; omega) | omega
        · rw [xu_d g3, xu_d g1, z0 j g1 g2]
        · rw [xu_K hk, xu_K hk, zk k hk]
  · rw [if_neg (by omega)]
    have c3 : bK B L s = 0 := bK_0 B c
    have he : bE B L s = s := by unfold bE; rw [c3, if_neg (by omega), show L - s = 0 by omega]; rfl
    refine ⟨_, s, bE B L s, rfl, hs, rfl, ?_, ?_, ?_, fun j g1 g2 g3 => ?_, fun k hk => ?_⟩
    · rw [xu_d (by omega), z16]
    · rw [xu_s rfl, c3]
    · rw [xu_d (by omega), z15, he]
    · rw [xu_d g3, z0 j g1 g2]
    · rw [xu_K hk, zk k hk]

/-! ===== the class's token against the reference's ===== -/
/-- the same text on both sides: A the slots of the class's tokens, Y its bytes -/
def bTx (B : Nat → Int) (L : Nat) (A Y : Nat → Int) (M : xM) : Prop := L ≤ 600 ∧ A 1 = L ∧ M 0 14 = L ∧ ∀ i, i < L → Y i = B i ∧ M 8 i = B i ∧ 0 ≤ B i ∧ B i ≤ 255
/-- no flaw yet: both stand at the token from s to e -/
def bGo (B : Nat → Int) (L s e : Nat) (A Y : Nat → Int) (M : xM) : Prop := bTx B L A Y M ∧ (s ≤ L ∧ s ≤ e ∧ e ≤ L) ∧ e = bE B L s ∧ A 2 = bK B L s ∧ A 3 = s ∧ A 4 = e ∧ A 5 = (if bK B L s = 2 then bVal B 1000000 (e - s) s 0 else 0) ∧ A 6 = 0 ∧ M 0 15 = e ∧ M 0 16 = s ∧ M 0 17 = bK B L s ∧ M 0 18 = 0
/-- a flaw: the class stands still -/
def bNo (c : Int) (q : Nat) (A : Nat → Int) : Prop := A 2 = 4 ∧ A 6 = c ∧ A 3 = q
/-- a flaw: the reference stands still -/
def bNoM (B : Nat → Int) (L : Nat) (c : Int) (q : Nat) (M : xM) : Prop := (1 ≤ c ∧ c ≤ 4) ∧ M 0 18 = c ∧ M 0 19 = q ∧ (L ≤ 600 ∧ q ≤ L) ∧ M 0 14 = L ∧ (∀ i, i < L → M 8 i = B i ∧ 0 ≤ B i ∧ B i ≤ 255) ∧ ∃ s e : Nat, s ≤ e ∧ e ≤ L ∧ M 0 15 = e ∧ M 0 16 = s ∧ M 0 17 = bK B L s ∧ e = bE B L s
def bEr (B : Nat → Int) (L : Nat) (A : Nat → Int) (M : xM) : Prop := ∃ (c : Int) (q : Nat), bNo c q A ∧ bNoM B L c q M
def bFc (m m' : xM) : Prop := (∀ k, k ≠ 0 → m' k = m k) ∧ m' 0 0 = m 0 0 ∧ m' 0 1 = m 0 1
def bFm (M M' : xM) : Prop := (∀ k, k ≠ 0 → M' k = M k) ∧ ∀ j, j < 15 ∨ 20 ≤ j → M' 0 j = M 0 j
theorem bFc.rfl {m : xM} : bFc m m := ⟨fun _ _ => _root_.rfl, _root_.rfl, _root_.rfl⟩
theorem bFm.rfl {m : xM} : bFm m m := ⟨fun _ _ => _root_.rfl, fun _ _ => _root_.rfl⟩
theorem bFc.trans {m m1 m2 : xM} (h : bFc m m1) (g : bFc m1 m2) : bFc m m2 := ⟨fun k hk => by rw [g.1 k hk, h.1 k hk], by rw [g.2.1, h.2.1], by rw [g.2.2, h.2.2]⟩
theorem bFm.trans {m m1 m2 : xM} (h : bFm m m1) (g : bFm m1 m2) : bFm m m2 := ⟨fun k hk => by rw [g.1 k hk, h.1 k hk], fun j hj => by rw [g.2 j hj, h.2 j hj]⟩
theorem bK_in (B : Nat → Int) (L s : Nat) : bK B L s = 0 ∨ bK B L s = 1 ∨ bK B L s = 2 ∨ bK B L s = 3 := by
  unfold bK
  have := bKd_in (B s)
  split <;> omega
theorem bK_lt (B : Nat → Int) {L s : Nat} (h : bK B L s ≠ 0) : s < L := by
  unfold bK at h
  by_cases c : s < L
  · exact c
  · rw [if_neg c] at h; exact absurd _root_.rfl h
theorem bE_in (B : Nat → Int) {L s : Nat} (h : s ≤ L) : s ≤ bE B L s ∧ bE B L s ≤ L ∧ (bK B L s ≠ 0 → s < bE B L s) ∧ (bK B L s = 2 → ∀ i, s ≤ i → i < bE B L s → bKd (B i) = 2) := by
  unfold bE
  by_cases c : bK B L s = 3
  · have := bK_lt B (L := L) (s := s) (by omega)
    rw [if_pos c]
    exact ⟨by omega, by omega, fun _ => by omega, fun h2 => by omega⟩
  · rw [if_neg c]
    obtain ⟨a1, a2, a3⟩ := bEnd_in B (bK B L s) (L - s) s
    refine ⟨a1, by omega, fun h0 => ?_, fun h2 i h3 h4 => by rw [a3 i h3 h4, h2]⟩
    have hs := bK_lt B h0
    rw [show L - s = (L - s - 1) + 1 by omega, bEnd, if_pos (bK_eq B hs).symm]
    have := (bEnd_in B (bK B L s) (L - s - 1) (s + 1)).1
    omega
/-- on to the next token -/
theorem go_next (B : Nat → Int) (L p : Nat) (hp : p ≤ L) (m M : xM) (ht : bTx B L (m 0) (m 1) M) (h2 : 0 ≤ m 0 2 ∧ m 0 2 ≤ 3) (h4 : m 0 4 = p) (h6 : m 0 6 = 0) (h15 : M 0 15 = p) (h18 : M 0 18 = 0) : ∃ (m' M' : xM) (s e : Nat), f_T_next m = some m' ∧ f_m_scan M = some M' ∧ bGo B L s e (m' 0) (m' 1) M' ∧ bFc m m' ∧ bFm M M' ∧ p ≤ s := by
  obtain ⟨t1, t2, t3, t4⟩ := ht
  obtain ⟨m', s, e, a1, a2, a3, a4, a5, a6, a7, a8, a9⟩ := T_next_sp B L p t1 hp m t2 (fun i hi => ⟨(t4 i hi).1, (t4 i hi).2.2⟩) h2 h4
  obtain ⟨M', s', e', b1, b2, b3, b4, b5, b6, b7, b8⟩ := m_scan_sp B L p t1 hp M t3 (fun i hi => ⟨(t4 i hi).2.1, (t4 i hi).2.2⟩) h15
  have hss : s' = s := by rw [b2, a2]
  have hee : e' = e := by rw [b3, a3, hss]
  rw [hss] at b4 b5
  rw [hee] at b6
  have hs := bSkip_in B (L - p) p
  rw [← a2] at hs
  have he := bE_in B (show s ≤ L by omega)
  rw [← a3] at he
  refine ⟨m', M', s, e, a1, b1, ⟨⟨t1, by rw [a8 1 (by omega) (by omega) (by omega) (by omega), t2], by rw [b7 14 (by omega) (by omega) (by omega), t3], fun i hi => ?_⟩, ⟨by omega, he.1, he.2.1⟩, a3, a5, a4, a6, a7, by rw [a8 6 (by omega) (by omega) (by omega) (by omega), h6], b6, b4, b5, by rw [b7 18 (by omega) (by omega) (by omega), h18]⟩, ⟨a9, a8 0 (by omega) (by omega) (by omega) (by omega), a8 1 (by omega) (by omega) (by omega) (by omega)⟩, ⟨b8, fun j hj => b7 j (by omega) (by omega) (by omega)⟩, hs.1⟩
  rw [a9 1 (by omega), b8 8 (by omega)]
  exact t4 i hi
theorem bGo.next {B : Nat → Int} {L s e : Nat} {m M : xM} (h : bGo B L s e (m 0) (m 1) M) : ∃ (m' M' : xM) (s' e' : Nat), f_T_next m = some m' ∧ f_m_scan M = some M' ∧ bGo B L s' e' (m' 0) (m' 1) M' ∧ bFc m m' ∧ bFm M M' ∧ e ≤ s' := by
  obtain ⟨g1, g2, g3, g4, g5, g6, g7, g8, g9, g10, g11, g12⟩ := h
  have := bK_in B L s
  exact go_next B L e g2.2.2 m M g1 (by rw [g4]; omega) g6 g8 g9 g12
/-- both fail at the same token -/
theorem bGo.fail {B : Nat → Int} {L s e : Nat} {m M : xM} (h : bGo B L s e (m 0) (m 1) M) (c v : Int) (hc : 1 ≤ c ∧ c ≤ 4) (hv : v = 0) : ∃ m' M' : xM, f_T_fail c m = some (0, m') ∧ f_m_check v c M = some M' ∧ bEr B L (m' 0) M' ∧ bFc m m' ∧ bFm M M' := by
  obtain ⟨⟨t1, t2, t3, t4⟩, g2, g3, g4, g5, g6, g7, g8, g9, g10, g11, g12⟩ := h
  have hk := bK_in B L s
  refine ⟨xu (xu m 0 6 c) 0 2 4, xu (xu M 0 18 c) 0 19 (M 0 16), ?_, ?_, ⟨c, s, ⟨xu_s rfl, by rw [xu_d (by omega), xu_s rfl], by rw [xu_d (by omega), xu_d (by omega), g5]⟩, hc, by rw [xu_d (by omega), xu_s rfl], by rw [xu_s rfl, g10], ⟨t1, by omega⟩, by rw [xu_d (by omega), xu_d (by omega), t3], fun i hi => ?_, s, e, g2.2.1, g2.2.2, by rw [xu_d (by omega), xu_d (by omega), g9], by rw [xu_d (by omega), xu_d (by omega), g10], by rw [xu_d (by omega), xu_d (by omega), g11], g3⟩, ⟨fun k hk => by rw [xu_K hk]; exact xu_K hk, by rw [xu_d (by omega), xu_d (by omega)], by rw [xu_d (by omega), xu_d (by omega)]⟩, ⟨fun k hk => by rw [xu_K hk]; exact xu_K hk, fun j hj => by rw [xu_d (by omega), xu_d (by omega)]⟩⟩
  · unfold f_T_fail
    rw [if_neg (by rw [g4, b_xw (by omega)]; show ¬ bK B L s = 4; omega)]
  · unfold f_m_check f_m_flaw
    rw [hv, if_pos (by decide), g12, if_pos (by decide), Option.bind_some]
  · rw [xu_k (by omega), xu_k (by omega)]
    exact ⟨(t4 i hi).2.1, (t4 i hi).2.2⟩
/-- in a flaw, the class -/
theorem bNo.next {c : Int} {q : Nat} {m : xM} (h : bNo c q (m 0)) : f_T_next m = some m := by
  unfold f_T_next
  rw [if_pos (by rw [h.1])]
theorem bNo.fail {c z : Int} {q : Nat} {m : xM} (h : bNo c q (m 0)) : f_T_fail z m = some (0, m) := by
  unfold f_T_fail
  rw [if_pos (by rw [h.1])]
theorem bNo.word {c : Int} {q w : Nat} {m : xM} (h : bNo c q (m 0)) : f_T_isWord w m = some 0 := by
  unfold f_T_isWord
  rw [h.1, if_neg (by decide)]
theorem bNo.sign {c z : Int} {q : Nat} {m : xM} (h : bNo c q (m 0)) : f_T_isSign z m = some 0 := by
  unfold f_T_isSign
  rw [h.1, if_neg (by decide)]
theorem bNo.takeWord {c : Int} {q w : Nat} {m : xM} (h : bNo c q (m 0)) : f_T_takeWord w m = some (0, m) := by
  unfold f_T_takeWord
  rw [h.word, Option.bind_some, if_pos (by decide), h.fail, Option.bind_some, if_pos (show xbz 0 by decide)]
theorem bNo.takeSign {c z : Int} {q : Nat} {m : xM} (h : bNo c q (m 0)) : f_T_takeSign z m = some (0, m) := by
  unfold f_T_takeSign
  rw [h.sign, Option.bind_some, if_pos (by decide), h.fail, Option.bind_some, if_pos (show xbz 0 by decide)]
theorem bNo.has {c a b : Int} {q : Nat} {m : xM} (h : bNo c q (m 0)) : f_T_hasNumber a b m = some (0, m) := by
  unfold f_T_hasNumber
  rw [h.1, if_neg (by decide), h.fail, Option.bind_some, if_pos (show xbz 0 by decide)]
theorem bNo.takeNumber {c a b : Int} {q : Nat} {m : xM} (h : bNo c q (m 0)) : f_T_takeNumber a b m = some (-1, m) := by
  unfold f_T_takeNumber
  rw [h.has, Option.bind_some, if_pos (show xw 0 = 0 by decide)]
theorem bNo.takeLast {c a b : Int} {q : Nat} {m : xM} (h : bNo c q (m 0)) : f_T_takeLast a b m = some (-1, m) := by
  unfold f_T_takeLast
  rw [h.takeNumber, Option.bind_some, h.takeSign, Option.bind_some]
/-- in a flaw, the reference -/
theorem bNoM.ne {B : Nat → Int} {L : Nat} {c : Int} {q : Nat} {M : xM} (h : bNoM B L c q M) : ¬ xw (M 0 18) = 0 := by
  rw [h.2.1, b_xw (by have := h.1; omega)]
  have := h.1
  omega
theorem bNoM.check {B : Nat → Int} {L : Nat} {c v z : Int} {q : Nat} {M : xM} (h : bNoM B L c q M) : f_m_check v z M = some M := by
  unfold f_m_check f_m_flaw
  rw [if_neg h.ne, Option.bind_some]
  split <;> rfl
theorem bNoM.advance {B : Nat → Int} {L : Nat} {c : Int} {q : Nat} {M : xM} (h : bNoM B L c q M) : f_m_advance M = some M := by
  unfold f_m_advance
  rw [if_neg h.ne]
theorem bNoM.symbol {B : Nat → Int} {L : Nat} {c z : Int} {q : Nat} {M : xM} (h : bNoM B L c q M) : f_m_isSymbol z M = some 0 := by
  unfold f_m_isSymbol
  rw [if_neg h.ne]
theorem m_isWord_0 (w : Nat) (M : xM) (n : Nat) : f_m_isWord_39 w M (n + 1) 0 0 = some 0 := by
  rw [f_m_isWord_39, if_pos (by decide), if_pos (by decide)]
theorem bNoM.word {B : Nat → Int} {L : Nat} {c : Int} {q w : Nat} {M : xM} (h : bNoM B L c q M) : f_m_isWord w M = some 0 := by
  unfold f_m_isWord
  rw [if_neg h.ne]
  exact m_isWord_0 w M 4999
theorem bNoM.accept {B : Nat → Int} {L : Nat} {c : Int} {q w : Nat} {M : xM} (h : bNoM B L c q M) : f_m_accept w M = some (0, M) := by
  unfold f_m_accept
  rw [h.word, Option.bind_some, if_pos (by decide), if_pos (by decide)]
theorem bNoM.expectWord {B : Nat → Int} {L : Nat} {c : Int} {q w : Nat} {M : xM} (h : bNoM B L c q M) : f_m_expectWord w M = some M := by
  unfold f_m_expectWord
  rw [h.word, Option.bind_some, h.check, Option.bind_some, h.advance, Option.bind_some]
theorem bNoM.expect {B : Nat → Int} {L : Nat} {c z : Int} {q : Nat} {M : xM} (h : bNoM B L c q M) : f_m_expect z M = some M := by
  unfold f_m_expect
  rw [h.symbol, Option.bind_some, h.check, Option.bind_some, h.advance, Option.bind_some]
/-! words and signs -/
def bEq (B : Nat → Int) (w s : Nat) : Nat → Nat → Int
  | 0, _ => 1
  | n + 1, i => if xw (B (s + i)) = xw (xsc w i) then bEq B w s n (i + 1) else 0
theorem bEq_in (B : Nat → Int) (w s : Nat) : ∀ n i, bEq B w s n i = 0 ∨ bEq B w s n i = 1 := by
  intro n
  induction n with
  | zero => intro i; right; rfl
  | succ n ih => intro i; unfold bEq; split
                 · exact ih _
                 · left; rfl
theorem bLen (w : Nat) : (xSby.getD w []).length ≤ 60 := by
  by_cases h : w < 28
  · have := (show ∀ w, w < 28 → (xSby.getD w []).length ≤ 60 by decide) w h
    exact this
  · have e : xSby.getD w [] = [] := by
      rw [List.getD_eq_getElem?_getD, List.getElem?_eq_none (by have : xSby.length = 28 := by decide
                                                                omega)]
      rfl
    rw [e]; exact Nat.zero_le _
theorem T_word_28 (B : Nat → Int) (w s : Nat) (q : Nat) (m : xM) (h3 : m 0 3 = s) (hs : s ≤ 500000) : ∀ (n i : Nat), i + n = (xSby.getD w []).length → s + i + n ≤ 600 → (∀ k, k < n → m 1 (s + i + k) = B (s + i + k)) → f_T_isWord_28 w m (q + n + 1) (i : Int) = some (bEq B w s n i) := by
  have hl := bLen w
  have e1 : ∀ i : Nat, i ≤ 100 → (xw (i : Int) < xw (xsl w) ↔ i < (xSby.getD w []).length) := fun i hi => by
    unfold xsl
    rw [b_xw (by omega), b_xw (by omega)]
    omega
  intro n
  induction n with
  | zero =>
    intro i hi hn hB
    rw [f_T_isWord_28, if_neg (by rw [e1 i (by omega)]; omega)]
    rfl
  | succ n ih =>
    intro i hi hn hB
    unfold bEq
    have e2 : (m 0 3) + (i : Int) = ((s + i : Nat) : Int) := by rw [h3]; omega
    rw [show q + (n + 1) + 1 = (q + n + 1) + 1 by omega, f_T_isWord_28, if_pos ((e1 i (by omega)).2 (by omega)), e2, if_pos (b_ib (by omega)), if_pos (b_ib (by omega)), show xix ((s + i : Nat) : Int) = s + i by rw [b_ix (by omega)]; exact Int.toNat_natCast _, show xix (i : Int) = i by rw [b_ix (by omega)]; exact Int.toNat_natCast _, show m 1 (s + i) = B (s + i) from hB 0 (by omega)]
    by_cases c : xw (B (s + i)) = xw (xsc w i)
    · rw [if_pos c, if_pos c, show (i : Int) + 1 = ((i + 1 : Nat) : Int) by omega]
      exact ih (i + 1) (by omega) (by omega) (fun k hk => by have := hB (k + 1) (by omega); rw [show s + (i + 1) + k = s + i + (k + 1) by omega]; exact this)
    · rw [if_neg c, if_neg c]
theorem m_word_39 (B : Nat → Int) (w s : Nat) (q : Nat) (M : xM) (h3 : M 0 16 = s) (hs : s ≤ 500000) : ∀ (n i : Nat), i + n = (xSby.getD w []).length → s + i + n ≤ 600 → (∀ k, k < n → M 8 (s + i + k) = B (s + i + k)) → f_m_isWord_39 w M (q + n + 1) 1 (i : Int) = some (bEq B w s n i) := by
  have hl := bLen w
  have e1 : ∀ i : Nat, i ≤ 100 → (xw (i : Int) < xw (xsl w) ↔ i < (xSby.getD w []).length) := fun i hi => by
    unfold xsl
    rw [b_xw (by omega), b_xw (by omega)]
    omega
  intro n
  induction n with
  | zero =>
    intro i hi hn hB
    rw [f_m_isWord_39, if_neg (show ¬ xw 1 = 0 by decide), if_neg (by rw [e1 i (by omega)]; omega), if_pos (by decide)]
    rfl
  | succ n ih =>
    intro i hi hn hB
    unfold bEq
    have e2 : (M 0 16) + (i : Int) = ((s + i : Nat) : Int) := by rw [h3]; omega
    rw [show q + (n + 1) + 1 = (q + n + 1) + 1 by omega, f_m_isWord_39, if_neg (show ¬ xw 1 = 0 by decide), if_pos ((e1 i (by omega)).2 (by omega)), e2, if_pos (b_ib (by omega)), if_pos (b_ib (by omega)), show xix ((s + i : Nat) : Int) = s + i by rw [b_ix (by omega)]; exact Int.toNat_natCast _, show xix (i : Int) = i by rw [b_ix (by omega)]; exact Int.toNat_natCast _, show M 8 (s + i) = B (s + i) from hB 0 (by omega)]
    unfold f_m_isWord_75
    rw [show (i : Int) + 1 = ((i + 1 : Nat) : Int) by omega]
    by_cases c : xw (B (s + i)) = xw (xsc w i)
    · rw [if_pos c.symm, if_pos c]
      exact ih (i + 1) (by omega) (by omega) (fun k hk => by have := hB (k + 1) (by omega); rw [show s + (i + 1) + k = s + i + (k + 1) by omega]; exact this)
    · rw [if_neg (fun h => c h.symm), if_neg c, show q + n + 1 = (q + n) + 1 from rfl, f_m_isWord_39, if_pos (by decide), if_pos (by decide)]
theorem bGo.word {B : Nat → Int} {L s e : Nat} {m M : xM} (h : bGo B L s e (m 0) (m 1) M) (w : Nat) : ∃ x : Int, (x = 0 ∨ x = 1) ∧ f_T_isWord w m = some x ∧ f_m_isWord w M = some x ∧ (x = 1 → s < L) := by
  obtain ⟨⟨t1, t2, t3, t4⟩, g2, g3, g4, g5, g6, g7, g8, g9, g10, g11, g12⟩ := h
  have hk := bK_in B L s
  have hl := bLen w
  have z0 : f_m_isWord_35 w M = some 0 := m_isWord_0 w M 4999
  unfold f_T_isWord f_m_isWord
  have z1 : ∀ z : Int, (-100000 ≤ z ∧ z ≤ 100000) → xw z = z := fun z hz => b_xw (by omega)
  have d1 : (xw (xsl w) = xw ((M 0 15) - (M 0 16))) ↔ e - s = (xSby.getD w []).length := by
    unfold xsl
    rw [g9, g10, z1 _ (by omega), z1 _ (by omega)]; omega
  have d2 : (xw ((m 0 4) - (m 0 3)) = xw (xsl w)) ↔ e - s = (xSby.getD w []).length := by
    unfold xsl
    rw [g5, g6, z1 _ (by omega), z1 _ (by omega)]; omega
  rw [g12, if_pos (show xw 0 = 0 by decide), g4, g11, z1 _ (show -100000 ≤ bK B L s ∧ bK B L s ≤ 100000 by omega)]
  by_cases c1 : bK B L s = 1
  · rw [if_pos (show bK B L s = xw 1 from c1), if_pos (show bK B L s = xw 1 from c1)]
    by_cases c2 : e - s = (xSby.getD w []).length
    · rw [if_pos (d1.2 c2), if_pos (d2.2 c2)]
      refine ⟨bEq B w s (xSby.getD w []).length 0, bEq_in B w s _ _, ?_, ?_, fun _ => bK_lt B (by omega)⟩
      · have := T_word_28 B w s (4999 - (xSby.getD w []).length) m g5 (by omega) (xSby.getD w []).length 0 (by omega) (by omega) (fun k hk => (t4 _ (by omega)).1)
        rw [show 4999 - (xSby.getD w []).length + (xSby.getD w []).length + 1 = fu by unfold fu; omega] at this
        exact this
      · have := m_word_39 B w s (4999 - (xSby.getD w []).length) M g10 (by omega) (xSby.getD w []).length 0 (by omega) (by omega) (fun k hk => (t4 _ (by omega)).2.1)
        rw [show 4999 - (xSby.getD w []).length + (xSby.getD w []).length + 1 = fu by unfold fu; omega] at this
        exact this
    · rw [if_neg (fun h => c2 (d1.1 h)), if_neg (fun h => c2 (d2.1 h)), z0]
      exact ⟨0, Or.inl rfl, rfl, rfl, fun h => by omega⟩
  · rw [if_neg (show ¬ bK B L s = xw 1 from c1), if_neg (show ¬ bK B L s = xw 1 from c1), z0]
    exact ⟨0, Or.inl rfl, rfl, rfl, fun h => by omega⟩
theorem bGo.sign {B : Nat → Int} {L s e : Nat} {m M : xM} (h : bGo B L s e (m 0) (m 1) M) (z : Int) (hz : 0 ≤ z ∧ z ≤ 255) : ∃ x : Int, (x = 0 ∨ x = 1) ∧ f_T_isSign z m = some x ∧ f_m_isSymbol z M = some x := by
  obtain ⟨⟨t1, t2, t3, t4⟩, g2, g3, g4, g5, g6, g7, g8, g9, g10, g11, g12⟩ := h
  have hk := bK_in B L s
  unfold f_T_isSign f_m_isSymbol
  rw [g12, if_pos (show xw 0 = 0 by decide), g4, g11, g5, g10, b_xw (show -2147483648 ≤ bK B L s ∧ bK B L s < 2147483648 by omega)]
  by_cases c1 : bK B L s = 3
  · have hs := bK_lt B (show bK B L s ≠ 0 by omega)
    obtain ⟨u1, u2, u3⟩ := t4 s hs
    have hx : xix (s : Int) = s := by rw [b_ix (by omega)]; exact Int.toNat_natCast _
    rw [if_pos (show bK B L s = xw 3 from c1), if_pos (show bK B L s = xw 3 from c1), if_pos (b_ib (by omega)), if_pos (b_ib (by omega)), hx, u1, u2]
    split
    · exact ⟨1, Or.inr rfl, rfl, rfl⟩
    · exact ⟨0, Or.inl rfl, rfl, rfl⟩
  · rw [if_neg (show ¬ bK B L s = xw 3 from c1), if_neg (show ¬ bK B L s = xw 3 from c1)]
    exact ⟨0, Or.inl rfl, rfl, rfl⟩

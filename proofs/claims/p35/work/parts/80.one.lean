/-! ===== one number into the draft ===== -/
/-- the cells that reading may change, of the reference -/
def bF2 (M M' : xM) : Prop := (∀ k, k ≠ 0 → k ≠ 2 → M' k = M k) ∧ (∀ j, j < 15 ∨ 20 ≤ j → M' 0 j = M 0 j) ∧ ∀ i, (i < 2 ∨ (3 ≤ i ∧ i < 11) ∨ i = 20 ∨ 45 ≤ i) → M' 2 i = M 2 i
theorem bF2.rfl {M : xM} : bF2 M M := ⟨fun _ _ _ => _root_.rfl, fun _ _ => _root_.rfl, fun _ _ => _root_.rfl⟩
theorem bF2.trans {m m1 m2 : xM} (h : bF2 m m1) (g : bF2 m1 m2) : bF2 m m2 := ⟨fun k h0 h2 => by rw [g.1 k h0 h2, h.1 k h0 h2], fun j hj => by rw [g.2.1 j hj, h.2.1 j hj], fun j hj => by rw [g.2.2 j hj, h.2.2 j hj]⟩
theorem bFm.to {M M' : xM} (h : bFm M M') : bF2 M M' := ⟨fun k h0 _ => h.1 k h0, h.2, fun i _ => by rw [h.1 2 (by omega)]⟩
theorem bF2.put {M : xM} {i : Nat} {x : Int} (hi : i = 2 ∨ (11 ≤ i ∧ i < 20) ∨ (21 ≤ i ∧ i < 45)) : bF2 M (xu M 2 i x) := ⟨fun k _ h2 => xu_K h2, fun j _ => xu_k (by omega), fun j hj => xu_d (by omega)⟩
theorem xu_self (M : xM) (k j : Nat) : xu M k j (M k j) = M := by
  funext k' j'
  by_cases h : k' = k
  · rw [h]
    by_cases g : j' = j
    · rw [xu_s g, g]
    · rw [xu_d g]
  · rw [xu_k h]
theorem bGo.cgM {B : Nat → Int} {L s e : Nat} {A Y : Nat → Int} {M M' : xM} (h : bGo B L s e A Y M) (h0 : M' 0 = M 0) (h8 : M' 8 = M 8) : bGo B L s e A Y M' := by
  unfold bGo bTx at h ⊢
  rw [h0, h8]
  exact h
theorem bEr.cgM {B : Nat → Int} {L : Nat} {A : Nat → Int} {M M' : xM} (h : bEr B L A M) (h0 : M' 0 = M 0) (h8 : M' 8 = M 8) : bEr B L A M' := by
  unfold bEr bNoM at h ⊢
  rw [h0, h8]
  exact h
theorem bEr.ne {B : Nat → Int} {L : Nat} {A : Nat → Int} {M : xM} (h : bEr B L A M) : ¬ xw (M 0 18) = 0 := by
  obtain ⟨c, q, _, h2⟩ := h
  exact h2.ne
theorem R_mg (m q : xM) (hq : bFc (xvw [1, 2] m) q) : ∃ m' : xM, xmg [1, 2] 2 m q = m' ∧ m' 1 = q 0 ∧ m' 2 = q 1 ∧ (∀ k, k ≠ 1 → m' k = m k) ∧ m' 1 0 = m 1 0 ∧ m' 1 1 = m 1 1 := by
  refine ⟨_, rfl, rfl, rfl, fun k hk => ?_, hq.2.1, hq.2.2⟩
  by_cases h2 : k = 2
  · rw [h2]; exact hq.1 1 (by omega)
  · refine xmg_no _ _ ?_
    show xpos [1, 2] 0 k = none
    unfold xpos xpos xpos
    rw [if_neg (by omega), if_neg (by omega)]
/-- one number and its semicolon -/
theorem R_one {B : Nat → Int} {L f0 : Nat} {m M : xM} (f : Nat) (a b : Int) (hab : 0 ≤ a ∧ a ≤ b ∧ b ≤ 99999) (hf : f = 2 ∨ (11 ≤ f ∧ f < 20)) (h : bSs B L f0 (m 0) (m 1) M) : ∃ (q : xM) (x : Int) (M1 M' : xM), f_T_takeLast a b m = some (x, q) ∧ f_m_readOne (f : Int) a b M = some M1 ∧ f_m_expect 59 M1 = some M' ∧ bFc m q ∧ bF2 M M' ∧ (∀ i, i ≠ f → M' 2 i = M 2 i) ∧ ((∃ s' e', f0 < s' ∧ bGo B L s' e' (q 0) (q 1) M' ∧ M' 2 f = x ∧ a ≤ x ∧ x ≤ b) ∨ bEr B L (q 0) M') := by
  have hf9 : f < 45 := by rcases hf with g | g <;> omega
  have hb : xib (f : Int) 3530 := b_ib (by omega)
  have hx : xix (f : Int) = f := by rw [b_ix (by omega)]; exact Int.toNat_natCast _
  obtain ⟨m1, M1, x, X, a1, a2, a3, a4, a5⟩ := st_number a b hab h
  have hput : f = 2 ∨ (11 ≤ f ∧ f < 20) ∨ (21 ≤ f ∧ f < 45) := hf.elim Or.inl (fun g => Or.inr (Or.inl g))
  unfold f_T_takeLast f_m_readOne
  rw [a1, a2, Option.bind_some, Option.bind_some]
  dsimp only
  rcases a5 with ⟨b1, b2, b3, s, e, b4, b5⟩ | ⟨b1, b2, b3⟩
  · rw [if_pos (show xw (M1 0 18) = 0 by rw [b5.err]; decide)]
    unfold f_m_readOne_31
    rw [if_pos hb, hx]
    obtain ⟨m', M', y, c1, c2, c3, c4, c5⟩ := st_sign (f := f0) 59 (by omega) (Or.inl ⟨s, e, by omega, b5.cgM (M' := xu M1 2 f X) (xu_K (by omega)) (xu_K (by omega))⟩ : bSs B L f0 (m1 0) (m1 1) (xu M1 2 f X))
    rw [c1, Option.bind_some]
    refine ⟨m', x, _, M', rfl, rfl, c2, a3.trans c3, (a4.to.trans (bF2.put hput)).trans c4.to, fun i hi => ?_, ?_⟩
    · rw [c4.1 2 (by omega), xu_d hi, a4.1 2 (by omega)]
    · rcases c5 with ⟨_, s', e', d1, d2⟩ | ⟨_, d2⟩
      · exact Or.inl ⟨s', e', d1, d2, by rw [c4.1 2 (by omega), xu_s rfl, b1], b2, b3⟩
      · exact Or.inr d2
  · rw [if_neg b3.ne, if_pos hb, hx]
    unfold f_m_readOne_31
    rw [if_pos hb, hx, xu_self]
    obtain ⟨c, q, d1, d2⟩ := b3
    rw [d1.takeSign, Option.bind_some]
    exact ⟨m1, x, M1, M1, rfl, rfl, d2.expect, a3, a4.to, fun i _ => by rw [a4.1 2 (by omega)], Or.inr ⟨c, q, d1, d2⟩⟩
/-- the draft of the class as if it were a line's own -/
def bUp (m : xM) : xM := fun k => m (k - 30)
theorem bRP.eqv {m m' : xM} {N : Nat → Int} (h : bRP m N) (h1 : ∀ k, 33 ≤ k → k ≤ 37 → m' k = m k) : bRP m' N := h.cg h1 (fun _ _ _ _ => rfl)

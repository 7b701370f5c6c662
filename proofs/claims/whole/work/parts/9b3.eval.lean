/-! ===== a query's code, evaluated by the reference ===== -/
/-- the code in [c0, c1) of K leaves v on the stack, for event e of the log in N -/
def bSeg (K N : Nat → Int) (e c0 c1 : Nat) (v : Int) : Prop := c0 < c1 ∧ ∀ (n sp T : Nat) (Q : xM), (∀ i, c0 ≤ i → i < c1 → Q 10 i = K i) → Q 1 = N → Q 0 25 = T → c1 ≤ T → T ≤ 200 → sp ≤ c0 → ∃ Q' : xM, f_m_holdsFor_4 (e : Int) (n + (c1 - c0)) (sp : Int) (c0 : Int) Q = f_m_holdsFor_4 (e : Int) n ((sp + 1 : Nat) : Int) (c1 : Int) Q' ∧ Q' 11 sp = v ∧ (∀ i, i < sp → Q' 11 i = Q 11 i) ∧ ∀ k, k ≠ 11 → Q' k = Q k
theorem bSeg.cg {K K' N : Nat → Int} {e c0 c1 : Nat} {v : Int} (h : bSeg K N e c0 c1 v) (g : ∀ i, c0 ≤ i → i < c1 → K' i = K i) : bSeg K' N e c0 c1 v :=
  ⟨h.1, fun n sp T Q a1 a2 a3 a4 a5 a6 => h.2 n sp T Q (fun i h1 h2 => by rw [a1 i h1 h2, g i h1 h2]) a2 a3 a4 a5 a6⟩
def bOp (o : Int) : Prop := o = -20 ∨ o = -21 ∨ o = -22 ∨ o = -24 ∨ o = -25
theorem bSeg.op {K N : Nat → Int} {e c0 c1 c2 : Nat} {v1 v2 v : Int} (h1 : bSeg K N e c0 c1 v1) (h2 : bSeg K N e c1 c2 v2) {o : Int} (ho : bOp o) (hK : K c2 = o) (hv : ∀ Q, f_m_operate o v1 v2 Q = some v) : bSeg K N e c0 (c2 + 1) v := by
  obtain ⟨l1, g1⟩ := h1
  obtain ⟨l2, g2⟩ := h2
  refine ⟨by omega, fun n sp T Q a1 a2 a3 a4 a5 a6 => ?_⟩
  obtain ⟨Q1, b1, b2, b3, b4⟩ := g1 (n + 1 + (c2 - c1)) sp T Q (fun i u1 u2 => a1 i u1 (by omega)) a2 a3 (by omega) a5 a6
  obtain ⟨Q2, d1, d2, d3, d4⟩ := g2 (n + 1) (sp + 1) T Q1 (fun i u1 u2 => by rw [b4 10 (by omega)]; exact a1 i (by omega) (by omega)) (by rw [b4 1 (by omega), a2]) (by rw [b4 0 (by omega), a3]) (by omega) a5 (by omega)
  have e1 : n + (c2 + 1 - c0) = n + 1 + (c2 - c1) + (c1 - c0) := by omega
  have k25 : Q2 0 25 = T := by rw [d4 0 (by omega), b4 0 (by omega), a3]
  have k10 : Q2 10 c2 = o := by rw [d4 10 (by omega), b4 10 (by omega), a1 c2 (by omega) (by omega), hK]
  have wo : xw o = o := by rcases ho with q | q | q | q | q <;> rw [q] <;> decide
  have e2 : ((sp + 1 + 1 : Nat) : Int) + (-1) = ((sp + 1 : Nat) : Int) := by omega
  have e3 : ((sp + 1 + 1 : Nat) : Int) + (-1) - 1 = (sp : Int) := by omega
  have x1 : xix ((sp : Nat) : Int) = sp := by rw [b_ix (by omega)]; omega
  have x2 : xix ((sp + 1 : Nat) : Int) = sp + 1 := by rw [b_ix (by omega)]; omega
  have x3 : xix (c2 : Int) = c2 := by rw [b_ix (by omega)]; omega
  have i1 : xib ((sp : Nat) : Int) 200 := b_ib (by omega)
  have i2 : xib ((sp + 1 : Nat) : Int) 200 := b_ib (by omega)
  have i3 : xib (c2 : Int) 200 := b_ib (by omega)
  have st : f_m_holdsFor_4 (e : Int) (n + 1) ((sp + 1 + 1 : Nat) : Int) (c2 : Int) Q2 = f_m_holdsFor_4 (e : Int) n ((sp + 1 : Nat) : Int) ((c2 + 1 : Nat) : Int) (xu Q2 11 sp v) := by
    rw [f_m_holdsFor_4, k25, if_pos (show xw (c2 : Int) < xw (T : Int) by rw [b_xw (by omega), b_xw (by omega)]; omega), if_pos i3, x3, k10, wo]
    rw [if_neg (show ¬ o = xw (-23) by rcases ho with q | q | q | q | q <;> rw [q] <;> decide), if_neg (show ¬ xw (-20) < o by rcases ho with q | q | q | q | q <;> rw [q] <;> decide), e3, e2, if_pos i1, if_pos i2, x1, x2, d2, show Q2 11 sp = v1 by rw [d3 sp (by omega), b2], hv, b_bs, if_pos i1]
    rfl
  refine ⟨xu Q2 11 sp v, by rw [e1, b1, d1, st], xu_s rfl, fun i hi => by rw [xu_d (by omega), d3 i (by omega), b3 i hi], fun k hk => by rw [xu_K hk, d4 k hk, b4 k hk]⟩
theorem bSeg.not {K N : Nat → Int} {e c0 c1 : Nat} {v : Int} (h1 : bSeg K N e c0 c1 v) (hK : K c1 = -23) : bSeg K N e c0 (c1 + 1) (1 - v) := by
  obtain ⟨l1, g1⟩ := h1
  refine ⟨by omega, fun n sp T Q a1 a2 a3 a4 a5 a6 => ?_⟩
  obtain ⟨Q1, b1, b2, b3, b4⟩ := g1 (n + 1) sp T Q (fun i u1 u2 => a1 i u1 (by omega)) a2 a3 (by omega) a5 a6
  have e1 : n + (c1 + 1 - c0) = n + 1 + (c1 - c0) := by omega
  have k25 : Q1 0 25 = T := by rw [b4 0 (by omega), a3]
  have k10 : Q1 10 c1 = -23 := by rw [b4 10 (by omega), a1 c1 (by omega) (by omega), hK]
  have e3 : ((sp + 1 : Nat) : Int) - 1 = (sp : Int) := by omega
  have x1 : xix ((sp : Nat) : Int) = sp := by rw [b_ix (by omega)]; omega
  have x3 : xix (c1 : Int) = c1 := by rw [b_ix (by omega)]; omega
  have i1 : xib ((sp : Nat) : Int) 200 := b_ib (by omega)
  have i3 : xib (c1 : Int) 200 := b_ib (by omega)
  have st : f_m_holdsFor_4 (e : Int) (n + 1) ((sp + 1 : Nat) : Int) (c1 : Int) Q1 = f_m_holdsFor_4 (e : Int) n ((sp + 1 : Nat) : Int) ((c1 + 1 : Nat) : Int) (xu Q1 11 sp (1 - v)) := by
    rw [f_m_holdsFor_4, k25, if_pos (show xw (c1 : Int) < xw (T : Int) by rw [b_xw (by omega), b_xw (by omega)]; omega), if_pos i3, x3, k10, if_pos (show xw (-23) = xw (-23) from rfl), e3, if_pos i1, if_pos i1, x1, b2]
    rfl
  refine ⟨xu Q1 11 sp (1 - v), by rw [e1, b1, st], xu_s rfl, fun i hi => by rw [xu_d (by omega), b3 i hi], fun k hk => by rw [xu_K hk, b4 k hk]⟩
/-- the value of a number or a property for event e -/
def bQv (N : Nat → Int) (v : Int) (e : Nat) : Int := if v = -1 then (e : Int) else if v = -2 then N (1490 + 4 * e) else if v = -3 then N (1490 + 4 * e + 1) else if v = -4 then N (1490 + 4 * e + 2) + 1 else if v = -5 then N (1490 + 4 * e + 3) + 1 else v
def bVv (v : Int) : Prop := -5 ≤ v ∧ v ≤ 99999 ∧ v ≠ 0 ∨ v = 0
theorem m_property_sp {N : Nat → Int} {e : Nat} (he : e < 60) {v : Int} (hv : v = -1 ∨ v = -2 ∨ v = -3 ∨ v = -4 ∨ v = -5) {Q : xM} (hQ : Q 1 = N) : f_m_property (e : Int) ((-1) - v) Q = some (bQv N v e) := by
  have x0 : xix (1490 + 4 * (e : Int)) = 1490 + 4 * e := by rw [b_ix (by omega)]; omega
  have x1 : xix (1490 + 4 * (e : Int) + 1) = 1490 + 4 * e + 1 := by rw [b_ix (by omega)]; omega
  have x2 : xix (1490 + 4 * (e : Int) + 2) = 1490 + 4 * e + 2 := by rw [b_ix (by omega)]; omega
  have x3 : xix (1490 + 4 * (e : Int) + 3) = 1490 + 4 * e + 3 := by rw [b_ix (by omega)]; omega
  have i0 : xib (1490 + 4 * (e : Int)) 3530 := b_ib (by omega)
  have i1 : xib (1490 + 4 * (e : Int) + 1) 3530 := b_ib (by omega)
  have i2 : xib (1490 + 4 * (e : Int) + 2) 3530 := b_ib (by omega)
  have i3 : xib (1490 + 4 * (e : Int) + 3) 3530 := b_ib (by omega)
  unfold f_m_property bQv
  rcases hv with q | q | q | q | q
  · rw [q, if_pos (show xw (-1 - -1) = 0 by decide), if_pos rfl]
  · rw [q, if_neg (show ¬ xw (-1 - -2) = 0 by decide), if_pos (show xw (-1 - -2) = 1 by decide), if_pos i0, x0, hQ, if_neg (by decide), if_pos rfl]
  · rw [q, if_neg (show ¬ xw (-1 - -3) = 0 by decide), if_neg (show ¬ xw (-1 - -3) = 1 by decide), if_pos (show xw (-1 - -3) = 2 by decide), if_pos i1, x1, hQ, if_neg (by decide), if_neg (by decide), if_pos rfl]
  · rw [q, if_neg (show ¬ xw (-1 - -4) = 0 by decide), if_neg (show ¬ xw (-1 - -4) = 1 by decide), if_neg (show ¬ xw (-1 - -4) = 2 by decide), if_pos (show xw (-1 - -4) = 3 by decide), if_pos i2, x2, hQ, if_neg (by decide), if_neg (by decide), if_neg (by decide), if_pos rfl, Int.add_comm]
  · rw [q, if_neg (show ¬ xw (-1 - -5) = 0 by decide), if_neg (show ¬ xw (-1 - -5) = 1 by decide), if_neg (show ¬ xw (-1 - -5) = 2 by decide), if_neg (show ¬ xw (-1 - -5) = 3 by decide), if_pos i3, x3, hQ, if_neg (by decide), if_neg (by decide), if_neg (by decide), if_neg (by decide), if_pos rfl, Int.add_comm]
theorem seg_val {K N : Nat → Int} {e c0 : Nat} (he : e < 60) {v : Int} (hv : -5 ≤ v ∧ v ≤ 99999) (hK : K c0 = v) : bSeg K N e c0 (c0 + 1) (xw (bQv N v e)) := by
  refine ⟨by omega, fun n sp T Q a1 a2 a3 a4 a5 a6 => ?_⟩
  have k10 : Q 10 c0 = v := by rw [a1 c0 (by omega) (by omega), hK]
  have wv : xw v = v := b_xw (by omega)
  have x1 : xix ((sp : Nat) : Int) = sp := by rw [b_ix (by omega)]; omega
  have x3 : xix (c0 : Int) = c0 := by rw [b_ix (by omega)]; omega
  have i1 : xib ((sp : Nat) : Int) 200 := b_ib (by omega)
  have i3 : xib (c0 : Int) 200 := b_ib (by omega)
  have w20 : xw (-20) = -20 := by decide
  have w23 : xw (-23) = -23 := by decide
  refine ⟨xu Q 11 sp (xw (bQv N v e)), ?_, xu_s rfl, fun i hi => xu_d (by omega), fun k hk => xu_K hk⟩
  rw [show c0 + 1 - c0 = 1 by omega, f_m_holdsFor_4, a3, if_pos (show xw (c0 : Int) < xw (T : Int) by rw [b_xw (by omega), b_xw (by omega)]; omega), if_pos i3, x3, k10, wv, w20, w23, if_neg (show ¬ v = -23 by omega), if_pos (show -20 < v by omega)]
  have fin : ∀ x : Int, f_m_holdsFor_81 (e : Int) (f_m_holdsFor_4 (e : Int) n) (sp : Int) (c0 : Int) x (sp : Int) Q = f_m_holdsFor_4 (e : Int) n ((sp + 1 : Nat) : Int) ((c0 + 1 : Nat) : Int) (xu Q 11 sp x) := fun x => by
    unfold f_m_holdsFor_81
    rw [if_pos i1, x1]
    rfl
  by_cases h0 : v < 0
  · rw [if_pos h0, m_property_sp he (by omega) a2, b_bs, fin]
  · rw [if_neg h0, fin]
    have : bQv N v e = v := by unfold bQv; rw [if_neg (by omega), if_neg (by omega), if_neg (by omega), if_neg (by omega), if_neg (by omega)]
    rw [this, wv]
theorem lcmp_sp (a b : Int) (ha : -9223372036854775808 ≤ a ∧ a < 9223372036854775808) (hb : -9223372036854775808 ≤ b ∧ b < 9223372036854775808) : xlcmp a b = (if b < a then 1 else if a = b then 0 else -1) := by
  have ea : (Int64.ofInt a).toInt = a := xwl_id (by omega) (by omega)
  have eb : (Int64.ofInt b).toInt = b := xwl_id (by omega) (by omega)
  unfold xlcmp lg_cmp
  simp only [gt_iff_lt, Int64.lt_iff_toInt_lt, ← Int64.toInt_inj, ea, eb]
  by_cases h1 : b < a
  · rw [if_pos h1, if_pos h1]; decide
  · rw [if_neg h1, if_neg h1]
    by_cases h2 : a = b
    · rw [if_pos h2, if_pos h2]; decide
    · rw [if_neg h2, if_neg h2]; decide
/-- which order a sign asks for -/
def bSat (o a b : Int) : Bool := if o = -20 then decide (a < b) else if o = -21 then decide (a = b) else decide (b < a)
theorem op_cmp {o : Int} (ho : o = -20 ∨ o = -21 ∨ o = -22) (a b : Int) (Q : xM) : f_m_operate o (xw a) (xw b) Q = some (if bSat o (xw a) (xw b) then 1 else 0) := by
  have ha := xw_in a
  have hb := xw_in b
  unfold f_m_operate bSat
  rw [lcmp_sp _ _ ⟨by omega, by omega⟩ ⟨by omega, by omega⟩]
  generalize xw a = x
  generalize xw b = y
  rcases ho with q | q | q
  · rw [q, if_neg (show ¬ xw (-20) = -24 by decide), if_neg (show ¬ xw (-20) = -23 by decide), if_neg (show ¬ xw (-20) = -22 by decide), if_neg (show ¬ xw (-20) = -21 by decide), if_pos (show xw (-20) = -20 by decide), if_pos (show (-20 : Int) = -20 from rfl)]
    by_cases h1 : y < x
    · rw [if_pos h1, if_neg (by decide), if_neg (by simp; omega)]
    · rw [if_neg h1]
      by_cases h2 : x = y
      · rw [if_pos h2, if_neg (by decide), if_neg (by simp; omega)]
      · rw [if_neg h2, if_pos (by decide), if_pos (by simp; omega)]
  · rw [q, if_neg (show ¬ xw (-21) = -24 by decide), if_neg (show ¬ xw (-21) = -23 by decide), if_neg (show ¬ xw (-21) = -22 by decide), if_pos (show xw (-21) = -21 by decide), if_neg (show ¬ (-21 : Int) = -20 by decide), if_pos (show (-21 : Int) = -21 from rfl)]
    by_cases h1 : y < x
    · rw [if_pos h1, if_neg (by decide), if_neg (by simp; omega)]
    · rw [if_neg h1]
      by_cases h2 : x = y
      · rw [if_pos h2, if_pos (by decide), if_pos (by simp; omega)]
      · rw [if_neg h2, if_neg (by decide), if_neg (by simp; omega)]
  · rw [q, if_neg (show ¬ xw (-22) = -24 by decide), if_neg (show ¬ xw (-22) = -23 by decide), if_pos (show xw (-22) = -22 by decide), if_neg (show ¬ (-22 : Int) = -20 by decide), if_neg (show ¬ (-22 : Int) = -21 by decide)]
    by_cases h1 : y < x
    · rw [if_pos h1, if_pos (by decide), if_pos (by simp; omega)]
    · rw [if_neg h1]
      by_cases h2 : x = y
      · rw [if_pos h2, if_neg (by decide), if_neg (by simp; omega)]
      · rw [if_neg h2, if_neg (by decide), if_neg (by simp; omega)]
/-- one bit as a number -/
def bb (x : Bool) : Int := if x then 1 else 0
theorem op_and (x y : Bool) (Q : xM) : f_m_operate (-24) (bb x) (bb y) Q = some (bb (x && y)) := by
  cases x <;> cases y <;> rfl
theorem op_or (x y : Bool) (Q : xM) : f_m_operate (-25) (bb x) (bb y) Q = some (bb (x || y)) := by
  cases x <;> cases y <;> rfl
/-- the reference's answer for one event -/
theorem m_holds_sp {N : Nat → Int} {e T : Nat} {x : Bool} {Q : xM} (h : bSeg (Q 10) N e 0 T (bb x)) (hN : Q 1 = N) (hT : Q 0 25 = T) (hT2 : T ≤ 200) : ∃ Q' : xM, f_m_holdsFor (e : Int) Q = some (bb x, Q') ∧ ∀ k, k ≠ 11 → Q' k = Q k := by
  obtain ⟨Q', a1, a2, a3, a4⟩ := h.2 (4999 - T + 1) 0 T Q (fun _ _ _ => rfl) hN hT (Nat.le_refl _) hT2 (Nat.le_refl _)
  refine ⟨Q', ?_, a4⟩
  unfold f_m_holdsFor
  have e0 : fu = 4999 - T + 1 + (T - 0) := by unfold fu; omega
  rw [e0]
  show f_m_holdsFor_4 (e : Int) (4999 - T + 1 + (T - 0)) ((0 : Nat) : Int) ((0 : Nat) : Int) Q = _
  rw [a1, f_m_holdsFor_4, show Q' 0 25 = T by rw [a4 0 (by omega), hT], if_neg (Int.lt_irrefl _)]
  unfold f_m_holdsFor_124
  rw [if_pos (b_ib (by omega)), a2]
  cases x <;> rfl

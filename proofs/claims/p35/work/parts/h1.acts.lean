/-! ===== the law's acts: all but sending ===== -/
theorem xiand_nn (v : Int) : 0 ≤ xiand v 2147483647 ∧ xiand v 2147483647 < 2147483648 := by
  unfold xiand
  have h : (Int32.ofInt v &&& Int32.ofInt 2147483647).toBitVec.msb = false := by
    rw [Int32.toBitVec_and, BitVec.msb_and, show (Int32.ofInt 2147483647).toBitVec.msb = false by decide, Bool.and_false]
  have e : (Int32.ofInt v &&& Int32.ofInt 2147483647).toInt = ((Int32.ofInt v &&& Int32.ofInt 2147483647).toBitVec.toNat : Int) := BitVec.toInt_eq_toNat_of_msb h
  have l := (Int32.ofInt v &&& Int32.ofInt 2147483647).toInt_lt
  exact ⟨by rw [e]; exact Int.natCast_nonneg _, l⟩
theorem L_most (v : Int) {k : Nat} (hk : 0 < k ∧ k < 1000000) : ∃ r : Nat, r < k ∧ ∀ hp : gH, f_L_most v (k : Int) hp = some (r : Int) := by
  obtain ⟨n1, n2⟩ := xiand_nn v
  have e := xirem_pos (x := xiand v 2147483647) (y := (k : Int)) ⟨n1, n2⟩ ⟨by omega, by omega⟩
  have h1 := Int.emod_nonneg (xiand v 2147483647) (show (k : Int) ≠ 0 by omega)
  have h2 := Int.emod_lt_of_pos (xiand v 2147483647) (show (0 : Int) < k by omega)
  refine ⟨(xiand v 2147483647 % (k : Int)).toNat, by omega, fun hp => ?_⟩
  unfold f_L_most
  rw [if_neg (by rw [xw_nat (by omega)]; omega), e]
  congr 1
  omega
/-- what the law writes on is empty -/
def wZ (w : Nat) (ρ : Nat → Nat) (h : gH) : Prop := gat h w = some (.inl (0, [0, 0, 0, 0, 0, 0])) ∧ ρ w = 50
theorem wZ.go {w n z : Nat} {ρ ρ' : Nat → Nat} {h h' : gH} (k : wZ w ρ h) (c : hC n z ρ h ρ' h') : wZ w ρ' h' := by
  obtain ⟨a, b⟩ := c.2 w _ (Or.inr (by rw [k.2]; exact Nat.le_refl _)) k.1
  exact ⟨a, by rw [b, k.2]⟩
/-- an act by both -/
def LR (u w : Nat) (ρ : Nat → Nat) (h : gH) (s : aS) (H : List aS) (S : Option aS) (B' : Int) (r : Option (Int × xM × gH)) : Prop := ∃ (d : Int) (m' : xM) (h' : gH) (A' ρ' : Nat → Nat) (s' : aS) (H' : List aS) (n z : Nat), r = some (d, m', h') ∧ (d = 0 ∧ s' = s ∧ H' = H ∨ d = 1 ∧ H' = aPush H s) ∧ (OO u A' ρ' h' s' ∧ wZ w ρ' h') ∧ (aX B' m' s' H' S [] ∧ vB s' ∧ pI s') ∧ hC n z ρ h ρ' h' ∧ pQ n z 16480 47000 s s' ∧ s'.1 0 ≤ s.1 0 + 40
section
variable {u w : Nat} {A ρ : Nat → Nat} {h : gH} {s : aS} {B : Int} {m : xM} {H : List aS} {S : Option aS}
theorem LR.no (o : OO u A ρ h s) (hw : wZ w ρ h) (x : aX B m s H S []) (hv : vB s) (hi : pI s) : LR u w ρ h s H S B (some (0, m, h)) := ⟨0, m, h, A, ρ, s, H, 0, 0, rfl, Or.inl ⟨rfl, rfl, rfl⟩, ⟨o, hw⟩, ⟨x, hv, hi⟩, hC.rf, (pQ.of ⟨rfl, rfl⟩).le (Nat.le_refl _) (Nat.le_refl _) (by omega) (by omega), by omega⟩
/-- ticks of the own line -/
theorem act_67 (v x8 : Int) (k : Nat) (hk : k ≤ 40) (m0 : xM) : ∀ (j x n : Nat) {A ρ : Nat → Nat} {h : gH} {s : aS} {B : Int} {m : xM} {H : List aS}, x + j = k → j < n → OO u A ρ h s → aX B m s H S [] → vB s → pI s → s.1 0 + j ≤ 99999 → 108 ≤ B → B + 30000 * j ≤ 500000000 → ∃ (A' ρ' : Nat → Nat) (h' : gH) (n' z' : Nat), f_L_act_67 w u v n (k : Int) x8 (x : Int) m0 h = f_L_act_84 w u v (k : Int) x8 m0 h' ∧ OO u A' ρ' h' (aTicks j s) ∧ hC n' z' ρ h ρ' h' ∧ pQ n' z' (412 * j) (200 * j) s (aTicks j s) ∧ pI (aTicks j s) := by
  intro j
  induction j with
  | zero =>
    intro x n A ρ h s B m H h1 h2 o hx hv hi ht hB1 hB
    obtain ⟨n, rfl⟩ : ∃ z, n = z + 1 := ⟨n - 1, by omega⟩
    refine ⟨A, ρ, h, 0, 0, ?_, o, hC.rf, pQ.of ⟨rfl, rfl⟩, hi⟩
    rw [f_L_act_67, if_neg (by rw [xw_nat (by omega), xw_nat (by omega)]; omega)]
  | succ j ih =>
    intro x n A ρ h s B m H h1 h2 o hx hv hi ht hB1 hB
    obtain ⟨n, rfl⟩ : ∃ z, n = z + 1 := ⟨n - 1, by omega⟩
    obtain ⟨v1, v2, m', x1⟩ := hx.tick1 hv (by omega) hB1 (by omega)
    have hf := hx.fly
    have ha := hx.ai.1
    obtain ⟨A1, ρ1, h1', a1, a2, a3⟩ := o.tick ha hB1 (by omega) (by omega)
    obtain ⟨q1, i1⟩ := p_tick hi ha hB1
    obtain ⟨A2, ρ2, h2', n2, z2, b1, b2, b3, b4, b5⟩ := ih (x + 1) n (by omega) (by omega) a2 x1 v1 i1 (by omega) (by omega) (by omega)
    obtain ⟨R, oR⟩ := o
    refine ⟨A2, ρ2, h2', aTickC s + n2, aTickZ s + z2, ?_, b2, a3.tr b3, (q1.tr b4).le (Nat.le_refl _) (Nat.le_refl _) (by omega) (by omega), b5⟩
    rw [f_L_act_67, if_pos (by rw [xw_nat (by omega), xw_nat (by omega)]; omega), a1, Option.bind_some, if_pos oR.ob, show (x : Int) + 1 = ((x + 1 : Nat) : Int) by omega]
    exact b1
theorem act_pass (o : OO u A ρ h s) (hw : wZ w ρ h) (hx : aX B m s H S []) (hv : vB s) (hi : pI s) (ht : s.1 0 + 40 ≤ 99999) (hB1 : 108 ≤ B) (hB : B + 1200000 ≤ 500000000) (v x : Int) {k : Nat} (hk : 0 < k ∧ k ≤ 40) : LR u w ρ h s H S (B + 1200000) (f_L_act_49 w u v (k : Int) x 1 m h) := by
  obtain ⟨r, hr, er⟩ := L_most x (k := k) (by omega)
  obtain ⟨A', ρ', h', n', z', b1, b2, b3, b4, b5⟩ := act_67 (w := w) (S := S) v (s.1 55) (r + 1) (by omega) m (r + 1) 0 fu (by omega) (by show _ < 5000; omega) o hx hv hi (by omega) hB1 (by omega)
  obtain ⟨m', c1, c2⟩ := hx.pass (r + 1) (by omega) (by omega) hB1 (by omega)
  obtain ⟨w1, w2⟩ := hx.ticks (r + 1) hv (by omega) hB1 (by omega)
  have oo := o
  obtain ⟨R, oR⟩ := oo
  have bb := b2
  obtain ⟨R', oR'⟩ := bb
  refine ⟨1, m', h', A', ρ', aTicks (r + 1) s, aPush H s, n', z', ?_, Or.inr ⟨rfl, rfl⟩, ⟨b2, hw.go b3⟩, ⟨c2.le (by omega), w1, b5⟩, b3, b4.le (Nat.le_refl _) (Nat.le_refl _) (by omega) (by omega), by omega⟩
  unfold f_L_act_49
  rw [er, Option.bind_some, oR.k17, Option.bind_some, oR.tot 10 (z := 10) rfl (by omega), Option.bind_some, show (1 : Int) + (r : Int) = ((r + 1 : Nat) : Int) by omega]
  rw [show ((0 : Nat) : Int) = 0 from rfl] at b1
  rw [b1]
  unfold f_L_act_84
  rw [c1, Option.bind_some, oR'.k17, Option.bind_some, oR'.tot 10 (z := 10) rfl (by omega), Option.bind_some]
  dsimp only
  rw [if_pos rfl]
/-- dialling -/
theorem vB.dial (h : vB s) (hp : s.1 1 = 0) (hf : ∀ e, e < 2 → (s.2.2 (56 + 717 * e + 26)) = []) : vB (aDial s) := by
  obtain ⟨⟨n1, n2, n3, n4⟩, h2, h3⟩ := h
  have g : ∀ j, j ≠ 1 → j ≠ 4 → j ≠ 5 → j ≠ 6 → j ≠ 58 → j ≠ 775 → j ≠ 59 → j ≠ 776 → (aDial s).1 j = s.1 j := fun j a b c d e f x y => by
    unfold aDial
    rw [aN_1, if_neg y, aN_1, if_neg x, aN_1, if_neg f, aN_1, if_neg e, aN_1, if_neg d, aN_1, if_neg c, aN_1, if_neg b, aN_1, if_neg a]
  have g1 : (aDial s).1 1 = 1 := rfl
  rw [hp, if_neg (by decide)] at n4
  refine ⟨?_, ?_, fun e he f hf' => ?_⟩
  · unfold vNum
    rw [g1, g 60 (by omega) (by omega) (by omega) (by omega) (by omega) (by omega) (by omega) (by omega), g 777 (by omega) (by omega) (by omega) (by omega) (by omega) (by omega) (by omega) (by omega), g 55 (by omega) (by omega) (by omega) (by omega) (by omega) (by omega) (by omega) (by omega), g 46 (by omega) (by omega) (by omega) (by omega) (by omega) (by omega) (by omega) (by omega), g 45 (by omega) (by omega) (by omega) (by omega) (by omega) (by omega) (by omega) (by omega), g 54 (by omega) (by omega) (by omega) (by omega) (by omega) (by omega) (by omega) (by omega), g 53 (by omega) (by omega) (by omega) (by omega) (by omega) (by omega) (by omega) (by omega), g 51 (by omega) (by omega) (by omega) (by omega) (by omega) (by omega) (by omega) (by omega), g 52 (by omega) (by omega) (by omega) (by omega) (by omega) (by omega) (by omega) (by omega), if_neg (by decide)]
    exact ⟨n1, n2, n3, n4⟩
  · have e1 : vC (aDial s) = vC s := by
      unfold vC
      rw [g1, hp, if_neg (by decide), if_neg (by decide)]
    rw [e1, g 0 (by omega) (by omega) (by omega) (by omega) (by omega) (by omega) (by omega) (by omega)]
    exact h2
  · have : ((aDial s).2.2 (56 + 717 * e + 26)) = (s.2.2 (56 + 717 * e + 26)) := rfl
    rw [this, hf e he] at hf'
    exact absurd hf' List.not_mem_nil
theorem p_dial (hi : pI s) (hp : s.1 1 = 0) (hl : vLn s) : pQ 2 4 8662 0 s (aDial s) ∧ pI (aDial s) := by
  obtain ⟨t, ht⟩ : ∃ t, t = aDial s := ⟨_, rfl⟩
  rw [← ht]
  have g : ∀ j, j ≠ 1 → j ≠ 4 → j ≠ 5 → j ≠ 6 → j ≠ 58 → j ≠ 775 → j ≠ 59 → j ≠ 776 → t.1 j = s.1 j := fun j a b c d e f x y => by
    rw [ht]
    unfold aDial
    rw [aN_1, if_neg y, aN_1, if_neg x, aN_1, if_neg f, aN_1, if_neg e, aN_1, if_neg d, aN_1, if_neg c, aN_1, if_neg b, aN_1, if_neg a]
  have g1 : t.1 1 = 1 := by rw [ht]; rfl
  have g5 : t.1 58 = 0 ∧ t.1 59 = 0 ∧ t.1 775 = 0 ∧ t.1 776 = 0 := by rw [ht]; exact ⟨rfl, rfl, rfl, rfl⟩
  have e2 : t.2 = s.2 := by rw [ht]; rfl
  have hf : ∀ e, (t.2.2 (56 + 717 * e + 26)) = (s.2.2 (56 + 717 * e + 26)) := fun e => by
    show t.2.2 _ = _
    rw [e2]
  have hq : ∀ e, (t.2.1 (56 + 717 * e + 117)) = (s.2.1 (56 + 717 * e + 117)) := fun e => by
    show t.2.1 _ = _
    rw [e2]
  have hfl : (t.2.2 1730) = (s.2.2 1730) := by
    show t.2.2 1730 = _
    rw [e2]
  have gz : ∀ e, e < 2 → t.1 ((56 + 717 * e) + 2) = 0 ∧ t.1 ((56 + 717 * (1 - e)) + 3) = 0 ∧ t.1 ((56 + 717 * e) + 9) = s.1 ((56 + 717 * e) + 9) := fun e he => by
    rcases (by omega : e = 0 ∨ e = 1) with q | q
    · subst q
      exact ⟨g5.1, g5.2.2.2, g 65 (by omega) (by omega) (by omega) (by omega) (by omega) (by omega) (by omega) (by omega)⟩
    · subst q
      exact ⟨g5.2.2.1, g5.2.1, g 782 (by omega) (by omega) (by omega) (by omega) (by omega) (by omega) (by omega) (by omega)⟩
  have ee : ∀ e, e < 2 → pEnd t e ≤ pEnd s e ∧ pXe t e ≤ pXe s e := fun e he => by
    obtain ⟨z1, z2, z3⟩ := gz e he
    have := (hl e he).2.1
    unfold pEnd pXe
    rw [z1, z2, z3, g 14 (by omega) (by omega) (by omega) (by omega) (by omega) (by omega) (by omega) (by omega), g 0 (by omega) (by omega) (by omega) (by omega) (by omega) (by omega) (by omega) (by omega), hf, hq]
    exact ⟨by omega, by omega⟩
  have er : pRest t ≤ pRest s + 8660 := by
    unfold pRest
    have o1 : pOn t ≤ 1 := by unfold pOn; split <;> omega
    have o2 : 0 ≤ pOn s := by unfold pOn; split <;> omega
    rw [pVw.cg (s := s) (t := t) fun j hj => g j (by omega) (by omega) (by omega) (by omega) (by omega) (by omega) (by omega) (by omega), hfl]
    omega
  obtain ⟨x1, x2⟩ := ee 0 (by omega)
  obtain ⟨y1, y2⟩ := ee 1 (by omega)
  refine ⟨pQ.mk 2 (by omega) (by omega) ?_ ?_, ?_⟩
  · show 2 + (pEnd t 0 + pEnd t 1 + pRest t) ≤ (pEnd s 0 + pEnd s 1 + pRest s) + 8662
    omega
  · show (pXe t 0 + pXe t 1) ≤ (pXe s 0 + pXe s 1) + 0
    omega
  · obtain ⟨⟨k1, k3, k4, k5⟩, ⟨l1, l2, l3, l4⟩, l5⟩ := hi
    unfold pI
    rw [g1, g 8 (by omega) (by omega) (by omega) (by omega) (by omega) (by omega) (by omega) (by omega), g 9 (by omega) (by omega) (by omega) (by omega) (by omega) (by omega) (by omega) (by omega), g 17 (by omega) (by omega) (by omega) (by omega) (by omega) (by omega) (by omega) (by omega), g 11 (by omega) (by omega) (by omega) (by omega) (by omega) (by omega) (by omega) (by omega), g 14 (by omega) (by omega) (by omega) (by omega) (by omega) (by omega) (by omega) (by omega), g 18 (by omega) (by omega) (by omega) (by omega) (by omega) (by omega) (by omega) (by omega)]
    exact ⟨⟨k1, k3, k4, fun q => absurd q (by decide)⟩, ⟨l1, l2, l3, l4⟩, fun e' he' => by rw [hf e']; exact l5 e' he'⟩
/-- what an act beginning with v does, by its number -/
theorem act_dial (o : OO u A ρ h s) (hw : wZ w ρ h) (hx : aX B m s H S []) (hv : vB s) (hi : pI s) (hB1 : 108 ≤ B) (hB : B ≤ 400000000) (v : Int) {r0 r1 : Nat} (h0 : ∀ hp : gH, f_L_most v 19 hp = some (r0 : Int)) (h1 : ∀ hp : gH, f_L_most (xishr v 4) 2 hp = some (r1 : Int)) (hr : 7 ≤ r0 ∧ r0 < 10) : LR u w ρ h s H S B (f_L_act w u v m h) := by
  have oo := o
  obtain ⟨R, oR⟩ := oo
  have ha := hx.ai.1
  have hm := ha.sm
  have ph := ha.1.2.1
  unfold f_L_act
  rw [h0, Option.bind_some, h1, Option.bind_some, if_neg (by rw [xw_nat (by omega), show xw 7 = 7 by decide]; omega), if_pos (by rw [xw_nat (by omega), show xw 10 = 10 by decide]; omega), oR.f1, Option.bind_some, xw_id (x := s.1 1) (by omega) (by omega)]
  by_cases hp : s.1 1 = 0
  · rw [if_pos hp]
    obtain ⟨h1', a1, a2, a3⟩ := oR.w1 hm 1
    have m1 := hm.N (j := 1) (x := 1) (by omega)
    obtain ⟨h2', b1, b2, b3⟩ := a2.w4 m1 0
    have m2 := m1.N (j := 4) (x := 0) (by omega)
    have t0 := b2.train 0 (z := 0) rfl (by omega)
    obtain ⟨h3', c1, c2, c3⟩ := b2.w5 m2 (s.1 21)
    have m3 := m2.N (j := 5) (x := s.1 21) (by omega)
    obtain ⟨h4', d1, d2, d3⟩ := c2.w6 m3 0
    have m4 := m3.N (j := 6) (x := 0) (by omega)
    obtain ⟨A5, ρ5, h5', e1, e2, e3⟩ := d2.newp22 m4
    have m5 := (m4.N (j := 58) (x := 0) (by omega)).N (j := 775) (x := 0) (by omega)
    obtain ⟨A6, ρ6, h6', f1, f2, f3⟩ := e2.newp23 m5
    have g0 : gaN 0 h2' (A 14) 0 = some (s.1 21) := t0
    have hc := ((((a3.tr b3).tr c3).tr d3).tr e3).tr f3
    have f2' : OO u A6 ρ6 h6' (aDial s) := ⟨R, f2⟩
    have tr : ∀ k : Nat, k < 4 → gaN 0 h6' (A6 14) (k : Int) = some (s.1 (21 + k)) := fun k hk => by
      have e := f2.train k rfl hk
      rw [e]
      congr 1
      have : ∀ j, 21 ≤ j → j < 25 → (aN (aN (aN (aN (aN (aN (aN (aN s 1 1) 4 0) 5 (s.1 21)) 6 0) 58 0) 775 0) 59 0) 776 0).1 j = s.1 j := fun j q1 q2 => by
        rw [aN_1, if_neg (by omega), aN_1, if_neg (by omega), aN_1, if_neg (by omega), aN_1, if_neg (by omega), aN_1, if_neg (by omega), aN_1, if_neg (by omega), aN_1, if_neg (by omega), aN_1, if_neg (by omega)]
      exact this _ (by omega) (by omega)
    obtain ⟨m', x1, x2⟩ := hx.dial hp (by omega) (by omega)
    obtain ⟨y, X, l1, l2⟩ := hx.line
    have off := l1.off l2 hp
    obtain ⟨q1, i1⟩ := p_dial hi hp hx.ln
    have n2 : ∀ hh : gH, gNw 0 hh 2 = some (2000 + hh.length, hh ++ [.inl (0, [0, 0])]) := fun hh => gNw_z 0 hh (n := 2) (z := 2) rfl (by omega)
    refine ⟨1, m', h6', A6, ρ6, aDial s, aPush H s, _, _, ?_, Or.inr ⟨rfl, rfl⟩, ⟨f2', hw.go hc⟩, ⟨x2, hv.dial hp fun e he => (off e he).1, i1⟩, hc, q1.le (by omega) (by omega) (by omega) (by omega), by show s.1 0 ≤ _; omega⟩
    rw [a1, Option.bind_some, b1, Option.bind_some, b2.k14, Option.bind_some, g0, Option.bind_some, c1, Option.bind_some, d1, Option.bind_some, n2, Option.bind_some]
    dsimp only
    rw [e1, Option.bind_some, n2, Option.bind_some]
    dsimp only
    rw [f1, Option.bind_some, x1, Option.bind_some, f2.k14, Option.bind_some]
    have t0' : gaN 0 h6' (A6 14) 0 = some (s.1 21) := tr 0 (by omega)
    have t1' : gaN 0 h6' (A6 14) 1 = some (s.1 22) := tr 1 (by omega)
    have t2' : gaN 0 h6' (A6 14) 2 = some (s.1 23) := tr 2 (by omega)
    have t3' : gaN 0 h6' (A6 14) 3 = some (s.1 24) := tr 3 (by omega)
    rw [t0', Option.bind_some, Option.bind_some, t1', Option.bind_some, Option.bind_some, t2', Option.bind_some, Option.bind_some, t3', Option.bind_some]
    dsimp only
    rw [if_pos rfl]
  · rw [if_neg hp]
    obtain ⟨m', x1, x2⟩ := hx.dialN hp
    rw [x1, Option.bind_some]
    dsimp only
    rw [if_pos rfl]
    exact LR.no o hw x2 hv hi
/-- another quality -/
theorem p_setQ (hi : pI s) (q : Int) : pQ 0 0 8660 0 s (aN s 2 q) ∧ pI (aN s 2 q) := by
  obtain ⟨t, ht⟩ : ∃ t, t = aN s 2 q := ⟨_, rfl⟩
  rw [← ht]
  have g : ∀ j, j ≠ 2 → t.1 j = s.1 j := fun j a => by rw [ht, aN_1, if_neg a]
  have e2 : t.2 = s.2 := by rw [ht]; rfl
  have hf : ∀ e, (t.2.2 (56 + 717 * e + 26)) = (s.2.2 (56 + 717 * e + 26)) := fun e => by
    show t.2.2 _ = _
    rw [e2]
  have hq : ∀ e, (t.2.1 (56 + 717 * e + 117)) = (s.2.1 (56 + 717 * e + 117)) := fun e => by
    show t.2.1 _ = _
    rw [e2]
  have hfl : (t.2.2 1730) = (s.2.2 1730) := by
    show t.2.2 1730 = _
    rw [e2]
  have ee : ∀ e, e < 2 → pEnd t e = pEnd s e ∧ pXe t e = pXe s e := fun e he => ⟨pEnd.cg (fun j hj => g j (by omega)) (hf e) (hq e), pXe.cg (fun j hj => g j (by omega)) (hq e)⟩
  have er : pRest t ≤ pRest s + 8660 := by
    unfold pRest
    have o1 : pOn t ≤ 1 := by unfold pOn; split <;> omega
    have o2 : 0 ≤ pOn s := by unfold pOn; split <;> omega
    rw [pVw.cg (s := s) (t := t) fun j hj => g j (by omega), hfl]
    omega
  obtain ⟨x1, x2⟩ := ee 0 (by omega)
  obtain ⟨y1, y2⟩ := ee 1 (by omega)
  refine ⟨pQ.mk 0 (by omega) (by omega) ?_ ?_, ?_⟩
  · show 0 + (pEnd t 0 + pEnd t 1 + pRest t) ≤ (pEnd s 0 + pEnd s 1 + pRest s) + 8660
    omega
  · show (pXe t 0 + pXe t 1) ≤ (pXe s 0 + pXe s 1) + 0
    omega
  · obtain ⟨⟨k1, k3, k4, k5⟩, ⟨l1, l2, l3, l4⟩, l5⟩ := hi
    unfold pI
    rw [g 1 (by omega), g 8 (by omega), g 9 (by omega), g 17 (by omega), g 11 (by omega), g 14 (by omega), g 18 (by omega)]
    exact ⟨⟨k1, k3, k4, k5⟩, ⟨l1, l2, l3, l4⟩, fun e' he' => by rw [hf e']; exact l5 e' he'⟩
theorem vB.N (h : vB s) {j : Nat} (hj : ¬ vIx j) (h3 : j ≠ 3) (x : Int) : vB (aN s j x) := by
  have j0 : j ≠ 0 := fun w => hj (by rw [w]; unfold vIx; omega)
  have j1 : j ≠ 1 := fun w => hj (by rw [w]; unfold vIx; omega)
  have e0 : (aN s j x).1 0 = s.1 0 := by rw [aN_1, if_neg (by omega)]
  have ec : vC (aN s j x) = vC s := by
    unfold vC
    rw [show (aN s j x).1 1 = s.1 1 by rw [aN_1, if_neg (by omega)], show (aN s j x).1 3 = s.1 3 by rw [aN_1, if_neg (by omega)]]
  refine ⟨(h.k.N hj x).2.1, ?_, ?_⟩
  · rw [e0, ec]; exact h.2.1
  · rw [e0]; exact h.2.2.of rfl
theorem vB.L (h : vB s) (j : Nat) (l : List Int) : vB (aL s j l) := ⟨h.1, h.2.1, h.2.2.of rfl⟩
theorem vB.hang (h : vB s) : vB (aHang s) := by
  obtain ⟨g0, g1, g2, g3⟩ := h.k.hang
  refine ⟨g1, ?_, fun e he f hf => ?_⟩
  · rw [vC.hang, g0]; exact g2
  · have : ((aHang s).2.2 (56 + 717 * e + 26)) = [] := by
      rcases (by omega : e = 0 ∨ e = 1) with q | q <;> (subst q; rfl)
    rw [this] at hf
    exact absurd hf List.not_mem_nil
theorem act_443 (o : OO u A ρ h s) (hw : wZ w ρ h) (hx : aX B m s H S []) (hv : vB s) (hi : pI s) (hB1 : 108 ≤ B) (v : Int) {q : Nat} (hq : q ≤ 9) : LR u w ρ h s H S B (f_L_act_443 w u v (s.1 2) (q : Int) u m h) := by
  obtain ⟨R, oR⟩ := o
  have ha := hx.ai.1
  obtain ⟨h', a1, a2, a3⟩ := oR.w2 ha.sm (q : Int)
  obtain ⟨m', x1, x2⟩ := hx.setQ (q := (q : Int)) (by omega) (by omega)
  obtain ⟨q1, i1⟩ := p_setQ hi (q : Int)
  refine ⟨1, m', h', A, ρ, aN s 2 (q : Int), aPush H s, _, _, ?_, Or.inr ⟨rfl, rfl⟩, ⟨⟨R, a2⟩, hw.go a3⟩, ⟨x2, hv.N (by unfold vIx; omega) (by omega) _, i1⟩, a3, q1.le (Nat.le_refl _) (Nat.le_refl _) (by omega) (by omega), by show s.1 0 ≤ _; omega⟩
  unfold f_L_act_443
  have e2 : gfI h' u 2 = some (q : Int) := a2.f2
  rw [a1, Option.bind_some, e2, Option.bind_some, x1, Option.bind_some]
  dsimp only
  rw [if_pos rfl]
theorem act_setQ (o : OO u A ρ h s) (hw : wZ w ρ h) (hx : aX B m s H S []) (hv : vB s) (hi : pI s) (hB1 : 108 ≤ B) (v : Int) {r1 : Nat} (h0 : ∀ hp : gH, f_L_most v 19 hp = some ((15 : Nat) : Int)) (h1 : ∀ hp : gH, f_L_most (xishr v 4) 2 hp = some (r1 : Int)) : LR u w ρ h s H S B (f_L_act w u v m h) := by
  have oo := o
  obtain ⟨R, oR⟩ := oo
  obtain ⟨r2, e2, h2⟩ := L_most (xishr v 4) (k := 3) (by omega)
  obtain ⟨r3, e3, h3⟩ := L_most (xishr (xishr v 4) 2) (k := 9) (by omega)
  have h2' : f_L_most (xishr v 4) 3 h = some (r2 : Int) := h2 h
  have h3' : f_L_most (xishr (xishr v 4) 2) 9 h = some (r3 : Int) := h3 h
  unfold f_L_act
  rw [h0, Option.bind_some, h1, Option.bind_some, if_neg (by decide), if_neg (by decide), if_neg (by decide), if_pos (by decide), oR.f2, Option.bind_some, h2', Option.bind_some, xw_nat (by omega)]
  by_cases c : (r2 : Int) = 0
  · rw [if_pos c]
    exact act_443 o hw hx hv hi hB1 v (q := 0) (by omega)
  · rw [if_neg c, h3', Option.bind_some, show (1 : Int) + (r3 : Int) = ((r3 + 1 : Nat) : Int) by omega]
    exact act_443 o hw hx hv hi hB1 v (by omega)
/-- escape and resume -/
theorem act_484 (o : OO u A ρ h s) (hw : wZ w ρ h) (hx : aX B m s H S []) (hv : vB s) (hi : pI s) (hB1 : 108 ≤ B) (hB : B ≤ 400000000) (v : Int) {e : Nat} (he : e < 2) {z : Nat} (hz : z < 2) : LR u w ρ h s H S B (f_L_act_484 w u v (e : Int) (z : Int) m h) := by
  have oo := o
  obtain ⟨R, oR⟩ := oo
  have ha := hx.ai.1
  have ph := ha.1.2.1
  have es := (ha.2.2.2.1 e he).2.2.2.1
  have hql : ((s.2.1 (56 + 717 * e + 117))).length ≤ 300 := (ha.2.2.2.1 e he).2.1.1
  obtain ⟨m', x1, x2⟩ := hx.esc he (z := (z : Int)) (by omega) (by omega) (by omega)
  have t540 : ∀ (y : Int) (hh : gH), f_L_act_540 w u v (e : Int) (z : Int) y m hh = f_L_act_560 w u v y (if s.1 1 = 2 then (if s.1 ((56 + 717 * e) + 6) = (z : Int) then -3 else (((s.2.1 (56 + 717 * e + 117))).length : Int)) else -2) m' hh := fun y hh => by
    unfold f_L_act_540 f_X_resume f_X_escape
    rcases (by omega : z = 0 ∨ z = 1) with q | q
    · subst q
      rw [if_pos (show xw ((0 : Nat) : Int) = 0 by decide)]
      rw [show ((0 : Nat) : Int) = 0 from rfl] at x1 ⊢
      rw [x1, Option.bind_some, Option.bind_some]
    · subst q
      rw [if_neg (show ¬ xw ((1 : Nat) : Int) = 0 by decide)]
      rw [show ((1 : Nat) : Int) = 1 from rfl] at x1 ⊢
      rw [x1, Option.bind_some, Option.bind_some]
  unfold f_L_act_484
  rw [oR.f1, Option.bind_some, xw_id (x := s.1 1) (by omega) (by omega), show xw 2 = 2 by decide]
  by_cases c : s.1 1 = 2
  · rw [if_pos c, oR.k26, Option.bind_some, oR.esc e rfl he, Option.bind_some, xw_id (x := s.1 ((56 + 717 * e) + 6)) (by omega) (by omega), xw_nat (by omega)]
    by_cases d : s.1 ((56 + 717 * e) + 6) = (z : Int)
    · rw [if_pos d]
      rw [if_neg (fun q => q.2 d), if_neg (fun q => q.2 d)] at x2
      unfold f_L_act_524
      rw [if_pos (by decide), t540, if_pos c, if_pos d]
      unfold f_L_act_560
      rw [if_pos rfl, if_pos (by decide)]
      exact LR.no o hw x2 hv hi
    · rw [if_neg d]
      rw [if_pos ⟨c, d⟩, if_pos ⟨c, d⟩] at x2
      obtain ⟨xq, y1, y2⟩ := oR.que e rfl he
      obtain ⟨h', a1, a2, a3⟩ := oR.wesc ha.sm e rfl he (z : Int)
      have hbz : xbz (z : Int) := by
        rcases (by omega : z = 0 ∨ z = 1) with q | q <;> (subst q; first | exact Or.inl rfl | exact Or.inr rfl)
      rw [oR.k18, Option.bind_some, y1, Option.bind_some, glc_N y2.1 (Or.inl rfl), Option.bind_some]
      unfold f_L_act_524
      rw [if_neg (by rw [xw_nat (by omega)]; omega), oR.k26, Option.bind_some, if_pos hbz, a1, Option.bind_some, t540, if_pos c, if_neg d]
      unfold f_L_act_560
      rw [if_pos rfl, if_neg (by rw [xw_nat (by omega)]; omega)]
      obtain ⟨q1, i1⟩ := p_same (s := s) (t := aN s ((56 + 717 * e) + 6) (z : Int)) (fun j hj => by
        have := pIx_4 he j hj
        rw [aN_1, if_neg (by omega)]) rfl hi
      exact ⟨1, m', h', A, ρ, aN s ((56 + 717 * e) + 6) (z : Int), aPush H s, _, _, rfl, Or.inr ⟨rfl, rfl⟩, ⟨⟨R, a2⟩, hw.go a3⟩, ⟨x2, hv.N (by unfold vIx; omega) (by omega) _, i1⟩, a3, q1.le (Nat.le_refl _) (Nat.le_refl _) (by omega) (by omega), by
        show (aN s ((56 + 717 * e) + 6) (z : Int)).1 0 ≤ _
        rw [aN_1, if_neg (by omega)]
        omega⟩
  · rw [if_neg c]
    rw [if_neg (fun q => c q.1), if_neg (fun q => c q.1)] at x2
    unfold f_L_act_524
    rw [if_pos (by decide), t540, if_neg c]
    unfold f_L_act_560
    rw [if_pos rfl, if_pos (by decide)]
    exact LR.no o hw x2 hv hi
/-- hanging up -/
theorem act_hang (o : OO u A ρ h s) (hw : wZ w ρ h) (hx : aX B m s H S []) (hv : vB s) (hi : pI s) (hB1 : 108 ≤ B) (hB : B ≤ 400000000) (v : Int) {r1 : Nat} (h0 : ∀ hp : gH, f_L_most v 19 hp = some ((18 : Nat) : Int)) (h1 : ∀ hp : gH, f_L_most (xishr v 4) 2 hp = some (r1 : Int)) : LR u w ρ h s H S (B + 1) (f_L_act w u v m h) := by
  have oo := o
  obtain ⟨R, oR⟩ := oo
  obtain ⟨r2, e2, h2⟩ := L_most (xishr v 4) (k := 3) (by omega)
  have h2' : f_L_most (xishr v 4) 3 h = some (r2 : Int) := h2 h
  have ha := hx.ai.1
  have ph := ha.1.2.1
  unfold f_L_act
  rw [h0, Option.bind_some, h1, Option.bind_some, if_neg (by decide), if_neg (by decide), if_neg (by decide), if_neg (by decide), if_neg (by decide), oR.f1, Option.bind_some, xw_id (x := s.1 1) (by omega) (by omega)]
  by_cases c : s.1 1 = 0
  · rw [if_pos c]
    exact LR.no o hw (hx.le (by omega)) hv hi
  · rw [if_neg c, h2', Option.bind_some, xw_nat (by omega)]
    by_cases d : 0 < (r2 : Int)
    · rw [if_pos d]
      exact LR.no o hw (hx.le (by omega)) hv hi
    · rw [if_neg d, o.losing (by omega : B ≤ 2147483647) ha.2.1 ha.fw, Option.bind_some, if_pos oR.ob]
      obtain ⟨h', a1, a2, a3⟩ := o.hang ha.sm ha.2.2.1 (by omega : B ≤ 1000000000) ha.2.1
      obtain ⟨m', x1, x2⟩ := hx.hangUp c (by omega) (by omega)
      obtain ⟨q1, i1⟩ := p_hang hi.z
      rw [a1, Option.bind_some, if_pos oR.ob, x1, Option.bind_some]
      dsimp only
      rw [if_pos rfl]
      exact ⟨1, m', h', A, ρ, aHang s, aPush H s, _, _, rfl, Or.inr ⟨rfl, rfl⟩, ⟨a2, hw.go a3⟩, ⟨x2, hv.hang, i1⟩, a3, (q1.add 5 4 (by omega)).le (by omega) (by omega) (by omega) (by omega), by
        rw [aHang_sc s 0 (by omega) (by omega)]
        omega⟩
end

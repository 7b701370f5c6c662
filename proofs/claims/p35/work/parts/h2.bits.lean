/-! ===== four bytes in a word ===== -/
abbrev wV (x : Int) : BitVec 32 := (Int32.ofInt x).toBitVec
theorem wV_nat (b : Nat) : wV (b : Int) = BitVec.ofNat 32 b := BitVec.ofInt_natCast 32 b
theorem wV_bit (b i : Nat) (hi : i < 32) : (wV (b : Int)).getLsbD i = b.testBit i := by
  rw [wV_nat, BitVec.getLsbD_ofNat, decide_eq_true hi, Bool.true_and]
theorem wV_or (x y : Int) : wV (xior x y) = wV x ||| wV y := by
  unfold wV xior
  rw [Int32.ofInt_toInt]
  rfl
theorem wV_shl (x : Int) (q : Nat) (hq : q < 4) : wV (xishl x (24 - 8 * (q : Int))) = wV x <<< (24 - 8 * q) := by
  unfold wV xishl
  rw [Int32.ofInt_toInt, Int32.toBitVec_shiftLeft]
  rcases (by omega : q = 0 ∨ q = 1 ∨ q = 2 ∨ q = 3) with r | r | r | r <;> (subst r; rfl)
theorem wV_shr (x : Int) (q : Nat) (hq : q < 4) : wV (xishr x (24 - 8 * (q : Int))) = (wV x).sshiftRight (24 - 8 * q) := by
  unfold wV xishr
  rw [Int32.ofInt_toInt, Int32.toBitVec_shiftRight]
  rcases (by omega : q = 0 ∨ q = 1 ∨ q = 2 ∨ q = 3) with r | r | r | r <;> (subst r; rfl)
/-- a word whose bytes are g 0 .. g 3, the high one first -/
def pkOk (x : Int) (g : Nat → Nat) : Prop := ∀ q, q < 4 → ∀ k, k < 8 → (wV x).getLsbD (24 - 8 * q + k) = (g q).testBit k
theorem pkOk.zero : pkOk 0 (fun _ => 0) := fun q hq k hk => by
  have e : wV 0 = 0#32 := by decide
  rw [e, BitVec.getLsbD_zero, Nat.zero_testBit]
theorem pkOk.put {x : Int} {g : Nat → Nat} (h : pkOk x g) {q : Nat} (hq : q < 4) (h0 : g q = 0) {b : Nat} (hb : b < 256) : pkOk (xior x (xishl (b : Int) (24 - 8 * (q : Int)))) (fun i => if i = q then b else g i) := fun p hp k hk => by
  rw [wV_or, BitVec.getLsbD_or, h p hp k hk, wV_shl _ _ hq, BitVec.getLsbD_shiftLeft, decide_eq_true (show 24 - 8 * p + k < 32 by omega), Bool.true_and]
  show _ = (if p = q then b else g p).testBit k
  have hz : ∀ i, 8 ≤ i → b.testBit i = false := fun i hi => Nat.testBit_lt_two_pow (Nat.lt_of_lt_of_le hb (Nat.pow_le_pow_right (by omega : 0 < 2) hi))
  by_cases c : p = q
  · rw [if_pos c, c, h0, Nat.zero_testBit, Bool.false_or, decide_eq_false (show ¬ 24 - 8 * q + k < 24 - 8 * q by omega), Bool.not_false, Bool.true_and, show 24 - 8 * q + k - (24 - 8 * q) = k by omega, wV_bit _ _ (by omega)]
  · rw [if_neg c]
    by_cases d : 24 - 8 * p + k < 24 - 8 * q
    · rw [decide_eq_true d, Bool.not_true, Bool.false_and, Bool.or_false]
    · rw [wV_bit _ _ (by omega), hz _ (by omega), Bool.and_false, Bool.or_false]
theorem pkOk.get {x : Int} {g : Nat → Nat} (h : pkOk x g) {q : Nat} (hq : q < 4) (hb : g q < 256) : xiand (xishr x (24 - 8 * (q : Int))) 255 = (g q : Int) := by
  have e : Int32.ofInt (xishr x (24 - 8 * (q : Int))) &&& Int32.ofInt 255 = Int32.ofInt (g q : Int) := by
    refine Int32.toBitVec.inj ?_
    rw [Int32.toBitVec_and]
    show wV (xishr x (24 - 8 * (q : Int))) &&& wV 255 = wV (g q : Int)
    refine BitVec.eq_of_getLsbD_eq fun i hi => ?_
    have e255 : (wV 255).getLsbD i = decide (i < 8) := by
      have : ∀ i, i < 32 → (wV 255).getLsbD i = decide (i < 8) := by decide
      exact this i hi
    rw [BitVec.getLsbD_and, e255, wV_shr _ _ hq, BitVec.getLsbD_sshiftRight, decide_eq_false (show ¬ 32 ≤ i by omega), Bool.not_false, Bool.true_and, wV_bit _ _ hi]
    by_cases c : i < 8
    · rw [decide_eq_true c, Bool.and_true, if_pos (by omega), h q hq i c]
    · rw [decide_eq_false c, Bool.and_false]
      exact (Nat.testBit_lt_two_pow (Nat.lt_of_lt_of_le hb (Nat.pow_le_pow_right (by omega : 0 < 2) (show 8 ≤ i by omega)))).symm
  unfold xiand
  rw [e]
  exact xw_nat (by omega)

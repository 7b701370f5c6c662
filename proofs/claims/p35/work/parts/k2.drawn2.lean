/-! ===== the rest of what is drawn ===== -/
theorem xishr_8 (x : Int) : xishr x 8 = xw x / 256 := by
  unfold xishr
  show ((Int32.ofInt x).toBitVec.sshiftRight 8).toInt = _
  rw [BitVec.toInt_sshiftRight, Int.shiftRight_eq_div_pow]
  rfl
theorem xishr_10 (x : Int) : xishr x 10 = xw x / 1024 := by
  unfold xishr
  show ((Int32.ofInt x).toBitVec.sshiftRight 10).toInt = _
  rw [BitVec.toInt_sshiftRight, Int.shiftRight_eq_div_pow]
  rfl
theorem xw_rg (x : Int) : -2147483648 ≤ xw x ∧ xw x < 2147483648 := ⟨(Int32.ofInt x).le_toInt, (Int32.ofInt x).toInt_lt⟩
theorem xiand_M (v : Int) : xiand v 2147483647 = v % 2147483648 := by
  unfold xiand
  have h : (Int32.ofInt v &&& Int32.ofInt 2147483647).toBitVec.msb = false := by
    rw [Int32.toBitVec_and, BitVec.msb_and, show (Int32.ofInt 2147483647).toBitVec.msb = false by decide, Bool.and_false]
  have e : (Int32.ofInt v &&& Int32.ofInt 2147483647).toInt = ((Int32.ofInt v &&& Int32.ofInt 2147483647).toBitVec.toNat : Int) := BitVec.toInt_eq_toNat_of_msb h
  have e1 : (Int32.ofInt v &&& Int32.ofInt 2147483647).toBitVec.toNat = (v % (2 ^ 32 : Nat)).toNat &&& (2 ^ 31 - 1) := by
    rw [Int32.toBitVec_and, BitVec.toNat_and]
    have a : (Int32.ofInt v).toBitVec.toNat = (v % (2 ^ 32 : Nat)).toNat := BitVec.toNat_ofInt v
    have b : (Int32.ofInt 2147483647).toBitVec.toNat = 2 ^ 31 - 1 := by decide
    rw [a, b]
  rw [e, e1, Nat.and_two_pow_sub_one_eq_mod]
  have : ((2 ^ 32 : Nat) : Int) = 4294967296 := by decide
  rw [this]
  omega
theorem L_mostV (v : Int) {k : Nat} (hk : 0 < k ∧ k < 1000000) (hp : gH) : f_L_most v (k : Int) hp = some (v % 2147483648 % (k : Int)) := by
  obtain ⟨n1, n2⟩ := xiand_nn v
  have e := xirem_pos (x := xiand v 2147483647) (y := (k : Int)) ⟨n1, n2⟩ ⟨by omega, by omega⟩
  unfold f_L_most
  rw [if_neg (by rw [xw_nat (by omega)]; omega), e, xiand_M]
theorem win_pat (x : Int) (h : xishr x 10 % 2147483648 % 7 = 0) : xishr x 8 % 2147483648 % 7 ≤ 4 := by
  rw [xishr_10] at h
  rw [xishr_8]
  have hx := xw_rg x
  obtain ⟨Y, hY⟩ : ∃ Y, Y = xw x / 256 := ⟨_, rfl⟩
  have hZ : xw x / 1024 = Y / 4 := by omega
  have hb : -8388608 ≤ Y ∧ Y < 8388608 := by omega
  rw [← hY]
  rw [hZ] at h
  by_cases c : 0 ≤ Y
  · have e1 : Y % 2147483648 = Y := by omega
    have e2 : Y / 4 % 2147483648 = Y / 4 := by omega
    rw [e1]
    rw [e2] at h
    omega
  · have e1 : Y % 2147483648 = Y + 2147483648 := by omega
    have e2 : Y / 4 % 2147483648 = Y / 4 + 2147483648 := by omega
    rw [e1]
    rw [e2] at h
    omega
theorem drawn_389 (Ln : Nat) (xs : Nat → Int) (x4 : Int) {q : Int} {r : Nat} (hr : r ≤ 5) (a b t s : gC) : ∀ (j n : Nat) (N : List Nat), N.length + j = r → j < n → (∀ x, x ∈ N → x ≤ 9) → ∃ N' : List Nat, N'.length = r ∧ (∀ x, x ∈ N' → x ≤ 9) ∧ f_L_drawn_389 Ln xs 0 n 2001 x4 (r : Int) (N.length : Int) (HL (fI q 2031 2032 2033 2035 2034) [a, b, t, s, .inl (0, cI N ++ List.replicate j 0)]) = some (2001, HL (fI q 2031 2032 2033 2035 2034) [a, b, t, s, .inl (0, cI N')]) := by
  intro j
  induction j with
  | zero =>
    intro n N h1 h2 h3
    obtain ⟨n, rfl⟩ : ∃ z, n = z + 1 := ⟨n - 1, by omega⟩
    refine ⟨N, by omega, h3, ?_⟩
    rw [f_L_drawn_389, if_neg (by rw [xw_nat (by omega), xw_nat (by omega)]; omega), List.replicate_zero, List.append_nil]
    rfl
  | succ j ih =>
    intro n N h1 h2 h3
    obtain ⟨n, rfl⟩ : ∃ z, n = z + 1 := ⟨n - 1, by omega⟩
    have f15 : gfK (HL (fI q 2031 2032 2033 2035 2034) [a, b, t, s, .inl (0, cI N ++ List.replicate (j + 1) 0)]) 2001 15 = some 2035 := HL_fld rfl
    have ll : (cI N ++ List.replicate (j + 1) 0).length = N.length + (j + 1) := by rw [List.length_append, cI_len, List.length_replicate]
    have fin : ∀ v : Nat, v ≤ 9 → ∃ N' : List Nat, N'.length = r ∧ (∀ x, x ∈ N' → x ≤ 9) ∧ f_L_drawn_432 Ln xs 0 (f_L_drawn_389 Ln xs 0 n) 2001 x4 (r : Int) (N.length : Int) (v : Int) (N.length : Int) 2035 (HL (fI q 2031 2032 2033 2035 2034) [a, b, t, s, .inl (0, cI N ++ List.replicate (j + 1) 0)]) = some (2001, HL (fI q 2031 2032 2033 2035 2034) [a, b, t, s, .inl (0, cI N')]) := fun v hv => by
      obtain ⟨N', g1, g2, g3⟩ := ih n (N ++ [v]) (by rw [List.length_append, List.length_singleton]; omega) (by omega) fun x hx => by
        rcases List.mem_append.mp hx with w | w
        · exact h3 x w
        · rw [List.mem_singleton.mp w]; exact hv
      refine ⟨N', g1, g2, ?_⟩
      unfold f_L_drawn_432
      rw [HL_set (i := 4) (k := N.length) (l := cI N ++ List.replicate (j + 1) 0) (v : Int) rfl rfl (by rw [ll]; omega) (by rw [ll]; omega), Option.bind_some]
      have k1 := set_fill (cI N) j (v : Int)
      rw [cI_len] at k1
      have e1 : [a, b, t, s, Sum.inl (0, cI N ++ List.replicate (j + 1) 0)].set 4 (.inl (0, (cI N ++ List.replicate (j + 1) 0).set N.length (v : Int))) = [a, b, t, s, .inl (0, cI (N ++ [v]) ++ List.replicate j 0)] := by
        rw [k1, cI_app]
        rfl
      rw [e1, show (N.length : Int) + 1 = ((N ++ [v]).length : Int) by rw [List.length_append, List.length_singleton]; omega]
      exact g3
    obtain ⟨r1, hr1, er1⟩ := L_most (xishr x4 (2 * (N.length : Int))) (k := 4) (by omega)
    have er1' : ∀ hp : gH, f_L_most (xishr x4 (2 * (N.length : Int))) 4 hp = some (r1 : Int) := er1
    obtain ⟨r2, hr2, er2⟩ := L_most (xishr x4 ((N.length : Int) + 3)) (k := 5) (by omega)
    have er2' : ∀ hp : gH, f_L_most (xishr x4 ((N.length : Int) + 3)) 5 hp = some (r2 : Int) := er2
    rw [f_L_drawn_389, if_pos (by rw [xw_nat (by omega), xw_nat (by omega)]; omega), f15, Option.bind_some, er1', Option.bind_some, xw_nat (by omega)]
    by_cases c : (r1 : Int) = 0
    · rw [if_pos c]
      exact fin 9 (Nat.le_refl _)
    · rw [if_neg c, er2', Option.bind_some]
      exact fin r2 (by omega)
/-- the own line that is drawn -/
def HD (q : Nat) (R : List (Nat × Nat)) (tr se N : List Nat) : gH := HL (fI (q : Int) 2031 2032 2033 2035 2034) [.inl (0, cI (R.map Prod.fst)), .inl (0, cI (R.map Prod.snd)), .inl (0, cI tr), .inl (0, cI se), .inl (0, cI N)]
def dOk (q : Nat) (R : List (Nat × Nat)) (tr se N : List Nat) : Prop := sOk q R tr se N ∧ R.length ≤ 4 ∧ se.getD 5 0 ≤ 4 ∧ (se.getD 6 0 = 1 → se.getD 2 0 ≤ 5)
theorem drawn_196 (Ln : Nat) (xs : Nat → Int) (x4 : Int) {q : Nat} (hq : q ≤ 9) {R : List (Nat × Nat)} (hR : rUp R) (hl : 1 ≤ R.length ∧ R.length ≤ 4) : ∃ tr se N : List Nat, dOk q R tr se N ∧ f_L_drawn_196 Ln xs 0 2001 x4 (HL (fI (q : Int) 2031 2032 2004 2005 2006) (csR R 0)) = some (2001, HD q R tr se N) := by
  obtain ⟨a, ha⟩ : ∃ a : gC, a = .inl (0, cI (R.map Prod.fst)) := ⟨_, rfl⟩
  obtain ⟨b, hb⟩ : ∃ b : gC, b = .inl (0, cI (R.map Prod.snd)) := ⟨_, rfl⟩
  have ec : csR R 0 = [a, b] := by
    unfold csR
    rw [List.replicate_zero, List.append_nil, List.append_nil, ha, hb]
  rw [ec]
  obtain ⟨r13, l13, e13⟩ := L_most x4 (k := 3) (by omega)
  obtain ⟨r15, l15, e15⟩ := L_most (xishr x4 1) (k := 3) (by omega)
  obtain ⟨r17, l17, e17⟩ := L_most (xishr x4 2) (k := 3) (by omega)
  obtain ⟨r19, l19, e19⟩ := L_most (xishr x4 3) (k := 2) (by omega)
  obtain ⟨r22, l22, e22⟩ := L_most (xishr x4 4) (k := 4) (by omega)
  obtain ⟨r24, l24, e24⟩ := L_most (xishr x4 5) (k := 4) (by omega)
  obtain ⟨r26, l26, e26⟩ := L_most (xishr x4 7) (k := 5) (by omega)
  obtain ⟨r28, l28, e28⟩ := L_most (xishr x4 8) (k := 7) (by omega)
  obtain ⟨r31, l31, e31⟩ := L_most (xishr x4 9) (k := 4) (by omega)
  obtain ⟨r33, l33, e33⟩ := L_most (xishr x4 6) (k := 4) (by omega)
  obtain ⟨r35, l35, e35⟩ := L_most (xishr x4 10) (k := 7) (by omega)
  obtain ⟨r38, l38, e38⟩ := L_most (xishr x4 11) (k := 5) (by omega)
  have wp : r35 = 0 → r28 ≤ 4 := fun w => by
    have v1 := L_mostV (xishr x4 10) (k := 7) (by omega) []
    have v2 := L_mostV (xishr x4 8) (k := 7) (by omega) []
    rw [e35] at v1
    rw [e28] at v2
    have v1 := Option.some.inj v1
    have v2 := Option.some.inj v2
    have := win_pat x4 (by
      have : ((7 : Nat) : Int) = 7 := rfl
      rw [this] at v1
      omega)
    have h7 : ((7 : Nat) : Int) = 7 := rfl
    rw [h7] at v2
    omega
  have e13' : ∀ hp : gH, f_L_most x4 3 hp = some (r13 : Int) := e13
  have e15' : ∀ hp : gH, f_L_most (xishr x4 1) 3 hp = some (r15 : Int) := e15
  have e17' : ∀ hp : gH, f_L_most (xishr x4 2) 3 hp = some (r17 : Int) := e17
  have e19' : ∀ hp : gH, f_L_most (xishr x4 3) 2 hp = some (r19 : Int) := e19
  have e22' : ∀ hp : gH, f_L_most (xishr x4 4) 4 hp = some (r22 : Int) := e22
  have e24' : ∀ hp : gH, f_L_most (xishr x4 5) 4 hp = some (r24 : Int) := e24
  have e26' : ∀ hp : gH, f_L_most (xishr x4 7) 5 hp = some (r26 : Int) := e26
  have e28' : ∀ hp : gH, f_L_most (xishr x4 8) 7 hp = some (r28 : Int) := e28
  have e31' : ∀ hp : gH, f_L_most (xishr x4 9) 4 hp = some (r31 : Int) := e31
  have e33' : ∀ hp : gH, f_L_most (xishr x4 6) 4 hp = some (r33 : Int) := e33
  have e35' : ∀ hp : gH, f_L_most (xishr x4 10) 7 hp = some (r35 : Int) := e35
  have e38' : ∀ hp : gH, f_L_most (xishr x4 11) 5 hp = some (r38 : Int) := e38
  obtain ⟨Q, hQ⟩ : ∃ Q : Int, Q = (q : Int) := ⟨_, rfl⟩
  rw [← hQ]
  have n4 : gNw 0 (HL (fI Q 2031 2032 2004 2005 2006) [a, b]) 4 = some (2033, HL (fI Q 2031 2032 2004 2005 2006) [a, b, .inl (0, [0, 0, 0, 0])]) := HL_new 4 (by omega) rfl
  have s2 : ∀ (l : List Int) (k : Nat) (x z : Int), z = (k : Int) → k < l.length → l.length < 100000 → ∀ fs : List xV, gsN 0 (HL fs [a, b, .inl (0, l)]) 2033 z x = some (HL fs [a, b, .inl (0, l.set k x)]) := fun l k x z hz h1 h2 fs => HL_set (i := 2) x rfl hz h1 h2
  have s3 : ∀ (t : gC) (l : List Int) (k : Nat) (x z : Int), z = (k : Int) → k < l.length → l.length < 100000 → ∀ fs : List xV, gsN 0 (HL fs [a, b, t, .inl (0, l)]) 2034 z x = some (HL fs [a, b, t, .inl (0, l.set k x)]) := fun t l k x z hz h1 h2 fs => HL_set (i := 3) x rfl hz h1 h2
  have n7 : ∀ t : gC, gNw 0 (HL (fI Q 2031 2032 2033 2005 2006) [a, b, t]) 7 = some (2034, HL (fI Q 2031 2032 2033 2005 2006) [a, b, t, .inl (0, [0, 0, 0, 0, 0, 0, 0])]) := fun t => HL_new 7 (by omega) rfl
  have p14 : ∀ cs : List gC, gpt (HL (fI Q 2031 2032 2004 2005 2006) cs) 2001 14 (.inr (.inr (some 2033))) = some (HL (fI Q 2031 2032 2033 2005 2006) cs) := fun cs => HL_put _ (by show 14 < 31; omega)
  have p16 : ∀ cs : List gC, gpt (HL (fI Q 2031 2032 2033 2005 2006) cs) 2001 16 (.inr (.inr (some 2034))) = some (HL (fI Q 2031 2032 2033 2005 2034) cs) := fun cs => HL_put _ (by show 16 < 31; omega)
  have p15 : ∀ cs : List gC, gpt (HL (fI Q 2031 2032 2033 2005 2034) cs) 2001 15 (.inr (.inr (some 2035))) = some (HL (fI Q 2031 2032 2033 2035 2034) cs) := fun cs => HL_put _ (by show 15 < 31; omega)
  have nN : ∀ t s : gC, gNw 0 (HL (fI Q 2031 2032 2033 2005 2034) [a, b, t, s]) (((1 + r38 : Nat)) : Int) = some (2035, HL (fI Q 2031 2032 2033 2005 2034) [a, b, t, s, .inl (0, List.replicate (1 + r38) 0)]) := fun t s => HL_new (1 + r38) (by omega) rfl
  obtain ⟨N, hN1, hN2, hN3⟩ := drawn_389 Ln xs x4 (q := Q) (r := 1 + r38) (by omega) a b (.inl (0, cI [1 + r13, 1 + r15, 1 + r17, 1 + r19])) (.inl (0, cI [r24, r26, 1 + r28, 1 + r22, 2 * (1 + r22) + 1 + r31, 1 + r33, 1 + r35])) (1 + r38) fu [] (by show 0 + (1 + r38) = _; omega) (by show _ < 5000; omega) (fun x hx => absurd hx List.not_mem_nil)
  have hN3' : f_L_drawn_389 Ln xs 0 fu 2001 x4 (((1 + r38 : Nat)) : Int) 0 (HL (fI Q 2031 2032 2033 2035 2034) [a, b, .inl (0, cI [1 + r13, 1 + r15, 1 + r17, 1 + r19]), .inl (0, cI [r24, r26, 1 + r28, 1 + r22, 2 * (1 + r22) + 1 + r31, 1 + r33, 1 + r35]), .inl (0, List.replicate (1 + r38) 0)]) = _ := hN3
  refine ⟨[1 + r13, 1 + r15, 1 + r17, 1 + r19], [r24, r26, 1 + r28, 1 + r22, 2 * (1 + r22) + 1 + r31, 1 + r33, 1 + r35], N, ⟨⟨hq, ⟨hR.ok hl.2, hl.1, by omega⟩, ⟨rfl, fun x hx => ?_⟩, ⟨_, _, _, _, _, _, _, rfl, by omega, by omega, by omega, by omega, by omega, by omega, by omega, by omega⟩, ⟨by omega, by omega⟩, hN2⟩, hl.2, by show 1 + r33 ≤ 4; omega, fun w => ?_⟩, ?_⟩
  · rcases List.mem_cons.mp hx with w | hx
    · omega
    · rcases List.mem_cons.mp hx with w | hx
      · omega
      · rcases List.mem_cons.mp hx with w | hx
        · omega
        · have := List.mem_singleton.mp hx
          omega
  · have w' : 1 + r35 = 1 := w
    have := wp (by omega)
    show 1 + r28 ≤ 5
    omega
  · unfold f_L_drawn_196
    have g0 : ∀ fs, gsN 0 (HL fs [a, b, .inl (0, [0, 0, 0, 0])]) 2033 0 (1 + (r13 : Int)) = some (HL fs [a, b, .inl (0, [1 + (r13 : Int), 0, 0, 0])]) := fun fs => s2 [0, 0, 0, 0] 0 _ 0 rfl (show 0 < 4 by omega) (show 4 < 100000 by omega) fs
    have g1 : ∀ fs, gsN 0 (HL fs [a, b, .inl (0, [1 + (r13 : Int), 0, 0, 0])]) 2033 1 (1 + (r15 : Int)) = some (HL fs [a, b, .inl (0, [1 + (r13 : Int), 1 + (r15 : Int), 0, 0])]) := fun fs => s2 [1 + (r13 : Int), 0, 0, 0] 1 _ 1 rfl (show 1 < 4 by omega) (show 4 < 100000 by omega) fs
    have g2 : ∀ fs, gsN 0 (HL fs [a, b, .inl (0, [1 + (r13 : Int), 1 + (r15 : Int), 0, 0])]) 2033 2 (1 + (r17 : Int)) = some (HL fs [a, b, .inl (0, [1 + (r13 : Int), 1 + (r15 : Int), 1 + (r17 : Int), 0])]) := fun fs => s2 [1 + (r13 : Int), 1 + (r15 : Int), 0, 0] 2 _ 2 rfl (show 2 < 4 by omega) (show 4 < 100000 by omega) fs
    have g3 : ∀ fs, gsN 0 (HL fs [a, b, .inl (0, [1 + (r13 : Int), 1 + (r15 : Int), 1 + (r17 : Int), 0])]) 2033 3 (1 + (r19 : Int)) = some (HL fs [a, b, .inl (0, [1 + (r13 : Int), 1 + (r15 : Int), 1 + (r17 : Int), 1 + (r19 : Int)])]) := fun fs => s2 [1 + (r13 : Int), 1 + (r15 : Int), 1 + (r17 : Int), 0] 3 _ 3 rfl (show 3 < 4 by omega) (show 4 < 100000 by omega) fs
    have h0 : ∀ fs, gsN 0 (HL fs [a, b, (Sum.inl (0, [1 + (r13 : Int), 1 + (r15 : Int), 1 + (r17 : Int), 1 + (r19 : Int)]) : gC), .inl (0, [0, 0, 0, 0, 0, 0, 0])]) 2034 0 ((r24 : Int)) = some (HL fs [a, b, (Sum.inl (0, [1 + (r13 : Int), 1 + (r15 : Int), 1 + (r17 : Int), 1 + (r19 : Int)]) : gC), .inl (0, [(r24 : Int), 0, 0, 0, 0, 0, 0])]) := fun fs => s3 (Sum.inl (0, [1 + (r13 : Int), 1 + (r15 : Int), 1 + (r17 : Int), 1 + (r19 : Int)]) : gC) [0, 0, 0, 0, 0, 0, 0] 0 _ 0 rfl (show 0 < 7 by omega) (show 7 < 100000 by omega) fs
    have h1 : ∀ fs, gsN 0 (HL fs [a, b, (Sum.inl (0, [1 + (r13 : Int), 1 + (r15 : Int), 1 + (r17 : Int), 1 + (r19 : Int)]) : gC), .inl (0, [(r24 : Int), 0, 0, 0, 0, 0, 0])]) 2034 1 ((r26 : Int)) = some (HL fs [a, b, (Sum.inl (0, [1 + (r13 : Int), 1 + (r15 : Int), 1 + (r17 : Int), 1 + (r19 : Int)]) : gC), .inl (0, [(r24 : Int), (r26 : Int), 0, 0, 0, 0, 0])]) := fun fs => s3 (Sum.inl (0, [1 + (r13 : Int), 1 + (r15 : Int), 1 + (r17 : Int), 1 + (r19 : Int)]) : gC) [(r24 : Int), 0, 0, 0, 0, 0, 0] 1 _ 1 rfl (show 1 < 7 by omega) (show 7 < 100000 by omega) fs
    have h2 : ∀ fs, gsN 0 (HL fs [a, b, (Sum.inl (0, [1 + (r13 : Int), 1 + (r15 : Int), 1 + (r17 : Int), 1 + (r19 : Int)]) : gC), .inl (0, [(r24 : Int), (r26 : Int), 0, 0, 0, 0, 0])]) 2034 2 (1 + (r28 : Int)) = some (HL fs [a, b, (Sum.inl (0, [1 + (r13 : Int), 1 + (r15 : Int), 1 + (r17 : Int), 1 + (r19 : Int)]) : gC), .inl (0, [(r24 : Int), (r26 : Int), 1 + (r28 : Int), 0, 0, 0, 0])]) := fun fs => s3 (Sum.inl (0, [1 + (r13 : Int), 1 + (r15 : Int), 1 + (r17 : Int), 1 + (r19 : Int)]) : gC) [(r24 : Int), (r26 : Int), 0, 0, 0, 0, 0] 2 _ 2 rfl (show 2 < 7 by omega) (show 7 < 100000 by omega) fs
    have h3 : ∀ fs, gsN 0 (HL fs [a, b, (Sum.inl (0, [1 + (r13 : Int), 1 + (r15 : Int), 1 + (r17 : Int), 1 + (r19 : Int)]) : gC), .inl (0, [(r24 : Int), (r26 : Int), 1 + (r28 : Int), 0, 0, 0, 0])]) 2034 3 (1 + (r22 : Int)) = some (HL fs [a, b, (Sum.inl (0, [1 + (r13 : Int), 1 + (r15 : Int), 1 + (r17 : Int), 1 + (r19 : Int)]) : gC), .inl (0, [(r24 : Int), (r26 : Int), 1 + (r28 : Int), 1 + (r22 : Int), 0, 0, 0])]) := fun fs => s3 (Sum.inl (0, [1 + (r13 : Int), 1 + (r15 : Int), 1 + (r17 : Int), 1 + (r19 : Int)]) : gC) [(r24 : Int), (r26 : Int), 1 + (r28 : Int), 0, 0, 0, 0] 3 _ 3 rfl (show 3 < 7 by omega) (show 7 < 100000 by omega) fs
    have h4 : ∀ fs, gsN 0 (HL fs [a, b, (Sum.inl (0, [1 + (r13 : Int), 1 + (r15 : Int), 1 + (r17 : Int), 1 + (r19 : Int)]) : gC), .inl (0, [(r24 : Int), (r26 : Int), 1 + (r28 : Int), 1 + (r22 : Int), 0, 0, 0])]) 2034 4 (2 * (1 + (r22 : Int)) + 1 + (r31 : Int)) = some (HL fs [a, b, (Sum.inl (0, [1 + (r13 : Int), 1 + (r15 : Int), 1 + (r17 : Int), 1 + (r19 : Int)]) : gC), .inl (0, [(r24 : Int), (r26 : Int), 1 + (r28 : Int), 1 + (r22 : Int), 2 * (1 + (r22 : Int)) + 1 + (r31 : Int), 0, 0])]) := fun fs => s3 (Sum.inl (0, [1 + (r13 : Int), 1 + (r15 : Int), 1 + (r17 : Int), 1 + (r19 : Int)]) : gC) [(r24 : Int), (r26 : Int), 1 + (r28 : Int), 1 + (r22 : Int), 0, 0, 0] 4 _ 4 rfl (show 4 < 7 by omega) (show 7 < 100000 by omega) fs
    have h5 : ∀ fs, gsN 0 (HL fs [a, b, (Sum.inl (0, [1 + (r13 : Int), 1 + (r15 : Int), 1 + (r17 : Int), 1 + (r19 : Int)]) : gC), .inl (0, [(r24 : Int), (r26 : Int), 1 + (r28 : Int), 1 + (r22 : Int), 2 * (1 + (r22 : Int)) + 1 + (r31 : Int), 0, 0])]) 2034 5 (1 + (r33 : Int)) = some (HL fs [a, b, (Sum.inl (0, [1 + (r13 : Int), 1 + (r15 : Int), 1 + (r17 : Int), 1 + (r19 : Int)]) : gC), .inl (0, [(r24 : Int), (r26 : Int), 1 + (r28 : Int), 1 + (r22 : Int), 2 * (1 + (r22 : Int)) + 1 + (r31 : Int), 1 + (r33 : Int), 0])]) := fun fs => s3 (Sum.inl (0, [1 + (r13 : Int), 1 + (r15 : Int), 1 + (r17 : Int), 1 + (r19 : Int)]) : gC) [(r24 : Int), (r26 : Int), 1 + (r28 : Int), 1 + (r22 : Int), 2 * (1 + (r22 : Int)) + 1 + (r31 : Int), 0, 0] 5 _ 5 rfl (show 5 < 7 by omega) (show 7 < 100000 by omega) fs
    have h6 : ∀ fs, gsN 0 (HL fs [a, b, (Sum.inl (0, [1 + (r13 : Int), 1 + (r15 : Int), 1 + (r17 : Int), 1 + (r19 : Int)]) : gC), .inl (0, [(r24 : Int), (r26 : Int), 1 + (r28 : Int), 1 + (r22 : Int), 2 * (1 + (r22 : Int)) + 1 + (r31 : Int), 1 + (r33 : Int), 0])]) 2034 6 (1 + (r35 : Int)) = some (HL fs [a, b, (Sum.inl (0, [1 + (r13 : Int), 1 + (r15 : Int), 1 + (r17 : Int), 1 + (r19 : Int)]) : gC), .inl (0, [(r24 : Int), (r26 : Int), 1 + (r28 : Int), 1 + (r22 : Int), 2 * (1 + (r22 : Int)) + 1 + (r31 : Int), 1 + (r33 : Int), 1 + (r35 : Int)])]) := fun fs => s3 (Sum.inl (0, [1 + (r13 : Int), 1 + (r15 : Int), 1 + (r17 : Int), 1 + (r19 : Int)]) : gC) [(r24 : Int), (r26 : Int), 1 + (r28 : Int), 1 + (r22 : Int), 2 * (1 + (r22 : Int)) + 1 + (r31 : Int), 1 + (r33 : Int), 0] 6 _ 6 rfl (show 6 < 7 by omega) (show 7 < 100000 by omega) fs
    rw [n4, Option.bind_some]
    dsimp only
    rw [e13', Option.bind_some, g0, Option.bind_some, e15', Option.bind_some, g1, Option.bind_some, e17', Option.bind_some, g2, Option.bind_some, e19', Option.bind_some, g3, Option.bind_some, p14, Option.bind_some, e22', Option.bind_some, n7, Option.bind_some]
    dsimp only
    rw [e24', Option.bind_some, h0, Option.bind_some, e26', Option.bind_some, h1, Option.bind_some, e28', Option.bind_some, h2, Option.bind_some, h3, Option.bind_some, e31', Option.bind_some, h4, Option.bind_some, e33', Option.bind_some, h5, Option.bind_some, e35', Option.bind_some, h6, Option.bind_some, p16, Option.bind_some, e38', Option.bind_some, show (1 : Int) + (r38 : Int) = ((1 + r38 : Nat) : Int) by omega, nN, Option.bind_some]
    dsimp only
    rw [p15, Option.bind_some]
    have z := hN3'
    rw [ha, hb] at z ⊢
    rw [hQ] at z ⊢
    exact z

/-! ===== the line drawn is the state that begins ===== -/
def kA (k : Nat) : Nat := [0, 0, 0, 0, 0, 0, 0, 0, 0, 0, 0, 0, 2031, 2032, 2033, 2035, 2034, 2007, 2008, 2011, 2014, 2017, 2020, 2021, 2022, 2023, 2024, 2025, 2026, 2029, 2030].getD k 0
def kR (y : Nat) : Nat := if 2000 ≤ y then [50, 1, 0, 0, 0, 0, 0, 17, 18, 0, 0, 19, 0, 0, 20, 0, 0, 21, 0, 0, 22, 23, 24, 25, 26, 27, 28, 0, 0, 29, 30, 12, 13, 14, 16, 15].getD (y - 2000) 0 else 0
theorem kA_R : ∀ k, k < 31 → 12 ≤ k → kR (kA k) = k := by decide
theorem kR_hi {y : Nat} (h : 2036 ≤ y) : kR y = 0 := by
  unfold kR
  rw [if_pos (by omega), List.getD_eq_getElem?_getD, List.getElem?_eq_none (by show 36 ≤ _; omega)]
  rfl
theorem kR_lt (y : Nat) : kR y < 99 := by
  by_cases c : 2036 ≤ y
  · rw [kR_hi c]; omega
  · by_cases d : 2000 ≤ y
    · have : ∀ i, i < 36 → kR (2000 + i) < 99 := by decide
      have := this (y - 2000) (by omega)
      rw [show 2000 + (y - 2000) = y by omega] at this
      exact this
    · unfold kR
      rw [if_neg d]
      omega
section
variable {q : Nat} {R : List (Nat × Nat)} {tr se N : List Nat}
theorem cI_aAr {s : aS} {b n : Nat} {l : List Nat} (hn : n = l.length) (h : ∀ i, i < l.length → s.1 (b + i) = ((l.getD i 0 : Nat) : Int)) : cI l = aAr s b n := by
  refine List.ext_getElem? fun i => ?_
  by_cases c : i < l.length
  · rw [aAr_at s b n (by omega), h i c]
    unfold cI
    rw [List.getElem?_map, List.getElem?_eq_getElem c, List.getD_eq_getElem?_getD, List.getElem?_eq_getElem c]
    rfl
  · rw [List.getElem?_eq_none (by rw [cI_len]; omega), List.getElem?_eq_none (by rw [aAr_len]; omega)]
theorem HD_len : (HD q R tr se N).length = 36 := by
  unfold HD
  rw [HL_len]
  rfl
set_option maxRecDepth 1000000 in
theorem HD_gsl (h : sOk q R tr se N) : gsl (HD q R tr se N) ≤ 400 := by
  obtain ⟨h1, ⟨h2, h3, h4⟩, ⟨h5, h6⟩, ⟨re, ho, wi, de, ti, li, pa, rfl, -⟩, h8, h9⟩ := h
  have e : HD q R tr [re, ho, wi, de, ti, li, pa] N = (hZ6 :: .inr (.inr (fI (q : Int) 2031 2032 2033 2035 2034)) :: hI29) ++ [.inl (0, cI (R.map Prod.fst)), .inl (0, cI (R.map Prod.snd)), .inl (0, cI tr), .inl (0, cI [re, ho, wi, de, ti, li, pa]), .inl (0, cI N)] := rfl
  rw [e, gsl_app]
  have e1 : gsl (hZ6 :: .inr (.inr (fI (q : Int) 2031 2032 2033 2035 2034)) :: hI29) ≤ 350 := Nat.le_of_ble_eq_true rfl
  have e2 : gsl ([.inl (0, cI (R.map Prod.fst)), .inl (0, cI (R.map Prod.snd)), .inl (0, cI tr), .inl (0, cI [re, ho, wi, de, ti, li, pa]), .inl (0, cI N)] : gH) = (cI (R.map Prod.fst)).length + ((cI (R.map Prod.snd)).length + ((cI tr).length + ((cI [re, ho, wi, de, ti, li, pa]).length + ((cI N).length + 0)))) := rfl
  rw [e2, cI_len, cI_len, cI_len, cI_len, cI_len, List.length_map, List.length_map]
  show _ + (R.length + (R.length + (tr.length + (7 + (N.length + 0))))) ≤ 400
  omega
theorem HD_OO (h : sOk q R tr se N) : OO 2001 kA kR (HD q R tr se N) (sN (dV q R tr se N)) := by
  obtain ⟨h1, ⟨h2, h3, h4⟩, ⟨h5, h6⟩, ⟨re, ho, wi, de, ti, li, pa, rfl, -⟩, h8, h9⟩ := h
  refine ⟨fun _ => [], ⟨rfl, rfl, fun k k1 k2 => kA_R k (by omega) k1, fun y hy => kR_hi (by rw [HD_len] at hy; omega), kR_lt⟩, ⟨?_, ?_, ?_, ?_, ?_⟩, ⟨rfl, rfl, rfl, rfl, rfl, rfl, rfl⟩, ⟨⟨2009, 2010, rfl, ⟨rfl, rfl⟩, ⟨rfl, rfl⟩⟩, ⟨2012, 2013, rfl, ⟨rfl, rfl⟩, ⟨rfl, rfl⟩⟩, ⟨2015, 2016, rfl, ⟨rfl, rfl⟩, ⟨rfl, rfl⟩⟩, ⟨2018, 2019, rfl, ⟨rfl, rfl⟩, ⟨rfl, rfl⟩⟩⟩, ⟨⟨2027, 2028, rfl, ⟨rfl, rfl⟩, ⟨rfl, rfl⟩⟩, trivial, trivial, List.nodup_nil, List.nodup_nil, fun x hx => absurd hx List.not_mem_nil⟩, ⟨[], List.replicate 200 none, rfl, rfl, rfl, trivial⟩, ⟨[], List.replicate 60 none, rfl, rfl, rfl, trivial⟩⟩
  · have e : cI (R.map Prod.fst) = aAr (sN (dV q R tr [re, ho, wi, de, ti, li, pa] N)) 35 ((sN (dV q R tr [re, ho, wi, de, ti, li, pa] N)).1 11).toNat := cI_aAr (by rw [sN_1 _ (by omega), dV_11, List.length_map]; omega) fun i hi => by
      rw [List.length_map] at hi
      rw [sN_1 _ (by omega), dV_s (by omega), (map_getD1 hi).1]
    rw [← e]
    rfl
  · have e : cI (R.map Prod.snd) = aAr (sN (dV q R tr [re, ho, wi, de, ti, li, pa] N)) 40 ((sN (dV q R tr [re, ho, wi, de, ti, li, pa] N)).1 11).toNat := cI_aAr (by rw [sN_1 _ (by omega), dV_11, List.length_map]; omega) fun i hi => by
      rw [List.length_map] at hi
      rw [sN_1 _ (by omega), dV_n (by omega), (map_getD1 hi).2]
    rw [← e]
    rfl
  · have e : cI tr = aAr (sN (dV q R tr [re, ho, wi, de, ti, li, pa] N)) 21 4 := cI_aAr h5.symm fun i hi => by
      rw [sN_1 _ (by omega), dV_tr (by omega)]
    rw [← e]
    rfl
  · have e : cI N = aAr (sN (dV q R tr [re, ho, wi, de, ti, li, pa] N)) 25 ((sN (dV q R tr [re, ho, wi, de, ti, li, pa] N)).1 19).toNat := cI_aAr (by rw [sN_1 _ (by omega), dV_19]; omega) fun i hi => by
      rw [sN_1 _ (by omega), dV_N (by omega)]
    rw [← e]
    rfl
  · have e : cI [re, ho, wi, de, ti, li, pa] = aAr (sN (dV q R tr [re, ho, wi, de, ti, li, pa] N)) 12 7 := cI_aAr rfl fun i hi => by
      have : i < 7 := hi
      rw [sN_1 _ (by omega), dV_se this]
    rw [← e]
    rfl
theorem drawn_all (Ln : Nat) (xs : Nat → Int) (hLn : Ln < 2147483648) : ∃ (q : Nat) (R : List (Nat × Nat)) (tr se N : List Nat), dOk q R tr se N ∧ f_L_drawn Ln xs 0 [hZ6] = some (2001, HD q R tr se N) := by
  obtain ⟨v0, e0⟩ := L_cell Ln xs hLn 0 (by omega) (HL (fI 9 2002 2003 2004 2005 2006) [])
  obtain ⟨v1, e1⟩ := L_cell Ln xs hLn 1 (by omega) (HL (fI 9 2002 2003 2004 2005 2006) [])
  have e0' : f_L_cell Ln xs 0 (HL (fI 9 2002 2003 2004 2005 2006) []) = some v0 := e0
  have e1' : f_L_cell Ln xs (0 + 1) (HL (fI 9 2002 2003 2004 2005 2006) []) = some v1 := e1
  obtain ⟨r4, l4, e4⟩ := L_most v0 (k := 3) (by omega)
  obtain ⟨r57, l57, e57⟩ := L_most (xishr v0 2) (k := 10) (by omega)
  obtain ⟨r5, l5, e5⟩ := L_most (xishr v0 2) (k := 5) (by omega)
  obtain ⟨r7, l7, e7⟩ := L_most (xishr v0 5) (k := 4) (by omega)
  have e4' : ∀ hp : gH, f_L_most v0 3 hp = some (r4 : Int) := e4
  have e57' : ∀ hp : gH, f_L_most (xishr v0 2) 10 hp = some (r57 : Int) := e57
  have e5' : ∀ hp : gH, f_L_most (xishr v0 2) 5 hp = some (r5 : Int) := e5
  have e7' : ∀ hp : gH, f_L_most (xishr v0 5) 4 hp = some (r7 : Int) := e7
  have go : ∀ q : Nat, q ≤ 9 → ∃ (R : List (Nat × Nat)) (tr se N : List Nat), dOk q R tr se N ∧ f_L_drawn_52 Ln xs 0 2001 v0 v1 (q : Int) 2001 (HL (fI 9 2002 2003 2004 2005 2006) []) = some (2001, HD q R tr se N) := fun q hq => by
    obtain ⟨Q, hQ⟩ : ∃ Q : Int, Q = (q : Int) := ⟨_, rfl⟩
    have p2 : gpt (HL (fI 9 2002 2003 2004 2005 2006) []) 2001 2 (.inl Q) = some (HL (fI Q 2002 2003 2004 2005 2006) []) := HL_put _ (by show 2 < 31; omega)
    have n1 : gNw 0 (HL (fI Q 2002 2003 2004 2005 2006) []) (((1 + r7 : Nat)) : Int) = some (2031, HL (fI Q 2002 2003 2004 2005 2006) [.inl (0, List.replicate (1 + r7) 0)]) := HL_new (1 + r7) (by omega) rfl
    have p12 : ∀ cs : List gC, gpt (HL (fI Q 2002 2003 2004 2005 2006) cs) 2001 12 (.inr (.inr (some 2031))) = some (HL (fI Q 2031 2003 2004 2005 2006) cs) := fun cs => HL_put _ (by show 12 < 31; omega)
    have n2 : gNw 0 (HL (fI Q 2031 2003 2004 2005 2006) [.inl (0, List.replicate (1 + r7) 0)]) (((1 + r7 : Nat)) : Int) = some (2032, HL (fI Q 2031 2003 2004 2005 2006) [.inl (0, List.replicate (1 + r7) 0), .inl (0, List.replicate (1 + r7) 0)]) := HL_new (1 + r7) (by omega) rfl
    have p13 : ∀ cs : List gC, gpt (HL (fI Q 2031 2003 2004 2005 2006) cs) 2001 13 (.inr (.inr (some 2032))) = some (HL (fI Q 2031 2032 2004 2005 2006) cs) := fun cs => HL_put _ (by show 13 < 31; omega)
    obtain ⟨R, g1, g2, g3⟩ := drawn_85 Ln xs v0 v1 (q := Q) (c := 2004) (d := 2005) (e := 2006) (r := 1 + r7) (by omega) (1 + r7) fu [] (by show 0 + (1 + r7) = _; omega) (by show _ < 5000; omega) (fun i hi => absurd hi (Nat.not_lt_zero i))
    have g3' : f_L_drawn_85 Ln xs 0 fu 2001 v0 v1 (((1 + r7 : Nat)) : Int) 0 (HL (fI Q 2031 2032 2004 2005 2006) [.inl (0, List.replicate (1 + r7) 0), .inl (0, List.replicate (1 + r7) 0)]) = f_L_drawn_196 Ln xs 0 2001 v1 (HL (fI Q 2031 2032 2004 2005 2006) (csR R 0)) := g3
    obtain ⟨tr, se, N, k1, k2⟩ := drawn_196 Ln xs v1 hq g2 ⟨by omega, by omega⟩
    refine ⟨R, tr, se, N, k1, ?_⟩
    unfold f_L_drawn_52
    rw [← hQ, p2, Option.bind_some, e7', Option.bind_some, show (1 : Int) + (r7 : Int) = ((1 + r7 : Nat) : Int) by omega, n1, Option.bind_some]
    dsimp only
    rw [p12, Option.bind_some, n2, Option.bind_some]
    dsimp only
    rw [p13, Option.bind_some, g3', hQ]
    exact k2
  have i0 : gOo [hZ6] = some (2001, [hZ6, .inr (.inr gO0)]) := rfl
  unfold f_L_drawn
  rw [i0, Option.bind_some]
  dsimp only
  rw [O_init, Option.bind_some, e0', Option.bind_some, e1', Option.bind_some, e4', Option.bind_some, xw_nat (by omega)]
  by_cases c : (r4 : Int) = 0
  · rw [if_pos c, e57', Option.bind_some]
    exact ⟨r57, go r57 (by omega)⟩
  · rw [if_neg c, e5', Option.bind_some, show (5 : Int) + (r5 : Int) = ((5 + r5 : Nat) : Int) by omega]
    exact ⟨5 + r5, go (5 + r5) (by omega)⟩
end

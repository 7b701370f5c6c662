/-! ===== the law's loop ===== -/
theorem l_and31 (x : Int32) : ∃ v : Nat, v < 32 ∧ (x &&& 31).toInt = v := by
  obtain ⟨j, hj, e⟩ := pk_andE x (m := 31) 5 (by decide)
  refine ⟨j, by omega, ?_⟩
  have e9 : nI j = Int32.ofInt (j : Int) := Int32.ofInt_eq_ofNat.symm
  rw [show x &&& 31 = nI j from e, e9]
  exact xw_id (x := (j : Int)) (by omega) (by omega)
set_option maxRecDepth 100000 in
set_option maxHeartbeats 8000000 in
theorem law_loop {Γ : yG} {b Ln : Nat} {xs : Nat → Int32} (C : yC Γ RL cL_law 9 100 601024 7293034) (Z : lC Γ b Ln xs) (hst : Γ.1.2.1.stackTraces = false) (hDg0 : yDg Γ) {aX aM : Nat → Nat} (hS : lS Γ aX aM) (o : Nat) (hL : Ln ≤ 3072)
    (hEnd : ∀ (d : Drawn), ydB Γ d → ∀ (i : Nat) (ws : va_W) (k n : Nat), k ≤ 601024 → n ≤ 7293034 → yW (yd Γ d) 9 1644 (lL b aX aM o i) [] ws k n) :
    ∀ (r i : Nat) (ws : va_W) (k n : Nat) (d : Drawn), ydB Γ d → Ln < i + 6 * r + 6 → i ≤ 3100 → k + 40 * r ≤ 601000 → n + 8000 * r ≤ 7200000 → lI (yDA Γ) aX aM o ws → yW (yd Γ d) 9 23 (lL b aX aM o i) [] ws k n := by
  have C0 := C
  have Z0 := Z
  have hlt : ∀ i : Nat, i ≤ 3100 → (((Int32.ofNat Ln - 6 : Int32) < Int32.ofInt (i : Nat)) ↔ Ln < i + 6) := fun i hi => by
    have e1 : (Int32.ofInt ((i : Nat) : Int)).toInt = i := xw_id (by omega) (by omega)
    have e2 : (Int32.ofNat Ln - 6 : Int32) = Int32.ofInt ((Ln : Int) - 6) := by
      rw [Int32.ofInt_sub]
      rfl
    have e3 : (Int32.ofInt ((Ln : Int) - 6)).toInt = (Ln : Int) - 6 := xw_id (by omega) (by omega)
    rw [Int32.lt_iff_toInt_lt, e2, e1, e3]
    omega
  intro r
  induction r with
  | zero =>
    intro i ws k n d hd h1 h2 h3 h4 hI
    have C := yd_C C0 d
    have Z := yd_Z Z0 d
    refine y_iloadw C 4 dL_law_23 rfl ?_
    refine y_aload C 0 dL_law_25 rfl rfl ?_
    refine y_slen C Z dL_law_26 ?_
    refine y_bipush (v := 6) C dL_law_27 (by decide) ?_
    refine y_isub C dL_law_29 ?_
    refine y_icmpgt C 1644 dL_law_30 (by decide) (fun _ => hEnd d hd i ws k n (by omega) (by omega)) (fun h => absurd ((hlt i h2).mpr (by omega)) h)
  | succ r ih =>
    intro i ws k n d hd h1 h2 h3 h4 hI
    have C := yd_C C0 d
    have Z := yd_Z Z0 d
    refine y_iloadw C 4 dL_law_23 rfl ?_
    refine y_aload C 0 dL_law_25 rfl rfl ?_
    refine y_slen C Z dL_law_26 ?_
    refine y_bipush (v := 6) C dL_law_27 (by decide) ?_
    refine y_isub C dL_law_29 ?_
    refine y_icmpgt C 1644 dL_law_30 (by decide) (fun _ => hEnd d hd i ws k n (by omega) (by omega)) (fun h => ?_)
    have hi : i + 6 ≤ Ln := by
      rcases Nat.lt_or_ge Ln (i + 6) with q | q
      · exact absurd ((hlt i h2).mpr q) h
      · exact q
    refine y_aload C 0 dL_law_33 rfl rfl ?_
    refine y_iloadw C 4 dL_law_34 rfl ?_
    refine y_sld0 C Z dL_law_36 (by omega) ?_
    refine y_bipush (v := 31) C dL_law_37 (by decide) ?_
    refine y_iand C dL_law_39 ?_
    have GkD : ∀ (d' : Drawn), ydB Γ d' → ∀ (ws' : va_W) (k' n' : Nat), lI (yDA Γ) aX aM o ws' → k' ≤ k + 40 → n' ≤ n + 8000 → yW (yd Γ d') 9 1638 (lL b aX aM o i) [] ws' k' n' := fun d' hd' ws' k' n' hI' hk' hn' => by
      have C9 := yd_C C0 d'
      refine y_iinc (v := Int32.ofInt ((i + 6 : Nat) : Int)) C9 4 dL_law_1638 rfl (by rw [← Int32.ofInt_add]; rfl) (by omega) rfl ?_
      refine y_goto C9 23 dL_law_1641 (by decide) ?_
      refine y_sub [1, 2, 3, 4, 0] rfl ?_
      exact ih (i + 6) ws' k' n' d' hd' (by omega) (by omega) (by omega) (by omega) hI'
    have Gk40 := GkD d hd
    have hDg := yd_Dg hDg0 d
    have Gk : ∀ (ws' : va_W) (k' n' : Nat), lI (yDA Γ) aX aM o ws' → k' ≤ k + 4 → n' ≤ n + 200 → yW (yd Γ d) 9 1638 (lL b aX aM o i) [] ws' k' n' := fun ws' k' n' g1 g2 g3 => Gk40 ws' k' n' g1 (by omega) (by omega)
    have GkD4 : ∀ (d' : Drawn), ydB Γ d' → ∀ (ws' : va_W) (k' n' : Nat), lI (yDA Γ) aX aM o ws' → k' ≤ k + 4 → n' ≤ n + 200 → yW (yd Γ d') 9 1638 (lL b aX aM o i) [] ws' k' n' := fun d' hd' ws' k' n' g1 g2 g3 => GkD d' hd' ws' k' n' g1 (by omega) (by omega)
    obtain ⟨v, hv, ev⟩ := l_and31 (xs i)
    rcases (show v = 0 ∨ v = 1 ∨ v = 2 ∨ v = 3 ∨ v = 4 ∨ v = 5 ∨ v = 6 ∨ v = 7 ∨ v = 8 ∨ v = 9 ∨ v = 10 ∨ v = 11 ∨ v = 12 ∨ v = 13 ∨ v = 14 ∨ v = 15 ∨ v = 16 ∨ v = 17 ∨ v = 18 ∨ v = 19 ∨ v = 20 ∨ v = 21 ∨ v = 22 ∨ v = 23 ∨ v = 24 ∨ v = 25 ∨ v = 26 ∨ v = 27 ∨ v = 28 ∨ v = 29 ∨ v = 30 ∨ v = 31 by omega) with q | q | q | q | q | q | q | q | q | q | q | q | q | q | q | q | q | q | q | q | q | q | q | q | q | q | q | q | q | q | q | q
    · rw [q] at ev
      exact y_table C 184 ((0 : Nat) : Int) dL_law_40 ev (by decide) (by decide) rfl (by decide) (lc_0 C Z hst hS o i hi (by omega) (by omega) hI Gk)
    · rw [q] at ev
      exact y_table C 257 ((1 : Nat) : Int) dL_law_40 ev (by decide) (by decide) rfl (by decide) (lc_1 C Z hst hS o i hi (by omega) (by omega) hI Gk)
    · rw [q] at ev
      exact y_table C 313 ((2 : Nat) : Int) dL_law_40 ev (by decide) (by decide) rfl (by decide) (lc_2 C Z hst hS o i hi (by omega) (by omega) hI Gk)
    · rw [q] at ev
      exact y_table C 326 ((3 : Nat) : Int) dL_law_40 ev (by decide) (by decide) rfl (by decide) (lc_3 C Z hst hS o i hi (by omega) (by omega) hI Gk)
    · rw [q] at ev
      exact y_table C 382 ((4 : Nat) : Int) dL_law_40 ev (by decide) (by decide) rfl (by decide) (lc_4 C Z hst hS o i hi (by omega) (by omega) hI Gk)
    · rw [q] at ev
      exact y_table C 438 ((5 : Nat) : Int) dL_law_40 ev (by decide) (by decide) rfl (by decide) (lc_5 C Z hst hS o i hi (by omega) (by omega) hI Gk)
    · rw [q] at ev
      exact y_table C 506 ((6 : Nat) : Int) dL_law_40 ev (by decide) (by decide) rfl (by decide) (lc_6 C Z hst hS o i hi (by omega) (by omega) hI Gk)
    · rw [q] at ev
      exact y_table C 574 ((7 : Nat) : Int) dL_law_40 ev (by decide) (by decide) rfl (by decide) (lc_7 C Z hst hS o i hi (by omega) (by omega) hI Gk)
    · rw [q] at ev
      exact y_table C 654 ((8 : Nat) : Int) dL_law_40 ev (by decide) (by decide) rfl (by decide) (lc_8 C Z hst hS o i hi (by omega) (by omega) hI Gk)
    · rw [q] at ev
      exact y_table C 722 ((9 : Nat) : Int) dL_law_40 ev (by decide) (by decide) rfl (by decide) (lc_9 C Z hst hS o i hi (by omega) (by omega) hI Gk)
    · rw [q] at ev
      exact y_table C 818 ((10 : Nat) : Int) dL_law_40 ev (by decide) (by decide) rfl (by decide) (lc_10 C Z hst hS o i hi (by omega) (by omega) hI Gk)
    · rw [q] at ev
      exact y_table C 886 ((11 : Nat) : Int) dL_law_40 ev (by decide) (by decide) rfl (by decide) (lc_11 C Z hst hS o i hi (by omega) (by omega) hI Gk)
    · rw [q] at ev
      exact y_table C 942 ((12 : Nat) : Int) dL_law_40 ev (by decide) (by decide) rfl (by decide) (lc_12 C Z hst hS o i hi (by omega) (by omega) hI Gk)
    · rw [q] at ev
      exact y_table C 998 ((13 : Nat) : Int) dL_law_40 ev (by decide) (by decide) rfl (by decide) (lc_13 C Z hst hS o i hi (by omega) (by omega) hI Gk)
    · rw [q] at ev
      exact y_table C 1011 ((14 : Nat) : Int) dL_law_40 ev (by decide) (by decide) rfl (by decide) (lc_14 C Z hst hS o i hi (by omega) (by omega) hI Gk)
    · rw [q] at ev
      exact y_table C 1079 ((15 : Nat) : Int) dL_law_40 ev (by decide) (by decide) rfl (by decide) (lc_15 C Z hst hS o i hi (by omega) (by omega) hI Gk)
    · rw [q] at ev
      exact y_table C 1092 ((16 : Nat) : Int) dL_law_40 ev (by decide) (by decide) rfl (by decide) (lc_16 (Ln := Ln) (xs := xs) C0 hS o i (by omega) (by omega) hd hI GkD4)
    · rw [q] at ev
      exact y_table C 1133 ((17 : Nat) : Int) dL_law_40 ev (by decide) (by decide) rfl (by decide) (lc_17 (Ln := Ln) (xs := xs) C0 hS o i (by omega) (by omega) hd hI GkD4)
    · rw [q] at ev
      exact y_table C 1176 ((18 : Nat) : Int) dL_law_40 ev (by decide) (by decide) rfl (by decide) (lc_18 C Z hst hS o i hi (by omega) (by omega) hI Gk)
    · rw [q] at ev
      exact y_table C 1232 ((19 : Nat) : Int) dL_law_40 ev (by decide) (by decide) rfl (by decide) (lc_19 C Z hst hS o i hi (by omega) (by omega) hI Gk)
    · rw [q] at ev
      exact y_table C 1245 ((20 : Nat) : Int) dL_law_40 ev (by decide) (by decide) rfl (by decide) (lc_20 C Z hst hS o i hi (by omega) (by omega) hI Gk)
    · rw [q] at ev
      exact y_table C 1258 ((21 : Nat) : Int) dL_law_40 ev (by decide) (by decide) rfl (by decide) (lc_21 C Z hst hS o i hi (by omega) (by omega) hI Gk)
    · rw [q] at ev
      exact y_table C 1314 ((22 : Nat) : Int) dL_law_40 ev (by decide) (by decide) rfl (by decide) (lc_22 C Z hst hS o i hi (by omega) (by omega) hI Gk)
    · rw [q] at ev
      exact y_table C 1370 ((23 : Nat) : Int) dL_law_40 ev (by decide) (by decide) rfl (by decide) (lc_23 C Z hst hS o i hi (by omega) (by omega) hI Gk)
    · rw [q] at ev
      exact y_table C 1438 ((24 : Nat) : Int) dL_law_40 ev (by decide) (by decide) rfl (by decide) (lc_24 C Z hst hS o i hi (by omega) (by omega) hI Gk)
    · rw [q] at ev
      exact y_table C 1494 ((25 : Nat) : Int) dL_law_40 ev (by decide) (by decide) rfl (by decide) (lc_25 C Z hst hDg hS o i hi (by omega) (by omega) hI Gk40)
    · rw [q] at ev
      exact y_table C 1507 ((26 : Nat) : Int) dL_law_40 ev (by decide) (by decide) rfl (by decide) (lc_26 C Z hst hDg hS o i hi (by omega) (by omega) hI Gk40)
    · rw [q] at ev
      exact y_table C 1532 ((27 : Nat) : Int) dL_law_40 ev (by decide) (by decide) rfl (by decide) (lc_27 C Z hst hS o i hi (by omega) (by omega) hI Gk)
    · rw [q] at ev
      exact y_table C 1545 ((28 : Nat) : Int) dL_law_40 ev (by decide) (by decide) rfl (by decide) (lc_28 C Z hst hS o i hi (by omega) (by omega) hI Gk)
    · rw [q] at ev
      exact y_table C 1558 ((29 : Nat) : Int) dL_law_40 ev (by decide) (by decide) rfl (by decide) (lc_29 C Z hst hS o i hi (by omega) (by omega) hI Gk)
    · rw [q] at ev
      exact y_table C 1569 ((30 : Nat) : Int) dL_law_40 ev (by decide) (by decide) rfl (by decide) (lc_30 C Z hst hS o i hi (by omega) (by omega) hI Gk)
    · rw [q] at ev
      exact y_table C 1582 ((31 : Nat) : Int) dL_law_40 ev (by decide) (by decide) rfl (by decide) (lc_31 C Z hst hS o i hi (by omega) (by omega) hI Gk)

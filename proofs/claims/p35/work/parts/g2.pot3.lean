/-! ===== the potential: timers, rates, sending ===== -/
section
variable {s t : aS} {B : Int}
theorem pH_0 (pt : Int) : pH pt 0 = 0 := by
  unfold pH
  by_cases c : pt = 1
  · rw [if_pos c, if_neg (by omega)]
  · rw [if_neg c, if_pos (by omega)]
theorem pH_nn (pt x : Int) : 0 ≤ pH pt x := by
  unfold pH
  split
  · split <;> omega
  · split
    · omega
    · split <;> omega
/-- all frames of an end are to be sent again -/
theorem p_fail {e : Nat} (he : e < 2) (hi : pI s) (ha : aI B s) (hp : s.1 1 = 2) (hl : aFst 0 ((s.2.2 (56 + 717 * e + 26))) < ((s.2.2 (56 + 717 * e + 26))).length ∧ s.1 16 ≤ s.1 0 - (((s.2.2 (56 + 717 * e + 26))).getD (aFst 0 ((s.2.2 (56 + 717 * e + 26)))) []).getD 1 0) : pQ 6 12 0 0 s (aFail e s) ∧ pI0 (aFail e s) ∧ (aFail e s).1 8 = s.1 8 + 1 ∧ (aFail e s).1 17 = s.1 17 := by
  obtain ⟨u, hu⟩ : ∃ u, u = aN (aN (aN (aN (aF s ((56 + 717 * e) + 26) (aMark ((s.2.2 (56 + 717 * e + 26))))) ((56 + 717 * e) + 9) 1) 48 (s.1 48 + 1)) 8 (s.1 8 + 1)) 9 0 := ⟨_, rfl⟩
  have e9 : aFail e s = aTell 6 e u := by rw [hu]; rfl
  rw [e9]
  have g : ∀ j, j ≠ (56 + 717 * e) + 9 → j ≠ 48 → j ≠ 8 → j ≠ 9 → u.1 j = s.1 j := fun j a b c d => by rw [hu, aN_1, if_neg d, aN_1, if_neg c, aN_1, if_neg b, aN_1, if_neg a, aF_1]
  have gm : u.1 ((56 + 717 * e) + 9) = 1 := by rw [hu, aN_1, if_neg (by omega), aN_1, if_neg (by omega), aN_1, if_neg (by omega), aN_1, if_pos rfl]
  have g8 : u.1 8 = s.1 8 + 1 := by rw [hu, aN_1, if_neg (by omega), aN_1, if_pos rfl]
  have g9 : u.1 9 = 0 := by rw [hu, aN_1, if_pos rfl]
  have hf : (u.2.2 (56 + 717 * e + 26)) = aMark ((s.2.2 (56 + 717 * e + 26))) := by
    show u.2.2 _ = _
    rw [hu, aN_2, aN_2, aN_2, aN_2, aF_3, if_pos rfl]
  have hf' : ∀ e', e' < 2 → e' ≠ e → (u.2.2 (56 + 717 * e' + 26)) = (s.2.2 (56 + 717 * e' + 26)) := fun e' he' hne => by
    show u.2.2 _ = _
    rw [hu, aN_2, aN_2, aN_2, aN_2, aF_3, if_neg (by omega)]
  have hq : ∀ e', (u.2.1 (56 + 717 * e' + 117)) = (s.2.1 (56 + 717 * e' + 117)) := fun e' => by rw [hu]; rfl
  have hfl : (u.2.2 1730) = (s.2.2 1730) := by
    show u.2.2 1730 = _
    rw [hu, aN_2, aN_2, aN_2, aN_2, aF_3, if_neg (by omega)]
  have hi' := hi
  obtain ⟨⟨⟨k1, k2⟩, k3, k4, k5⟩, ⟨l1, l2, l3, l4⟩, l5⟩ := hi
  have k5 := k5 hp
  obtain ⟨⟨-, ⟨⟨hw1, -⟩, ⟨hd1, hd2⟩, ⟨ht1, ht2⟩, -⟩, -⟩, -⟩ := ha.1
  obtain ⟨fa1, fa2⟩ := aFst_at hl.1
  have fl := (ha.2.2.2.1 e he).1.2.1
  have ag := pAge_mem (s.1 0) fa2 fa1
  have am : pAge (s.1 0) (aMark ((s.2.2 (56 + 717 * e + 26)))) = 0 := pAge_mark (s.1 0) fun f hf => by have := (fl f hf).1.1; omega
  have cm : aCnt 1 (aMark ((s.2.2 (56 + 717 * e + 26)))) = ((s.2.2 (56 + 717 * e + 26))).length := aCnt_mark fun f hf => by have := (fl f hf).1.1; omega
  have lm : (aMark ((s.2.2 (56 + 717 * e + 26)))).length = ((s.2.2 (56 + 717 * e + 26))).length := by unfold aMark; rw [List.length_map]
  have n1 : 1 ≤ ((s.2.2 (56 + 717 * e + 26))).length := by omega
  have nw := l5 e he
  have a1 : pEnd u (1 - e) = pEnd s (1 - e) := pEnd.cg (fun j hj => g j (by omega) (by omega) (by omega) (by omega)) (hf' _ (by omega) (by omega)) (hq _)
  have a2 : pXe u (1 - e) = pXe s (1 - e) := pXe.cg (fun j hj => g j (by omega) (by omega) (by omega) (by omega)) (hq _)
  have b2 : pXe u e = pXe s e := pXe.cg (fun j hj => g j (by omega) (by omega) (by omega) (by omega)) (hq _)
  have v : pVw u ≤ pVw s - (if s.1 18 = 1 then 158 else 434) := by
    unfold pVw pVv
    rw [g8, g9, g 18 (by omega) (by omega) (by omega) (by omega), g 3 (by omega) (by omega) (by omega) (by omega), pH_0]
    have := pH_nn (s.1 18) (s.1 9)
    by_cases c : s.1 18 = 1
    · rw [if_pos c, if_pos c, if_pos c]
      omega
    · rw [if_neg c, if_neg c, if_neg c]
      omega
  have c1 : pRest u ≤ pRest s - (if s.1 18 = 1 then 158 else 434) := by
    unfold pRest
    rw [pOn.cg (s := s) (t := u) fun j hj => g j (by omega) (by omega) (by omega) (by omega), hfl]
    omega
  have b1 : pEnd u e ≤ pEnd s e + (138 * (((s.2.2 (56 + 717 * e + 26))).length : Int) - (if s.1 14 ≤ (((s.2.2 (56 + 717 * e + 26))).length : Int) then 64 else 0) - 54) - 420 := by
    unfold pEnd
    rw [gm, g 14 (by omega) (by omega) (by omega) (by omega), g 0 (by omega) (by omega) (by omega) (by omega), g ((56 + 717 * e) + 2) (by omega) (by omega) (by omega) (by omega), g ((56 + 717 * (1 - e)) + 3) (by omega) (by omega) (by omega) (by omega), hf, hq e, am, cm, lm]
    have x1 := (pPs_nn (s.1 14) 1 (((s.2.2 (56 + 717 * e + 26))).length) (((s.2.2 (56 + 717 * e + 26))).length)).2.2 (by omega)
    rw [if_pos (rfl : (1 : Int) = 1)] at x1
    have x2 := (pPs_nn (s.1 14) (s.1 ((56 + 717 * e) + 9)) (aCnt 1 ((s.2.2 (56 + 717 * e + 26)))) (((s.2.2 (56 + 717 * e + 26))).length)).1
    rw [x1]
    omega
  have tl := p_tell 6 e u
  refine ⟨pQ.mk 6 (by omega) (by omega) ?_ ?_, ?_, g8, g 17 (by omega) (by omega) (by omega) (by omega)⟩
  · rw [tl.1, (pP_e he u).1, (pP_e he s).1, a1]
    by_cases c : s.1 18 = 1
    · have := l4 c
      rw [if_pos c] at c1
      by_cases d : s.1 14 ≤ (((s.2.2 (56 + 717 * e + 26))).length : Int)
      · rw [if_pos d] at b1; omega
      · rw [if_neg d] at b1; omega
    · rw [if_neg c] at c1
      by_cases d : s.1 14 ≤ (((s.2.2 (56 + 717 * e + 26))).length : Int)
      · rw [if_pos d] at b1; omega
      · rw [if_neg d] at b1; omega
  · rw [tl.2, (pP_e he u).2, (pP_e he s).2, a2, b2]
    omega
  · unfold pI0
    rw [show (aTell 6 (e : Int) u).1 8 = s.1 8 + 1 from g8, show (aTell 6 (e : Int) u).1 9 = 0 from g9, show (aTell 6 (e : Int) u).1 17 = s.1 17 from g 17 (by omega) (by omega) (by omega) (by omega), show (aTell 6 (e : Int) u).1 11 = s.1 11 from g 11 (by omega) (by omega) (by omega) (by omega), show (aTell 6 (e : Int) u).1 14 = s.1 14 from g 14 (by omega) (by omega) (by omega) (by omega), show (aTell 6 (e : Int) u).1 18 = s.1 18 from g 18 (by omega) (by omega) (by omega) (by omega)]
    refine ⟨⟨⟨by omega, by omega⟩, by omega, fun w => absurd w (by decide)⟩, ⟨l1, l2, l3, l4⟩, fun e' he' => ?_⟩
    have : ((aTell 6 (e : Int) u).2.2 (56 + 717 * e' + 26)) = (u.2.2 (56 + 717 * e' + 26)) := aTell_F _ _ _ _ (by omega)
    rw [this]
    by_cases c : e' = e
    · rw [c, hf, lm]; exact nw
    · rw [hf' e' he' c]; exact l5 e' he'
theorem p_fall (hi : pI0 s) (h17 : 1 ≤ s.1 17) (h9 : s.1 9 = 0) : pQ 0 0 0 0 s (aFall s) ∧ pI (aFall s) := by
  unfold aFall
  split
  · exact p_hang hi
  · obtain ⟨u, hu⟩ : ∃ u, u = aN (aN (aN s 3 (s.1 3 - 1)) 8 0) 49 (s.1 49 + 1) := ⟨_, rfl⟩
    rw [← hu]
    have g : ∀ j, j ≠ 3 → j ≠ 8 → j ≠ 49 → u.1 j = s.1 j := fun j a b c => by rw [hu, aN_1, if_neg c, aN_1, if_neg b, aN_1, if_neg a]
    have g8 : u.1 8 = 0 := by rw [hu]; rfl
    have g3 : u.1 3 = s.1 3 - 1 := by rw [hu]; rfl
    have e2 : u.2 = s.2 := by rw [hu]; rfl
    have hf : ∀ e, (u.2.2 (56 + 717 * e + 26)) = (s.2.2 (56 + 717 * e + 26)) := fun e => by
      show u.2.2 _ = _
      rw [e2]
    have hq : ∀ e, (u.2.1 (56 + 717 * e + 117)) = (s.2.1 (56 + 717 * e + 117)) := fun e => by
      show u.2.1 _ = _
      rw [e2]
    have hl : (u.2.2 1730) = (s.2.2 1730) := by
      show u.2.2 1730 = _
      rw [e2]
    obtain ⟨⟨⟨k1, k2⟩, k3, k4⟩, ⟨l1, l2, l3, l4⟩, l5⟩ := hi
    have ee : ∀ e, e < 2 → pEnd u e = pEnd s e ∧ pXe u e = pXe s e := fun e he => ⟨pEnd.cg (fun j hj => g j (by omega) (by omega) (by omega)) (hf e) (hq e), pXe.cg (fun j hj => g j (by omega) (by omega) (by omega)) (hq e)⟩
    have v : pVw u ≤ pVw s := by
      unfold pVw pVv
      rw [g8, g3, g 18 (by omega) (by omega) (by omega), g 9 (by omega) (by omega) (by omega), h9, pH_0]
      split <;> omega
    have c1 : pRest u ≤ pRest s := by
      unfold pRest
      rw [pOn.cg (s := s) (t := u) fun j hj => g j (by omega) (by omega) (by omega), hl]
      omega
    obtain ⟨x1, x2⟩ := ee 0 (by omega)
    obtain ⟨y1, y2⟩ := ee 1 (by omega)
    have tl := p_tell 2 (-1) u
    refine ⟨pQ.mk 0 (by omega) (by omega) ?_ ?_, ?_⟩
    · rw [tl.1]
      show 0 + (pEnd u 0 + pEnd u 1 + pRest u) ≤ (pEnd s 0 + pEnd s 1 + pRest s) + 0
      omega
    · rw [tl.2]
      show (pXe u 0 + pXe u 1) ≤ (pXe s 0 + pXe s 1) + 0
      omega
    · refine pI.tell ?_ _ _
      unfold pI
      rw [g8, g 9 (by omega) (by omega) (by omega), g 1 (by omega) (by omega) (by omega), g 17 (by omega) (by omega) (by omega), g 11 (by omega) (by omega) (by omega), g 14 (by omega) (by omega) (by omega), g 18 (by omega) (by omega) (by omega)]
      exact ⟨⟨⟨by omega, by omega⟩, k3, fun _ => rfl, fun _ => by omega⟩, ⟨l1, l2, l3, l4⟩, fun e' he' => by rw [hf e']; exact l5 e' he'⟩
theorem p_timer {e : Nat} (he : e < 2) (hi : pI s) (ha : aI B s) (hp : s.1 1 = 2) : pQ (aTimerC e s) (2 * aTimerC e s) 0 0 s (aTimer e s) ∧ pI (aTimer e s) := by
  unfold aTimerC aTimer
  by_cases c : aFst 0 ((s.2.2 (56 + 717 * e + 26))) < ((s.2.2 (56 + 717 * e + 26))).length ∧ s.1 16 ≤ s.1 0 - (((s.2.2 (56 + 717 * e + 26))).getD (aFst 0 ((s.2.2 (56 + 717 * e + 26)))) []).getD 1 0
  · rw [if_pos c, if_pos c]
    obtain ⟨q1, i1, f8, g17⟩ := p_fail he hi ha hp c
    have g9 : (aFail e s).1 9 = 0 := rfl
    by_cases d : (aFail e s).1 8 < (aFail e s).1 17
    · rw [if_pos d]
      exact ⟨q1, ⟨i1.1.1, i1.1.2.1, i1.1.2.2, fun _ => d⟩, i1.2⟩
    · rw [if_neg d]
      have h17 := ha.1.1.2.1.2.2.2.1.1
      obtain ⟨q2, i2⟩ := p_fall i1 (by omega) g9
      exact ⟨(q1.tr q2).le (by omega) (by omega) (by omega) (by omega), i2⟩
  · rw [if_neg c, if_neg c]
    exact ⟨pQ.of ⟨rfl, rfl⟩, hi⟩
theorem p_rise (hi : pI s) (ha : aI B s) : pQ (aRiseC s) (4 * aRiseC s) 1 0 s (aRise s) ∧ pI (aRise s) := by
  unfold aRiseC aRise
  by_cases c : s.1 18 ≤ s.1 9 ∧ s.1 3 + 1 < s.1 11 ∧ s.1 (40 + (s.1 3 + 1).toNat) ≤ s.1 2
  · rw [if_pos c, if_pos c]
    obtain ⟨u, hu⟩ : ∃ u, u = aN (aN (aN s 3 (s.1 3 + 1)) 9 0) 50 (s.1 50 + 1) := ⟨_, rfl⟩
    rw [← hu]
    have g : ∀ j, j ≠ 3 → j ≠ 9 → j ≠ 50 → u.1 j = s.1 j := fun j a b c => by rw [hu, aN_1, if_neg c, aN_1, if_neg b, aN_1, if_neg a]
    have g9 : u.1 9 = 0 := by rw [hu]; rfl
    have g3 : u.1 3 = s.1 3 + 1 := by rw [hu]; rfl
    have e2 : u.2 = s.2 := by rw [hu]; rfl
    have hf : ∀ e, (u.2.2 (56 + 717 * e + 26)) = (s.2.2 (56 + 717 * e + 26)) := fun e => by
      show u.2.2 _ = _
      rw [e2]
    have hq : ∀ e, (u.2.1 (56 + 717 * e + 117)) = (s.2.1 (56 + 717 * e + 117)) := fun e => by
      show u.2.1 _ = _
      rw [e2]
    have hl : (u.2.2 1730) = (s.2.2 1730) := by
      show u.2.2 1730 = _
      rw [e2]
    have h18 := ha.1.1.2.1.2.2.2.2.1.1
    obtain ⟨⟨⟨k1, k2⟩, k3, k4, k5⟩, ⟨l1, l2, l3, l4⟩, l5⟩ := hi
    have ee : ∀ e, e < 2 → pEnd u e = pEnd s e ∧ pXe u e = pXe s e := fun e he => ⟨pEnd.cg (fun j hj => g j (by omega) (by omega) (by omega)) (hf e) (hq e), pXe.cg (fun j hj => g j (by omega) (by omega) (by omega)) (hq e)⟩
    have v : pVw u ≤ pVw s := by
      unfold pVw pVv
      rw [g9, g3, g 18 (by omega) (by omega) (by omega), g 8 (by omega) (by omega) (by omega), pH_0]
      have hh : pH (s.1 18) (s.1 9) = 8 := by
        unfold pH
        by_cases d : s.1 18 = 1
        · rw [if_pos d, if_pos (by omega)]
        · rw [if_neg d, if_neg (by omega), if_neg (by omega)]
      rw [hh]
      split <;> omega
    have c1 : pRest u ≤ pRest s := by
      unfold pRest
      rw [pOn.cg (s := s) (t := u) fun j hj => g j (by omega) (by omega) (by omega), hl]
      omega
    obtain ⟨x1, x2⟩ := ee 0 (by omega)
    obtain ⟨y1, y2⟩ := ee 1 (by omega)
    have tl := p_tell 3 (-1) u
    refine ⟨pQ.mk 1 (by omega) (by omega) ?_ ?_, ?_⟩
    · rw [tl.1]
      show 1 + (pEnd u 0 + pEnd u 1 + pRest u) ≤ (pEnd s 0 + pEnd s 1 + pRest s) + 1
      omega
    · rw [tl.2]
      show (pXe u 0 + pXe u 1) ≤ (pXe s 0 + pXe s 1) + 0
      omega
    · refine pI.tell ?_ _ _
      unfold pI
      rw [g9, g 8 (by omega) (by omega) (by omega), g 1 (by omega) (by omega) (by omega), g 17 (by omega) (by omega) (by omega), g 11 (by omega) (by omega) (by omega), g 14 (by omega) (by omega) (by omega), g 18 (by omega) (by omega) (by omega)]
      exact ⟨⟨⟨by omega, by omega⟩, by omega, fun w => absurd w (by decide), k5⟩, ⟨l1, l2, l3, l4⟩, fun e' he' => by rw [hf e']; exact l5 e' he'⟩
  · rw [if_neg c, if_neg c]
    exact ⟨(pQ.of ⟨rfl, rfl⟩).le (Nat.le_refl _) (Nat.le_refl _) (by omega) (by omega), hi⟩
/-- cells of a cost -/
theorem aSz_le : ∀ (b ws : List Int), aSz ws b ≤ 8 * b.length
  | [], _ => Nat.le_refl 0
  | v :: b, ws => by
    have := aSz_le b (aUse v ws)
    have := aUse_len v ws
    rw [aSz, List.length_cons]
    omega
def pTri : Nat → Nat → Nat
  | _, 0 => 0
  | n, k + 1 => (n + 1) + pTri (n + 1) k
theorem pTri_mono : ∀ (k : Nat) {n m : Nat}, n ≤ m → pTri n k ≤ pTri m k
  | 0, _, _, _ => Nat.le_refl 0
  | k + 1, n, m, h => by
    have := pTri_mono k (n := n + 1) (m := m + 1) (by omega)
    rw [pTri, pTri]
    omega
theorem aSz_tri : ∀ (b ws : List Int), aSz ws b ≤ pTri ws.length b.length
  | [], _ => Nat.le_refl 0
  | v :: b, ws => by
    have h1 := aSz_tri b (aUse v ws)
    have h2 := aUse_len2 v ws
    have h3 := pTri_mono b.length h2
    rw [aSz, List.length_cons, pTri]
    omega
theorem aLC_le {e : Nat} {b : List Int} (hb : b.length ≤ 8) (s : aS) : aLC e b s ≤ 64 ∧ (s.1 ((56 + 717 * e) + 9) ≠ 0 → aLC e b s ≤ 37) := by
  have h1 := aSz_le b (aDict e s)
  unfold aLC aM
  by_cases c : s.1 ((56 + 717 * e) + 9) = 0
  · rw [if_pos c]
    exact ⟨by omega, fun w => absurd c w⟩
  · have hd : aDict e s = [] := by unfold aDict; rw [if_neg c]
    have h2 := aSz_tri b (aDict e s)
    rw [hd] at h2 ⊢
    have h3 : pTri ([] : List Int).length b.length ≤ 36 := by
      have : ∀ k, k ≤ 8 → pTri 0 k ≤ 36 := by decide
      exact this _ hb
    rw [if_neg c]
    exact ⟨by omega, fun _ => by omega⟩
theorem aItem_1 (e : Nat) (num : Int) (b : List Int) (s : aS) : (aItem e num b s).getD 1 0 = 0 := rfl
theorem p_again {e : Nat} (he : e < 2) (hi : pI s) (ha : aI B s) (h1 : aFst 1 ((s.2.2 (56 + 717 * e + 26))) < ((s.2.2 (56 + 717 * e + 26))).length) (hc : ¬ s.1 ((56 + 717 * e) + 5) < aCost e ((((s.2.2 (56 + 717 * e + 26))).getD (aFst 1 ((s.2.2 (56 + 717 * e + 26)))) []).drop 3) s) : pQ (aStepC e s) (aStepZ e s) (if aCnt 1 ((s.2.2 (56 + 717 * e + 26))) < 2 ∧ s.1 14 ≤ (((s.2.2 (56 + 717 * e + 26))).length : Int) then 64 else 0) 0 s (aAgain e (aFst 1 ((s.2.2 (56 + 717 * e + 26)))) s) ∧ pI (aAgain e (aFst 1 ((s.2.2 (56 + 717 * e + 26)))) s) ∧ aCnt 1 (((aAgain e (aFst 1 ((s.2.2 (56 + 717 * e + 26)))) s).2.2 (56 + 717 * e + 26))) = aCnt 1 ((s.2.2 (56 + 717 * e + 26))) - 1 ∧ (((aAgain e (aFst 1 ((s.2.2 (56 + 717 * e + 26)))) s).2.2 (56 + 717 * e + 26))).length = ((s.2.2 (56 + 717 * e + 26))).length ∧ (aAgain e (aFst 1 ((s.2.2 (56 + 717 * e + 26)))) s).1 14 = s.1 14 := by
  obtain ⟨p, hp⟩ : ∃ p, p = aFst 1 ((s.2.2 (56 + 717 * e + 26))) := ⟨_, rfl⟩
  obtain ⟨f1, f2⟩ := aFst_at h1
  have hfl := ((ha.2.2.2.1 e he).1.2.1 _ f2).1
  obtain ⟨t, ht⟩ : ∃ t, t = aAgain e p s := ⟨_, rfl⟩
  have hC : aStepC e s = 1 + (2 * aLC e ((((s.2.2 (56 + 717 * e + 26))).getD p []).drop 3) s + 1 + ((((s.2.2 (56 + 717 * e + 26))).getD p []).drop 3).length) := by
    unfold aStepC
    rw [if_pos h1, ← hp, if_neg (by rw [hp]; exact hc)]
  have hZ : aStepZ e s = 8 + (8 * (2 * aLC e ((((s.2.2 (56 + 717 * e + 26))).getD p []).drop 3) s) + 6 + 14 * ((((s.2.2 (56 + 717 * e + 26))).getD p []).drop 3).length) := by
    unfold aStepZ
    rw [if_pos h1, ← hp, if_neg (by rw [hp]; exact hc)]
  have hk := (aFst_cnt 1 ((s.2.2 (56 + 717 * e + 26)))).mp h1
  rw [← hp] at f1 f2 hfl h1
  rw [← hp, ← ht]
  have hbl : ((((s.2.2 (56 + 717 * e + 26))).getD p []).drop 3).length ≤ 8 := by rw [List.length_drop]; omega
  obtain ⟨c1, c2⟩ := aLC_le (e := e) hbl s
  have g : ∀ j, j ≠ (56 + 717 * e) + 5 → j ≠ (56 + 717 * e) + 9 → j ≠ 45 → j ≠ 46 → j ≠ 54 → t.1 j = s.1 j := fun j a b c d x => by
    rw [ht]
    unfold aAgain
    exact aLaunch_sc e _ _ s j a b c d x
  have gm : t.1 ((56 + 717 * e) + 9) = 0 := by
    rw [ht]
    unfold aAgain
    show (aLaunch e _ _ s).1 ((56 + 717 * e) + 9) = 0
    unfold aLaunch
    rw [aN_1, if_neg (by omega), aN_1, if_neg (by omega), aN_1, if_neg (by omega), aN_1, if_pos rfl]
  have hf : (t.2.2 (56 + 717 * e + 26)) = ((s.2.2 (56 + 717 * e + 26))).set p (((((s.2.2 (56 + 717 * e + 26))).getD p []).set 1 (s.1 0)).set 2 0) := by
    show t.2.2 _ = _
    rw [ht]
    unfold aAgain
    show (aF _ _ _).2.2 _ = _
    rw [aF_3, if_pos rfl]
  have hf' : ∀ e', e' < 2 → e' ≠ e → (t.2.2 (56 + 717 * e' + 26)) = (s.2.2 (56 + 717 * e' + 26)) := fun e' he' hne => by
    show t.2.2 _ = _
    rw [ht]
    unfold aAgain
    show (aF _ _ _).2.2 _ = _
    rw [aF_3, if_neg (by omega), aLaunch_F e _ _ s _ (by omega)]
  have hq : ∀ e', e' < 2 → (t.2.1 (56 + 717 * e' + 117)) = (s.2.1 (56 + 717 * e' + 117)) := fun e' he' => by
    show t.2.1 _ = _
    rw [ht]
    unfold aAgain
    show (aF _ _ _).2.1 _ = _
    rw [aF_2, aLaunch_L e _ _ s _ (by omega)]
  have hl : pAcks ((t.2.2 1730)) = pAcks ((s.2.2 1730)) := by
    have : (t.2.2 1730) = (s.2.2 1730) ++ [aItem e ((((s.2.2 (56 + 717 * e + 26))).getD p []).getD 0 0) ((((s.2.2 (56 + 717 * e + 26))).getD p []).drop 3) s] := by
      show t.2.2 1730 = _
      rw [ht]
      unfold aAgain
      show (aF _ _ _).2.2 _ = _
      rw [aF_3, if_neg (by omega)]
      exact aLaunch_fl e _ _ s
    rw [this, pAcks_app, pAcks, aItem_1, if_neg (by decide)]
    show _ + ((0 : Int) + 0) = _
    omega
  have n2 : (((((s.2.2 (56 + 717 * e + 26))).getD p []).set 1 (s.1 0)).set 2 0).getD 2 0 = 0 := by
    rw [List.getD_eq_getElem?_getD, List.getElem?_set_self (by rw [List.length_set]; omega)]
    rfl
  have cn : aCnt 1 ((t.2.2 (56 + 717 * e + 26))) = aCnt 1 ((s.2.2 (56 + 717 * e + 26))) - 1 := by
    rw [hf, aCnt_set 1 _ h1, f1, n2, if_pos rfl, if_neg (by decide)]
    omega
  have ln : ((t.2.2 (56 + 717 * e + 26))).length = ((s.2.2 (56 + 717 * e + 26))).length := by rw [hf, List.length_set]
  have ag : pAge (s.1 0) ((t.2.2 (56 + 717 * e + 26))) ≤ pAge (s.1 0) ((s.2.2 (56 + 717 * e + 26))) := pAge_le (pAge_nn _ _) fun f hf9 h2 => by
    rw [hf] at hf9
    rcases List.mem_or_eq_of_mem_set hf9 with q | q
    · exact pAge_mem _ q h2
    · rw [q, set12_1 _ _ _ (by omega)]
      have := pAge_nn (s.1 0) ((s.2.2 (56 + 717 * e + 26)))
      omega
  have a1 : pEnd t (1 - e) = pEnd s (1 - e) := pEnd.cg (fun j hj => g j (by omega) (by omega) (by omega) (by omega) (by omega)) (hf' _ (by omega) (by omega)) (hq _ (by omega))
  have a2 : pXe t (1 - e) = pXe s (1 - e) := pXe.cg (fun j hj => g j (by omega) (by omega) (by omega) (by omega) (by omega)) (hq _ (by omega))
  have b2 : pXe t e = pXe s e := pXe.cg (fun j hj => g j (by omega) (by omega) (by omega) (by omega) (by omega)) (hq _ he)
  have r1 : pRest t = pRest s := by
    unfold pRest
    rw [pVw.cg (s := s) (t := t) fun j hj => g j (by omega) (by omega) (by omega) (by omega) (by omega), pOn.cg (s := s) (t := t) fun j hj => g j (by omega) (by omega) (by omega) (by omega) (by omega), hl]
  obtain ⟨c, hcc⟩ : ∃ c : Int, c = if s.1 ((56 + 717 * e) + 9) = 0 then 138 else 84 := ⟨_, rfl⟩
  have b1 : c + pEnd t e ≤ pEnd s e + (if aCnt 1 ((s.2.2 (56 + 717 * e + 26))) < 2 ∧ s.1 14 ≤ (((s.2.2 (56 + 717 * e + 26))).length : Int) then 64 else 0) := by
    unfold pEnd
    rw [gm, g 14 (by omega) (by omega) (by omega) (by omega) (by omega), g 0 (by omega) (by omega) (by omega) (by omega) (by omega), g ((56 + 717 * e) + 2) (by omega) (by omega) (by omega) (by omega) (by omega), g ((56 + 717 * (1 - e)) + 3) (by omega) (by omega) (by omega) (by omega) (by omega), hq e he, cn, ln]
    have y := (pPs_nn (s.1 14) (s.1 ((56 + 717 * e) + 9)) (aCnt 1 ((s.2.2 (56 + 717 * e + 26)))) (((s.2.2 (56 + 717 * e + 26))).length)).2.2 hk
    rw [y]
    have hm : (if s.1 ((56 + 717 * e) + 9) = 1 then (54 : Int) else 0) + c ≤ 138 := by
      rw [hcc]
      by_cases d : s.1 ((56 + 717 * e) + 9) = 0
      · rw [if_pos d, if_neg (by omega)]; omega
      · rw [if_neg d]
        split <;> omega
    by_cases d : aCnt 1 ((s.2.2 (56 + 717 * e + 26))) < 2
    · have x := (pPs_nn (s.1 14) 0 (aCnt 1 ((s.2.2 (56 + 717 * e + 26))) - 1) (((s.2.2 (56 + 717 * e + 26))).length)).2.1 (by omega)
      rw [x]
      by_cases w : s.1 14 ≤ (((s.2.2 (56 + 717 * e + 26))).length : Int)
      · have k1 : (if s.1 14 ≤ (((s.2.2 (56 + 717 * e + 26))).length : Int) then (64 : Int) else 0) = 64 := if_pos w
        have k3 : (if aCnt 1 ((s.2.2 (56 + 717 * e + 26))) < 2 ∧ s.1 14 ≤ (((s.2.2 (56 + 717 * e + 26))).length : Int) then (64 : Int) else 0) = 64 := if_pos ⟨d, w⟩
        rw [k1, k3]
        omega
      · have k1 : (if s.1 14 ≤ (((s.2.2 (56 + 717 * e + 26))).length : Int) then (64 : Int) else 0) = 0 := if_neg w
        have k3 : (if aCnt 1 ((s.2.2 (56 + 717 * e + 26))) < 2 ∧ s.1 14 ≤ (((s.2.2 (56 + 717 * e + 26))).length : Int) then (64 : Int) else 0) = 0 := if_neg fun q => w q.2
        rw [k1, k3]
        omega
    · have x := (pPs_nn (s.1 14) 0 (aCnt 1 ((s.2.2 (56 + 717 * e + 26))) - 1) (((s.2.2 (56 + 717 * e + 26))).length)).2.2 (by omega)
      have k0 : (if (0 : Int) = 1 then (54 : Int) else 0) = 0 := if_neg (by decide)
      have k3 : (if aCnt 1 ((s.2.2 (56 + 717 * e + 26))) < 2 ∧ s.1 14 ≤ (((s.2.2 (56 + 717 * e + 26))).length : Int) then (64 : Int) else 0) = 0 := if_neg fun q => d q.1
      rw [x, k0, k3]
      omega
  refine ⟨pQ.mk c ?_ ?_ ?_ ?_, ?_, cn, ln, g 14 (by omega) (by omega) (by omega) (by omega) (by omega)⟩
  · rw [hC, hcc]
    by_cases d : s.1 ((56 + 717 * e) + 9) = 0
    · rw [if_pos d]; omega
    · have := c2 d
      rw [if_neg d]; omega
  · rw [hZ, hcc]
    by_cases d : s.1 ((56 + 717 * e) + 9) = 0
    · rw [if_pos d]; omega
    · have := c2 d
      rw [if_neg d]; omega
  · rw [(pP_e he t).1, (pP_e he s).1, a1, r1]
    omega
  · rw [(pP_e he t).2, (pP_e he s).2, a2, b2]
    omega
  · obtain ⟨⟨k1, k3, k4, k5⟩, ⟨l1, l2, l3, l4⟩, l5⟩ := hi
    unfold pI
    rw [g 8 (by omega) (by omega) (by omega) (by omega) (by omega), g 9 (by omega) (by omega) (by omega) (by omega) (by omega), g 1 (by omega) (by omega) (by omega) (by omega) (by omega), g 17 (by omega) (by omega) (by omega) (by omega) (by omega), g 11 (by omega) (by omega) (by omega) (by omega) (by omega), g 14 (by omega) (by omega) (by omega) (by omega) (by omega), g 18 (by omega) (by omega) (by omega) (by omega) (by omega)]
    refine ⟨⟨k1, k3, k4, k5⟩, ⟨l1, l2, l3, l4⟩, fun e' he' => ?_⟩
    by_cases d : e' = e
    · rw [d, ln]; exact l5 e he
    · rw [hf' e' he' d]; exact l5 e' he'
end

/-! ===== the potential: a whole tick ===== -/
section
variable {s t : aS} {B : Int}
theorem p_new {e : Nat} (he : e < 2) (hi : pI s) (hk : ¬ aFst 1 ((s.2.2 (56 + 717 * e + 26))) < ((s.2.2 (56 + 717 * e + 26))).length) (hw : ¬ (((s.2.1 (56 + 717 * e + 117))).length = 0 ∨ s.1 14 ≤ (((s.2.2 (56 + 717 * e + 26))).length : Int))) (hc : ¬ s.1 ((56 + 717 * e) + 5) < aCost e (((s.2.1 (56 + 717 * e + 117))).take 8) s) : pQ (aStepC e s) (aStepZ e s) 0 0 s (aNew e s) ∧ pI (aNew e s) := by
  obtain ⟨t, ht⟩ : ∃ t, t = aNew e s := ⟨_, rfl⟩
  have hbl : (((s.2.1 (56 + 717 * e + 117))).take 8).length ≤ 8 := by rw [List.length_take]; omega
  obtain ⟨c1, c2⟩ := aLC_le (e := e) hbl s
  have hC : aStepC e s = 1 + (2 * aLC e (((s.2.1 (56 + 717 * e + 117))).take 8) s + 1 + (((s.2.1 (56 + 717 * e + 117))).take 8).length) + (3 + (((s.2.1 (56 + 717 * e + 117))).take 8).length) := by
    unfold aStepC
    rw [if_neg hk, if_neg hw, if_neg hc]
  have hZ : aStepZ e s = 8 + (8 * (2 * aLC e (((s.2.1 (56 + 717 * e + 117))).take 8) s) + 6 + 14 * (((s.2.1 (56 + 717 * e + 117))).take 8).length) + (400 + 11 * (((s.2.1 (56 + 717 * e + 117))).take 8).length) := by
    unfold aStepZ
    rw [if_neg hk, if_neg hw, if_neg hc]
  have hk0 : aCnt 1 ((s.2.2 (56 + 717 * e + 26))) < 1 := by
    have := (aFst_cnt 1 ((s.2.2 (56 + 717 * e + 26)))).mpr
    by_cases d : aCnt 1 ((s.2.2 (56 + 717 * e + 26))) < 1
    · exact d
    · exact absurd (this (by omega)) hk
  rw [← ht]
  have g : ∀ j, j ≠ (56 + 717 * e) + 2 → j ≠ (56 + 717 * e) + 5 → j ≠ (56 + 717 * e) + 9 → j ≠ 45 → j ≠ 46 → j ≠ 54 → t.1 j = s.1 j := fun j h2 a b c d x => by
    rw [ht]
    unfold aNew
    show (aN _ _ _).1 j = _
    rw [aN_1, if_neg h2]
    exact aLaunch_sc e _ _ s j a b c d x
  have g2 : t.1 ((56 + 717 * e) + 2) = s.1 ((56 + 717 * e) + 2) + 1 := by
    rw [ht]
    unfold aNew
    show (aN _ _ _).1 _ = _
    rw [aN_1, if_pos rfl]
  have hf : (t.2.2 (56 + 717 * e + 26)) = (s.2.2 (56 + 717 * e + 26)) ++ [[s.1 ((56 + 717 * e) + 2), s.1 0, 0] ++ ((s.2.1 (56 + 717 * e + 117))).take 8] := by
    show t.2.2 _ = _
    rw [ht]
    unfold aNew
    show (aF _ _ _).2.2 _ = _
    rw [aF_3, if_pos rfl]
  have hf' : ∀ e', e' < 2 → e' ≠ e → (t.2.2 (56 + 717 * e' + 26)) = (s.2.2 (56 + 717 * e' + 26)) := fun e' he' hne => by
    show t.2.2 _ = _
    rw [ht]
    unfold aNew
    show (aF _ _ _).2.2 _ = _
    rw [aF_3, if_neg (by omega), aN_2, aLaunch_F e _ _ s _ (by omega)]
  have hq : (t.2.1 (56 + 717 * e + 117)) = ((s.2.1 (56 + 717 * e + 117))).drop 8 := by
    show t.2.1 _ = _
    rw [ht]
    unfold aNew
    show (aL _ _ _).2.1 _ = _
    rw [aL_2, if_pos rfl]
  have hq' : ∀ e', e' < 2 → e' ≠ e → (t.2.1 (56 + 717 * e' + 117)) = (s.2.1 (56 + 717 * e' + 117)) := fun e' he' hne => by
    show t.2.1 _ = _
    rw [ht]
    unfold aNew
    show (aL _ _ _).2.1 _ = _
    rw [aL_2, if_neg (by omega), aF_2, aN_2, aLaunch_L e _ _ s _ (by omega)]
  have hl : pAcks ((t.2.2 1730)) = pAcks ((s.2.2 1730)) := by
    have : (t.2.2 1730) = (s.2.2 1730) ++ [aItem e (s.1 ((56 + 717 * e) + 2)) (((s.2.1 (56 + 717 * e + 117))).take 8) s] := by
      show t.2.2 1730 = _
      rw [ht]
      unfold aNew
      show (aF _ _ _).2.2 _ = _
      rw [aF_3, if_neg (by omega), aN_2]
      exact aLaunch_fl e _ _ s
    rw [this, pAcks_app, pAcks, aItem_1, if_neg (by decide)]
    show _ + ((0 : Int) + 0) = _
    omega
  have cn : aCnt 1 ((t.2.2 (56 + 717 * e + 26))) < 1 := by
    rw [hf, aCnt_app, if_neg (by
      show ¬ (0 : Int) = 1
      decide)]
    omega
  have ln : ((t.2.2 (56 + 717 * e + 26))).length = ((s.2.2 (56 + 717 * e + 26))).length + 1 := by rw [hf, List.length_append, List.length_singleton]
  have ag : pAge (s.1 0) ((t.2.2 (56 + 717 * e + 26))) ≤ pAge (s.1 0) ((s.2.2 (56 + 717 * e + 26))) := pAge_le (pAge_nn _ _) fun f hf9 h2 => by
    rw [hf] at hf9
    rcases List.mem_append.mp hf9 with q | q
    · exact pAge_mem _ q h2
    · rw [List.mem_singleton.mp q]
      have := pAge_nn (s.1 0) ((s.2.2 (56 + 717 * e + 26)))
      show s.1 0 - s.1 0 ≤ _
      omega
  have cl : pCl (((s.2.1 (56 + 717 * e + 117))).drop 8) = pCl ((s.2.1 (56 + 717 * e + 117))) - 1 := by
    have h0 : ((s.2.1 (56 + 717 * e + 117))).length ≠ 0 := fun q => hw (Or.inl q)
    unfold pCl
    rw [List.length_drop]
    omega
  have a1 : pEnd t (1 - e) = pEnd s (1 - e) := pEnd.cg (fun j hj => g j (by omega) (by omega) (by omega) (by omega) (by omega) (by omega)) (hf' _ (by omega) (by omega)) (hq' _ (by omega) (by omega))
  have a2 : pXe t (1 - e) = pXe s (1 - e) := pXe.cg (fun j hj => g j (by omega) (by omega) (by omega) (by omega) (by omega) (by omega)) (hq' _ (by omega) (by omega))
  have b2 : pXe t e = pXe s e - 300 := by
    unfold pXe
    rw [hq, g2, g ((56 + 717 * (1 - e)) + 3) (by omega) (by omega) (by omega) (by omega) (by omega) (by omega), cl]
    omega
  have r1 : pRest t = pRest s := by
    unfold pRest
    rw [pVw.cg (s := s) (t := t) fun j hj => g j (by omega) (by omega) (by omega) (by omega) (by omega) (by omega), pOn.cg (s := s) (t := t) fun j hj => g j (by omega) (by omega) (by omega) (by omega) (by omega) (by omega), hl]
  have b1 : 149 + pEnd t e ≤ pEnd s e := by
    unfold pEnd
    rw [g2, g 14 (by omega) (by omega) (by omega) (by omega) (by omega) (by omega), g 0 (by omega) (by omega) (by omega) (by omega) (by omega) (by omega), g ((56 + 717 * (1 - e)) + 3) (by omega) (by omega) (by omega) (by omega) (by omega) (by omega), hq, cl]
    have x := (pPs_nn (s.1 14) (t.1 ((56 + 717 * e) + 9)) (aCnt 1 ((t.2.2 (56 + 717 * e + 26)))) (((t.2.2 (56 + 717 * e + 26))).length)).2.1 cn
    have y := (pPs_nn (s.1 14) (s.1 ((56 + 717 * e) + 9)) (aCnt 1 ((s.2.2 (56 + 717 * e + 26)))) (((s.2.2 (56 + 717 * e + 26))).length)).1
    rw [x]
    omega
  refine ⟨⟨149, 300, by omega, by omega, ?_, ?_⟩, ?_⟩
  · rw [(pP_e he t).1, (pP_e he s).1, a1, r1]
    omega
  · rw [(pP_e he t).2, (pP_e he s).2, a2, b2]
    omega
  · obtain ⟨⟨k1, k3, k4, k5⟩, ⟨l1, l2, l3, l4⟩, l5⟩ := hi
    unfold pI
    rw [g 8 (by omega) (by omega) (by omega) (by omega) (by omega) (by omega), g 9 (by omega) (by omega) (by omega) (by omega) (by omega) (by omega), g 1 (by omega) (by omega) (by omega) (by omega) (by omega) (by omega), g 17 (by omega) (by omega) (by omega) (by omega) (by omega) (by omega), g 11 (by omega) (by omega) (by omega) (by omega) (by omega) (by omega), g 14 (by omega) (by omega) (by omega) (by omega) (by omega) (by omega), g 18 (by omega) (by omega) (by omega) (by omega) (by omega) (by omega)]
    refine ⟨⟨k1, k3, k4, k5⟩, ⟨l1, l2, l3, l4⟩, fun e' he' => ?_⟩
    by_cases d : e' = e
    · rw [d, ln]
      have : ¬ s.1 14 ≤ (((s.2.2 (56 + 717 * e + 26))).length : Int) := fun q => hw (Or.inr q)
      omega
    · rw [hf' e' he' d]; exact l5 e' he'
/-- what the end of the loop may cost -/
def pBl (s : aS) (e : Nat) : Int := if aCnt 1 ((s.2.2 (56 + 717 * e + 26))) < 1 ∧ s.1 14 ≤ (((s.2.2 (56 + 717 * e + 26))).length : Int) then 1 else 65
theorem pBl_rg (s : aS) (e : Nat) : 1 ≤ pBl s e ∧ pBl s e ≤ 65 ∧ (¬ (aCnt 1 ((s.2.2 (56 + 717 * e + 26))) < 1 ∧ s.1 14 ≤ (((s.2.2 (56 + 717 * e + 26))).length : Int)) → pBl s e = 65) ∧ (aCnt 1 ((s.2.2 (56 + 717 * e + 26))) < 1 ∧ s.1 14 ≤ (((s.2.2 (56 + 717 * e + 26))).length : Int) → pBl s e = 1) := by
  unfold pBl
  exact ⟨by split <;> omega, by split <;> omega, fun h => if_neg h, fun h => if_pos h⟩
theorem p_stop {e : Nat} (he : e < 2) (ha : aI B s) (hn : aStep e s = none) : pQ (aStepC e s) (aStepZ e s) (pBl s e) 0 s s := by
  obtain ⟨y1, y2, y3, y4⟩ := pBl_rg s e
  have key : (aStepC e s : Int) ≤ pBl s e ∧ (aStepZ e s : Int) ≤ 9 * pBl s e := by
    unfold aStepC aStepZ
    unfold aStep at hn
    by_cases h1 : aFst 1 ((s.2.2 (56 + 717 * e + 26))) < ((s.2.2 (56 + 717 * e + 26))).length
    · rw [if_pos h1] at hn
      rw [if_pos h1, if_pos h1]
      obtain ⟨f1, f2⟩ := aFst_at h1
      have hfl := ((ha.2.2.2.1 e he).1.2.1 _ f2).1
      have hbl : ((((s.2.2 (56 + 717 * e + 26))).getD (aFst 1 ((s.2.2 (56 + 717 * e + 26)))) []).drop 3).length ≤ 8 := by rw [List.length_drop]; omega
      obtain ⟨c1, c2⟩ := aLC_le (e := e) hbl s
      have hk := (aFst_cnt 1 ((s.2.2 (56 + 717 * e + 26)))).mp h1
      have := y3 fun q => by omega
      split at hn
      · rename_i w
        rw [if_pos w, if_pos w]
        omega
      · cases hn
    · rw [if_neg h1] at hn
      rw [if_neg h1, if_neg h1]
      by_cases h2 : ((s.2.1 (56 + 717 * e + 117))).length = 0 ∨ s.1 14 ≤ (((s.2.2 (56 + 717 * e + 26))).length : Int)
      · rw [if_pos h2, if_pos h2]
        omega
      · rw [if_neg h2, if_neg h2]
        have := y3 fun q => h2 (Or.inr q.2)
        have hbl : (((s.2.1 (56 + 717 * e + 117))).take 8).length ≤ 8 := by rw [List.length_take]; omega
        obtain ⟨c1, c2⟩ := aLC_le (e := e) hbl s
        by_cases h3 : s.1 ((56 + 717 * e) + 5) < aCost e (((s.2.1 (56 + 717 * e + 117))).take 8) s
        · rw [if_pos h3, if_pos h3]
          omega
        · rw [if_neg (fun q => by
            rcases q with q | q | q
            · exact h2 (Or.inl q)
            · exact h2 (Or.inr q)
            · exact h3 q)] at hn
          cases hn
  exact pQ.mk (pBl s e) key.1 key.2 (by omega) (by omega)
theorem p_step {e : Nat} (he : e < 2) (hi : pI s) (ha : aI B s) (ht : aStep e s = some t) : pQ (aStepC e s) (aStepZ e s) (pBl s e - pBl t e) 0 s t ∧ pI t := by
  have ht' := ht
  unfold aStep at ht
  obtain ⟨y1, y2, y3, y4⟩ := pBl_rg s e
  obtain ⟨z1, z2, z3, z4⟩ := pBl_rg t e
  by_cases h1 : aFst 1 ((s.2.2 (56 + 717 * e + 26))) < ((s.2.2 (56 + 717 * e + 26))).length
  · rw [if_pos h1] at ht
    have hk := (aFst_cnt 1 ((s.2.2 (56 + 717 * e + 26)))).mp h1
    have y5 := y3 fun q => by omega
    split at ht
    · cases ht
    · rename_i w
      cases ht
      obtain ⟨q1, i1, cn, ln, g14⟩ := p_again he hi ha h1 w
      refine ⟨q1.le (Nat.le_refl _) (Nat.le_refl _) ?_ (Int.le_refl _), i1⟩
      by_cases d : aCnt 1 ((s.2.2 (56 + 717 * e + 26))) < 2 ∧ s.1 14 ≤ (((s.2.2 (56 + 717 * e + 26))).length : Int)
      · have k3 : (if aCnt 1 ((s.2.2 (56 + 717 * e + 26))) < 2 ∧ s.1 14 ≤ (((s.2.2 (56 + 717 * e + 26))).length : Int) then (64 : Int) else 0) = 64 := if_pos d
        have := z4 (by rw [cn, ln, g14]; omega)
        rw [k3]
        omega
      · have k3 : (if aCnt 1 ((s.2.2 (56 + 717 * e + 26))) < 2 ∧ s.1 14 ≤ (((s.2.2 (56 + 717 * e + 26))).length : Int) then (64 : Int) else 0) = 0 := if_neg d
        rw [k3]
        omega
  · rw [if_neg h1] at ht
    split at ht
    · cases ht
    · rename_i w
      cases ht
      have w1 : ¬ (((s.2.1 (56 + 717 * e + 117))).length = 0 ∨ s.1 14 ≤ (((s.2.2 (56 + 717 * e + 26))).length : Int)) := fun q => w (by
        rcases q with q | q
        · exact Or.inl q
        · exact Or.inr (Or.inl q))
      obtain ⟨q1, i1⟩ := p_new he hi h1 w1 fun q => w (Or.inr (Or.inr q))
      have := y3 fun q => w1 (Or.inr q.2)
      exact ⟨q1.le (Nat.le_refl _) (Nat.le_refl _) (by omega) (Int.le_refl _), i1⟩
theorem p_loop {e : Nat} (he : e < 2) : ∀ (k : Nat) {B : Int} {s : aS}, pI s → aI B s → 1 ≤ B → s.1 ((56 + 717 * e) + 5) ≤ 5 * (k : Int) → pQ (aLoopC e k s) (aLoopZ e k s) (pBl s e) 0 s (aLoop e k s) ∧ pI (aLoop e k s)
  | 0, B, s, hi, ha, h1, hc => by
    have hn : aStep e s = none := by
      cases h : aStep e s with
      | none => rfl
      | some t =>
        obtain ⟨a1, a2, -⟩ := ha.step he h h1
        have := (a1.2.2.2.1 e he).2.2.1.1
        omega
    exact ⟨p_stop he ha hn, hi⟩
  | k + 1, B, s, hi, ha, h1, hc => by
    cases h : aStep e s with
    | none =>
      have e1 : aLoop e (k + 1) s = s := by
        show (match aStep e s with | none => s | some t => aLoop e k t) = s
        rw [h]
      have e2 : aLoopC e (k + 1) s = aStepC e s := by
        show aStepC e s + (match aStep e s with | none => 0 | some t => aLoopC e k t) = _
        rw [h]
        rfl
      have e3 : aLoopZ e (k + 1) s = aStepZ e s := by
        show aStepZ e s + (match aStep e s with | none => 0 | some t => aLoopZ e k t) = _
        rw [h]
        rfl
      rw [e1, e2, e3]
      exact ⟨p_stop he ha h, hi⟩
    | some t =>
      have e1 : aLoop e (k + 1) s = aLoop e k t := by
        show (match aStep e s with | none => s | some t => aLoop e k t) = _
        rw [h]
      have e2 : aLoopC e (k + 1) s = aStepC e s + aLoopC e k t := by
        show aStepC e s + (match aStep e s with | none => 0 | some t => aLoopC e k t) = _
        rw [h]
      have e3 : aLoopZ e (k + 1) s = aStepZ e s + aLoopZ e k t := by
        show aStepZ e s + (match aStep e s with | none => 0 | some t => aLoopZ e k t) = _
        rw [h]
      obtain ⟨a1, a2, -⟩ := ha.step he h h1
      obtain ⟨q1, i1⟩ := p_step he hi ha h
      obtain ⟨q2, i2⟩ := p_loop he k i1 a1 (by omega) (by omega)
      rw [e1, e2, e3]
      exact ⟨(q1.tr q2).le (Nat.le_refl _) (Nat.le_refl _) (by omega) (by omega), i2⟩
theorem p_send {e : Nat} (he : e < 2) (hi : pI s) (ha : aI B s) (h1 : 108 ≤ B) : pQ (aSendC e s) (aSendZ e s) 65 0 s (aSend e s) ∧ pI (aSend e s) := by
  have g : ∀ j, j ≠ (56 + 717 * e) + 5 → (aCred e s).1 j = s.1 j := fun j hj => by
    unfold aCred
    rw [aN_1, if_neg hj]
  have g' : ∀ j, pIx j → (aCred e s).1 j = s.1 j := fun j hj => g j (pIx_4 he j hj).2.2.2.2.2.2.2.2.2.2.2.2.1
  have q0 : pQ 0 0 0 0 s (aCred e s) := pQ.of (pP.cg g' (fun _ _ => rfl) (fun _ _ => rfl) rfl)
  have i0 : pI (aCred e s) := hi.cg g' fun _ _ => rfl
  unfold aSend aSendC aSendZ
  by_cases c : s.1 ((56 + 717 * e) + 6) = 0
  · rw [if_pos c, if_pos c, if_pos c]
    have a0 := ha.cred he h1
    have cr := (a0.2.2.2.1 e he).2.2.1.2
    obtain ⟨q2, i2⟩ := p_loop he 120 i0 a0 (by omega) (by omega)
    have y := (pBl_rg (aCred e s) e).2.1
    exact ⟨(q0.tr q2).le (by omega) (by omega) (by omega) (by omega), i2⟩
  · rw [if_neg c, if_neg c, if_neg c]
    exact ⟨q0.le (Nat.le_refl _) (Nat.le_refl _) (by omega) (Int.le_refl _), i0⟩
theorem p_out (hi : pI s) (ha : aI B s) (h1 : 108 ≤ B) : pQ (aOutC s) (aOutZ s) 131 0 s (aOut s) ∧ pI (aOut s) := by
  unfold aOutC aOutZ aOut
  by_cases c : s.1 1 = 2
  · rw [if_pos c, if_pos c, if_pos c]
    obtain ⟨q1, i1⟩ := p_rise hi ha
    have a1 := ha.rise (by omega)
    obtain ⟨q2, i2⟩ := p_send (e := 0) (by omega) i1 a1 (by omega)
    have a2 := (a1.send (e := 0) (by omega) (by omega)).1
    obtain ⟨q3, i3⟩ := p_send (e := 1) (by omega) i2 a2 (by omega)
    exact ⟨(q1.tr (q2.tr q3)).le (Nat.le_refl _) (Nat.le_refl _) (by omega) (by omega), i3⟩
  · rw [if_neg c, if_neg c, if_neg c]
    exact ⟨(pQ.of ⟨rfl, rfl⟩).le (Nat.le_refl _) (Nat.le_refl _) (by omega) (Int.le_refl _), hi⟩
theorem p_times (hi : pI s) (ha : aI B s) (hp : s.1 1 = 2) (h1 : 108 ≤ B) : pQ (aTimesC s) (2 * aTimesC s) 0 0 s (aTimes s) ∧ pI (aTimes s) := by
  unfold aTimesC aTimes
  obtain ⟨q1, i1⟩ := p_timer (e := 0) (by omega) hi ha hp
  have a1 := ha.timer (e := 0) (by omega) (by omega)
  by_cases c : (aTimer 0 s).1 1 = 2
  · rw [if_pos c, if_pos c]
    obtain ⟨q2, i2⟩ := p_timer (e := 1) (by omega) i1 a1 c
    exact ⟨(q1.tr q2).le (Nat.le_refl _) (by omega) (by omega) (by omega), i2⟩
  · rw [if_neg c, if_neg c]
    exact ⟨q1.le (by omega) (by omega) (Int.le_refl _) (Int.le_refl _), i1⟩
theorem p_same (g : ∀ j, pIx j → t.1 j = s.1 j) (e2 : t.2 = s.2) (hi : pI s) : pQ 0 0 0 0 s t ∧ pI t :=
  ⟨pQ.of (pP.cg g (fun e' he' => by show t.2.2 _ = _; rw [e2]) (fun e' he' => by show t.2.1 _ = _; rw [e2]) (by show t.2.2 1730 = _; rw [e2])), hi.cg g fun e' he' => by show t.2.2 _ = _; rw [e2]⟩
theorem p_lose (hi : pI s) (hq : s.1 2 = 0) : pQ 6 8 6 0 s (aLose s) ∧ pI (aLose s) := by
  obtain ⟨u, hu⟩ : ∃ u, u = aN (aF (aN (aN s 1 3) 7 1) 1730 []) 51 (s.1 51 + 1) := ⟨_, rfl⟩
  have g : ∀ j, j ≠ 1 → j ≠ 7 → j ≠ 51 → u.1 j = s.1 j := fun j a b c => by rw [hu, aN_1, if_neg c, aF_1, aN_1, if_neg b, aN_1, if_neg a]
  have g1 : u.1 1 = 3 := by rw [hu]; rfl
  have hf : ∀ e', e' < 2 → (u.2.2 (56 + 717 * e' + 26)) = (s.2.2 (56 + 717 * e' + 26)) := fun e' he' => by
    show u.2.2 _ = _
    rw [hu, aN_2, aF_3, if_neg (by omega)]
    rfl
  have hqq : ∀ e', (u.2.1 (56 + 717 * e' + 117)) = (s.2.1 (56 + 717 * e' + 117)) := fun e' => by rw [hu]; rfl
  have hl : (u.2.2 1730) = [] := by rw [hu]; rfl
  have ee : ∀ e, e < 2 → pEnd u e = pEnd s e ∧ pXe u e = pXe s e := fun e he => ⟨pEnd.cg (fun j hj => g j (by omega) (by omega) (by omega)) (hf e he) (hqq e), pXe.cg (fun j hj => g j (by omega) (by omega) (by omega)) (hqq e)⟩
  have er : pRest u ≤ pRest s := by
    unfold pRest
    have o1 : pOn u = 0 := by
      unfold pOn
      rw [g1, g 2 (by omega) (by omega) (by omega), if_neg (by omega)]
    have o2 : 0 ≤ pOn s := by unfold pOn; split <;> omega
    have a7 := pAcks_nn ((s.2.2 1730))
    rw [pVw.cg (s := s) (t := u) fun j hj => g j (by omega) (by omega) (by omega), o1, hl]
    show pVw s + 1592 * 0 + 8660 * 0 ≤ _
    omega
  obtain ⟨x1, x2⟩ := ee 0 (by omega)
  obtain ⟨y1, y2⟩ := ee 1 (by omega)
  have tl := p_tell 4 (-1) u
  have q1 : pQ 6 8 6 0 s (aTell 4 (-1) u) := by
    refine pQ.mk 6 (by omega) (by omega) ?_ ?_
    · rw [tl.1]
      show 6 + (pEnd u 0 + pEnd u 1 + pRest u) ≤ (pEnd s 0 + pEnd s 1 + pRest s) + 6
      omega
    · rw [tl.2]
      show (pXe u 0 + pXe u 1) ≤ (pXe s 0 + pXe s 1) + 0
      omega
  have i1 : pI (aTell 4 (-1) u) := by
    refine pI.tell ?_ _ _
    obtain ⟨⟨k1, k3, k4, k5⟩, ⟨l1, l2, l3, l4⟩, l5⟩ := hi
    unfold pI
    rw [g1, g 8 (by omega) (by omega) (by omega), g 9 (by omega) (by omega) (by omega), g 17 (by omega) (by omega) (by omega), g 11 (by omega) (by omega) (by omega), g 14 (by omega) (by omega) (by omega), g 18 (by omega) (by omega) (by omega)]
    exact ⟨⟨k1, k3, k4, fun w => absurd w (by decide)⟩, ⟨l1, l2, l3, l4⟩, fun e' he' => by rw [hf e' he']; exact l5 e' he'⟩
  have e9 : aLose s = if (aTell 4 (-1) u).1 13 = 0 then aHang (aTell 4 (-1) u) else aTell 4 (-1) u := by rw [hu]; rfl
  rw [e9]
  split
  · obtain ⟨q2, i2⟩ := p_hang i1.z
    exact ⟨(q1.tr q2).le (by omega) (by omega) (by omega) (by omega), i2⟩
  · exact ⟨q1, i1⟩
theorem p_live (hi : pI s) (ha : aI B s) (hp : s.1 1 = 2) (h1 : 108 ≤ B) : pQ (aLiveC s) (aLiveZ s) 132 200 s (aLive s) ∧ pI (aLive s) := by
  unfold aLiveC aLiveZ aLive
  by_cases c : s.1 2 = 0
  · rw [if_pos c, if_pos c, if_pos c]
    obtain ⟨q1, i1⟩ := p_lose hi c
    exact ⟨q1.le (Nat.le_refl _) (Nat.le_refl _) (by omega) (by omega), i1⟩
  · rw [if_neg c, if_neg c, if_neg c]
    obtain ⟨q1, i1⟩ := p_arr hi ha hp
    have a1 := (ha.arr (by omega)).1
    have hp1 : (aArr s).1 1 = 2 := by
      have : ∀ (l : List (List Int)) (u : aS), (∀ it, it ∈ l → aItOk it) → (aLands (s.1 0) l u).1 1 = u.1 1 := by
        intro l
        induction l with
        | nil => intro u _; rfl
        | cons it l ih =>
          intro u hl
          rw [aLands, ih _ fun x hx => hl x (List.mem_cons_of_mem _ hx)]
          split
          · exact aLand_sc13 (hl it List.mem_cons_self).1.1.2 u 1 (by omega)
          · rfl
      unfold aArr
      rw [this _ _ ha.2.2.2.2]
      exact hp
    obtain ⟨q2, i2⟩ := p_times i1 a1 hp1 (by omega)
    have a2 := (a1.times (by omega)).1
    obtain ⟨q3, i3⟩ := p_out i2 a2 (by omega)
    exact ⟨(q1.tr (q2.tr q3)).le (Nat.le_refl _) (Nat.le_refl _) (by omega) (by omega), i3⟩
/-- going online -/
theorem aUp_sc (r : Int) (s : aS) (j : Nat) (h1 : j ≠ 1 ∧ j ≠ 3 ∧ j ≠ 8 ∧ j ≠ 9 ∧ j ≠ 53 ∧ j ≠ 61 ∧ j ≠ 62 ∧ j ≠ 65 ∧ j ≠ 778 ∧ j ≠ 779 ∧ j ≠ 782) : (aUp r s).1 j = s.1 j := by
  unfold aUp
  show (aN _ 53 _).1 j = _
  rw [aN_1, if_neg (by omega), aOn_sc 1 _ j (by omega) (by omega) (by omega), aOn_sc 0 _ j (by omega) (by omega) (by omega), aF_1, aN_1, if_neg (by omega), aN_1, if_neg (by omega), aN_1, if_neg (by omega), aN_1, if_neg (by omega)]
theorem p_up (hi : pI s) (ha : aI B s) (hp : s.1 1 = 1) {r : Int} (hr : 0 ≤ r ∧ r < s.1 11) : pQ 20 140 20 0 s (aUp r s) ∧ pI (aUp r s) := by
  obtain ⟨t, ht⟩ : ∃ t, t = aUp r s := ⟨_, rfl⟩
  rw [← ht]
  have g : ∀ j, j ≠ 1 ∧ j ≠ 3 ∧ j ≠ 8 ∧ j ≠ 9 ∧ j ≠ 53 ∧ j ≠ 61 ∧ j ≠ 62 ∧ j ≠ 65 ∧ j ≠ 778 ∧ j ≠ 779 ∧ j ≠ 782 → t.1 j = s.1 j := fun j hj => by rw [ht]; exact aUp_sc r s j hj
  have g1 : t.1 1 = 2 := by rw [ht]; rfl
  have g3 : t.1 3 = r := by rw [ht]; rfl
  have g8 : t.1 8 = 0 := by rw [ht]; rfl
  have g9 : t.1 9 = 0 := by rw [ht]; rfl
  have hq : ∀ e', (t.2.1 (56 + 717 * e' + 117)) = (s.2.1 (56 + 717 * e' + 117)) := fun e' => by rw [ht]; rfl
  have hl : (t.2.2 1730) = [] := by rw [ht]; rfl
  have hf : ∀ e', e' < 2 → ∃ P : List Int → Bool, (t.2.2 (56 + 717 * e' + 26)) = aMark (((s.2.2 (56 + 717 * e' + 26))).filter P) ∧ t.1 ((56 + 717 * e') + 9) = 1 := fun e' he' => by
    rcases (by omega : e' = 0 ∨ e' = 1) with q | q <;> (subst q; rw [ht]; exact ⟨_, rfl, rfl⟩)
  have hi' := hi
  obtain ⟨⟨k1, k3, k4, k5⟩, ⟨l1, l2, l3, l4⟩, l5⟩ := hi
  have ee : ∀ e, e < 2 → pEnd t e ≤ pEnd s e + 848 ∧ pXe t e = pXe s e ∧ (((t.2.2 (56 + 717 * e + 26))).length : Int) ≤ s.1 14 := fun e he => by
    obtain ⟨P, f1, f2⟩ := hf e he
    have fl := (ha.2.2.2.1 e he).1.2.1
    have n1 := List.length_filter_le P ((s.2.2 (56 + 717 * e + 26)))
    have nw := l5 e he
    have fl3 : ∀ f, f ∈ ((s.2.2 (56 + 717 * e + 26))).filter P → 3 ≤ f.length := fun f hf => by have := (fl f (List.mem_filter.mp hf).1).1.1; omega
    have lm : (aMark (((s.2.2 (56 + 717 * e + 26))).filter P)).length = (((s.2.2 (56 + 717 * e + 26))).filter P).length := by unfold aMark; rw [List.length_map]
    have am := pAge_mark (s.1 0) fl3
    have cm := aCnt_mark fl3
    refine ⟨?_, pXe.cg (fun j hj => g j (by omega)) (hq e), by rw [f1, lm]; omega⟩
    unfold pEnd
    rw [f1, f2, g 14 (by omega), g 0 (by omega), g ((56 + 717 * e) + 2) (by omega), g ((56 + 717 * (1 - e)) + 3) (by omega), hq e, am, cm, lm]
    obtain ⟨x0, x1, x2⟩ := pPs_nn (s.1 14) 1 ((((s.2.2 (56 + 717 * e + 26))).filter P).length) ((((s.2.2 (56 + 717 * e + 26))).filter P).length)
    have y := (pPs_nn (s.1 14) (s.1 ((56 + 717 * e) + 9)) (aCnt 1 ((s.2.2 (56 + 717 * e + 26)))) (((s.2.2 (56 + 717 * e + 26))).length)).1
    have z := pAge_nn (s.1 0) ((s.2.2 (56 + 717 * e + 26)))
    have k0 : (if (1 : Int) = 1 then (54 : Int) else 0) = 54 := rfl
    rw [k0] at x2
    by_cases c : ((((s.2.2 (56 + 717 * e + 26))).filter P).length : Int) < 1
    · rw [x1 c]; omega
    · rw [x2 (by omega)]
      by_cases d : s.1 14 ≤ ((((s.2.2 (56 + 717 * e + 26))).filter P).length : Int)
      · rw [if_pos d]; omega
      · rw [if_neg d]; omega
  have er : pRest t + 1716 ≤ pRest s := by
    unfold pRest
    have o1 : pOn t = 0 := by
      unfold pOn
      rw [g1, if_neg (by omega)]
    have o2 : pOn s = 1 := by
      unfold pOn
      rw [hp, if_pos (by omega)]
    have a7 := pAcks_nn ((s.2.2 1730))
    have v0 := pVw_nn hi' ha.1.2.2.2.1.1
    have v1 : pVw t ≤ 6944 := by
      unfold pVw pVv
      rw [g8, g9, g3, pH_0]
      split <;> omega
    rw [o1, o2, hl]
    show pVw t + 1592 * 0 + 8660 * 0 + 1716 ≤ _
    omega
  obtain ⟨x1, x2, x3⟩ := ee 0 (by omega)
  obtain ⟨y1, y2, y3⟩ := ee 1 (by omega)
  refine ⟨pQ.mk 20 (by omega) (by omega) ?_ ?_, ?_⟩
  · show 20 + (pEnd t 0 + pEnd t 1 + pRest t) ≤ (pEnd s 0 + pEnd s 1 + pRest s) + 20
    omega
  · show (pXe t 0 + pXe t 1) ≤ (pXe s 0 + pXe s 1) + 0
    omega
  · have h17 := ha.1.1.2.1.2.2.2.1.1
    unfold pI
    rw [g1, g8, g9, g 17 (by omega), g 11 (by omega), g 14 (by omega), g 18 (by omega)]
    refine ⟨⟨⟨by omega, by omega⟩, by omega, fun _ => rfl, fun _ => by omega⟩, ⟨l1, l2, l3, l4⟩, fun e' he' => ?_⟩
    exact (ee e' he').2.2
theorem p_online (hi : pI s) (ha : aI B s) (hp : s.1 1 = 1) : pQ 20 140 20 0 s (aOnline s) ∧ pI (aOnline s) := by
  unfold aOnline
  split
  · obtain ⟨q, i⟩ := p_hang hi.z
    refine ⟨?_, i⟩
    obtain ⟨c, x, h1, h2, h3, h4⟩ := q
    exact ⟨c + 20, x, by omega, by omega, by omega, by omega⟩
  · rename_i w
    have h11 := ha.1.1.1.1
    have := aRt_le s (s.1 2) (s.1 11).toNat
    exact p_up hi ha hp ⟨by omega, by omega⟩
theorem pQ.add {n z : Nat} {b d : Int} (h : pQ n z b d s t) (k m : Nat) (hm : m ≤ 9 * k) : pQ (n + k) (z + m) (b + k) d s t := by
  obtain ⟨c, x, h1, h2, h3, h4⟩ := h
  exact ⟨c + k, x, by omega, by omega, by omega, by omega⟩
theorem p_train (hi : pI s) (ha : aI B s) (hp : s.1 1 = 1) : pQ 20 140 20 0 s (aTrain s) ∧ pI (aTrain s) := by
  have ad : ∀ {u : aS}, pQ 0 0 0 0 s u → pQ 20 140 20 0 s u := fun h => (h.add 20 140 (by omega)).le (by omega) (by omega) (by omega) (by omega)
  unfold aTrain
  split
  · obtain ⟨u, hu⟩ : ∃ u, u = aN (aN s 5 (s.1 (21 + (s.1 4).toNat))) 6 (s.1 6 + 1) := ⟨_, rfl⟩
    obtain ⟨q0, i0⟩ := p_same (s := s) (t := u) (fun j hj => by
      have := pIx_4 (e := 0) (by omega) j hj
      rw [hu, aN_1, if_neg (by omega), aN_1, if_neg (by omega)]) (by rw [hu]; rfl) hi
    show pQ 20 140 20 0 s (if (aN (aN s 5 (s.1 (21 + (s.1 4).toNat))) 6 (s.1 6 + 1)).1 12 < (aN (aN s 5 (s.1 (21 + (s.1 4).toNat))) 6 (s.1 6 + 1)).1 6 then aHang (aN (aN s 5 (s.1 (21 + (s.1 4).toNat))) 6 (s.1 6 + 1)) else aN (aN s 5 (s.1 (21 + (s.1 4).toNat))) 6 (s.1 6 + 1)) ∧ pI (if (aN (aN s 5 (s.1 (21 + (s.1 4).toNat))) 6 (s.1 6 + 1)).1 12 < (aN (aN s 5 (s.1 (21 + (s.1 4).toNat))) 6 (s.1 6 + 1)).1 6 then aHang (aN (aN s 5 (s.1 (21 + (s.1 4).toNat))) 6 (s.1 6 + 1)) else aN (aN s 5 (s.1 (21 + (s.1 4).toNat))) 6 (s.1 6 + 1))
    rw [← hu]
    split
    · obtain ⟨q1, i1⟩ := p_hang i0.z
      exact ⟨ad ((q0.tr q1).le (by omega) (by omega) (by omega) (by omega)), i1⟩
    · exact ⟨ad q0, i0⟩
  · obtain ⟨u, hu⟩ : ∃ u, u = aN s 5 (s.1 5 - 1) := ⟨_, rfl⟩
    obtain ⟨q0, i0⟩ := p_same (s := s) (t := u) (fun j hj => by
      have := pIx_4 (e := 0) (by omega) j hj
      rw [hu, aN_1, if_neg (by omega)]) (by rw [hu]; rfl) hi
    show pQ 20 140 20 0 s (if 0 < (aN s 5 (s.1 5 - 1)).1 5 then aN s 5 (s.1 5 - 1) else if (aN s 5 (s.1 5 - 1)).1 4 = 3 then aOnline (aN s 5 (s.1 5 - 1)) else aN (aN (aN s 5 (s.1 5 - 1)) 4 ((aN s 5 (s.1 5 - 1)).1 4 + 1)) 5 ((aN s 5 (s.1 5 - 1)).1 (21 + ((aN s 5 (s.1 5 - 1)).1 4 + 1).toNat))) ∧ pI (if 0 < (aN s 5 (s.1 5 - 1)).1 5 then aN s 5 (s.1 5 - 1) else if (aN s 5 (s.1 5 - 1)).1 4 = 3 then aOnline (aN s 5 (s.1 5 - 1)) else aN (aN (aN s 5 (s.1 5 - 1)) 4 ((aN s 5 (s.1 5 - 1)).1 4 + 1)) 5 ((aN s 5 (s.1 5 - 1)).1 (21 + ((aN s 5 (s.1 5 - 1)).1 4 + 1).toNat)))
    have au : aI (B + 1 + 1) u := by
      rw [hu]
      have b5 := ha.2.1.1 5
      unfold aB at b5
      exact (ha.le (by omega : B ≤ B + 1 + 1)).N 5 _ (by unfold aB; omega) (by omega) (by omega) (fun e he => by omega)
    have hpu : u.1 1 = 1 := by rw [hu]; exact hp
    rw [← hu]
    split
    · exact ⟨ad q0, i0⟩
    · split
      · obtain ⟨q1, i1⟩ := p_online i0 au hpu
        exact ⟨(q0.tr q1).le (by omega) (by omega) (by omega) (by omega), i1⟩
      · obtain ⟨q1, i1⟩ := p_same (s := u) (t := aN (aN u 4 (u.1 4 + 1)) 5 (u.1 (21 + (u.1 4 + 1).toNat))) (fun j hj => by
          have := pIx_4 (e := 0) (by omega) j hj
          rw [aN_1, if_neg (by omega), aN_1, if_neg (by omega)]) rfl i0
        exact ⟨ad ((q0.tr q1).le (by omega) (by omega) (by omega) (by omega)), i1⟩
theorem p_wait (hi : pI s) (hp : s.1 1 = 3) : pQ 5 4 5 0 s (aWait s) ∧ pI (aWait s) := by
  have ad : ∀ {u : aS}, pQ 0 0 0 0 s u → pQ 5 4 5 0 s u := fun h => (h.add 5 4 (by omega)).le (by omega) (by omega) (by omega) (by omega)
  unfold aWait
  split
  · rename_i w
    obtain ⟨u, hu⟩ : ∃ u, u = aN (aN (aN (aN s 1 1) 4 2) 5 (s.1 23)) 6 0 := ⟨_, rfl⟩
    rw [← hu]
    have g : ∀ j, j ≠ 1 → j ≠ 4 → j ≠ 5 → j ≠ 6 → u.1 j = s.1 j := fun j a b c d => by rw [hu, aN_1, if_neg d, aN_1, if_neg c, aN_1, if_neg b, aN_1, if_neg a]
    have g1 : u.1 1 = 1 := by rw [hu]; rfl
    have e2 : u.2 = s.2 := by rw [hu]; rfl
    have hf : ∀ e, (u.2.2 (56 + 717 * e + 26)) = (s.2.2 (56 + 717 * e + 26)) := fun e => by
      show u.2.2 _ = _
      rw [e2]
    have hq : ∀ e, (u.2.1 (56 + 717 * e + 117)) = (s.2.1 (56 + 717 * e + 117)) := fun e => by
      show u.2.1 _ = _
      rw [e2]
    have hl : (u.2.2 1730) = (s.2.2 1730) := by
      show u.2.2 1730 = _
      rw [e2]
    have ee : ∀ e, e < 2 → pEnd u e = pEnd s e ∧ pXe u e = pXe s e := fun e he => ⟨pEnd.cg (fun j hj => g j (by omega) (by omega) (by omega) (by omega)) (hf e) (hq e), pXe.cg (fun j hj => g j (by omega) (by omega) (by omega) (by omega)) (hq e)⟩
    have er : pRest u = pRest s := by
      unfold pRest
      have o1 : pOn u = 1 := by
        unfold pOn
        rw [g1, if_pos (by omega)]
      have o2 : pOn s = 1 := by
        unfold pOn
        rw [hp, if_pos (Or.inr ⟨rfl, w⟩)]
      rw [pVw.cg (s := s) (t := u) fun j hj => g j (by omega) (by omega) (by omega) (by omega), o1, o2, hl]
    obtain ⟨x1, x2⟩ := ee 0 (by omega)
    obtain ⟨y1, y2⟩ := ee 1 (by omega)
    refine ⟨ad (pQ.of ⟨?_, ?_⟩), ?_⟩
    · show pEnd u 0 + pEnd u 1 + pRest u = pEnd s 0 + pEnd s 1 + pRest s
      rw [x1, y1, er]
    · show pXe u 0 + pXe u 1 = pXe s 0 + pXe s 1
      rw [x2, y2]
    · obtain ⟨⟨k1, k3, k4, k5⟩, ⟨l1, l2, l3, l4⟩, l5⟩ := hi
      unfold pI
      rw [g1, g 8 (by omega) (by omega) (by omega) (by omega), g 9 (by omega) (by omega) (by omega) (by omega), g 17 (by omega) (by omega) (by omega) (by omega), g 11 (by omega) (by omega) (by omega) (by omega), g 14 (by omega) (by omega) (by omega) (by omega), g 18 (by omega) (by omega) (by omega) (by omega)]
      exact ⟨⟨k1, k3, k4, fun q => absurd q (by decide)⟩, ⟨l1, l2, l3, l4⟩, fun e' he' => by rw [hf e']; exact l5 e' he'⟩
  · obtain ⟨u, hu⟩ : ∃ u, u = aN s 7 (s.1 7 + 1) := ⟨_, rfl⟩
    obtain ⟨q0, i0⟩ := p_same (s := s) (t := u) (fun j hj => by
      have := pIx_4 (e := 0) (by omega) j hj
      rw [hu, aN_1, if_neg (by omega)]) (by rw [hu]; rfl) hi
    show pQ 5 4 5 0 s (if (aN s 7 (s.1 7 + 1)).1 13 < (aN s 7 (s.1 7 + 1)).1 7 then aHang (aN s 7 (s.1 7 + 1)) else aN s 7 (s.1 7 + 1)) ∧ pI (if (aN s 7 (s.1 7 + 1)).1 13 < (aN s 7 (s.1 7 + 1)).1 7 then aHang (aN s 7 (s.1 7 + 1)) else aN s 7 (s.1 7 + 1))
    rw [← hu]
    split
    · obtain ⟨q1, i1⟩ := p_hang i0.z
      exact ⟨ad ((q0.tr q1).le (by omega) (by omega) (by omega) (by omega)), i1⟩
    · exact ⟨ad q0, i0⟩
theorem p_tick (hi : pI s) (ha : aI B s) (h1 : 108 ≤ B) : pQ (aTickC s) (aTickZ s) 412 200 s (aTick s) ∧ pI (aTick s) := by
  have k : pQ (aTickC s) (aTickZ s) 132 200 s (aDo s) ∧ pI (aDo s) := by
    unfold aTickC aTickZ aDo
    by_cases c1 : s.1 1 = 1
    · rw [if_pos c1, if_pos c1, if_pos c1]
      obtain ⟨q, i⟩ := p_train hi ha c1
      exact ⟨q.le (Nat.le_refl _) (Nat.le_refl _) (by omega) (by omega), i⟩
    · rw [if_neg c1, if_neg c1, if_neg c1]
      by_cases c3 : s.1 1 = 3
      · rw [if_pos c3, if_pos c3, if_pos c3]
        obtain ⟨q, i⟩ := p_wait hi c3
        exact ⟨q.le (Nat.le_refl _) (Nat.le_refl _) (by omega) (by omega), i⟩
      · rw [if_neg c3, if_neg c3, if_neg c3]
        by_cases c2 : s.1 1 = 2
        · rw [if_pos c2, if_pos c2, if_pos c2]
          exact p_live hi ha c2 h1
        · rw [if_neg c2, if_neg c2, if_neg c2]
          exact ⟨(pQ.of ⟨rfl, rfl⟩).le (Nat.le_refl _) (Nat.le_refl _) (by omega) (by omega), hi⟩
  obtain ⟨q, i⟩ := k
  obtain ⟨u, hu⟩ : ∃ u, u = aDo s := ⟨_, rfl⟩
  have et : aTick s = aN u 0 (u.1 0 + 1) := by rw [hu]; rfl
  rw [et]
  rw [← hu] at q i
  have g : ∀ j, j ≠ 0 → (aN u 0 (u.1 0 + 1)).1 j = u.1 j := fun j hj => by rw [aN_1, if_neg hj]
  have g0 : (aN u 0 (u.1 0 + 1)).1 0 = u.1 0 + 1 := rfl
  have ee : ∀ e, e < 2 → pEnd (aN u 0 (u.1 0 + 1)) e ≤ pEnd u e + 140 ∧ pXe (aN u 0 (u.1 0 + 1)) e = pXe u e := fun e he => by
    refine ⟨?_, pXe.cg (fun j hj => g j (by omega)) rfl⟩
    unfold pEnd
    rw [g0, g 14 (by omega), g ((56 + 717 * e) + 9) (by omega), g ((56 + 717 * e) + 2) (by omega), g ((56 + 717 * (1 - e)) + 3) (by omega)]
    have := pAge_time (u.1 0) ((u.2.2 (56 + 717 * e + 26)))
    show pPs (u.1 14) (u.1 ((56 + 717 * e) + 9)) (aCnt 1 ((u.2.2 (56 + 717 * e + 26)))) (((u.2.2 (56 + 717 * e + 26))).length) + 140 * pAge (u.1 0 + 1) ((u.2.2 (56 + 717 * e + 26))) + 1667 * (u.1 ((56 + 717 * e) + 2) - u.1 ((56 + 717 * (1 - e)) + 3)) + 1816 * pCl ((u.2.1 (56 + 717 * e + 117))) ≤ _
    omega
  have er : pRest (aN u 0 (u.1 0 + 1)) = pRest u := pRest.cg (fun j hj => g j (by omega)) rfl
  obtain ⟨x1, x2⟩ := ee 0 (by omega)
  obtain ⟨y1, y2⟩ := ee 1 (by omega)
  have q2 : pQ 0 0 280 0 u (aN u 0 (u.1 0 + 1)) := by
    refine pQ.mk 0 (by omega) (by omega) ?_ ?_
    · show 0 + (pEnd _ 0 + pEnd _ 1 + pRest _) ≤ (pEnd u 0 + pEnd u 1 + pRest u) + 280
      omega
    · show (pXe _ 0 + pXe _ 1) ≤ (pXe u 0 + pXe u 1) + 0
      omega
  refine ⟨(q.tr q2).le (by omega) (by omega) (by omega) (by omega), ?_⟩
  obtain ⟨⟨k1, k3, k4, k5⟩, ⟨l1, l2, l3, l4⟩, l5⟩ := i
  unfold pI
  rw [g 8 (by omega), g 9 (by omega), g 1 (by omega), g 17 (by omega), g 11 (by omega), g 14 (by omega), g 18 (by omega)]
  exact ⟨⟨k1, k3, k4, k5⟩, ⟨l1, l2, l3, l4⟩, l5⟩
end

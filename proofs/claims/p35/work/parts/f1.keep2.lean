/-! ===== the same through a tick ===== -/
section
variable {T c r : Int} {s t : aS}
theorem vFr.mark {l : List (List Int)} (h : ∀ f, f ∈ l → f.getD 1 0 ≤ T) : ∀ f, f ∈ aMark l → f.getD 1 0 ≤ T := fun f hf => by
  unfold aMark at hf
  obtain ⟨g, hg, rfl⟩ := List.mem_map.mp hf
  have : (g.set 2 1).getD 1 0 = g.getD 1 0 := by
    rw [List.getD_eq_getElem?_getD, List.getD_eq_getElem?_getD, List.getElem?_set_ne (by omega)]
  rw [this]
  exact h g hg
theorem vK.on (h : vK T c s) {e : Nat} (he : e < 2) : vK T c (aOn e s) := by
  unfold aOn
  exact (((h.Fr he (vFr.mark fun f hf => h.2.2.2 e he f (List.mem_filter.mp hf).1)).N (by unfold vIx; omega) _).N (by unfold vIx; omega) _).N (by unfold vIx; omega) _
theorem aUp_ph (r : Int) (s : aS) : (aUp r s).1 1 = 2 ∧ (aUp r s).1 3 = r := ⟨rfl, rfl⟩
theorem vK.up (h : vK T c s) (hp : s.1 1 ≠ 2) (hr : 0 ≤ r) : vO T r (aUp r s) := by
  refine ⟨⟨rfl, rfl, hr⟩, ?_⟩
  obtain ⟨h0, ⟨n1, n2, n3, n4⟩, h2, h3⟩ := h
  rw [if_neg hp] at n4
  -- the state before the ends, counted as if the phase had not changed
  have k1 : vK T c (aOn 1 (aOn 0 (aF (aN (aN (aN s 3 r) 8 0) 9 0) 1730 []))) := (((((vK.N ⟨h0, ⟨n1, n2, n3, by rw [if_neg hp]; exact n4⟩, h2, h3⟩ (j := 3) (by unfold vIx; omega) r).N (j := 8) (by unfold vIx; omega) 0).N (j := 9) (by unfold vIx; omega) 0).Fl []).on (e := 0) (by omega)).on (e := 1) (by omega)
  obtain ⟨X, hX⟩ : ∃ X, X = aOn 1 (aOn 0 (aF (aN (aN (aN s 3 r) 8 0) 9 0) 1730 [])) := ⟨_, rfl⟩
  obtain ⟨Y, hY⟩ : ∃ Y, Y = aOn 1 (aOn 0 (aF (aN (aN (aN (aN s 1 2) 3 r) 8 0) 9 0) 1730 [])) := ⟨_, rfl⟩
  rw [← hX] at k1
  have y1 : ∀ j, j ≠ 1 → Y.1 j = X.1 j := fun j hj => by
    by_cases q1 : j = 61 ∨ j = 62 ∨ j = 65 ∨ j = 778 ∨ j = 779 ∨ j = 782
    · rw [hY, hX]
      rcases q1 with q | q | q | q | q | q <;> (subst q; rfl)
    · rw [hY, hX, aOn_sc 1 _ j (by omega) (by omega) (by omega), aOn_sc 0 _ j (by omega) (by omega) (by omega), aOn_sc 1 _ j (by omega) (by omega) (by omega), aOn_sc 0 _ j (by omega) (by omega) (by omega), aF_1, aF_1]
      by_cases j3 : j = 3
      · subst j3; rfl
      · by_cases j8 : j = 8
        · subst j8; rfl
        · by_cases j9 : j = 9
          · subst j9; rfl
          · rw [aN_1, if_neg j9, aN_1, if_neg j8, aN_1, if_neg j3, aN_1, if_neg hj, aN_1, if_neg j9, aN_1, if_neg j8, aN_1, if_neg j3]
  have y2 : Y.2 = X.2 := by
    rw [hY, hX]
    rfl
  have x1 : X.1 1 = s.1 1 := by rw [hX]; rfl
  have yp : Y.1 1 = 2 := by rw [hY]; rfl
  have ye : ∀ j, j ≠ 53 → (aN Y 53 (Y.1 53 + 1)).1 j = Y.1 j := fun j hj => by rw [aN_1, if_neg hj]
  obtain ⟨g0, ⟨m1, m2, m3, m4⟩, g2, g3⟩ := k1
  rw [x1, if_neg hp] at m4
  have k2 : vK T c (aN Y 53 (Y.1 53 + 1)) := by
    refine ⟨by rw [ye 0 (by omega), y1 0 (by omega)]; exact g0, ?_, ?_, fun e he f hf => ?_⟩
    · unfold vNum
      have e53 : (aN Y 53 (Y.1 53 + 1)).1 53 = X.1 53 + 1 := by rw [aN_1, if_pos rfl, y1 53 (by omega)]
      rw [e53, ye 60 (by omega), ye 777 (by omega), ye 55 (by omega), ye 46 (by omega), ye 45 (by omega), ye 54 (by omega), ye 51 (by omega), ye 52 (by omega), ye 1 (by omega), y1 60 (by omega), y1 777 (by omega), y1 55 (by omega), y1 46 (by omega), y1 45 (by omega), y1 54 (by omega), y1 51 (by omega), y1 52 (by omega), yp, if_pos rfl]
      exact ⟨m1, m2, m3, by omega⟩
    · have : ((aN Y 53 (Y.1 53 + 1)).2.2 1490) = (X.2.2 1490) := by
        show Y.2.2 1490 = _
        rw [y2]
      rw [this]; exact g2
    · have : ((aN Y 53 (Y.1 53 + 1)).2.2 (56 + 717 * e + 26)) = (X.2.2 (56 + 717 * e + 26)) := by
        show Y.2.2 _ = _
        rw [y2]
      rw [this] at hf
      exact g3 e he f hf
  have e9 : aUp r s = aTell 1 (-1) (aN Y 53 (Y.1 53 + 1)) := by rw [hY]; rfl
  rw [e9]
  refine vK.tell k2 ?_ ⟨fun w => by omega, fun w => by omega⟩ fun _ => ⟨fun w => absurd w (by decide), fun w => absurd w (by decide), fun w => absurd w (by decide)⟩
  unfold vC
  rw [ye 1 (by omega), yp, if_pos rfl, ye 3 (by omega), hY]
  rfl
theorem vJ.online (h : vK T c s) (hp : s.1 1 ≠ 2) : vK T (vC (aOnline s)) (aOnline s) := by
  unfold aOnline
  split
  · rw [vC.hang]; exact h.hang
  · have := h.up hp (r := aRt s (s.1 2) (s.1 11).toNat) (by omega)
    rw [this.cr]
    exact this.2
theorem vO.fail (h : vO T r s) {e : Nat} (he : e < 2) : vO T r (aFail e s) := by
  refine ⟨⟨h.1.1, h.1.2.1, h.1.2.2⟩, ?_⟩
  unfold aFail
  refine vK.tell (c := r) (((((h.2.Fr he (vFr.mark (h.2.2.2.2 e he))).N (j := (56 + 717 * e) + 9) (by unfold vIx; omega) 1).N (j := 48) (by unfold vIx; omega) _).N (j := 8) (by unfold vIx; omega) _).N (j := 9) (by unfold vIx; omega) 0) ?_ ⟨fun w => by omega, fun w => by have := h.1.2.2; omega⟩ fun _ => ⟨fun w => absurd w (by decide), fun w => absurd w (by decide), fun _ => rfl⟩
  unfold vC
  have e1 : ∀ j, j = 1 ∨ j = 3 → (aN (aN (aN (aN (aF s ((56 + 717 * e) + 26) (aMark ((s.2.2 (56 + 717 * e + 26))))) ((56 + 717 * e) + 9) 1) 48 (s.1 48 + 1)) 8 (s.1 8 + 1)) 9 0).1 j = s.1 j := fun j hj => by
    rw [aN_1, if_neg (by omega), aN_1, if_neg (by omega), aN_1, if_neg (by omega), aN_1, if_neg (by omega)]
    rfl
  rw [e1 1 (by omega), e1 3 (by omega), if_pos h.1.1, h.1.2.1]
theorem vO.fall (h : vO T r s) : vK T (vC (aFall s)) (aFall s) := by
  unfold aFall
  split
  · rw [vC.hang]; exact h.2.hang
  · rename_i w
    have h3 := h.1.2.1
    have hr := h.1.2.2
    have ec : vC (aN (aN (aN s 3 (s.1 3 - 1)) 8 0) 49 (s.1 49 + 1)) = r - 1 := by
      unfold vC
      have e1 : (aN (aN (aN s 3 (s.1 3 - 1)) 8 0) 49 (s.1 49 + 1)).1 1 = s.1 1 := rfl
      have e3 : (aN (aN (aN s 3 (s.1 3 - 1)) 8 0) 49 (s.1 49 + 1)).1 3 = s.1 3 - 1 := rfl
      rw [e1, e3, if_pos h.1.1, h3]
    have e9 : vC (aTell 2 (-1) (aN (aN (aN s 3 (s.1 3 - 1)) 8 0) 49 (s.1 49 + 1))) = r - 1 := ec
    rw [e9]
    exact vK.tell (c := r) (((h.2.N (j := 3) (by unfold vIx; omega) _).N (j := 8) (by unfold vIx; omega) _).N (j := 49) (by unfold vIx; omega) _) ec ⟨fun w => by omega, fun w => by omega⟩ fun _ => ⟨fun _ => rfl, fun w => absurd w (by decide), fun w => absurd w (by decide)⟩
theorem vO.timer (h : vO T r s) {e : Nat} (he : e < 2) : vK T (vC (aTimer e s)) (aTimer e s) := by
  have hf := h.fail he
  unfold aTimer
  split
  · split
    · rw [hf.cr]; exact hf.2
    · exact hf.fall
  · rw [h.cr]; exact h.2
theorem vO.rise (h : vO T r s) : vO T ((aRise s).1 3) (aRise s) := by
  unfold aRise
  split
  · refine ⟨⟨h.1.1, rfl, ?_⟩, ?_⟩
    · show 0 ≤ s.1 3 + 1
      have := h.1.2.1
      have := h.1.2.2
      omega
    · have h3 := h.1.2.1
      have hr := h.1.2.2
      have ec : vC (aN (aN (aN s 3 (s.1 3 + 1)) 9 0) 50 (s.1 50 + 1)) = s.1 3 + 1 := by
        unfold vC
        have e1 : (aN (aN (aN s 3 (s.1 3 + 1)) 9 0) 50 (s.1 50 + 1)).1 1 = s.1 1 := rfl
        have e3 : (aN (aN (aN s 3 (s.1 3 + 1)) 9 0) 50 (s.1 50 + 1)).1 3 = s.1 3 + 1 := rfl
        rw [e1, e3, if_pos h.1.1]
      show vK T (s.1 3 + 1) (aTell 3 (-1) (aN (aN (aN s 3 (s.1 3 + 1)) 9 0) 50 (s.1 50 + 1)))
      exact vK.tell (c := r) (((h.2.N (j := 3) (by unfold vIx; omega) _).N (j := 9) (by unfold vIx; omega) _).N (j := 50) (by unfold vIx; omega) _) ec ⟨fun w => by omega, fun w => by omega⟩ fun _ => ⟨fun w => absurd w (by decide), fun _ => by omega, fun w => absurd w (by decide)⟩
  · rw [h.1.2.1]; exact h
/-- sending -/
theorem vK.launch (h : vK T c s) {e : Nat} (he : e < 2) (num : Int) {b : List Int} (hb : 1 ≤ b.length) : vK T c (aLaunch e num b s) := by
  obtain ⟨h0, ⟨n1, n2, n3, n4⟩, h2, h3⟩ := h
  have sc := aLaunch_sc e num b s
  have e45 : (aLaunch e num b s).1 45 = s.1 45 + 1 := by
    unfold aLaunch; rw [aN_1, if_neg (by omega), aN_1, if_neg (by omega), aN_1, if_pos rfl]
  have e46 : (aLaunch e num b s).1 46 = s.1 46 + aBad s := by
    unfold aLaunch; rw [aN_1, if_neg (by omega), aN_1, if_pos rfl]
  have e54 : (aLaunch e num b s).1 54 = s.1 54 + aCost e b s := by
    unfold aLaunch; rw [aN_1, if_pos rfl]
  have hb1 := aBad_01 s
  have hc := aCost_le e b s
  have hev : ((aLaunch e num b s).2.2 1490) = (s.2.2 1490) := aLaunch_F e num b s 1490 (by omega)
  refine ⟨by rw [sc 0 (by omega) (by omega) (by omega) (by omega) (by omega), h0], ?_, by rw [hev]; exact h2, fun e' he' f hf => ?_⟩
  · unfold vNum
    rw [e45, e46, e54, sc 60 (by omega) (by omega) (by omega) (by omega) (by omega), sc 777 (by omega) (by omega) (by omega) (by omega) (by omega), sc 55 (by omega) (by omega) (by omega) (by omega) (by omega), sc 53 (by omega) (by omega) (by omega) (by omega) (by omega), sc 51 (by omega) (by omega) (by omega) (by omega) (by omega), sc 52 (by omega) (by omega) (by omega) (by omega) (by omega), sc 1 (by omega) (by omega) (by omega) (by omega) (by omega)]
    exact ⟨n1, by omega, by omega, n4⟩
  · have : ((aLaunch e num b s).2.2 (56 + 717 * e' + 26)) = (s.2.2 (56 + 717 * e' + 26)) := aLaunch_F e num b s _ (by omega)
    rw [this] at hf
    exact h3 e' he' f hf
theorem set12_1 (f : List Int) (x y : Int) (h : 1 < f.length) : ((f.set 1 x).set 2 y).getD 1 0 = x := by
  rw [List.getD_eq_getElem?_getD, List.getElem?_set_ne (by omega), List.getElem?_set_self h]
  rfl
theorem vK.again {B : Int} (h : vK T c s) (hi : aI B s) {e p : Nat} (he : e < 2) (hp : p < ((s.2.2 (56 + 717 * e + 26))).length) : vK T c (aAgain e p s) := by
  have hm : ((s.2.2 (56 + 717 * e + 26))).getD p [] ∈ (s.2.2 (56 + 717 * e + 26)) := by
    rw [List.getD_eq_getElem?_getD, List.getElem?_eq_getElem hp]
    exact List.getElem_mem hp
  obtain ⟨⟨l1, l2⟩, -⟩ := (hi.2.2.2.1 e he).1.2.1 _ hm
  have k := h.launch he ((((s.2.2 (56 + 717 * e + 26))).getD p []).getD 0 0) (b := (((s.2.2 (56 + 717 * e + 26))).getD p []).drop 3) (by rw [List.length_drop]; omega)
  unfold aAgain
  refine k.Fr he fun f hf => ?_
  rcases List.mem_or_eq_of_mem_set hf with q | q
  · exact h.2.2.2 e he f q
  · rw [q, set12_1 _ _ _ (by omega), h.1]
    exact Int.le_refl _
theorem vK.new (h : vK T c s) {e : Nat} (he : e < 2) (hq : ((s.2.1 (56 + 717 * e + 117))).length ≠ 0) : vK T c (aNew e s) := by
  have k := h.launch he (s.1 ((56 + 717 * e) + 2)) (b := ((s.2.1 (56 + 717 * e + 117))).take 8) (by rw [List.length_take]; omega)
  unfold aNew
  refine vK.L (vK.Fr (vK.N k (j := (56 + 717 * e) + 2) (by unfold vIx; omega) _) he fun f hf => ?_) _ _
  rcases List.mem_append.mp hf with q | q
  · exact h.2.2.2 e he f q
  · rw [List.mem_singleton.mp q, ← h.1]
    exact Int.le_refl _
theorem vK.step {B : Int} (h : vK T c s) (hi : aI B s) {e : Nat} (he : e < 2) (ht : aStep e s = some t) : vK T c t := by
  unfold aStep at ht
  split at ht
  · rename_i w
    split at ht
    · cases ht
    · cases ht
      exact h.again hi he w
  · split at ht
    · cases ht
    · rename_i w
      cases ht
      exact h.new he fun q => w (Or.inl q)
theorem vK.loop {e : Nat} (he : e < 2) : ∀ (k : Nat) {B : Int} {s : aS}, vK T c s → aI B s → 1 ≤ B → vK T c (aLoop e k s)
  | 0, _, _, h, _, _ => h
  | k + 1, B, s, h, hi, h1 => by
    cases ht : aStep e s with
    | none =>
      have : aLoop e (k + 1) s = s := by
        show (match aStep e s with | none => s | some t => aLoop e k t) = s
        rw [ht]
      rw [this]; exact h
    | some t =>
      have : aLoop e (k + 1) s = aLoop e k t := by
        show (match aStep e s with | none => s | some t => aLoop e k t) = _
        rw [ht]
      rw [this]
      exact vK.loop he k (h.step hi he ht) (hi.step he ht h1).1 (by omega)
theorem vK.send {B : Int} (h : vK T c s) (hi : aI B s) (h1 : 108 ≤ B) {e : Nat} (he : e < 2) : vK T c (aSend e s) := by
  have k : vK T c (aCred e s) := by
    unfold aCred
    exact h.N (by unfold vIx; omega) _
  unfold aSend
  split
  · exact vK.loop he 120 k (hi.cred he h1) (by omega)
  · exact k
theorem vK.phr (h : vK T c s) (h2 : s.1 1 = 2) (h3 : 0 ≤ s.1 3) (hc : c = vC s) : vO T (s.1 3) s := by
  refine ⟨⟨h2, rfl, h3⟩, ?_⟩
  have : c = s.1 3 := by
    rw [hc]
    unfold vC
    rw [if_pos h2]
  rw [← this]
  exact h
/-- the phase and the rate stay -/
theorem aLaunch_13 {e : Nat} (he : e < 2) (num : Int) (b : List Int) (s : aS) {j : Nat} (hj : j < 10 ∨ (11 ≤ j ∧ j < 45)) : (aLaunch e num b s).1 j = s.1 j := aLaunch_sc e num b s j (by omega) (by omega) (by omega) (by omega) (by omega)
theorem aStep_13 {e : Nat} (he : e < 2) (ht : aStep e s = some t) {j : Nat} (hj : j < 10 ∨ (11 ≤ j ∧ j < 45)) : t.1 j = s.1 j := by
  unfold aStep at ht
  split at ht
  · split at ht
    · cases ht
    · cases ht
      unfold aAgain
      exact aLaunch_13 he _ _ _ hj
  · split at ht
    · cases ht
    · cases ht
      unfold aNew
      show (aN _ _ _).1 j = _
      rw [aN_1, if_neg (by omega)]
      exact aLaunch_13 he _ _ _ hj
theorem aLoop_13 {e : Nat} (he : e < 2) {j : Nat} (hj : j < 10 ∨ (11 ≤ j ∧ j < 45)) : ∀ (k : Nat) (s : aS), (aLoop e k s).1 j = s.1 j
  | 0, _ => rfl
  | k + 1, s => by
    cases ht : aStep e s with
    | none =>
      show (match aStep e s with | none => s | some t => aLoop e k t).1 j = _
      rw [ht]
    | some t =>
      show (match aStep e s with | none => s | some t => aLoop e k t).1 j = _
      rw [ht]
      show (aLoop e k t).1 j = _
      rw [aLoop_13 he hj k t, aStep_13 he ht hj]
theorem aSend_13 {e : Nat} (he : e < 2) {j : Nat} (hj : j < 10 ∨ (11 ≤ j ∧ j < 45)) (s : aS) : (aSend e s).1 j = s.1 j := by
  have k : (aCred e s).1 j = s.1 j := by
    unfold aCred
    rw [aN_1, if_neg (by omega)]
  unfold aSend
  split
  · rw [aLoop_13 he hj, k]
  · exact k
theorem vC.send {e : Nat} (he : e < 2) (s : aS) : vC (aSend e s) = vC s := by
  unfold vC
  rw [aSend_13 he (by omega), aSend_13 he (by omega)]
theorem vK.out {B : Int} (h : vK T c s) (hc : c = vC s) (hi : aI B s) (h1 : 108 ≤ B) : vK T (vC (aOut s)) (aOut s) := by
  unfold aOut
  by_cases hp : s.1 1 = 2
  · rw [if_pos hp]
    have h2 := (h.phr hp hi.1.2.2.2.1.1 hc).rise
    have i1 := hi.rise (by omega)
    have k0 := h2.2.send i1 (by omega) (e := 0) (by omega)
    have k1 := vK.send k0 (i1.send (e := 0) (by omega) (by omega)).1 (by omega) (e := 1) (by omega)
    rw [vC.send (by omega), vC.send (by omega), h2.cr]
    exact k1
  · rw [if_neg hp, ← hc]; exact h
theorem vK.lose (h : vK T c s) (hp : s.1 1 = 2) : vK T (vC (aLose s)) (aLose s) := by
  obtain ⟨h0, ⟨n1, n2, n3, n4⟩, h2, h3⟩ := h
  rw [if_pos hp] at n4
  have e0 : ∀ j, j ≠ 1 → j ≠ 7 → j ≠ 51 → (aN (aF (aN (aN s 1 3) 7 1) 1730 []) 51 (s.1 51 + 1)).1 j = s.1 j := fun j a b d => by
    rw [aN_1, if_neg d, aF_1, aN_1, if_neg b, aN_1, if_neg a]
  have k0 : vK T c (aN (aF (aN (aN s 1 3) 7 1) 1730 []) 51 (s.1 51 + 1)) := by
    refine ⟨by rw [e0 0 (by omega) (by omega) (by omega), h0], ?_, h2, ((h3.of (t := aN (aN s 1 3) 7 1) rfl).F (Or.inr rfl) []).of rfl⟩
    unfold vNum
    rw [e0 60 (by omega) (by omega) (by omega), e0 777 (by omega) (by omega) (by omega), e0 55 (by omega) (by omega) (by omega), e0 46 (by omega) (by omega) (by omega), e0 45 (by omega) (by omega) (by omega), e0 54 (by omega) (by omega) (by omega), e0 53 (by omega) (by omega) (by omega), e0 52 (by omega) (by omega) (by omega)]
    have e51 : (aN (aF (aN (aN s 1 3) 7 1) 1730 []) 51 (s.1 51 + 1)).1 51 = s.1 51 + 1 := rfl
    have e1 : (aN (aF (aN (aN s 1 3) 7 1) 1730 []) 51 (s.1 51 + 1)).1 1 = 3 := rfl
    rw [e51, e1, if_neg (by omega)]
    exact ⟨n1, n2, n3, by omega⟩
  have ec : vC (aN (aF (aN (aN s 1 3) 7 1) 1730 []) 51 (s.1 51 + 1)) = -1 := rfl
  have k1 : vK T (-1) (aTell 4 (-1) (aN (aF (aN (aN s 1 3) 7 1) 1730 []) 51 (s.1 51 + 1))) := vK.tell k0 ec ⟨fun _ => by decide, fun _ => Or.inl rfl⟩ fun _ => ⟨fun w => absurd w (by decide), fun w => absurd w (by decide), fun w => absurd w (by decide)⟩
  unfold aLose
  show vK T (vC (if (aTell 4 (-1) (aN (aF (aN (aN s 1 3) 7 1) 1730 []) 51 (s.1 51 + 1))).1 13 = 0 then aHang (aTell 4 (-1) (aN (aF (aN (aN s 1 3) 7 1) 1730 []) 51 (s.1 51 + 1))) else aTell 4 (-1) (aN (aF (aN (aN s 1 3) 7 1) 1730 []) 51 (s.1 51 + 1)))) (if (aTell 4 (-1) (aN (aF (aN (aN s 1 3) 7 1) 1730 []) 51 (s.1 51 + 1))).1 13 = 0 then aHang (aTell 4 (-1) (aN (aF (aN (aN s 1 3) 7 1) 1730 []) 51 (s.1 51 + 1))) else aTell 4 (-1) (aN (aF (aN (aN s 1 3) 7 1) 1730 []) 51 (s.1 51 + 1)))
  split
  · rw [vC.hang]; exact k1.hang
  · exact k1
theorem vK.live {B : Int} (h : vK T c s) (hc : c = vC s) (hp : s.1 1 = 2) (hi : aI B s) (h1 : 108 ≤ B) (hf : ((s.2.2 1730)).length ≤ 150) : vK T (vC (aLive s)) (aLive s) := by
  unfold aLive
  split
  · exact h.lose hp
  · have o0 := h.phr hp hi.1.2.2.2.1.1 hc
    have o1 := o0.arr hi
    have i1 := (hi.arr (by omega)).1
    have k2 := o1.timer (e := 0) (by omega)
    have i2 := i1.timer (e := 0) (by omega) (by omega)
    show vK T (vC (aOut (if (aTimer 0 (aArr s)).1 1 = 2 then aTimer 1 (aTimer 0 (aArr s)) else aTimer 0 (aArr s)))) (aOut (if (aTimer 0 (aArr s)).1 1 = 2 then aTimer 1 (aTimer 0 (aArr s)) else aTimer 0 (aArr s)))
    split
    · rename_i w
      have o3 := k2.phr w i2.1.2.2.2.1.1 rfl
      exact (o3.timer (e := 1) (by omega)).out rfl (i2.timer (e := 1) (by omega) (by omega)) (by omega)
    · exact k2.out rfl i2 (by omega)
theorem vK.vC3 (h : vK T c s) (hc : c = vC s) (hp : s.1 1 ≠ 2) (hq : t.1 1 ≠ 2) (ht : vK T c t) : vK T (vC t) t := by
  have : vC t = c := by
    rw [hc]
    unfold vC
    rw [if_neg hp, if_neg hq]
  rw [this]; exact ht
theorem vK.N1 (h : vK T c s) (hp : s.1 1 ≠ 2) {x : Int} (hx : x ≠ 2) : vK T c (aN s 1 x) := by
  obtain ⟨h0, ⟨n1, n2, n3, n4⟩, h2, h3⟩ := h
  rw [if_neg hp] at n4
  have e1 : (aN s 1 x).1 1 = x := rfl
  refine ⟨h0, ⟨n1, n2, n3, ?_⟩, h2, h3⟩
  rw [e1, if_neg hx]
  exact n4
theorem vK.train (h : vK T c s) (hc : c = vC s) (hp : s.1 1 = 1) : vK T (vC (aTrain s)) (aTrain s) := by
  have hp2 : s.1 1 ≠ 2 := by omega
  unfold aTrain
  split
  · have k0 : vK T c (aN (aN s 5 (s.1 (21 + (s.1 4).toNat))) 6 (s.1 6 + 1)) := (h.N (j := 5) (by unfold vIx; omega) _).N (j := 6) (by unfold vIx; omega) _
    show vK T (vC (if (aN (aN s 5 (s.1 (21 + (s.1 4).toNat))) 6 (s.1 6 + 1)).1 12 < (aN (aN s 5 (s.1 (21 + (s.1 4).toNat))) 6 (s.1 6 + 1)).1 6 then aHang (aN (aN s 5 (s.1 (21 + (s.1 4).toNat))) 6 (s.1 6 + 1)) else (aN (aN s 5 (s.1 (21 + (s.1 4).toNat))) 6 (s.1 6 + 1)))) (if (aN (aN s 5 (s.1 (21 + (s.1 4).toNat))) 6 (s.1 6 + 1)).1 12 < (aN (aN s 5 (s.1 (21 + (s.1 4).toNat))) 6 (s.1 6 + 1)).1 6 then aHang (aN (aN s 5 (s.1 (21 + (s.1 4).toNat))) 6 (s.1 6 + 1)) else (aN (aN s 5 (s.1 (21 + (s.1 4).toNat))) 6 (s.1 6 + 1)))
    split
    · rw [vC.hang]; exact k0.hang
    · exact h.vC3 hc hp2 hp2 k0
  · have k0 : vK T c (aN s 5 (s.1 5 - 1)) := h.N (j := 5) (by unfold vIx; omega) _
    show vK T (vC (if 0 < (aN s 5 (s.1 5 - 1)).1 5 then aN s 5 (s.1 5 - 1) else if (aN s 5 (s.1 5 - 1)).1 4 = 3 then aOnline (aN s 5 (s.1 5 - 1)) else aN (aN (aN s 5 (s.1 5 - 1)) 4 ((aN s 5 (s.1 5 - 1)).1 4 + 1)) 5 ((aN s 5 (s.1 5 - 1)).1 (21 + ((aN s 5 (s.1 5 - 1)).1 4 + 1).toNat)))) (if 0 < (aN s 5 (s.1 5 - 1)).1 5 then aN s 5 (s.1 5 - 1) else if (aN s 5 (s.1 5 - 1)).1 4 = 3 then aOnline (aN s 5 (s.1 5 - 1)) else aN (aN (aN s 5 (s.1 5 - 1)) 4 ((aN s 5 (s.1 5 - 1)).1 4 + 1)) 5 ((aN s 5 (s.1 5 - 1)).1 (21 + ((aN s 5 (s.1 5 - 1)).1 4 + 1).toNat)))
    split
    · exact h.vC3 hc hp2 hp2 k0
    · split
      · exact vJ.online k0 hp2
      · exact h.vC3 hc hp2 hp2 ((k0.N (j := 4) (by unfold vIx; omega) _).N (j := 5) (by unfold vIx; omega) _)
theorem vK.wait (h : vK T c s) (hc : c = vC s) (hp : s.1 1 = 3) : vK T (vC (aWait s)) (aWait s) := by
  have hp2 : s.1 1 ≠ 2 := by omega
  unfold aWait
  split
  · exact h.vC3 hc hp2 (t := aN (aN (aN (aN s 1 1) 4 2) 5 (s.1 23)) 6 0) (by show ¬ (1 : Int) = 2; decide) ((((h.N1 hp2 (x := 1) (by decide)).N (j := 4) (by unfold vIx; omega) _).N (j := 5) (by unfold vIx; omega) _).N (j := 6) (by unfold vIx; omega) _)
  · have k0 : vK T c (aN s 7 (s.1 7 + 1)) := h.N (j := 7) (by unfold vIx; omega) _
    show vK T (vC (if (aN s 7 (s.1 7 + 1)).1 13 < (aN s 7 (s.1 7 + 1)).1 7 then aHang (aN s 7 (s.1 7 + 1)) else aN s 7 (s.1 7 + 1))) (if (aN s 7 (s.1 7 + 1)).1 13 < (aN s 7 (s.1 7 + 1)).1 7 then aHang (aN s 7 (s.1 7 + 1)) else aN s 7 (s.1 7 + 1))
    split
    · rw [vC.hang]; exact k0.hang
    · exact h.vC3 hc hp2 hp2 k0
/-- between ticks -/
def vB (s : aS) : Prop := vNum s ∧ vEv (s.1 0) (vC s) ((s.2.2 1490)) ∧ vFr (s.1 0 - 1) s
theorem vEv.le {T' : Int} {l : List (List Int)} (h : vEv T c l) (hT : T ≤ T') : vEv T' c l := ⟨h.1, h.2.1, fun p hp => ⟨Int.le_trans (h.2.2 p hp).1 hT, (h.2.2 p hp).2⟩⟩
theorem vB.k (h : vB s) : vK (s.1 0) (vC s) s := ⟨rfl, h.1, h.2.1, fun e he f hf => by have := h.2.2 e he f hf; omega⟩
theorem vB.tick {B : Int} (h : vB s) (hi : aI B s) (h1 : 108 ≤ B) (hf : ((s.2.2 1730)).length ≤ 150) : vB (aTick s) := by
  have k : vK (s.1 0) (vC (aDo s)) (aDo s) := by
    unfold aDo
    split
    · exact h.k.train rfl (by assumption)
    · split
      · exact h.k.wait rfl (by assumption)
      · split
        · exact h.k.live rfl (by assumption) hi h1 hf
        · exact h.k
  obtain ⟨g0, g1, g2, g3⟩ := k
  have e0 : (aTick s).1 0 = s.1 0 + 1 := by
    unfold aTick
    rw [aN_1, if_pos rfl, g0]
  have en : ∀ j, j ≠ 0 → (aTick s).1 j = (aDo s).1 j := fun j hj => by
    unfold aTick
    rw [aN_1, if_neg hj]
  have ec : vC (aTick s) = vC (aDo s) := by
    unfold vC
    rw [en 1 (by omega), en 3 (by omega)]
  have e2 : (aTick s).2 = (aDo s).2 := rfl
  refine ⟨?_, ?_, ?_⟩
  · unfold vNum
    rw [en 60 (by omega), en 777 (by omega), en 55 (by omega), en 46 (by omega), en 45 (by omega), en 54 (by omega), en 53 (by omega), en 51 (by omega), en 52 (by omega), en 1 (by omega)]
    exact g1
  · rw [e0, ec]
    have : ((aTick s).2.2 1490) = ((aDo s).2.2 1490) := rfl
    rw [this]
    exact g2.le (by omega)
  · rw [e0, show s.1 0 + 1 - 1 = s.1 0 by omega]
    exact g3.of rfl
end

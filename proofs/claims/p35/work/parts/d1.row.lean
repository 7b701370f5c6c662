/-! ===== the reference's row is a state ===== -/
/-- places of single numbers -/
def aIx (j : Nat) : Prop := j < 10 ∨ (11 ≤ j ∧ j < 56 ∧ j ≠ 20) ∨ ((58 ≤ j ∧ j ≤ 62) ∨ j = 65) ∨ ((775 ≤ j ∧ j ≤ 779) ∨ j = 782)
def rL (N : Nat → Int) (c b m : Nat) (l : List Int) : Prop := l.length ≤ m ∧ N c = (l.length : Int) ∧ ∀ i, i < l.length → N (b + i) = l.getD i 0
def rF (N : Nat → Int) (b : Nat) (f : List Int) : Prop := (4 ≤ f.length ∧ f.length ≤ 11) ∧ N b = f.getD 0 0 ∧ N (b + 1) = (f.length : Int) - 3 ∧ N (b + 2) = f.getD 1 0 ∧ N (b + 3) = f.getD 2 0 ∧ ∀ j, j + 3 < f.length → N (b + 4 + j) = f.getD (3 + j) 0
def rY (N : Nat → Int) (b : Nat) (it : List Int) : Prop := it.length ≤ 14 ∧ N b = it.getD 0 0 ∧ N (b + 1) = it.getD 1 0 ∧ N (b + 2) = it.getD 2 0 ∧ N (b + 3) = it.getD 3 0 ∧ (it.getD 1 0 = 0 → N (b + 4) = (it.length : Int) - 6 ∧ N (b + 5) = it.getD 4 0 ∧ N (b + 6) = it.getD 5 0 ∧ ∀ j, j + 6 < it.length → N (b + 7 + j) = it.getD (6 + j) 0)
def rFs (N : Nat → Int) (o : Nat) (l : List (List Int)) : Prop := l.length ≤ 7 ∧ N (o + 1) = (l.length : Int) ∧ ∀ p, p < l.length → rF N (o + 26 + 13 * p) (l.getD p [])
def rE (N : Nat → Int) (s : aS) (e : Nat) : Prop := (rL N ((56 + 717 * e)) ((56 + 717 * e) + 117) 200 ((s.2.1 (56 + 717 * e + 117))) ∧ rL N ((56 + 717 * e) + 7) ((56 + 717 * e) + 10) 8 ((s.2.1 (56 + 717 * e + 10))) ∧ rL N ((56 + 717 * e) + 8) ((56 + 717 * e) + 18) 8 ((s.2.1 (56 + 717 * e + 18)))) ∧ (((s.2.1 (56 + 717 * e + 317))).length ≤ 400 ∧ ∀ i, i < ((s.2.1 (56 + 717 * e + 317))).length → N ((56 + 717 * e) + 317 + i) = ((s.2.1 (56 + 717 * e + 317))).getD i 0) ∧ rFs N ((56 + 717 * e)) ((s.2.2 (56 + 717 * e + 26)))
def rFl (N : Nat → Int) (l : List (List Int)) : Prop := l.length ≤ 120 ∧ N 20 = (l.length : Int) ∧ ∀ p, p < l.length → rY N (1730 + 15 * p) (l.getD p [])
def rEv (N : Nat → Int) (l : List (List Int)) : Prop := l.length ≤ 60 ∧ N 10 = (l.length : Int) ∧ ∀ p w, p < l.length → w < 4 → N (1490 + 4 * p + w) = (l.getD p []).getD w 0
def RA (N : Nat → Int) (s : aS) : Prop := (∀ j, aIx j → N j = s.1 j) ∧ (∀ e, e < 2 → rE N s e) ∧ rFl N ((s.2.2 1730)) ∧ rEv N ((s.2.2 1490))
section
variable {N N' : Nat → Int} {s : aS}
theorem rL.cg {c b m : Nat} {l : List Int} (h : rL N c b m l) (hc : N' c = N c) (hb : ∀ i, b ≤ i → i < b + m → N' i = N i) : rL N' c b m l := ⟨h.1, by rw [hc, h.2.1], fun i hi => by have := h.1; rw [hb _ (by omega) (by omega), h.2.2 i hi]⟩
theorem rF.cg {b : Nat} {f : List Int} (h : rF N b f) (hb : ∀ i, b ≤ i → i < b + 13 → N' i = N i) : rF N' b f := by
  obtain ⟨⟨h0, h0'⟩, h1, h2, h3, h4, h5⟩ := h
  exact ⟨⟨h0, h0'⟩, by rw [hb _ (by omega) (by omega), h1], by rw [hb _ (by omega) (by omega), h2], by rw [hb _ (by omega) (by omega), h3], by rw [hb _ (by omega) (by omega), h4], fun j hj => by rw [hb _ (by omega) (by omega), h5 j hj]⟩
theorem rY.cg {b : Nat} {f : List Int} (h : rY N b f) (hb : ∀ i, b ≤ i → i < b + 15 → N' i = N i) : rY N' b f := by
  obtain ⟨h0, h1, h2, h3, h4, h5⟩ := h
  refine ⟨h0, by rw [hb _ (by omega) (by omega), h1], by rw [hb _ (by omega) (by omega), h2], by rw [hb _ (by omega) (by omega), h3], by rw [hb _ (by omega) (by omega), h4], fun w => ?_⟩
  obtain ⟨g1, g2, g3, g4⟩ := h5 w
  exact ⟨by rw [hb _ (by omega) (by omega), g1], by rw [hb _ (by omega) (by omega), g2], by rw [hb _ (by omega) (by omega), g3], fun j hj => by rw [hb _ (by omega) (by omega), g4 j hj]⟩
theorem rF.mv {b b' : Nat} {f : List Int} (h : rF N b f) (hb : ∀ i, i < 13 → N' (b' + i) = N (b + i)) : rF N' b' f := by
  obtain ⟨⟨h0, h0'⟩, h1, h2, h3, h4, h5⟩ := h
  exact ⟨⟨h0, h0'⟩, by have := hb 0 (by omega); rw [Nat.add_zero, Nat.add_zero] at this; rw [this, h1], by rw [hb 1 (by omega), h2], by rw [hb 2 (by omega), h3], by rw [hb 3 (by omega), h4], fun j hj => by rw [Nat.add_assoc, hb (4 + j) (by omega), ← Nat.add_assoc, h5 j hj]⟩
theorem rY.mv {b b' : Nat} {f : List Int} (h : rY N b f) (hb : ∀ i, i < 15 → N' (b' + i) = N (b + i)) : rY N' b' f := by
  obtain ⟨h0, h1, h2, h3, h4, h5⟩ := h
  refine ⟨h0, by have := hb 0 (by omega); rw [Nat.add_zero, Nat.add_zero] at this; rw [this, h1], by rw [hb 1 (by omega), h2], by rw [hb 2 (by omega), h3], by rw [hb 3 (by omega), h4], fun w => ?_⟩
  obtain ⟨g1, g2, g3, g4⟩ := h5 w
  exact ⟨by rw [hb 4 (by omega), g1], by rw [hb 5 (by omega), g2], by rw [hb 6 (by omega), g3], fun j hj => by rw [Nat.add_assoc, hb (7 + j) (by omega), ← Nat.add_assoc, g4 j hj]⟩
theorem rFs.cg {o : Nat} {l : List (List Int)} (h : rFs N o l) (h1 : N' (o + 1) = N (o + 1)) (hb : ∀ i, o + 26 ≤ i → i < o + 117 → N' i = N i) : rFs N' o l := by
  obtain ⟨a1, a2, a3⟩ := h
  exact ⟨a1, by rw [h1, a2], fun p hp => (a3 p hp).cg fun i i1 i2 => hb i (by omega) (by omega)⟩
theorem rE.cg {e : Nat} (h : rE N s e) (hb : ∀ i, (56 + 717 * e) ≤ i → i < (56 + 717 * e) + 717 → i ≠ (56 + 717 * e) + 2 → i ≠ (56 + 717 * e) + 3 → i ≠ (56 + 717 * e) + 4 → i ≠ (56 + 717 * e) + 5 → i ≠ (56 + 717 * e) + 6 → i ≠ (56 + 717 * e) + 9 → N' i = N i) : rE N' s e := by
  obtain ⟨⟨a1, a2, a3⟩, ⟨a4, a5⟩, a6⟩ := h
  refine ⟨⟨a1.cg (hb _ (by omega) (by omega) (by omega) (by omega) (by omega) (by omega) (by omega) (by omega)) (fun i i1 i2 => hb _ (by omega) (by omega) (by omega) (by omega) (by omega) (by omega) (by omega) (by omega)), a2.cg (hb _ (by omega) (by omega) (by omega) (by omega) (by omega) (by omega) (by omega) (by omega)) (fun i i1 i2 => hb _ (by omega) (by omega) (by omega) (by omega) (by omega) (by omega) (by omega) (by omega)), a3.cg (hb _ (by omega) (by omega) (by omega) (by omega) (by omega) (by omega) (by omega) (by omega)) (fun i i1 i2 => hb _ (by omega) (by omega) (by omega) (by omega) (by omega) (by omega) (by omega) (by omega))⟩, ⟨a4, fun i hi => by rw [hb _ (by omega) (by omega) (by omega) (by omega) (by omega) (by omega) (by omega) (by omega), a5 i hi]⟩, a6.cg (hb _ (by omega) (by omega) (by omega) (by omega) (by omega) (by omega) (by omega) (by omega)) (fun i i1 i2 => hb _ (by omega) (by omega) (by omega) (by omega) (by omega) (by omega) (by omega) (by omega))⟩
theorem rE.other {e : Nat} {t : aS} (h : rE N s e) (h2 : ∀ j, (j = (56 + 717 * e) + 117 ∨ j = (56 + 717 * e) + 317 ∨ j = (56 + 717 * e) + 10 ∨ j = (56 + 717 * e) + 18) → t.2.1 j = s.2.1 j) (h3 : t.2.2 ((56 + 717 * e) + 26) = s.2.2 ((56 + 717 * e) + 26)) : rE N t e := by
  unfold rE
  rw [h2 _ (Or.inl rfl), h2 _ (Or.inr (Or.inl rfl)), h2 _ (Or.inr (Or.inr (Or.inl rfl))), h2 _ (Or.inr (Or.inr (Or.inr rfl))), h3]
  exact h
theorem rFl.cg {l : List (List Int)} (h : rFl N l) (h1 : N' 20 = N 20) (hb : ∀ i, 1730 ≤ i → i < 3530 → N' i = N i) : rFl N' l := by
  obtain ⟨a1, a2, a3⟩ := h
  exact ⟨a1, by rw [h1, a2], fun p hp => (a3 p hp).cg fun i i1 i2 => hb i (by omega) (by omega)⟩
theorem rEv.cg {l : List (List Int)} (h : rEv N l) (h1 : N' 10 = N 10) (hb : ∀ i, 1490 ≤ i → i < 1730 → N' i = N i) : rEv N' l := by
  obtain ⟨a1, a2, a3⟩ := h
  exact ⟨a1, by rw [h1, a2], fun p w hp hw => by rw [hb _ (by omega) (by omega), a3 p w hp hw]⟩
theorem RA.cg (h : RA N s) (hb : ∀ i, i < 3530 → N' i = N i) : RA N' s := by
  obtain ⟨a1, a2, a3, a4⟩ := h
  exact ⟨fun j hj => by rw [hb j (by unfold aIx at hj; omega), a1 j hj], fun e he => (a2 e he).cg fun i i1 i2 _ _ _ _ _ _ => hb i (by omega), a3.cg (hb _ (by omega)) fun i i1 i2 => hb i (by omega), a4.cg (hb _ (by omega)) fun i i1 i2 => hb i (by omega)⟩
/-- a single number -/
theorem RA.num (h : RA N s) {j : Nat} (hj : aIx j) (x : Int) : RA (xup N j x) (aN s j x) := by
  obtain ⟨a1, a2, a3, a4⟩ := h
  unfold aIx at hj
  have e : ∀ i, i ≠ j → xup N j x i = N i := fun i hi => by unfold xup; rw [if_neg hi]
  refine ⟨fun i hi => ?_, fun e' he => (a2 e' he).cg fun i i1 i2 i3 i4 i5 i6 i7 i8 => e i (by omega), a3.cg (e _ (by omega)) fun i i1 i2 => e i (by omega), a4.cg (e _ (by omega)) fun i i1 i2 => e i (by omega)⟩
  rw [aN_1]
  unfold xup
  by_cases c : i = j
  · rw [if_pos c, if_pos c]
  · rw [if_neg c, if_neg c]; exact a1 i hi
theorem RA.n (h : RA N s) (j : Nat) (hj : aIx j) : N j = s.1 j := h.1 j hj
/-- one event more -/
theorem r_tell {M : xM} (h : RA (M 1) s) (hp : 0 ≤ s.1 1 ∧ s.1 1 ≤ 3) (k e : Int) : ∃ M' : xM, f_m_tellEvent k e M = some M' ∧ RA (M' 1) (aTell k e s) ∧ ∀ k, k ≠ 1 → M' k = M k := by
  obtain ⟨a1, a2, a3, a4, a5, a6⟩ := h
  have h1 := a1 1 (by unfold aIx; omega)
  have h3 := a1 3 (by unfold aIx; omega)
  have h0 := a1 0 (by unfold aIx; omega)
  obtain ⟨M', m1, m2, m3, m4⟩ := tellEvent_sp k e M ((s.2.2 1490)).length a4 a5 (by rw [h1]; exact hp)
  have er : bEvR (M 1) = if s.1 1 = 2 then s.1 3 else -1 := by unfold bEvR; rw [h1, h3]
  refine ⟨M', m1, ⟨fun j hj => by rw [m3 j (by unfold aIx at hj; omega) (by unfold aIx at hj; omega)]; exact a1 j hj, fun e' he => ((a2 e' he).cg fun i i1 i2 _ _ _ _ _ _ => m3 i (by omega) (by omega)).other (fun _ _ => rfl) (aTell_F k e s _ (by omega)), ?_, ?_⟩, m4⟩
  · rw [aTell_fl]
    exact a3.cg (m3 _ (by omega) (by omega)) fun i i1 i2 => m3 i (by omega) (by omega)
  · unfold aTell
    rw [aF_3, if_pos rfl]
    have key : ∀ (c' sh : Nat) (l : List (List Int)), ((c' = ((s.2.2 1490)).length ∧ sh = 0 ∧ ((s.2.2 1490)).length < 60) ∨ (c' = 59 ∧ sh = 1 ∧ ((s.2.2 1490)).length = 60)) → l.length = c' → (∀ p, p < c' → l.getD p [] = ((s.2.2 1490)).getD (p + sh) []) → rEv (M' 1) (l ++ [[s.1 0, k, e, if s.1 1 = 2 then s.1 3 else -1]]) := fun c' sh l hc hl hg => by
      obtain ⟨t1, t2, t3, t4, t5, t6⟩ := m2 c' sh hc
      refine ⟨by rw [List.length_append, List.length_singleton]; omega, by rw [t1, List.length_append, List.length_singleton, hl], fun p w hp hw => ?_⟩
      rw [List.length_append, List.length_singleton] at hp
      by_cases c : p < c'
      · have e1 : (l ++ [[s.1 0, k, e, if s.1 1 = 2 then s.1 3 else -1]]).getD p [] = ((s.2.2 1490)).getD (p + sh) [] := by
          rw [← hg p c, List.getD_eq_getElem?_getD, List.getElem?_append_left (by omega), List.getD_eq_getElem?_getD]
        rw [e1, t2 p w c hw]
        exact a6 (p + sh) w (by omega) hw
      · have e0 : p = c' := by omega
        subst e0
        have e1 : (l ++ [[s.1 0, k, e, if s.1 1 = 2 then s.1 3 else -1]]).getD p [] = [s.1 0, k, e, if s.1 1 = 2 then s.1 3 else -1] := by
          rw [← hl]
          exact getD_mid _ _ _ _
        rw [e1]
        rcases (by omega : w = 0 ∨ w = 1 ∨ w = 2 ∨ w = 3) with rfl | rfl | rfl | rfl
        · rw [Nat.add_zero, t3, h0]; rfl
        · rw [t4]; rfl
        · rw [t5]; rfl
        · rw [t6, er]; rfl
    by_cases c : ((s.2.2 1490)).length = 60
    · rw [if_pos c]
      exact key 59 1 _ (Or.inr ⟨rfl, rfl, c⟩) (by rw [List.length_drop]; omega) (fun p hp => by rw [List.getD_eq_getElem?_getD, List.getElem?_drop, List.getD_eq_getElem?_getD, Nat.add_comm 1 p])
    · rw [if_neg c]
      exact key ((s.2.2 1490)).length 0 _ (Or.inl ⟨rfl, rfl, by have : ((s.2.2 1490)).length ≤ 60 := a4; omega⟩) rfl (fun p hp => rfl)
theorem RA.fl0 (h : RA N s) : RA (xup N 20 0) (aF s 1730 []) := by
  obtain ⟨a1, a2, a3, a4⟩ := h
  have e : ∀ i, i ≠ 20 → xup N 20 0 i = N i := fun i hi => by unfold xup; rw [if_neg hi]
  refine ⟨fun i hi => by rw [e i (by unfold aIx at hi; omega)]; exact a1 i hi, fun e' he => ((a2 e' he).cg fun i i1 i2 _ _ _ _ _ _ => e i (by omega)).other (fun _ _ => rfl) (by rw [aF_3, if_neg (by omega)]), ?_, ?_⟩
  · rw [aF_3, if_pos rfl]
    exact ⟨Nat.zero_le _, by unfold xup; rw [if_pos rfl]; rfl, fun p hp => absurd hp (Nat.not_lt_zero _)⟩
  · rw [aF_3, if_neg (by omega)]
    exact a4.cg (e _ (by omega)) fun i i1 i2 => e i (by omega)
theorem RA.off (h : RA N s) (e : Nat) (he : e < 2) : RA (xup (xup N ((56 + 717 * e)) 0) ((56 + 717 * e) + 1) 0) (aOff e s) := by
  obtain ⟨a1, a2, a3, a4⟩ := h
  have g : ∀ i, i ≠ (56 + 717 * e) → i ≠ (56 + 717 * e) + 1 → xup (xup N ((56 + 717 * e)) 0) ((56 + 717 * e) + 1) 0 i = N i := fun i h0 h1 => by unfold xup; rw [if_neg h1, if_neg h0]
  unfold aOff
  refine ⟨fun i hi => by rw [g i (by unfold aIx at hi; omega) (by unfold aIx at hi; omega)]; exact a1 i hi, fun e' he' => ?_, ?_, ?_⟩
  · by_cases c : e' = e
    · subst c
      obtain ⟨⟨b1, b2, b3⟩, ⟨b4, b5⟩, b6⟩ := a2 e' he'
      unfold rE
      rw [aF_3, if_pos rfl, aF_2, aL_2, if_pos rfl, aL_2, if_neg (by omega), aL_2, if_neg (by omega), aL_2, if_neg (by omega)]
      refine ⟨⟨⟨Nat.zero_le _, ?_, fun i hi => absurd hi (Nat.not_lt_zero _)⟩, b2.cg (g _ (by omega) (by omega)) (fun i i1 i2 => g _ (by omega) (by omega)), b3.cg (g _ (by omega) (by omega)) (fun i i1 i2 => g _ (by omega) (by omega))⟩, ⟨b4, fun i hi => by rw [g _ (by omega) (by omega), b5 i hi]⟩, Nat.zero_le _, ?_, fun p hp => absurd hp (Nat.not_lt_zero _)⟩
      · unfold xup; rw [if_neg (by omega), if_pos rfl]; rfl
      · unfold xup; rw [if_pos rfl]; rfl
    · exact ((a2 e' he').cg fun i i1 i2 _ _ _ _ _ _ => g i (by omega) (by omega)).other (fun j hj => by rw [aF_2, aL_2, if_neg (by omega)]) (by rw [aF_3, if_neg (by omega), aL_3])
  · rw [aF_3, if_neg (by omega)]
    exact a3.cg (g _ (by omega) (by omega)) fun i i1 i2 => g i (by omega) (by omega)
  · rw [aF_3, if_neg (by omega)]
    exact a4.cg (g _ (by omega) (by omega)) fun i i1 i2 => g i (by omega) (by omega)
theorem r_hang {M : xM} (h : RA (M 1) s) : ∃ M' : xM, f_m_hang M = some M' ∧ RA (M' 1) (aHang s) ∧ ∀ k, k ≠ 1 → M' k = M k := by
  have h1 : RA ((xu (xu M 1 1 0) 1 20 0) 1) (aF (aN s 1 0) 1730 []) := (h.num (j := 1) (by unfold aIx; omega) 0).fl0
  have h2 := (h1.off 0 (by omega)).off 1 (by omega)
  obtain ⟨T, hT⟩ : ∃ T, T = aOff 1 (aOff 0 (aF (aN s 1 0) 1730 [])) := ⟨_, rfl⟩
  rw [← hT] at h2
  have hMM : ∃ M2 : xM, M2 = xu (xu (xu (xu (xu (xu M 1 1 0) 1 20 0) 1 56 0) 1 57 0) 1 773 0) 1 774 0 := ⟨_, rfl⟩
  obtain ⟨M2, hM2⟩ := hMM
  have h3 : RA (M2 1) T := by rw [hM2]; exact h2
  have e1 : M2 1 52 = T.1 52 := h3.n 52 (by unfold aIx; omega)
  have h4 : RA ((xu M2 1 52 (M2 1 52 + 1)) 1) (aN T 52 (T.1 52 + 1)) := by
    rw [e1]
    exact h3.num (j := 52) (by unfold aIx; omega) _
  have hp : (aN T 52 (T.1 52 + 1)).1 1 = 0 := by rw [hT]; rfl
  obtain ⟨M', m1, m2, m3⟩ := r_tell h4 (by rw [hp]; omega) 5 (-1)
  refine ⟨M', ?_, ?_, fun k hk => ?_⟩
  · unfold f_m_hang
    rw [if_pos (by decide), if_pos (by decide)]
    have hh := hang_17 4997 (xu (xu M 1 1 0) 1 20 0)
    have hh' : f_m_hang_17 fu 0 (xu (xu M 1 1 0) 1 20 0) = f_m_hang_50 M2 := by rw [hM2]; exact hh
    rw [hh']
    unfold f_m_hang_50
    rw [if_pos (by decide), if_pos (by decide), m1]
    rfl
  · unfold aHang
    dsimp only
    rw [← hT]
    exact m2
  · rw [m3 k hk, xu_K hk, hM2, xu_K hk, xu_K hk, xu_K hk, xu_K hk, xu_K hk, xu_K hk]
end

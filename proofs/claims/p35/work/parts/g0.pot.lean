/-! ===== the room: a potential over states ===== -/
/-- the greatest age of a frame that isn't to be sent again -/
def pAge (t : Int) : List (List Int) → Int
  | [] => 0
  | f :: l => if f.getD 2 0 = 0 ∧ pAge t l < t - f.getD 1 0 then t - f.getD 1 0 else pAge t l
theorem pAge_nn (t : Int) : ∀ l : List (List Int), 0 ≤ pAge t l
  | [] => Int.le_refl 0
  | f :: l => by
    have ih := pAge_nn t l
    rw [pAge]
    split
    · rename_i h
      omega
    · exact ih
theorem pAge_mem (t : Int) : ∀ {l : List (List Int)} {f : List Int}, f ∈ l → f.getD 2 0 = 0 → t - f.getD 1 0 ≤ pAge t l
  | [], _, h, _ => absurd h List.not_mem_nil
  | g :: l, f, h, h2 => by
    rw [pAge]
    rcases List.mem_cons.mp h with q | q
    · subst q
      by_cases c : pAge t l < t - f.getD 1 0
      · rw [if_pos ⟨h2, c⟩]; exact Int.le_refl _
      · rw [if_neg (fun w => c w.2)]; omega
    · have ih := pAge_mem t q h2
      split
      · rename_i w; omega
      · exact ih
theorem pAge_le {t c : Int} (hc : 0 ≤ c) : ∀ {l : List (List Int)}, (∀ f, f ∈ l → f.getD 2 0 = 0 → t - f.getD 1 0 ≤ c) → pAge t l ≤ c
  | [], _ => hc
  | f :: l, h => by
    have ih := pAge_le hc (l := l) fun g hg => h g (List.mem_cons_of_mem _ hg)
    rw [pAge]
    split
    · rename_i w
      exact h f List.mem_cons_self w.1
    · exact ih
theorem pAge_filter (t : Int) (P : List Int → Bool) (l : List (List Int)) : pAge t (l.filter P) ≤ pAge t l := pAge_le (pAge_nn t l) fun f hf h2 => pAge_mem t (List.mem_filter.mp hf).1 h2
theorem pAge_mark (t : Int) {l : List (List Int)} (h : ∀ f, f ∈ l → 3 ≤ f.length) : pAge t (aMark l) = 0 := by
  have h1 := pAge_nn t (aMark l)
  have h2 : pAge t (aMark l) ≤ 0 := pAge_le (Int.le_refl 0) fun f hf h2 => by
    unfold aMark at hf
    obtain ⟨g, hg, rfl⟩ := List.mem_map.mp hf
    rw [List.getD_eq_getElem?_getD, List.getElem?_set_self (by have := h g hg; omega)] at h2
    exact absurd h2 (by decide)
  omega
theorem pAge_time (t : Int) (l : List (List Int)) : pAge (t + 1) l ≤ pAge t l + 1 := pAge_le (by have := pAge_nn t l; omega) fun f hf h2 => by have := pAge_mem t hf h2; omega
/-- frames to be sent again -/
theorem aCnt_nn (a : Int) : ∀ l : List (List Int), 0 ≤ aCnt a l ∧ aCnt a l ≤ l.length
  | [] => ⟨Int.le_refl 0, Int.le_refl 0⟩
  | f :: l => by
    have ih := aCnt_nn a l
    rw [aCnt, List.length_cons]
    split <;> omega
theorem aCnt_filter (a : Int) (P : List Int → Bool) : ∀ l : List (List Int), aCnt a (l.filter P) ≤ aCnt a l
  | [] => Int.le_refl 0
  | f :: l => by
    have ih := aCnt_filter a P l
    by_cases c : P f = true
    · rw [List.filter_cons_of_pos c, aCnt, aCnt]
      omega
    · rw [List.filter_cons_of_neg c, aCnt]
      split <;> omega
theorem aCnt_mark : ∀ {l : List (List Int)}, (∀ f, f ∈ l → 3 ≤ f.length) → aCnt 1 (aMark l) = l.length
  | [], _ => rfl
  | f :: l, h => by
    have ih := aCnt_mark (l := l) fun g hg => h g (List.mem_cons_of_mem _ hg)
    have e : aMark (f :: l) = f.set 2 1 :: aMark l := rfl
    rw [e, aCnt, ih, if_pos (by rw [List.getD_eq_getElem?_getD, List.getElem?_set_self (by have := h f List.mem_cons_self; omega)]; rfl), List.length_cons]
    omega
theorem aCnt_app (a : Int) (f : List Int) : ∀ l : List (List Int), aCnt a (l ++ [f]) = aCnt a l + if f.getD 2 0 = a then 1 else 0
  | [] => by
    show (if f.getD 2 0 = a then 1 else 0) + 0 = 0 + _
    omega
  | g :: l => by
    have ih := aCnt_app a f l
    rw [List.cons_append, aCnt, aCnt, ih]
    omega
theorem aCnt_set (a : Int) (f : List Int) : ∀ {l : List (List Int)} {p : Nat}, p < l.length → aCnt a (l.set p f) = aCnt a l - (if (l.getD p []).getD 2 0 = a then 1 else 0) + if f.getD 2 0 = a then 1 else 0
  | [], p, h => absurd h (Nat.not_lt_zero p)
  | g :: l, 0, h => by
    show (if f.getD 2 0 = a then 1 else 0) + aCnt a l = (if g.getD 2 0 = a then 1 else 0) + aCnt a l - (if g.getD 2 0 = a then 1 else 0) + _
    omega
  | g :: l, p + 1, h => by
    have ih := aCnt_set a f (l := l) (p := p) (by rw [List.length_cons] at h; omega)
    have e : (g :: l).getD (p + 1) [] = l.getD p [] := rfl
    rw [e]
    show (if g.getD 2 0 = a then 1 else 0) + aCnt a (l.set p f) = (if g.getD 2 0 = a then 1 else 0) + aCnt a l - _ + _
    rw [ih]
    omega
theorem aFst_cnt (a : Int) : ∀ l : List (List Int), aFst a l < l.length ↔ 1 ≤ aCnt a l
  | [] => ⟨fun h => absurd h (Nat.not_lt_zero _), fun h => absurd h (show ¬ (1 : Int) ≤ 0 by decide)⟩
  | f :: l => by
    have ih := aFst_cnt a l
    have nn := (aCnt_nn a l).1
    rw [aFst_cons, aCnt, List.length_cons]
    by_cases c : f.getD 2 0 = a
    · rw [if_pos c, if_pos c]
      exact ⟨fun _ => by omega, fun _ => by omega⟩
    · rw [if_neg c, if_neg c]
      exact ⟨fun w => by have := ih.mp (by omega); omega, fun w => by have := ih.mpr (by omega); omega⟩
/-- what sending frames again will cost -/
def pPs (w mk a n : Int) : Int := if a < 1 then 0 else 138 * a - (if w ≤ n then 64 else 0) - (if mk = 1 then 54 else 0)
theorem pPs_nn (w mk a n : Int) : 0 ≤ pPs w mk a n ∧ (a < 1 → pPs w mk a n = 0) ∧ (1 ≤ a → pPs w mk a n = 138 * a - (if w ≤ n then 64 else 0) - (if mk = 1 then 54 else 0)) := by
  unfold pPs
  refine ⟨?_, fun h => if_pos h, fun h => if_neg (by omega)⟩
  by_cases c : a < 1
  · rw [if_pos c]; exact Int.le_refl _
  · rw [if_neg c]
    split <;> split <;> omega
def pH (pt x : Int) : Int := if pt = 1 then (if 1 ≤ x then 8 else 0) else if x < 1 then 0 else if x = 1 then 1 else 8
def pVv (s : aS) : Int := 2 * (4 - s.1 8) + 8 * s.1 3 + pH (s.1 18) (s.1 9)
def pVw (s : aS) : Int := if s.1 18 = 1 then 79 * pVv s else 217 * pVv s
def pCl (q : List Int) : Int := (((q.length + 7) / 8 : Nat) : Int)
def pAcks : List (List Int) → Int
  | [] => 0
  | it :: l => (if it.getD 1 0 = 1 then 1 else 0) + pAcks l
theorem pAcks_nn : ∀ l, 0 ≤ pAcks l
  | [] => Int.le_refl 0
  | it :: l => by
    have := pAcks_nn l
    rw [pAcks]
    split <;> omega
theorem pAcks_app : ∀ l r : List (List Int), pAcks (l ++ r) = pAcks l + pAcks r
  | [], r => by
    show pAcks r = 0 + pAcks r
    omega
  | it :: l, r => by
    have := pAcks_app l r
    rw [List.cons_append, pAcks, pAcks, this]
    omega
theorem pAcks_split (P : List Int → Bool) : ∀ l : List (List Int), pAcks l = pAcks (l.filter P) + pAcks (l.filter fun x => !P x)
  | [] => rfl
  | it :: l => by
    have ih := pAcks_split P l
    cases c : P it with
    | true =>
      rw [List.filter_cons_of_pos c, List.filter_cons_of_neg (by rw [c]; decide), pAcks, pAcks, ih]
      omega
    | false =>
      rw [List.filter_cons_of_neg (by rw [c]; decide), List.filter_cons_of_pos (by rw [c]; decide), pAcks, pAcks, ih]
      omega
def pOn (s : aS) : Int := if s.1 1 = 1 ∨ (s.1 1 = 3 ∧ 0 < s.1 2) then 1 else 0
def pEnd (s : aS) (e : Nat) : Int := pPs (s.1 14) (s.1 ((56 + 717 * e) + 9)) (aCnt 1 ((s.2.2 (56 + 717 * e + 26)))) (((s.2.2 (56 + 717 * e + 26))).length) + 140 * pAge (s.1 0) ((s.2.2 (56 + 717 * e + 26))) + 1667 * (s.1 ((56 + 717 * e) + 2) - s.1 ((56 + 717 * (1 - e)) + 3)) + 1816 * pCl ((s.2.1 (56 + 717 * e + 117)))
def pRest (s : aS) : Int := pVw s + 1592 * pAcks ((s.2.2 1730)) + 8660 * pOn s
def pP (s : aS) : Int := pEnd s 0 + pEnd s 1 + pRest s
def pXe (s : aS) (e : Nat) : Int := 3640 * pCl ((s.2.1 (56 + 717 * e + 117))) + 3340 * (s.1 ((56 + 717 * e) + 2) - s.1 ((56 + 717 * (1 - e)) + 3))
def pX (s : aS) : Int := pXe s 0 + pXe s 1
/-- from s to t: n cells and z slots are made, paid for by what b and d give -/
def pQ (n z : Nat) (b d : Int) (s t : aS) : Prop := ∃ c x : Int, (n : Int) ≤ c ∧ (z : Int) ≤ 9 * c + x ∧ c + pP t ≤ pP s + b ∧ x + pX t ≤ pX s + d
theorem pQ.tr {n z n' z' : Nat} {b d b' d' : Int} {s t u : aS} (h : pQ n z b d s t) (h' : pQ n' z' b' d' t u) : pQ (n + n') (z + z') (b + b') (d + d') s u := by
  obtain ⟨c, x, h1, h2, h3, h4⟩ := h
  obtain ⟨c', x', g1, g2, g3, g4⟩ := h'
  exact ⟨c + c', x + x', by omega, by omega, by omega, by omega⟩
theorem pQ.le {n z n' z' : Nat} {b d b' d' : Int} {s t : aS} (h : pQ n z b d s t) (hn : n' ≤ n) (hz : z' ≤ z) (hb : b ≤ b') (hd : d ≤ d') : pQ n' z' b' d' s t := by
  obtain ⟨c, x, h1, h2, h3, h4⟩ := h
  exact ⟨c, x, by omega, by omega, by omega, by omega⟩
theorem pQ.mk {n z : Nat} {b d : Int} {s t : aS} (c : Int) (h1 : (n : Int) ≤ c) (h2 : (z : Int) ≤ 9 * c) (h3 : c + pP t ≤ pP s + b) (h4 : pX t ≤ pX s + d) : pQ n z b d s t := ⟨c, 0, h1, by omega, h3, by omega⟩
/-- what stays true for it -/
def pI (s : aS) : Prop := ((0 ≤ s.1 8 ∧ s.1 8 ≤ 4) ∧ 0 ≤ s.1 9 ∧ (1 ≤ s.1 9 → s.1 8 = 0) ∧ (s.1 1 = 2 → s.1 8 < s.1 17)) ∧ (s.1 17 ≤ 4 ∧ s.1 11 ≤ 4 ∧ s.1 14 ≤ 7 ∧ (s.1 18 = 1 → s.1 14 ≤ 5)) ∧ ∀ e, e < 2 → (((s.2.2 (56 + 717 * e + 26))).length : Int) ≤ s.1 14
def pI0 (s : aS) : Prop := ((0 ≤ s.1 8 ∧ s.1 8 ≤ 4) ∧ 0 ≤ s.1 9 ∧ (1 ≤ s.1 9 → s.1 8 = 0)) ∧ (s.1 17 ≤ 4 ∧ s.1 11 ≤ 4 ∧ s.1 14 ≤ 7 ∧ (s.1 18 = 1 → s.1 14 ≤ 5)) ∧ ∀ e, e < 2 → (((s.2.2 (56 + 717 * e + 26))).length : Int) ≤ s.1 14
theorem pI.z {s : aS} (h : pI s) : pI0 s := ⟨⟨h.1.1, h.1.2.1, h.1.2.2.1⟩, h.2⟩
def pIx (j : Nat) : Prop := j = 0 ∨ j = 14 ∨ j = 18 ∨ j = 8 ∨ j = 3 ∨ j = 9 ∨ j = 1 ∨ j = 2 ∨ j = 11 ∨ j = 17 ∨ j = 58 ∨ j = 59 ∨ j = 65 ∨ j = 775 ∨ j = 776 ∨ j = 782
theorem pEnd.cg {s t : aS} {e : Nat} (h : ∀ j, (j = 14 ∨ j = (56 + 717 * e) + 9 ∨ j = 0 ∨ j = (56 + 717 * e) + 2 ∨ j = (56 + 717 * (1 - e)) + 3) → t.1 j = s.1 j) (hf : (t.2.2 (56 + 717 * e + 26)) = (s.2.2 (56 + 717 * e + 26))) (hq : (t.2.1 (56 + 717 * e + 117)) = (s.2.1 (56 + 717 * e + 117))) : pEnd t e = pEnd s e := by
  unfold pEnd
  rw [h 14 (by omega), h ((56 + 717 * e) + 9) (by omega), h 0 (by omega), h ((56 + 717 * e) + 2) (by omega), h ((56 + 717 * (1 - e)) + 3) (by omega), hf, hq]
theorem pXe.cg {s t : aS} {e : Nat} (h : ∀ j, (j = (56 + 717 * e) + 2 ∨ j = (56 + 717 * (1 - e)) + 3) → t.1 j = s.1 j) (hq : (t.2.1 (56 + 717 * e + 117)) = (s.2.1 (56 + 717 * e + 117))) : pXe t e = pXe s e := by
  unfold pXe
  rw [h ((56 + 717 * e) + 2) (by omega), h ((56 + 717 * (1 - e)) + 3) (by omega), hq]
theorem pVw.cg {s t : aS} (h : ∀ j, (j = 18 ∨ j = 8 ∨ j = 3 ∨ j = 9) → t.1 j = s.1 j) : pVw t = pVw s := by
  unfold pVw pVv
  rw [h 18 (by omega), h 8 (by omega), h 3 (by omega), h 9 (by omega)]
theorem pOn.cg {s t : aS} (h : ∀ j, (j = 1 ∨ j = 2) → t.1 j = s.1 j) : pOn t = pOn s := by
  unfold pOn
  rw [h 1 (by omega), h 2 (by omega)]
theorem pRest.cg {s t : aS} (h : ∀ j, (j = 18 ∨ j = 8 ∨ j = 3 ∨ j = 9 ∨ j = 1 ∨ j = 2) → t.1 j = s.1 j) (hf : (t.2.2 1730) = (s.2.2 1730)) : pRest t = pRest s := by
  unfold pRest
  rw [pVw.cg fun j hj => h j (by omega), pOn.cg fun j hj => h j (by omega), hf]
theorem pIx_e {e : Nat} (he : e < 2) : pIx ((56 + 717 * e) + 9) ∧ pIx ((56 + 717 * e) + 2) ∧ pIx ((56 + 717 * (1 - e)) + 3) := by
  rcases (by omega : e = 0 ∨ e = 1) with q | q <;> (subst q; unfold pIx; omega)
theorem pP.cg {s t : aS} (h : ∀ j, pIx j → t.1 j = s.1 j) (hf : ∀ e, e < 2 → (t.2.2 (56 + 717 * e + 26)) = (s.2.2 (56 + 717 * e + 26))) (hq : ∀ e, e < 2 → (t.2.1 (56 + 717 * e + 117)) = (s.2.1 (56 + 717 * e + 117))) (hfl : (t.2.2 1730) = (s.2.2 1730)) : pP t = pP s ∧ pX t = pX s := by
  have he : ∀ e, e < 2 → pEnd t e = pEnd s e ∧ pXe t e = pXe s e := fun e he => by
    obtain ⟨i1, i2, i3⟩ := pIx_e he
    have g : ∀ j, (j = 14 ∨ j = (56 + 717 * e) + 9 ∨ j = 0 ∨ j = (56 + 717 * e) + 2 ∨ j = (56 + 717 * (1 - e)) + 3) → t.1 j = s.1 j := fun j hj => by
      rcases hj with q | q | q | q | q
      · exact h j (by unfold pIx; omega)
      · rw [q]; exact h _ i1
      · exact h j (by unfold pIx; omega)
      · rw [q]; exact h _ i2
      · rw [q]; exact h _ i3
    exact ⟨pEnd.cg g (hf e he) (hq e he), pXe.cg (fun j hj => g j (by omega)) (hq e he)⟩
  obtain ⟨a1, a2⟩ := he 0 (by omega)
  obtain ⟨b1, b2⟩ := he 1 (by omega)
  unfold pP pX
  rw [a1, a2, b1, b2, pRest.cg (fun j hj => h j (by unfold pIx; omega)) hfl]
  exact ⟨rfl, rfl⟩
theorem pQ.of {s t : aS} (h : pP t = pP s ∧ pX t = pX s) : pQ 0 0 0 0 s t := ⟨0, 0, by omega, by omega, by omega, by omega⟩
theorem pI.cg {s t : aS} (hi : pI s) (h : ∀ j, pIx j → t.1 j = s.1 j) (hf : ∀ e, e < 2 → (t.2.2 (56 + 717 * e + 26)) = (s.2.2 (56 + 717 * e + 26))) : pI t := by
  unfold pI
  rw [h 8 (by unfold pIx; omega), h 9 (by unfold pIx; omega), h 1 (by unfold pIx; omega), h 17 (by unfold pIx; omega), h 11 (by unfold pIx; omega), h 14 (by unfold pIx; omega), h 18 (by unfold pIx; omega)]
  exact ⟨hi.1, hi.2.1, fun e he => by rw [hf e he]; exact hi.2.2 e he⟩
theorem pVw_nn {s : aS} (hi : pI s) (h3 : 0 ≤ s.1 3) : 0 ≤ pVw s := by
  obtain ⟨⟨⟨a1, a2⟩, -⟩, -⟩ := hi
  have : 0 ≤ pH (s.1 18) (s.1 9) := by
    unfold pH
    split
    · split <;> omega
    · split
      · omega
      · split <;> omega
  have h : 0 ≤ pVv s := by unfold pVv; omega
  unfold pVw
  split <;> omega

/-! ===== what is read of the reference ===== -/
def aSize (s : aS) : Nat → Int
  | 0 => s.1 0
  | 1 => s.1 1
  | 2 => s.1 2
  | 3 => if s.1 1 = 2 then s.1 3 else -1
  | 4 => if s.1 1 = 1 then s.1 4 else -1
  | 5 => if s.1 1 = 1 then s.1 5 else -1
  | 6 => if s.1 1 = 1 then s.1 6 else -1
  | 7 => if s.1 1 = 3 then s.1 7 else -1
  | 8 => if s.1 1 = 2 then s.1 8 else 0
  | 9 => if s.1 1 = 2 then s.1 9 else 0
  | _ => (((s.2.2 1490)).length : Int)
def aCnt (a : Int) : List (List Int) → Int
  | [] => 0
  | f :: t => (if f.getD 2 0 = a then 1 else 0) + aCnt a t
def aEndN (s : aS) (e : Nat) : Nat → Int
  | 0 => (((s.2.1 (56 + 717 * e + 117))).length : Int)
  | 1 => aCnt 0 ((s.2.2 (56 + 717 * e + 26)))
  | 2 => aCnt 1 ((s.2.2 (56 + 717 * e + 26)))
  | 3 => s.1 ((56 + 717 * e) + 2)
  | 4 => s.1 ((56 + 717 * e) + 3)
  | 5 => s.1 ((56 + 717 * e) + 4)
  | 6 => s.1 ((56 + 717 * e) + 5)
  | 7 => s.1 ((56 + 717 * e) + 6)
  | 8 => (((s.2.1 (56 + 717 * e + 10))).length : Int)
  | _ => (((s.2.1 (56 + 717 * e + 18))).length : Int)
def aFrmN (f : List Int) : Nat → Int
  | 0 => f.getD 0 0
  | 1 => (f.length : Int) - 3
  | 2 => f.getD 1 0
  | _ => f.getD 2 0
section
variable {s : aS} {B : Int}
theorem xu06 (M : xM) : (xu M 0 6 0) 1 = M 1 := xu_K (by omega)
theorem drop_D (l : List (List Int)) {p : Nat} (h : p < l.length) : l.drop p = l.getD p [] :: l.drop (p + 1) := by
  rw [List.drop_eq_getElem_cons h, List.getD_eq_getElem?_getD, List.getElem?_eq_getElem h]; rfl
theorem r_size {M : xM} (h : RA (M 1) s) (hi : aI B s) (w : Nat) (hw : w ≤ 10) : f_m_size (w : Int) M = some (aSize s w, xu M 0 6 0) := by
  have h6 : RA ((xu M 0 6 0) 1) s := by rw [xu06]; exact h
  rcases (by omega : w = 0 ∨ w = 1 ∨ w = 2 ∨ w = 3 ∨ w = 4 ∨ w = 5 ∨ w = 6 ∨ w = 7 ∨ w = 8 ∨ w = 9 ∨ w = 10) with rfl | rfl | rfl | rfl | rfl | rfl | rfl | rfl | rfl | rfl | rfl
  · have n := h.n 0 (by unfold aIx; omega)
    unfold f_m_size
    rw [if_pos (by decide), if_pos (by decide)]
    show some (M 1 0, _) = some (s.1 0, _)
    rw [n]
  · have n := h.n 1 (by unfold aIx; omega)
    unfold f_m_size
    rw [if_neg (by decide), if_pos (by decide), if_pos (by decide)]
    show some (M 1 1, _) = some (s.1 1, _)
    rw [n]
  · have n := h.n 2 (by unfold aIx; omega)
    unfold f_m_size
    rw [if_neg (by decide), if_neg (by decide), if_pos (by decide), if_pos (by decide)]
    show some (M 1 2, _) = some (s.1 2, _)
    rw [n]
  · have n := h6.n 3 (by unfold aIx; omega)
    unfold f_m_size f_m_rateNow
    rw [if_neg (by decide), if_neg (by decide), if_neg (by decide), if_pos (by decide), r_phase h6 hi 2 (by omega), Option.bind_some]
    show _ = some ((if s.1 1 = 2 then s.1 3 else -1), _)
    by_cases c : s.1 1 = 2
    · rw [if_pos c, if_pos c, if_neg (by decide), if_pos (by decide), n]; rfl
    · rw [if_neg c, if_neg c, if_pos (by decide)]; rfl
  · have n := h.n 4 (by unfold aIx; omega)
    unfold f_m_size
    rw [if_neg (by decide), if_neg (by decide), if_neg (by decide), if_neg (by decide), if_pos (by decide), r_phase h6 hi 1 (by omega), Option.bind_some]
    show _ = some ((if s.1 1 = 1 then s.1 4 else -1), _)
    by_cases c : s.1 1 = 1
    · rw [if_pos c, if_pos c, if_neg (by decide), if_pos (by decide)]
      show some (M 1 4, _) = some (s.1 4, _)
      rw [n]
    · rw [if_neg c, if_neg c, if_pos (by decide)]
  · have n := h.n 5 (by unfold aIx; omega)
    unfold f_m_size
    rw [if_neg (by decide), if_neg (by decide), if_neg (by decide), if_neg (by decide), if_neg (by decide), if_pos (by decide), r_phase h6 hi 1 (by omega), Option.bind_some]
    show _ = some ((if s.1 1 = 1 then s.1 5 else -1), _)
    by_cases c : s.1 1 = 1
    · rw [if_pos c, if_pos c, if_neg (by decide), if_pos (by decide)]
      show some (M 1 5, _) = some (s.1 5, _)
      rw [n]
    · rw [if_neg c, if_neg c, if_pos (by decide)]
  · have n := h.n 6 (by unfold aIx; omega)
    unfold f_m_size
    rw [if_neg (by decide), if_neg (by decide), if_neg (by decide), if_neg (by decide), if_neg (by decide), if_neg (by decide), if_pos (by decide), r_phase h6 hi 1 (by omega), Option.bind_some]
    show _ = some ((if s.1 1 = 1 then s.1 6 else -1), _)
    by_cases c : s.1 1 = 1
    · rw [if_pos c, if_pos c, if_neg (by decide), if_pos (by decide)]
      show some (M 1 6, _) = some (s.1 6, _)
      rw [n]
    · rw [if_neg c, if_neg c, if_pos (by decide)]
  · have n := h.n 7 (by unfold aIx; omega)
    unfold f_m_size
    rw [if_neg (by decide), if_neg (by decide), if_neg (by decide), if_neg (by decide), if_neg (by decide), if_neg (by decide), if_neg (by decide), if_pos (by decide), r_phase h6 hi 3 (by omega), Option.bind_some]
    show _ = some ((if s.1 1 = 3 then s.1 7 else -1), _)
    by_cases c : s.1 1 = 3
    · rw [if_pos c, if_pos c, if_neg (by decide), if_pos (by decide)]
      show some (M 1 7, _) = some (s.1 7, _)
      rw [n]
    · rw [if_neg c, if_neg c, if_pos (by decide)]
  · have n := h.n 8 (by unfold aIx; omega)
    unfold f_m_size
    rw [if_neg (by decide), if_neg (by decide), if_neg (by decide), if_neg (by decide), if_neg (by decide), if_neg (by decide), if_neg (by decide), if_neg (by decide), if_pos (by decide), r_phase h6 hi 2 (by omega), Option.bind_some]
    show _ = some ((if s.1 1 = 2 then s.1 8 else 0), _)
    by_cases c : s.1 1 = 2
    · rw [if_pos c, if_pos c, if_neg (by decide), if_pos (by decide)]
      show some (M 1 8, _) = some (s.1 8, _)
      rw [n]
    · rw [if_neg c, if_neg c, if_pos (by decide)]
  · have n := h.n 9 (by unfold aIx; omega)
    unfold f_m_size
    rw [if_neg (by decide), if_neg (by decide), if_neg (by decide), if_neg (by decide), if_neg (by decide), if_neg (by decide), if_neg (by decide), if_neg (by decide), if_neg (by decide), if_pos (by decide), r_phase h6 hi 2 (by omega), Option.bind_some]
    show _ = some ((if s.1 1 = 2 then s.1 9 else 0), _)
    by_cases c : s.1 1 = 2
    · rw [if_pos c, if_pos c, if_neg (by decide), if_pos (by decide)]
      show some (M 1 9, _) = some (s.1 9, _)
      rw [n]
    · rw [if_neg c, if_neg c, if_pos (by decide)]
  · have n := h.2.2.2.2.1
    unfold f_m_size
    rw [if_neg (by decide), if_neg (by decide), if_neg (by decide), if_neg (by decide), if_neg (by decide), if_neg (by decide), if_neg (by decide), if_neg (by decide), if_neg (by decide), if_neg (by decide), if_pos (by decide), if_pos (by decide)]
    show some (M 1 10, _) = some ((((s.2.2 1490)).length : Int), _)
    rw [n]
theorem r_inR {v a b : Int} {M : xM} (hv : bI v) (ha : bI a) (hb : bI b) (h : a ≤ v ∧ v ≤ b) : f_m_inRange v a b M = some 1 := by
  rw [m_inR v a b M hv ha hb, if_pos h]
theorem r_inRn {v a b : Int} {M : xM} (hv : bI v) (ha : bI a) (hb : bI b) (h : ¬ (a ≤ v ∧ v ≤ b)) : f_m_inRange v a b M = some 0 := by
  rw [m_inR v a b M hv ha hb, if_neg h]
theorem r_isEnd {e : Nat} (he : e < 2) (M : xM) : f_m_isEnd (e : Int) M = some 1 := by
  unfold f_m_isEnd
  rw [r_inR (v := (e : Int)) (a := 0) (b := 1) (by unfold bI; omega) (by unfold bI; omega) (by unfold bI; omega) (by omega), Option.bind_some, if_pos (by decide)]
theorem r_total {M : xM} (h : RA (M 1) s) (w : Nat) (hw : w ≤ 10) : f_m_total (w : Int) M = some (s.1 (45 + w), xu M 0 6 0) := by
  have n := h.n (45 + w) (by unfold aIx; omega)
  unfold f_m_total
  rw [r_inR (v := (w : Int)) (a := 0) (b := 10) (by unfold bI; omega) (by unfold bI; omega) (by unfold bI; omega) (by omega), Option.bind_some, if_neg (by decide), if_pos (b_ib (by omega)), show xix (45 + (w : Int)) = 45 + w by rw [b_ix (by omega)]; omega, n]
theorem r_count {e : Nat} (he : e < 2) {M : xM} (h : RA (M 1) s) (hi : aI B s) (hB : B ≤ 2000000000) {a : Int} (ha : a = 0 ∨ a = 1) : f_m_countThat (e : Int) a M = some (aCnt a ((s.2.2 (56 + 717 * e + 26)))) := by
  obtain ⟨c1, c2, c3⟩ := (h.2.1 e he).2.2
  have c1' : ((s.2.2 (56 + 717 * e + 26))).length ≤ 7 := c1
  have h0 : 0 ≤ B := by have := hi.2.1.1 0; unfold aB at this; omega
  have key : ∀ (k p n : Nat) (x : Int), p + k = ((s.2.2 (56 + 717 * e + 26))).length → k < n → f_m_countThat_5 (e : Int) a M n x (p : Int) = some (x + aCnt a (((s.2.2 (56 + 717 * e + 26))).drop p)) := by
    intro k
    induction k with
    | zero =>
      intro p n x h1 h2
      obtain ⟨n, rfl⟩ : ∃ z, n = z + 1 := ⟨n - 1, by omega⟩
      rw [f_m_countThat_5, m_of (i := (56 + 717 * e) + 1) M (by omega) (by omega), Option.bind_some, c2, if_neg (by rw [xw_nat (by omega), xw_nat (by omega)]; omega), List.drop_of_length_le (by omega), aCnt, Int.add_zero]
    | succ k ih =>
      intro p n x h1 h2
      obtain ⟨n, rfl⟩ : ∃ z, n = z + 1 := ⟨n - 1, by omega⟩
      have hp : p < ((s.2.2 (56 + 717 * e + 26))).length := by omega
      have hm : M 1 ((56 + 717 * e) + 26 + 13 * p + 3) = (((s.2.2 (56 + 717 * e + 26))).getD p []).getD 2 0 := (c3 p hp).2.2.2.2.1
      have hf : ((s.2.2 (56 + 717 * e + 26))).getD p [] ∈ (s.2.2 (56 + 717 * e + 26)) := by
        rw [List.getD_eq_getElem?_getD, List.getElem?_eq_getElem hp]; exact List.getElem_mem _
      have hx := aRl_get (hi.2.1.2.2 _ _ hf) h0 2
      have hc : ∀ y : Int, f_m_countThat_5 (e : Int) a M n y ((p : Int) + 1) = some (y + aCnt a (((s.2.2 (56 + 717 * e + 26))).drop (p + 1))) := fun y => ih (p + 1) n y (by omega) (by omega)
      rw [f_m_countThat_5, m_of (i := (56 + 717 * e) + 1) M (by omega) (by omega), Option.bind_some, c2, if_pos (by rw [xw_nat (by omega), xw_nat (by omega)]; omega), m_ofFrame (i := (56 + 717 * e) + 26 + 13 * p + 3) M (by omega) (by omega), Option.bind_some, hm, hx.xw (by omega), xw_id (x := a) (by omega) (by omega), drop_D _ hp, aCnt]
      unfold f_m_countThat_34
      by_cases c : (((s.2.2 (56 + 717 * e + 26))).getD p []).getD 2 0 = a
      · rw [if_pos c, if_pos c, hc, Int.add_assoc]
      · rw [if_neg c, if_neg c, hc, Int.add_zero, Int.zero_add]
  have := key ((s.2.2 (56 + 717 * e + 26))).length 0 fu 0 (by omega) (by show _ < 5000; omega)
  unfold f_m_countThat
  rw [Int.zero_add, List.drop_zero] at this
  exact this
theorem r_end {e : Nat} (he : e < 2) {M : xM} (h : RA (M 1) s) (hi : aI B s) (hB : B ≤ 2000000000) (w : Nat) (hw : w ≤ 9) : f_m_end (e : Int) (w : Int) M = some (aEndN s e w, xu M 0 6 0) := by
  have h6 : RA ((xu M 0 6 0) 1) s := by rw [xu06]; exact h
  obtain ⟨⟨⟨q1, q2, q3⟩, ⟨w1, w2, w3⟩, ⟨d1, d2, d3⟩⟩, -, f1⟩ := h6.2.1 e he
  unfold f_m_end
  rw [r_isEnd he, Option.bind_some, if_neg (by decide)]
  rcases (by omega : w = 0 ∨ w = 1 ∨ w = 2 ∨ w = 3 ∨ w = 4 ∨ w = 5 ∨ w = 6 ∨ w = 7 ∨ w = 8 ∨ w = 9) with rfl | rfl | rfl | rfl | rfl | rfl | rfl | rfl | rfl | rfl
  · rw [if_pos (by decide), m_of (i := (56 + 717 * e)) _ (by omega) (by omega), Option.bind_some, q2]; rfl
  · rw [if_neg (by decide), if_pos (by decide), r_count he h6 hi hB (by omega), Option.bind_some]; rfl
  · rw [if_neg (by decide), if_neg (by decide), if_pos (by decide), r_count he h6 hi hB (by omega), Option.bind_some]; rfl
  · have n := h6.n ((56 + 717 * e) + 2) (by unfold aIx; omega)
    rw [if_neg (by decide), if_neg (by decide), if_neg (by decide), if_pos (by decide), m_of (i := (56 + 717 * e) + 2) _ (by omega) (by omega), Option.bind_some, n]; rfl
  · have n := h6.n ((56 + 717 * e) + 3) (by unfold aIx; omega)
    rw [if_neg (by decide), if_neg (by decide), if_neg (by decide), if_neg (by decide), if_pos (by decide), m_of (i := (56 + 717 * e) + 3) _ (by omega) (by omega), Option.bind_some, n]; rfl
  · have n := h6.n ((56 + 717 * e) + 4) (by unfold aIx; omega)
    rw [if_neg (by decide), if_neg (by decide), if_neg (by decide), if_neg (by decide), if_neg (by decide), if_pos (by decide), m_of (i := (56 + 717 * e) + 4) _ (by omega) (by omega), Option.bind_some, n]; rfl
  · have n := h6.n ((56 + 717 * e) + 5) (by unfold aIx; omega)
    rw [if_neg (by decide), if_neg (by decide), if_neg (by decide), if_neg (by decide), if_neg (by decide), if_neg (by decide), if_pos (by decide), m_of (i := (56 + 717 * e) + 5) _ (by omega) (by omega), Option.bind_some, n]; rfl
  · have n := h6.n ((56 + 717 * e) + 6) (by unfold aIx; omega)
    rw [if_neg (by decide), if_neg (by decide), if_neg (by decide), if_neg (by decide), if_neg (by decide), if_neg (by decide), if_neg (by decide), if_pos (by decide), m_of (i := (56 + 717 * e) + 6) _ (by omega) (by omega), Option.bind_some, n]; rfl
  · rw [if_neg (by decide), if_neg (by decide), if_neg (by decide), if_neg (by decide), if_neg (by decide), if_neg (by decide), if_neg (by decide), if_neg (by decide), if_pos (by decide), m_of (i := (56 + 717 * e) + 7) _ (by omega) (by omega), Option.bind_some, w2]; rfl
  · rw [if_neg (by decide), if_neg (by decide), if_neg (by decide), if_neg (by decide), if_neg (by decide), if_neg (by decide), if_neg (by decide), if_neg (by decide), if_neg (by decide), if_pos (by decide), m_of (i := (56 + 717 * e) + 8) _ (by omega) (by omega), Option.bind_some, d2]; rfl
theorem r_frame {e : Nat} (he : e < 2) {M : xM} (h : RA (M 1) s) {p : Nat} (hp : p < ((s.2.2 (56 + 717 * e + 26))).length) (w : Nat) (hw : w ≤ 3) : f_m_frame (e : Int) (p : Int) (w : Int) M = some (aFrmN (((s.2.2 (56 + 717 * e + 26))).getD p []) w, xu M 0 6 0) := by
  have h6 : RA ((xu M 0 6 0) 1) s := by rw [xu06]; exact h
  obtain ⟨c1, c2, c3⟩ := (h6.2.1 e he).2.2
  have c1' : ((s.2.2 (56 + 717 * e + 26))).length ≤ 7 := c1
  obtain ⟨f0, f1, f2, f3, f4, f5⟩ := c3 p hp
  unfold f_m_frame f_m_frame_42
  rw [r_isEnd he, Option.bind_some, if_neg (by decide), m_of (i := (56 + 717 * e) + 1) _ (by omega) (by omega), Option.bind_some, c2, r_inR (v := (p : Int)) (a := 0) (by unfold bI; omega) (by unfold bI; omega) (by unfold bI; omega) (by omega), Option.bind_some, if_neg (by decide), r_inR (v := (w : Int)) (a := 0) (b := 3) (by unfold bI; omega) (by unfold bI; omega) (by unfold bI; omega) (by omega), Option.bind_some, if_neg (by decide), if_neg (by decide)]
  rcases (by omega : w = 0 ∨ w = 1 ∨ w = 2 ∨ w = 3) with rfl | rfl | rfl | rfl
  · rw [m_ofFrame (i := (56 + 717 * e) + 26 + 13 * p) _ (by omega) (by omega), Option.bind_some, f1]; rfl
  · rw [m_ofFrame (i := (56 + 717 * e) + 26 + 13 * p + 1) _ (by omega) (by omega), Option.bind_some, f2]; rfl
  · rw [m_ofFrame (i := (56 + 717 * e) + 26 + 13 * p + 2) _ (by omega) (by omega), Option.bind_some, f3]; rfl
  · rw [m_ofFrame (i := (56 + 717 * e) + 26 + 13 * p + 3) _ (by omega) (by omega), Option.bind_some, f4]; rfl
theorem r_received {e : Nat} (he : e < 2) {M : xM} (h : RA (M 1) s) (hi : aI B s) (hu : aU s) (hB : B ≤ 2000000000) (p : Nat) (hp : p ≤ 500) : f_m_received (e : Int) (p : Int) M = some (if p < ((s.2.1 (56 + 717 * e + 317))).length then ((s.2.1 (56 + 717 * e + 317))).getD p 0 else -1, xu M 0 6 0) := by
  have h6 : RA ((xu M 0 6 0) 1) s := by rw [xu06]; exact h
  have n := h6.n ((56 + 717 * e) + 4) (by unfold aIx; omega)
  obtain ⟨g1, g2⟩ := (h6.2.1 e he).2.1
  have g3 := (hu e he).2.2
  have x4 := hi.2.1.1 ((56 + 717 * e) + 4)
  unfold f_m_received
  rw [r_isEnd he, Option.bind_some, if_neg (by decide), m_of (i := (56 + 717 * e) + 4) _ (by omega) (by omega), Option.bind_some, n, x4.xw (by omega), xw_id (x := 400) (by omega) (by omega)]
  have hm : (if s.1 ((56 + 717 * e) + 4) < 400 then s.1 ((56 + 717 * e) + 4) else 400) = (((s.2.1 (56 + 717 * e + 317))).length : Int) := by
    split <;> omega
  rw [hm]
  by_cases c : p < ((s.2.1 (56 + 717 * e + 317))).length
  · rw [if_pos c, r_inR (v := (p : Int)) (a := 0) (by unfold bI; omega) (by unfold bI; omega) (by unfold bI; omega) (by omega), Option.bind_some, if_neg (by decide), m_of (i := (56 + 717 * e) + 317 + p) _ (by omega) (by omega), Option.bind_some, g2 p c]
  · rw [if_neg c, r_inRn (v := (p : Int)) (a := 0) (by unfold bI; omega) (by unfold bI; omega) (by unfold bI; omega) (by omega), Option.bind_some, if_pos (by decide)]
theorem r_word {e : Nat} (he : e < 2) {M : xM} (h : RA (M 1) s) (p : Nat) (hp : p < 8) : f_m_word (e : Int) 1 (p : Int) M = some (if p < ((s.2.1 (56 + 717 * e + 10))).length then ((s.2.1 (56 + 717 * e + 10))).getD p 0 else -1, xu M 0 6 0) ∧ f_m_word (e : Int) 0 (p : Int) M = some (if p < ((s.2.1 (56 + 717 * e + 18))).length then ((s.2.1 (56 + 717 * e + 18))).getD p 0 else -1, xu M 0 6 0) := by
  have h6 : RA ((xu M 0 6 0) 1) s := by rw [xu06]; exact h
  obtain ⟨⟨-, ⟨w1, w2, w3⟩, ⟨d1, d2, d3⟩⟩, -, -⟩ := h6.2.1 e he
  rw [xu06] at w2 w3 d2 d3
  constructor
  · unfold f_m_word f_m_countAt f_m_countAt_12 f_m_wordsAt f_m_wordsAt_12
    rw [r_isEnd he, Option.bind_some, if_neg (by decide), if_neg (by decide), m_endAt (i := (56 + 717 * e) + 7) _ (by omega), Option.bind_some, Option.bind_some, if_pos (b_ib (by omega)), xix_nat (by omega), w2]
    by_cases c : p < ((s.2.1 (56 + 717 * e + 10))).length
    · rw [if_pos c, r_inR (v := (p : Int)) (a := 0) (by unfold bI; omega) (by unfold bI; omega) (by unfold bI; omega) (by omega), Option.bind_some, if_neg (by decide), if_neg (by decide), m_endAt (i := (56 + 717 * e) + 10) _ (by omega), Option.bind_some, Option.bind_some, if_pos (b_ib (by omega)), show xix ((((56 + 717 * e) + 10 : Nat) : Int) + (p : Int)) = (56 + 717 * e) + 10 + p by rw [b_ix (by omega)]; omega, w3 p c]
    · rw [if_neg c, r_inRn (v := (p : Int)) (a := 0) (by unfold bI; omega) (by unfold bI; omega) (by unfold bI; omega) (by omega), Option.bind_some, if_pos (by decide)]
  · unfold f_m_word f_m_countAt f_m_countAt_12 f_m_wordsAt f_m_wordsAt_12
    rw [r_isEnd he, Option.bind_some, if_neg (by decide), if_pos (by decide), m_endAt (i := (56 + 717 * e) + 8) _ (by omega), Option.bind_some, Option.bind_some, if_pos (b_ib (by omega)), xix_nat (by omega), d2]
    by_cases c : p < ((s.2.1 (56 + 717 * e + 18))).length
    · rw [if_pos c, r_inR (v := (p : Int)) (a := 0) (by unfold bI; omega) (by unfold bI; omega) (by unfold bI; omega) (by omega), Option.bind_some, if_neg (by decide), if_pos (by decide), m_endAt (i := (56 + 717 * e) + 18) _ (by omega), Option.bind_some, Option.bind_some, if_pos (b_ib (by omega)), show xix ((((56 + 717 * e) + 18 : Nat) : Int) + (p : Int)) = (56 + 717 * e) + 18 + p by rw [b_ix (by omega)]; omega, d3 p c]
    · rw [if_neg c, r_inRn (v := (p : Int)) (a := 0) (by unfold bI; omega) (by unfold bI; omega) (by unfold bI; omega) (by omega), Option.bind_some, if_pos (by decide)]
theorem r_event {M : xM} (h : RA (M 1) s) {p : Nat} (hp : p < ((s.2.2 1490)).length) (w : Nat) (hw : w ≤ 3) : f_m_event (p : Int) (w : Int) M = some ((((s.2.2 1490)).getD p []).getD w 0, xu M 0 6 0) := by
  have h6 : RA ((xu M 0 6 0) 1) s := by rw [xu06]; exact h
  obtain ⟨v1, v2, v3⟩ := h.2.2.2
  have v1' : ((s.2.2 1490)).length ≤ 60 := v1
  have v4 := h6.2.2.2.2.2 p w hp (by omega)
  unfold f_m_event f_m_event_36
  rw [if_pos (by decide), v2, r_inR (v := (p : Int)) (a := 0) (by unfold bI; omega) (by unfold bI; omega) (by unfold bI; omega) (by omega), Option.bind_some, if_neg (by decide), r_inR (v := (w : Int)) (a := 0) (b := 3) (by unfold bI; omega) (by unfold bI; omega) (by unfold bI; omega) (by omega), Option.bind_some, if_neg (by decide), if_neg (by decide), if_pos (b_ib (by omega)), show xix (1490 + 4 * (p : Int) + (w : Int)) = 1490 + 4 * p + w by rw [b_ix (by omega)]; omega, v4]
end

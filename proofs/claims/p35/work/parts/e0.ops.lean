/-! ===== what the reference does, over states ===== -/
def rS (B : Int) (N : Nat → Int) (s : aS) : Prop := RA N s ∧ aI B s ∧ aU s
theorem rS.le {B B' : Int} {N : Nat → Int} {s : aS} (h : rS B N s) (hB : B ≤ B') : rS B' N s := ⟨h.1, h.2.1.le hB, h.2.2⟩
theorem rS.cg {B : Int} {N N' : Nat → Int} {s : aS} (h : rS B N s) (hN : ∀ i, i < 3530 → N' i = N i) : rS B N' s := ⟨h.1.cg hN, h.2⟩
/-- the whole reference: its line, what can be undone (the oldest first), the snapshot, the buffer -/
def rX (B : Int) (M : xM) (s : aS) (H : List aS) (S : Option aS) (bf : List Int) : Prop :=
  rS B (M 1) s ∧ (M 0 5 = (H.length : Int) ∧ H.length ≤ 10 ∧ ∀ i t, H[i]? = some t → rS B (fun j => M 5 (3530 * i + j)) t) ∧ (∀ t, S = some t → M 0 7 = 1 ∧ rS B (M 4) t) ∧ M 0 13 = (bf.length : Int) ∧ bf.length ≤ 600 ∧ ∀ i, i < bf.length → M 8 i = bf.getD i 0
theorem rX.le {B B' : Int} {M : xM} {s : aS} {H : List aS} {S : Option aS} {bf : List Int} (h : rX B M s H S bf) (hB : B ≤ B') : rX B' M s H S bf := by
  obtain ⟨h1, ⟨h2, h3, h4⟩, h5, h6⟩ := h
  exact ⟨h1.le hB, ⟨h2, h3, fun i t ht => (h4 i t ht).le hB⟩, fun t ht => ⟨(h5 t ht).1, (h5 t ht).2.le hB⟩, h6⟩
theorem rX.cg {B : Int} {M M' : xM} {s t : aS} {H : List aS} {S : Option aS} {bf : List Int} (h : rX B M s H S bf) (h1 : rS B (M' 1) t) (h4 : M' 4 = M 4) (h5 : M' 5 = M 5) (h8 : M' 8 = M 8) (h0 : ∀ j, j = 5 ∨ j = 7 ∨ j = 13 → M' 0 j = M 0 j) : rX B M' t H S bf := by
  obtain ⟨a1, ⟨a2, a3, a4⟩, a5, a6, a7, a8⟩ := h
  exact ⟨h1, ⟨by rw [h0 5 (by omega), a2], a3, fun i t ht => by rw [h5]; exact a4 i t ht⟩, fun t ht => ⟨by rw [h0 7 (by omega), (a5 t ht).1], by rw [h4]; exact (a5 t ht).2⟩, by rw [h0 13 (by omega), a6], a7, by rw [h8]; exact a8⟩
def aPush (H : List aS) (s : aS) : List aS := (if H.length = 10 then H.drop 1 else H) ++ [s]
section
variable {s : aS} {B : Int} {M : xM} {H : List aS} {S : Option aS} {bf : List Int}
theorem r_record (h : rX B M s H S bf) : ∃ M' : xM, f_m_record M = some M' ∧ rX B M' s (aPush H s) S bf ∧ (∀ j, j ≠ 5 → M' 0 j = M 0 j) ∧ M' 1 = M 1 := by
  obtain ⟨a1, ⟨a2, a3, a4⟩, a5, a6, a7, a8⟩ := h
  obtain ⟨M', m1, m2, m3, m4⟩ := record_sp H.length M a3 a2
  refine ⟨M', m1, ⟨by rw [m4 1 (by omega) (by omega)]; exact a1, ?_, fun t ht => ⟨by rw [m3 7 (by omega), (a5 t ht).1], by rw [m4 4 (by omega) (by omega)]; exact (a5 t ht).2⟩, by rw [m3 13 (by omega), a6], a7, by rw [m4 8 (by omega) (by omega)]; exact a8⟩, m3, m4 1 (by omega) (by omega)⟩
  unfold aPush
  by_cases c : H.length = 10
  · rw [c, if_neg (by omega)] at m2
    obtain ⟨b1, b2, b3⟩ := m2
    rw [if_pos c]
    have hl : (H.drop 1).length = 9 := by rw [List.length_drop]; omega
    refine ⟨by rw [b1, List.length_append, hl]; rfl, by rw [List.length_append, hl]; exact Nat.le_refl _, fun i t ht => ?_⟩
    by_cases ci : i < 9
    · rw [List.getElem?_append_left (by omega), List.getElem?_drop] at ht
      exact (a4 _ t ht).cg fun j hj => by
        rw [b2 _ (by omega)]
        congr 1
        omega
    · have hi : i = 9 := by
        have := (List.getElem?_eq_some_iff.mp ht).1
        rw [List.length_append, hl, List.length_singleton] at this
        omega
      subst hi
      rw [List.getElem?_append_right (by omega), hl] at ht
      cases ht
      exact a1.cg fun j hj => b3 j hj
  · rw [if_pos (by omega)] at m2
    obtain ⟨b1, b2, b3⟩ := m2
    rw [if_neg c]
    refine ⟨by rw [b1, List.length_append]; rfl, by rw [List.length_append, List.length_singleton]; omega, fun i t ht => ?_⟩
    by_cases ci : i < H.length
    · rw [List.getElem?_append_left ci] at ht
      exact (a4 _ t ht).cg fun j hj => b2 _ (by
        have : 3530 * i + 3530 ≤ 3530 * H.length := by omega
        omega)
    · have hi : i = H.length := by
        have := (List.getElem?_eq_some_iff.mp ht).1
        rw [List.length_append, List.length_singleton] at this
        omega
      subst hi
      rw [List.getElem?_append_right (Nat.le_refl _), Nat.sub_self] at ht
      cases ht
      exact a1.cg fun j hj => b3 j hj
theorem rS.fly {N : Nat → Int} {y X : xM} (h : rS B N s) (hb : bLine y X) (hN : X 1 = N) : ((s.2.2 1730)).length ≤ 42 := by
  have h1 := hb.fly
  have h2 := h.1.2.2.1.2.1
  rw [hN, h2] at h1
  omega
theorem r_tick1 {y : xM} (hb : bLine y M) (hy : y 0 7 < 1000000) (h : rS B (M 1) s) (h1 : 108 ≤ B) (hB : B ≤ 500000000) : ∃ M' y' : xM, f_m_passTick M = some M' ∧ rS (B + 30000) (M' 1) (aTick s) ∧ bMK M M' ∧ bLine y' M' ∧ y' 0 7 = y 0 7 + 1 := by
  have hf := h.fly hb rfl
  obtain ⟨M', m1, m2, m3, m4⟩ := r_tick h.1 h.2.1 h.2.2 h1 hB (by omega)
  obtain ⟨y', M'', n1, n2, n3, n4, n5⟩ := L_tick_sp y M hb hy
  rw [m1] at n2
  cases n2
  exact ⟨M', y', m1, ⟨m2, (h.2.1.tick h1 (by omega)).1, m3⟩, m4, n3, n4.1⟩
theorem aTicks_succ (k : Nat) (s : aS) : aTicks (k + 1) s = aTicks k (aTick s) := rfl
theorem r_run : ∀ (k : Nat) (B : Int) (M y : xM) (s : aS), bLine y M → y 0 7 + k ≤ 1000000 → rS B (M 1) s → 108 ≤ B → B + 30000 * k ≤ 500000000 → ∃ M' y' : xM, bRun k M = some M' ∧ rS (B + 30000 * k) (M' 1) (aTicks k s) ∧ bMK M M' ∧ bLine y' M' ∧ y' 0 7 = y 0 7 + k := by
  intro k
  induction k with
  | zero =>
    intro B M y s hb hy h h1 hB
    exact ⟨M, y, rfl, h.le (by omega), bMK.refl M, hb, by omega⟩
  | succ k ih =>
    intro B M y s hb hy h h1 hB
    obtain ⟨M1, y1, a1, a2, a3, a4, a5⟩ := r_tick1 hb (by omega) h h1 (by omega)
    obtain ⟨M2, y2, b1, b2, b3, b4, b5⟩ := ih (B + 30000) M1 y1 (aTick s) a4 (by omega) a2 (by omega) (by omega)
    refine ⟨M2, y2, ?_, b2.le (by omega), a3.trans b3, b4, by omega⟩
    show (f_m_passTick M).bind (bRun k) = some M2
    rw [a1]; exact b1
theorem pass_run (z x2 : Int) (hz : 0 ≤ z ∧ z ≤ 1000) : ∀ (k n : Nat) (x : Int) (M M' : xM), x + k = z → 0 ≤ x → k < n → bRun k M = some M' → f_m_pass_52 z n x2 x M = f_m_pass_67 z x2 M' := by
  intro k
  induction k with
  | zero =>
    intro n x M M' hx hx0 hn hr
    obtain ⟨n, rfl⟩ : ∃ z, n = z + 1 := ⟨n - 1, by omega⟩
    cases hr
    rw [f_m_pass_52, if_neg (by rw [xw_id (x := x) (by omega) (by omega), xw_id (x := z) (by omega) (by omega)]; omega)]
  | succ k ih =>
    intro n x M M' hx hx0 hn hr
    obtain ⟨n, rfl⟩ : ∃ z, n = z + 1 := ⟨n - 1, by omega⟩
    rw [f_m_pass_52, if_pos (by rw [xw_id (x := x) (by omega) (by omega), xw_id (x := z) (by omega) (by omega)]; omega)]
    obtain ⟨M1, h1, h2⟩ := Option.bind_eq_some_iff.mp hr
    rw [h1, Option.bind_some]
    exact ih n (x + 1) M1 M' (by omega) (by omega) (by omega) h2
theorem behind_run (e z : Int) (hz : 0 ≤ z ∧ z ≤ 1000) : ∀ (k n : Nat) (x : Int) (M M' : xM), x + k = z → 0 ≤ x → k < n → bRun k M = some M' → f_m_receivedBehind_55 e z n x M = f_m_receivedBehind_70 e z M' := by
  intro k
  induction k with
  | zero =>
    intro n x M M' hx hx0 hn hr
    obtain ⟨n, rfl⟩ : ∃ z, n = z + 1 := ⟨n - 1, by omega⟩
    cases hr
    rw [f_m_receivedBehind_55, if_neg (by rw [xw_id (x := x) (by omega) (by omega), xw_id (x := z) (by omega) (by omega)]; omega)]
  | succ k ih =>
    intro n x M M' hx hx0 hn hr
    obtain ⟨n, rfl⟩ : ∃ z, n = z + 1 := ⟨n - 1, by omega⟩
    rw [f_m_receivedBehind_55, if_pos (by rw [xw_id (x := x) (by omega) (by omega), xw_id (x := z) (by omega) (by omega)]; omega)]
    obtain ⟨M1, h1, h2⟩ := Option.bind_eq_some_iff.mp hr
    rw [h1, Option.bind_some]
    exact ih n (x + 1) M1 M' (by omega) (by omega) (by omega) h2
/-- z ticks -/
theorem r_pass {y : xM} (h : rX B M s H S bf) (hb : bLine y M) (k : Nat) (hk : 1 ≤ k ∧ k ≤ 200) (ht : y 0 7 + k ≤ 99999) (ht0 : 0 ≤ y 0 7) (h1 : 108 ≤ B) (hB : B + 30000 * k ≤ 500000000) : ∃ M' : xM, f_m_pass (k : Int) M = some ((aTicks k s).1 55 - s.1 55, M') ∧ M' 0 6 = 0 ∧ rX (B + 30000 * k) M' (aTicks k s) (aPush H s) S bf := by
  have h0 : rX B (xu M 0 6 0) s H S bf := h.cg (by rw [xu06]; exact h.1) (xu_K (by omega)) (xu_K (by omega)) (xu_K (by omega)) (fun j hj => xu_d (by omega))
  obtain ⟨M1, a1, a2, a3, a4⟩ := r_record h0
  rw [xu06] at a4
  have hb1 : bLine y M1 := hb.cgN fun i hi => by rw [a4]
  have n55 := a2.1.1.n 55 (by unfold aIx; omega)
  have n0 : M 1 0 = y 0 7 := hb.1.2.2.2.2.2.1
  obtain ⟨M2, y2, b1, b2, b3, b4, b5⟩ := r_run k B M1 y s hb1 (by omega) a2.1 h1 hB
  have m55 := b2.1.n 55 (by unfold aIx; omega)
  refine ⟨M2, ?_, ?_, ?_⟩
  · unfold f_m_pass
    rw [r_inR (v := (k : Int)) (a := 1) (b := 200) (by unfold bI; omega) (by unfold bI; omega) (by unfold bI; omega) (by omega), Option.bind_some, if_neg (by decide), if_pos (by decide), n0, if_neg (by rw [xw_id (x := 99999) (by omega) (by omega), xw_id (x := y 0 7 + k) (by omega) (by omega)]; omega), a1, Option.bind_some, if_pos (by decide), pass_run k (M1 1 55) (by omega) k fu 0 M1 M2 (by omega) (by omega) (by show _ < 5000; omega) b1]
    unfold f_m_pass_67
    rw [if_pos (by decide), m55, n55]
  · rw [b3.2 6 (by omega), a3 6 (by omega), xu_s rfl]
  · exact (a2.le (by omega)).cg b2 (b3.1 4 (by omega) (by omega) (by omega)) (b3.1 5 (by omega) (by omega) (by omega)) (b3.1 8 (by omega) (by omega) (by omega)) (fun j hj => b3.2 j (by omega))
/-- back from the row aside -/
theorem r_back (h : rX B M s H S bf) {M1 M2 Q : xM} (h6 : M1 0 6 = 0) (hr : ∀ j, j < 3530 → M1 3 j = M 1 j) (h4 : M1 4 = M 4) (h5 : M1 5 = M 5) (h8 : M1 8 = M 8) (h0 : ∀ j, j = 5 ∨ j = 7 ∨ j = 13 → M1 0 j = M 0 j) : ∃ Q : xM, f_m_copyA 0 0 (xvw [3, 1] M1) = some Q ∧ (xmg [3, 1] 2 M1 Q) 0 6 = 0 ∧ rX B (xmg [3, 1] 2 M1 Q) s H S bf ∧ (∀ j, j < 3530 → xmg [3, 1] 2 M1 Q 1 j = M 1 j) ∧ ∀ k, k ≠ 1 → xmg [3, 1] 2 M1 Q k = M1 k := by
  obtain ⟨Q, c1, c2, c3⟩ := copyA_row 3 1 M1 (by omega) (Or.inr ⟨rfl, Or.inl rfl⟩)
  refine ⟨Q, c1, by rw [c3 0 (by omega), h6], ?_, fun j hj => by rw [c2 j hj, hr j hj], c3⟩
  exact h.cg (h.1.cg fun i hi => by rw [c2 i hi, hr i hi]) (by rw [c3 4 (by omega), h4]) (by rw [c3 5 (by omega), h5]) (by rw [c3 8 (by omega), h8]) (fun j hj => by rw [c3 0 (by omega), h0 j hj])
def aDone (s : aS) : Bool := decide (s.1 1 = 2 ∧ ((s.2.1 (56 + 717 * 0 + 117))).length = 0 ∧ ((s.2.1 (56 + 717 * 1 + 117))).length = 0 ∧ ((s.2.2 (56 + 717 * 0 + 26))).length = 0 ∧ ((s.2.2 (56 + 717 * 1 + 26))).length = 0)
theorem r_isDone (h : RA (M 1) s) (hi : aI B s) : f_m_isDone M = some (if aDone s = true then 1 else 0) := by
  obtain ⟨⟨⟨q1, q2, q3⟩, -, -⟩, -, ⟨f1, f2, f3⟩⟩ := h.2.1 0 (by omega)
  obtain ⟨⟨⟨p1, p2, p3⟩, -, -⟩, -, ⟨g1, g2, g3⟩⟩ := h.2.1 1 (by omega)
  have o0 : f_m_of 0 0 M = some (((s.2.1 (56 + 717 * 0 + 117))).length : Int) := by rw [m_of (i := (56 + 717 * 0)) M (by omega) (by omega), q2]
  have o1 : f_m_of 0 1 M = some (((s.2.2 (56 + 717 * 0 + 26))).length : Int) := by rw [m_of (i := (56 + 717 * 0) + 1) M (by omega) (by omega), f2]
  have o2 : f_m_of (0 + 1) 0 M = some (((s.2.1 (56 + 717 * 1 + 117))).length : Int) := by rw [m_of (i := (56 + 717 * 1)) M (by omega) (by omega), p2]
  have o3 : f_m_of (0 + 1) 1 M = some (((s.2.2 (56 + 717 * 1 + 26))).length : Int) := by rw [m_of (i := (56 + 717 * 1) + 1) M (by omega) (by omega), g2]
  have e1 : (0 : Int) + 1 = 1 := rfl
  unfold f_m_isDone
  rw [r_phase h hi 2 (by omega), Option.bind_some]
  obtain ⟨a, ha⟩ : ∃ a : Int, a = if s.1 1 = 2 then 1 else 0 := ⟨_, rfl⟩
  rw [← ha]
  have hab : (s.1 1 = 2 ∧ a = 1) ∨ (¬ s.1 1 = 2 ∧ a = 0) := by
    by_cases c : s.1 1 = 2
    · rw [if_pos c] at ha; exact Or.inl ⟨c, ha⟩
    · rw [if_neg c] at ha; exact Or.inr ⟨c, ha⟩
  have step : ∀ (x : Int) (q f : List Int) (fl : List (List Int)) (n : Nat) (b : Int), xw x < xw 2 → f_m_of x 0 M = some (q.length : Int) → f_m_of x 1 M = some (fl.length : Int) → q.length ≤ 200 → fl.length ≤ 7 → (b = 0 ∨ b = 1) → f_m_isDone_8 M (n + 1) b x = f_m_isDone_8 M n (if b = 1 ∧ q.length = 0 ∧ fl.length = 0 then 1 else 0) (x + 1) := fun x q f fl n b hx h1 h2 h3 h4 hb => by
    rw [f_m_isDone_8, if_pos hx, h1, Option.bind_some, xw_nat (by omega)]
    unfold f_m_isDone_36 f_m_isDone_37
    by_cases c1 : q.length = 0
    · rw [if_pos (by omega), h2, Option.bind_some, xw_nat (by omega)]
      by_cases c2 : fl.length = 0
      · rw [if_pos (by omega)]
        rcases hb with rfl | rfl
        · rw [if_neg (fun w => absurd w.1 (by decide))]; rfl
        · rw [if_pos ⟨rfl, c1, c2⟩]; rfl
      · rw [if_neg (by omega), if_neg (fun w => c2 w.2.2)]
        rcases hb with rfl | rfl
        · rfl
        · rfl
    · rw [if_neg (by omega), if_neg (fun w => c1 w.2.1)]
      rcases hb with rfl | rfl
      · rfl
      · rfl
  have q1' : ((s.2.1 (56 + 717 * 0 + 117))).length ≤ 200 := q1
  have p1' : ((s.2.1 (56 + 717 * 1 + 117))).length ≤ 200 := p1
  have f1' : ((s.2.2 (56 + 717 * 0 + 26))).length ≤ 7 := f1
  have g1' : ((s.2.2 (56 + 717 * 1 + 26))).length ≤ 7 := g1
  show f_m_isDone_8 M (4997 + 1 + 1 + 1) a 0 = _
  rw [step 0 ((s.2.1 (56 + 717 * 0 + 117))) [] ((s.2.2 (56 + 717 * 0 + 26))) _ a (by decide) o0 o1 q1' f1' (by omega), step (0 + 1) ((s.2.1 (56 + 717 * 1 + 117))) [] ((s.2.2 (56 + 717 * 1 + 26))) _ _ (by decide) o2 o3 p1' g1' (by split <;> omega), f_m_isDone_8, if_neg (by decide)]
  have ed : (aDone s = true) ↔ (s.1 1 = 2 ∧ ((s.2.1 (56 + 717 * 0 + 117))).length = 0 ∧ ((s.2.1 (56 + 717 * 1 + 117))).length = 0 ∧ ((s.2.2 (56 + 717 * 0 + 26))).length = 0 ∧ ((s.2.2 (56 + 717 * 1 + 26))).length = 0) := by
    unfold aDone
    rw [decide_eq_true_eq]
  by_cases c : s.1 1 = 2 ∧ ((s.2.1 (56 + 717 * 0 + 117))).length = 0 ∧ ((s.2.1 (56 + 717 * 1 + 117))).length = 0 ∧ ((s.2.2 (56 + 717 * 0 + 26))).length = 0 ∧ ((s.2.2 (56 + 717 * 1 + 26))).length = 0
  · obtain ⟨d1, d2, d3, d4, d5⟩ := c
    have ea : a = 1 := by omega
    have hp : (if a = 1 ∧ ((s.2.1 (56 + 717 * 0 + 117))).length = 0 ∧ ((s.2.2 (56 + 717 * 0 + 26))).length = 0 then (1 : Int) else 0) = 1 ∧ ((s.2.1 (56 + 717 * 1 + 117))).length = 0 ∧ ((s.2.2 (56 + 717 * 1 + 26))).length = 0 := ⟨if_pos ⟨ea, d2, d4⟩, d3, d5⟩
    rw [if_pos hp, if_pos (by decide), if_pos (ed.mpr ⟨d1, d2, d3, d4, d5⟩)]
  · have hn : ¬ ((if a = 1 ∧ ((s.2.1 (56 + 717 * 0 + 117))).length = 0 ∧ ((s.2.2 (56 + 717 * 0 + 26))).length = 0 then (1 : Int) else 0) = 1 ∧ ((s.2.1 (56 + 717 * 1 + 117))).length = 0 ∧ ((s.2.2 (56 + 717 * 1 + 26))).length = 0) := fun w => by
      obtain ⟨w1, w2, w3⟩ := w
      by_cases d : a = 1 ∧ ((s.2.1 (56 + 717 * 0 + 117))).length = 0 ∧ ((s.2.2 (56 + 717 * 0 + 26))).length = 0
      · exact c ⟨by omega, d.2.1, w2, d.2.2, w3⟩
      · rw [if_neg d] at w1
        exact absurd w1 (by decide)
    rw [if_neg hn, if_pos (by decide), if_neg (fun w => c (ed.mp w))]
/-- the first of the coming ticks at which all is through -/
def aFin : Nat → Int → aS → Int
  | 0, _, _ => -1
  | k + 1, x, s => if s.1 1 = 0 then -1 else if aDone s = true then x else aFin k (x + 1) (aTick s)
theorem r_fin : ∀ (k : Nat) (n : Nat) (x : Int) (B : Int) (M y : xM) (s : aS), x + k = 401 → 0 ≤ x → k < n → bLine y M → y 0 7 + k ≤ 1000000 → rS B (M 1) s → 108 ≤ B → B + 30000 * k ≤ 500000000 → ∃ M' : xM, f_m_finishOf_2 n x M = some (aFin k x s, M') ∧ bMK M M' := by
  intro k
  induction k with
  | zero =>
    intro n x B M y s hx hx0 hn hb hy h h1 hB
    obtain ⟨n, rfl⟩ : ∃ z, n = z + 1 := ⟨n - 1, by omega⟩
    rw [f_m_finishOf_2, if_pos (by rw [xw_id (x := x) (by omega) (by omega), xw_id (x := 400) (by omega) (by omega)]; omega), aFin]
    exact ⟨M, rfl, bMK.refl M⟩
  | succ k ih =>
    intro n x B M y s hx hx0 hn hb hy h h1 hB
    obtain ⟨n, rfl⟩ : ∃ z, n = z + 1 := ⟨n - 1, by omega⟩
    rw [f_m_finishOf_2, if_neg (by rw [xw_id (x := x) (by omega) (by omega), xw_id (x := 400) (by omega) (by omega)]; omega), r_phase h.1 h.2.1 0 (by omega), Option.bind_some, aFin]
    by_cases c : s.1 1 = 0
    · rw [if_pos c, if_pos c, if_neg (by decide)]
      exact ⟨M, rfl, bMK.refl M⟩
    · rw [if_neg c, if_neg c, if_pos (by decide), r_isDone h.1 h.2.1, Option.bind_some]
      by_cases d : aDone s = true
      · rw [if_pos d, if_pos d, if_neg (by decide)]
        exact ⟨M, rfl, bMK.refl M⟩
      · rw [if_neg d, if_neg d, if_pos (by decide)]
        obtain ⟨M1, y1, a1, a2, a3, a4, a5⟩ := r_tick1 hb (by omega) h h1 (by omega)
        rw [a1, Option.bind_some]
        obtain ⟨M2, b1, b2⟩ := ih n (x + 1) (B + 30000) M1 y1 (aTick s) (by omega) (by omega) (by omega) a4 (by omega) a2 (by omega) (by omega)
        exact ⟨M2, b1, a3.trans b2⟩
/-- from here: the row aside, and looking ahead -/
theorem r_aside (h : rX B M s H S bf) {v : Int} : ∃ Q : xM, f_m_copyA 0 0 (xvw [1, 3] (xu M 0 6 v)) = some Q ∧ (∀ j, j < 3530 → xmg [1, 3] 2 (xu M 0 6 v) Q 3 j = M 1 j) ∧ ∀ k, k ≠ 3 → xmg [1, 3] 2 (xu M 0 6 v) Q k = xu M 0 6 v k := by
  obtain ⟨Q, c1, c2, c3⟩ := copyA_row 1 3 (xu M 0 6 v) (by omega) (Or.inl ⟨rfl, Or.inl rfl⟩)
  exact ⟨Q, c1, fun j hj => by rw [c2 j hj, xu_K (by omega)], c3⟩
theorem r_finish {y : xM} (h : rX B M s H S bf) (hb : bLine y M) (ht : y 0 7 ≤ 99999) (h1 : 108 ≤ B) (hB : B + 30000 * 401 ≤ 500000000) : ∃ M' : xM, f_m_ticksToFinish M = some (aFin 401 0 s, M') ∧ M' 0 6 = 0 ∧ rX B M' s H S bf := by
  obtain ⟨Q, c1, c2, c3⟩ := r_aside h (v := 0)
  obtain ⟨M1, hM1⟩ : ∃ Z, Z = xmg [1, 3] 2 (xu M 0 6 0) Q := ⟨_, rfl⟩
  rw [← hM1] at c2 c3
  have e1 : M1 1 = M 1 := by rw [c3 1 (by omega), xu06]
  have hb1 : bLine y M1 := hb.cgN fun i hi => by rw [e1]
  obtain ⟨M2, d1, d2⟩ := r_fin 401 fu 0 B M1 y s (by omega) (by omega) (by show _ < 5000; omega) hb1 (by omega) (by rw [e1]; exact h.1) h1 hB
  obtain ⟨Q2, g1, g2, g3, g4, g5⟩ := r_back h (M1 := M2) (M2 := M2) (Q := M2) (by rw [d2.2 6 (by omega), c3 0 (by omega), xu_s rfl]) (fun j hj => by rw [d2.1 3 (by omega) (by omega) (by omega), c2 j hj]) (by rw [d2.1 4 (by omega) (by omega) (by omega), c3 4 (by omega), xu_K (by omega)]) (by rw [d2.1 5 (by omega) (by omega) (by omega), c3 5 (by omega), xu_K (by omega)]) (by rw [d2.1 8 (by omega) (by omega) (by omega), c3 8 (by omega), xu_K (by omega)]) (fun j hj => by rw [d2.2 j (by omega), c3 0 (by omega), xu_d (by omega)])
  refine ⟨_, ?_, g2, g3⟩
  unfold f_m_ticksToFinish f_m_finishOf
  rw [c1, Option.bind_some, ← hM1, d1, Option.bind_some, g1, Option.bind_some]
theorem r_behind {e : Nat} (he : e < 2) {y : xM} (h : rX B M s H S bf) (hb : bLine y M) (k : Nat) (hk : k ≤ 400) (ht : y 0 7 ≤ 99999) (h1 : 108 ≤ B) (hB : B + 30000 * k ≤ 500000000) : ∃ M' : xM, f_m_receivedBehind (e : Int) (k : Int) M = some ((aTicks k s).1 ((56 + 717 * e) + 4), M') ∧ M' 0 6 = 0 ∧ rX B M' s H S bf := by
  obtain ⟨Q, c1, c2, c3⟩ := r_aside h (v := 0)
  obtain ⟨M1, hM1⟩ : ∃ Z, Z = xmg [1, 3] 2 (xu M 0 6 0) Q := ⟨_, rfl⟩
  rw [← hM1] at c2 c3
  have e1 : M1 1 = M 1 := by rw [c3 1 (by omega), xu06]
  have hb1 : bLine y M1 := hb.cgN fun i hi => by rw [e1]
  obtain ⟨M2, y2, b1, b2, d2, b4, b5⟩ := r_run k B M1 y s hb1 (by omega) (by rw [e1]; exact h.1) h1 hB
  obtain ⟨Q2, g1, g2, g3, g4, g5⟩ := r_back h (M1 := M2) (M2 := M2) (Q := M2) (by rw [d2.2 6 (by omega), c3 0 (by omega), xu_s rfl]) (fun j hj => by rw [d2.1 3 (by omega) (by omega) (by omega), c2 j hj]) (by rw [d2.1 4 (by omega) (by omega) (by omega), c3 4 (by omega), xu_K (by omega)]) (by rw [d2.1 5 (by omega) (by omega) (by omega), c3 5 (by omega), xu_K (by omega)]) (by rw [d2.1 8 (by omega) (by omega) (by omega), c3 8 (by omega), xu_K (by omega)]) (fun j hj => by rw [d2.2 j (by omega), c3 0 (by omega), xu_d (by omega)])
  have n4 := b2.1.n ((56 + 717 * e) + 4) (by unfold aIx; omega)
  refine ⟨_, ?_, g2, g3⟩
  unfold f_m_receivedBehind f_m_receivedBehind_28
  rw [r_isEnd he, Option.bind_some, if_neg (by decide), r_inR (v := (k : Int)) (a := 0) (b := 400) (by unfold bI; omega) (by unfold bI; omega) (by unfold bI; omega) (by omega), Option.bind_some, if_neg (by decide), if_pos (by decide), c1, Option.bind_some, ← hM1, behind_run (e : Int) (k : Int) (by omega) k fu 0 M1 M2 (by omega) (by omega) (by show _ < 5000; omega) b1]
  unfold f_m_receivedBehind_70
  rw [m_of (i := (56 + 717 * e) + 4) _ (by omega) (by omega), Option.bind_some, g1, Option.bind_some, n4]
end

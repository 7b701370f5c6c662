/-! ===== the law's own question: is a line sound ===== -/
/-- numbers of frames stand in a row, and what is expected is among them -/
def vLn (s : aS) : Prop := ∀ e, e < 2 → (∀ p, p < ((s.2.2 (56 + 717 * e + 26))).length → (((s.2.2 (56 + 717 * e + 26))).getD p []).getD 0 0 = s.1 ((56 + 717 * e) + 2) - ((s.2.2 (56 + 717 * e + 26))).length + p) ∧ s.1 ((56 + 717 * (1 - e)) + 3) ≤ s.1 ((56 + 717 * e) + 2) ∧ (s.1 1 ≠ 0 → s.1 ((56 + 717 * e) + 2) - ((s.2.2 (56 + 717 * e + 26))).length ≤ s.1 ((56 + 717 * (1 - e)) + 3))
theorem bLine.ln {y M : xM} {s : aS} (hb : bLine y M) (h : RA (M 1) s) : vLn s := fun e he => by
  obtain ⟨⟨e1, e2, -, -, -, sc⟩, ⟨-, -, ⟨-, -, a3, a4, -, -, -, -⟩, ⟨-, -, b3, b4, -, -, -, -⟩, -⟩, -⟩ := hb
  have n1 := h.n 1 (by unfold aIx; omega)
  have s1 : M 1 1 = y 0 8 := sc.2.1
  rcases (by omega : e = 0 ∨ e = 1) with q | q
  · subst q
    obtain ⟨F, C, S, f1, f2, f3, f4, f5, f6, f7, f8, f9⟩ := e1.1
    have f1' : y 4 3 = F := f1
    have f2' : y 4 4 = C := f2
    have f7' : M 1 57 = C := f7
    have f8' : M 1 58 = ((F + C : Nat) : Int) := f8
    obtain ⟨-, g2, g3⟩ := (h.2.1 0 (by omega)).2.2
    have g2' : M 1 57 = (((s.2.2 (56 + 717 * 0 + 26))).length : Int) := g2
    have n2 := h.n 58 (by unfold aIx; omega)
    have n3 := h.n 776 (by unfold aIx; omega)
    have x3 : M 1 776 = y 12 7 := e2.2.2.2.2.2.1
    have hC : C = ((s.2.2 (56 + 717 * 0 + 26))).length := by omega
    refine ⟨fun p hp => ?_, ?_, fun w => ?_⟩
    · obtain ⟨-, r1, -⟩ := g3 p hp
      obtain ⟨q1, -⟩ := f9 p (by omega)
      have : s.1 ((56 + 717 * 0) + 2) = s.1 58 := rfl
      rw [← r1, this, ← n2, f8', ← hC]
      have q2 : M 1 (56 + 717 * 0 + 26 + 13 * p) = ((F + p : Nat) : Int) := q1
      rw [q2]
      omega
    · show s.1 776 ≤ s.1 58
      omega
    · show s.1 58 - (((s.2.2 (56 + 717 * 0 + 26))).length : Int) ≤ s.1 776
      have := a4 (by omega)
      omega
  · subst q
    obtain ⟨F, C, S, f1, f2, f3, f4, f5, f6, f7, f8, f9⟩ := e2.1
    have f1' : y 15 3 = F := f1
    have f2' : y 15 4 = C := f2
    have f7' : M 1 774 = C := f7
    have f8' : M 1 775 = ((F + C : Nat) : Int) := f8
    obtain ⟨-, g2, g3⟩ := (h.2.1 1 (by omega)).2.2
    have g2' : M 1 774 = (((s.2.2 (56 + 717 * 1 + 26))).length : Int) := g2
    have n2 := h.n 775 (by unfold aIx; omega)
    have n3 := h.n 59 (by unfold aIx; omega)
    have x3 : M 1 59 = y 1 7 := e1.2.2.2.2.2.1
    have hC : C = ((s.2.2 (56 + 717 * 1 + 26))).length := by omega
    refine ⟨fun p hp => ?_, ?_, fun w => ?_⟩
    · obtain ⟨-, r1, -⟩ := g3 p hp
      obtain ⟨q1, -⟩ := f9 p (by omega)
      have : s.1 ((56 + 717 * 1) + 2) = s.1 775 := rfl
      rw [← r1, this, ← n2, f8', ← hC]
      have q2 : M 1 (56 + 717 * 1 + 26 + 13 * p) = ((F + p : Nat) : Int) := q1
      rw [q2]
      omega
    · show s.1 59 ≤ s.1 775
      omega
    · show s.1 775 - (((s.2.2 (56 + 717 * 1 + 26))).length : Int) ≤ s.1 59
      have := b4 (by omega)
      omega
section
variable {s : aS} {B : Int} {m : xM} {H : List aS} {S : Option aS} {bf : List Int}
theorem aX.ln (h : aX B m s H S bf) : vLn s := by
  obtain ⟨y, X, h1, h2⟩ := h.line
  exact h1.ln h2
theorem aR.ev (h : aR B s) (p w : Nat) (h0 : 0 ≤ B) : aB B ((((s.2.2 1490)).getD p []).getD w 0) := by
  by_cases c : p < ((s.2.2 1490)).length
  · refine aRl_get (h.2.2 1490 _ ?_) h0 w
    rw [List.getD_eq_getElem?_getD, List.getElem?_eq_getElem c]
    exact List.getElem_mem c
  · have : ((s.2.2 1490)).getD p [] = [] := by
      rw [List.getD_eq_getElem?_getD, List.getElem?_eq_none (by omega)]; rfl
    rw [this]
    unfold aB
    show -B ≤ (0 : Int) ∧ (0 : Int) ≤ B
    omega
theorem s_366 (hs : aSee m s) (hi : aI B s) (hB : B ≤ 500000000) (h0 : 0 ≤ B) (hv : vEv (s.1 0) (vC s) ((s.2.2 1490))) (hp : gH) : ∀ (j p n : Nat) (x : Int), p + j = ((s.2.2 1490)).length → j < n → (p = 0 ∧ x = -1 ∨ ∃ q, p = q + 1 ∧ x = (((s.2.2 1490)).getD q []).getD 3 0) → f_L_isSound_366 hp n x (p : Int) m = some (1, m) := by
  intro j
  have hl : ((s.2.2 1490)).length ≤ 60 := hi.2.2.1
  have e10 : f_X_size 10 m = some (((s.2.2 1490)).length : Int) := hs.1 10 (by omega)
  induction j with
  | zero =>
    intro p n x h1 h2 hx
    obtain ⟨n, rfl⟩ : ∃ z, n = z + 1 := ⟨n - 1, by omega⟩
    rw [f_L_isSound_366, e10, Option.bind_some, if_neg (by rw [xw_nat (by omega), xw_nat (by omega)]; omega)]
  | succ j ih =>
    intro p n x h1 h2 hx
    obtain ⟨n, rfl⟩ : ∃ z, n = z + 1 := ⟨n - 1, by omega⟩
    have hpl : p < ((s.2.2 1490)).length := by omega
    have e1 := hs.2.2.2.2.2.2 p 1 hpl (by omega)
    have e3 := hs.2.2.2.2.2.2 p 3 hpl (by omega)
    have e0 := hs.2.2.2.2.2.2 p 0 hpl (by omega)
    obtain ⟨k, hk⟩ : ∃ k, k = (((s.2.2 1490)).getD p []).getD 1 0 := ⟨_, rfl⟩
    obtain ⟨z, hz⟩ : ∃ z, z = (((s.2.2 1490)).getD p []).getD 3 0 := ⟨_, rfl⟩
    have bk := hi.2.1.ev p 1 h0
    have bz := hi.2.1.ev p 3 h0
    have b0 := hi.2.1.ev p 0 h0
    have v1 := hv.1 p hpl
    unfold vE1 at v1
    rw [← hk] at e1 bk v1
    rw [← hz] at e3 bz v1
    rw [show ((1 : Nat) : Int) = 1 from rfl] at e1
    rw [show ((3 : Nat) : Int) = 3 from rfl] at e3
    rw [show ((0 : Nat) : Int) = 0 from rfl] at e0
    unfold aB at bk bz b0
    have next : f_L_isSound_499 hp (f_L_isSound_366 hp n) (p : Int) z m = some (1, m) := by
      unfold f_L_isSound_499
      rw [show (p : Int) + 1 = ((p + 1 : Nat) : Int) by omega]
      exact ih (p + 1) n z (by omega) (by omega) (Or.inr ⟨p, rfl, hz⟩)
    have wk : xw k = k := xw_id (by omega) (by omega)
    have wz : xw z = z := xw_id (by omega) (by omega)
    have chain : 0 ≤ x → -500000000 ≤ x ∧ x ≤ 500000000 → (k = 2 → z = x - 1) ∧ (k = 3 → z = x + 1) ∧ ((k = 6 ∨ k = 7) → z = x) → f_L_isSound_463 hp (f_L_isSound_366 hp n) x (p : Int) k z m = some (1, m) := fun w1 w2 w3 => by
      have wx : xw x = x := xw_id (by omega) (by omega)
      have wx1 : xw (x + 1) = x + 1 := xw_id (by omega) (by omega)
      have t477 : f_L_isSound_477 hp (f_L_isSound_366 hp n) x (p : Int) k z m = some (1, m) := by
        unfold f_L_isSound_477 f_L_isSound_491
        rw [wk, show xw 6 = 6 by decide, show xw 7 = 7 by decide, wz, wx, next]
        by_cases c6 : k = 6
        · rw [if_pos c6, if_pos (w3.2.2 (Or.inl c6))]
        · rw [if_neg c6]
          by_cases c7 : k = 7
          · rw [if_pos c7, if_pos (w3.2.2 (Or.inr c7))]
          · rw [if_neg c7]
      unfold f_L_isSound_463
      rw [wk, show xw 3 = 3 by decide, wz, wx1, t477]
      by_cases c3 : k = 3
      · rw [if_pos c3, if_pos (w3.2.1 c3)]
      · rw [if_neg c3]
    have t440 : ∀ (y : Int), (x < 0 ∨ (0 ≤ x ∧ x ≤ 500000000) ∧ ((k = 2 → z = x - 1) ∧ (k = 3 → z = x + 1) ∧ ((k = 6 ∨ k = 7) → z = x))) → -500000000 ≤ x → f_L_isSound_440 hp (f_L_isSound_366 hp n) x (p : Int) k z y y m = some (1, m) := fun y hxx hxl => by
      have hxu : x ≤ 500000000 := by
        rcases hxx with q | q
        · omega
        · exact q.1.2
      have wx : xw x = x := xw_id (by omega) (by omega)
      unfold f_L_isSound_440
      rw [if_pos rfl, wx]
      rcases hxx with q | q
      · rw [if_pos q, next]
      · obtain ⟨q1, q2⟩ := q
        rw [if_neg (by omega), wk, wz, show xw 2 = 2 by decide, show xw (x - 1) = x - 1 from xw_id (by omega) (by omega), chain q1.1 (by omega) q2]
        by_cases c2 : k = 2
        · rw [if_pos c2, if_pos (q2.1 c2)]
        · rw [if_neg c2]
    have t413 : (x < 0 ∨ (0 ≤ x ∧ x ≤ 500000000) ∧ ((k = 2 → z = x - 1) ∧ (k = 3 → z = x + 1) ∧ ((k = 6 ∨ k = 7) → z = x))) → -500000000 ≤ x → f_L_isSound_413 hp (f_L_isSound_366 hp n) x (p : Int) k z m = some (1, m) := fun hxx hxl => by
      unfold f_L_isSound_413 f_L_isSound_425 f_L_isSound_430
      rw [wk, wz, show xw 4 = 4 by decide, show xw 5 = 5 by decide]
      by_cases c : z < 0
      · have hk45 := v1.mpr c
        rw [if_pos c, if_pos c, t440 1 hxx hxl]
        rcases hk45 with q | q
        · rw [if_pos q]
        · rw [if_neg (by omega), if_pos q]
      · have hk45 : ¬ (k = 4 ∨ k = 5) := fun w => c (v1.mp w)
        rw [if_neg c, if_neg c, if_neg (fun w => hk45 (Or.inl w)), if_neg (fun w => hk45 (Or.inr w)), t440 0 hxx hxl]
    rw [f_L_isSound_366, e10, Option.bind_some, if_pos (by rw [xw_nat (by omega), xw_nat (by omega)]; omega), e1, Option.bind_some, e3, Option.bind_some, xw_nat (by omega)]
    rcases hx with ⟨q1, q2⟩ | ⟨q, q1, q2⟩
    · rw [if_neg (by omega)]
      exact t413 (Or.inl (by omega)) (by omega)
    · have e0' := hs.2.2.2.2.2.2 q 0 (by omega) (by omega)
      have b0' := hi.2.1.ev q 0 h0
      have bx := hi.2.1.ev q 3 h0
      rw [← q2] at bx
      unfold aB at b0' bx
      obtain ⟨o1, o2⟩ := hv.2.1 q (by omega)
      rw [← q1, ← q2, ← hk, ← hz] at o2
      rw [← q1] at o1
      rw [show ((0 : Nat) : Int) = 0 from rfl] at e0'
      rw [if_pos (by omega), e0, Option.bind_some, show (p : Int) - 1 = ((q : Nat) : Int) by omega, e0', Option.bind_some, if_neg (by
        rw [xw_id (x := (((s.2.2 1490)).getD p []).getD 0 0) (by omega) (by omega), xw_id (x := (((s.2.2 1490)).getD q []).getD 0 0) (by omega) (by omega)]
        omega)]
      refine t413 ?_ (by omega)
      by_cases c : x < 0
      · exact Or.inl c
      · exact Or.inr ⟨⟨by omega, by omega⟩, o2 (by omega)⟩
theorem s_297 (hs : aSee m s) (hi : aI B s) (hB : B ≤ 400000000) (h0 : 0 ≤ B) (hv : vB s) (hp : gH) : f_L_isSound_297 hp (s.1 55) m = some (1, m) := by
  obtain ⟨⟨n1, n2, n3, n4⟩, hE, -⟩ := hv
  have t10 := hs.2.1 10 (by omega)
  have t1 := hs.2.1 1 (by omega)
  have t0 := hs.2.1 0 (by omega)
  have t9 := hs.2.1 9 (by omega)
  have t7 := hs.2.1 7 (by omega)
  have t8 := hs.2.1 8 (by omega)
  have t6 := hs.2.1 6 (by omega)
  have w : ∀ j, -400000000 ≤ s.1 j ∧ s.1 j ≤ 400000000 := fun j => by
    have := hi.2.1.1 j
    unfold aB at this
    omega
  have x : ∀ j, xw (s.1 j) = s.1 j := fun j => by
    have := w j
    exact xw_id (by omega) (by omega)
  have a0 := hi.1.2.2.2.2.2
  have w45 := w 45
  have w54 := w 54
  have w52 := w 52
  have w53 := w 53
  have w51 := w 51
  have w46 := w 46
  have h4 : s.1 53 - s.1 51 - s.1 52 ≤ 1 := by split at n4 <;> omega
  rw [show ((10 : Nat) : Int) = 10 from rfl, show 45 + 10 = 55 from rfl] at t10
  rw [show ((1 : Nat) : Int) = 1 from rfl, show 45 + 1 = 46 from rfl] at t1
  rw [show ((0 : Nat) : Int) = 0 from rfl, show 45 + 0 = 45 from rfl] at t0
  rw [show ((9 : Nat) : Int) = 9 from rfl, show 45 + 9 = 54 from rfl] at t9
  rw [show ((7 : Nat) : Int) = 7 from rfl, show 45 + 7 = 52 from rfl] at t7
  rw [show ((8 : Nat) : Int) = 8 from rfl, show 45 + 8 = 53 from rfl] at t8
  rw [show ((6 : Nat) : Int) = 6 from rfl, show 45 + 6 = 51 from rfl] at t6
  unfold f_L_isSound_297
  rw [t10, Option.bind_some, if_pos rfl, t1, Option.bind_some, t0, Option.bind_some, if_neg (by rw [x, x]; omega), t9, Option.bind_some, Option.bind_some, if_neg (by rw [x, xw_id (x := 5 * s.1 45) (by omega) (by omega)]; omega), t7, Option.bind_some, t8, Option.bind_some, t6, Option.bind_some, if_neg (by rw [xw_id (x := s.1 52 + 1) (by omega) (by omega), xw_id (x := s.1 53 - s.1 51) (by omega) (by omega)]; omega)]
  exact s_366 hs hi (by omega) h0 hE hp ((s.2.2 1490)).length 0 fu (-1) (by omega) (by have : ((s.2.2 1490)).length ≤ 60 := hi.2.2.1; show _ < 5000; omega) (Or.inl ⟨rfl, rfl⟩)
/-- words of a dictionary differ -/
theorem s_201 (hs : aSee m s) (hi : aI B s) (hu : aU s) (hB : B ≤ 500000000) {e : Nat} (he : e < 2) (hp : gH) (k4 : Int → Int → xM → Option (Int × xM)) (k186 : Int → Int → Int → xM → Option (Int × xM)) (x1 : Int) {p : Nat} (hpl : p < ((s.2.1 (56 + 717 * e + 10))).length) : ∀ (j i n : Nat), i + j = p → j < n → f_L_isSound_201 hp k4 k186 n x1 (e : Int) (p : Int) (i : Int) m = k186 x1 (e : Int) ((p : Int) + 1) m := by
  intro j
  have hl : ((s.2.1 (56 + 717 * e + 10))).length ≤ 8 := (hi.2.2.2.1 e he).2.1.2.2.1
  induction j with
  | zero =>
    intro i n h1 h2
    obtain ⟨n, rfl⟩ : ∃ z, n = z + 1 := ⟨n - 1, by omega⟩
    rw [f_L_isSound_201, if_neg (by rw [xw_nat (by omega), xw_nat (by omega)]; omega)]
    rfl
  | succ j ih =>
    intro i n h1 h2
    obtain ⟨n, rfl⟩ : ∃ z, n = z + 1 := ⟨n - 1, by omega⟩
    have hil : i < ((s.2.1 (56 + 717 * e + 10))).length := by omega
    have v1 := (hs.2.2.2.2.2.1 e p he (by omega)).1
    have v2 := (hs.2.2.2.2.2.1 e i he (by omega)).1
    rw [if_pos hpl] at v1
    rw [if_pos hil] at v2
    have hne : ((s.2.1 (56 + 717 * e + 10))).getD p 0 ≠ ((s.2.1 (56 + 717 * e + 10))).getD i 0 := by
      have nd : ((s.2.1 (56 + 717 * e + 10))).Nodup := (hu e he).1.1
      rw [List.getD_eq_getElem?_getD, List.getElem?_eq_getElem hpl, List.getD_eq_getElem?_getD, List.getElem?_eq_getElem hil]
      intro w
      have := (List.getElem_inj nd).mp w
      omega
    have b1 : aB B (((s.2.1 (56 + 717 * e + 10))).getD p 0) := hi.2.1.2.1 _ _ (by
      rw [List.getD_eq_getElem?_getD, List.getElem?_eq_getElem hpl]; exact List.getElem_mem hpl)
    have b2 : aB B (((s.2.1 (56 + 717 * e + 10))).getD i 0) := hi.2.1.2.1 _ _ (by
      rw [List.getD_eq_getElem?_getD, List.getElem?_eq_getElem hil]; exact List.getElem_mem hil)
    rw [f_L_isSound_201, if_pos (by rw [xw_nat (by omega), xw_nat (by omega)]; omega), v1, Option.bind_some, v2, Option.bind_some, if_neg (by rw [b1.xw (by omega), b2.xw (by omega)]; exact hne), show (i : Int) + 1 = ((i + 1 : Nat) : Int) by omega]
    exact ih (i + 1) n (by omega) (by omega)
theorem s_186 (hs : aSee m s) (hi : aI B s) (hu : aU s) (hB : B ≤ 500000000) {e : Nat} (he : e < 2) (hp : gH) (k4 : Int → Int → xM → Option (Int × xM)) (x1 : Int) : ∀ (j p n : Nat), p + j = ((s.2.1 (56 + 717 * e + 10))).length → j < n → f_L_isSound_186 hp k4 n x1 (e : Int) (p : Int) m = f_L_isSound_241 hp k4 x1 (e : Int) m := by
  intro j
  have hl : ((s.2.1 (56 + 717 * e + 10))).length ≤ 8 := (hi.2.2.2.1 e he).2.1.2.2.1
  have e8 : f_X_end (e : Int) 8 m = some (((s.2.1 (56 + 717 * e + 10))).length : Int) := hs.2.2.1 e 8 he (by omega)
  induction j with
  | zero =>
    intro p n h1 h2
    obtain ⟨n, rfl⟩ : ∃ z, n = z + 1 := ⟨n - 1, by omega⟩
    rw [f_L_isSound_186, e8, Option.bind_some, if_neg (by rw [xw_nat (by omega), xw_nat (by omega)]; omega)]
  | succ j ih =>
    intro p n h1 h2
    obtain ⟨n, rfl⟩ : ∃ z, n = z + 1 := ⟨n - 1, by omega⟩
    have g := s_201 hs hi hu hB he hp k4 (f_L_isSound_186 hp k4 n) x1 (p := p) (by omega) p 0 fu (by omega) (by show _ < 5000; omega)
    rw [show ((0 : Nat) : Int) = 0 from rfl] at g
    rw [f_L_isSound_186, e8, Option.bind_some, if_pos (by rw [xw_nat (by omega), xw_nat (by omega)]; omega), g, show (p : Int) + 1 = ((p + 1 : Nat) : Int) by omega]
    exact ih (p + 1) n (by omega) (by omega)
theorem s_241 (h : aX B m s H S bf) (hB : B ≤ 500000000) {e : Nat} (he : e < 2) (hp : gH) (k4 : Int → Int → xM → Option (Int × xM)) (x1 : Int) : ∃ m' : xM, f_L_isSound_241 hp k4 x1 (e : Int) m = k4 (x1 + s.1 ((56 + 717 * e) + 4)) ((e : Int) + 1) m' ∧ aX B m' s H S bf := by
  have hs := h.see (by omega)
  have hi := h.ai.1
  have e1 : f_X_size 1 m = some (s.1 1) := hs.1 1 (by omega)
  have e0 : f_X_end (e : Int) 0 m = some (((s.2.1 (56 + 717 * e + 117))).length : Int) := hs.2.2.1 e 0 he (by omega)
  have hq : ((s.2.1 (56 + 717 * e + 117))).length ≤ 300 := (hi.2.2.2.1 e he).2.1.1
  have ph := hi.1.2.1
  have t282 : ∀ m' : xM, aX B m' s H S bf → f_L_isSound_282 hp k4 x1 (e : Int) m' = k4 (x1 + s.1 ((56 + 717 * e) + 4)) ((e : Int) + 1) m' := fun m' h' => by
    have e5 : f_X_end (e : Int) 5 m' = some (s.1 ((56 + 717 * e) + 4)) := (h'.see (by omega)).2.2.1 e 5 he (by omega)
    unfold f_L_isSound_282
    rw [e5, Option.bind_some]
  unfold f_L_isSound_241
  rw [e1, Option.bind_some, xw_id (x := s.1 1) (by omega) (by omega), show xw 2 = 2 by decide]
  by_cases c : s.1 1 = 2
  · rw [if_pos c, e0, Option.bind_some, xw_nat (by omega)]
    obtain ⟨m', c1, c2⟩ := h.cost he (by omega)
    have hc : (0 < aNextC e s ↔ 0 < ((s.2.1 (56 + 717 * e + 117))).length) ∧ 0 ≤ aNextC e s ∧ aNextC e s ≤ 29 := by
      unfold aNextC
      have := aCost_le e (((s.2.1 (56 + 717 * e + 117))).take 8) s
      have hl : (((s.2.1 (56 + 717 * e + 117))).take 8).length ≤ 8 := by rw [List.length_take]; omega
      by_cases d : ((s.2.1 (56 + 717 * e + 117))).length ≠ 0
      · rw [if_pos ⟨c, d⟩]
        exact ⟨⟨fun _ => by omega, fun _ => by omega⟩, by omega, by omega⟩
      · rw [if_neg (fun w => d w.2)]
        exact ⟨⟨fun w => absurd w (by decide), fun w => by omega⟩, by omega, by omega⟩
    have t264 : ∀ y : Int, (y = if 0 < ((s.2.1 (56 + 717 * e + 117))).length then 1 else 0) → f_L_isSound_264 hp k4 x1 (e : Int) y m = k4 (x1 + s.1 ((56 + 717 * e) + 4)) ((e : Int) + 1) m' := fun y hy => by
      unfold f_L_isSound_264 f_L_isSound_277
      rw [c1, Option.bind_some, xw_id (x := aNextC e s) (by omega) (by omega), t282 m' c2]
      by_cases d : 0 < ((s.2.1 (56 + 717 * e + 117))).length
      · rw [if_pos (hc.1.mpr d), if_pos (by rw [hy, if_pos d])]
      · rw [if_neg (fun w => d (hc.1.mp w)), if_pos (by rw [hy, if_neg d])]
    refine ⟨m', ?_, c2⟩
    by_cases d : 0 < ((s.2.1 (56 + 717 * e + 117))).length
    · rw [if_pos (by omega)]
      exact t264 1 (by rw [if_pos d])
    · rw [if_neg (by omega)]
      exact t264 0 (by rw [if_neg d])
  · rw [if_neg c]
    exact ⟨m, t282 m h, h⟩
theorem s_145 (h : aX B m s H S bf) (hB : B ≤ 500000000) {e : Nat} (he : e < 2) (hp : gH) (k4 : Int → Int → xM → Option (Int × xM)) (x1 : Int) : ∃ m' : xM, f_L_isSound_145 hp k4 x1 (e : Int) m = k4 (x1 + s.1 ((56 + 717 * e) + 4)) ((e : Int) + 1) m' ∧ aX B m' s H S bf := by
  have hs := h.see (by omega)
  obtain ⟨hi, hu⟩ := h.ai
  have hl : ((s.2.1 (56 + 717 * e + 10))).length ≤ 8 := (hi.2.2.2.1 e he).2.1.2.2.1
  have hl2 : (s.2.1 ((56 + 717 * e) + 18)).length ≤ 8 := (hi.2.2.2.1 e he).2.1.2.2.2
  have hq : ((s.2.1 (56 + 717 * e + 117))).length ≤ 200 := (hu e he).2.1
  have e8 : f_X_end (e : Int) 8 m = some (((s.2.1 (56 + 717 * e + 10))).length : Int) := hs.2.2.1 e 8 he (by omega)
  have e9 : f_X_end (e : Int) 9 m = some ((s.2.1 ((56 + 717 * e) + 18)).length : Int) := hs.2.2.1 e 9 he (by omega)
  have e0 : f_X_end (e : Int) 0 m = some (((s.2.1 (56 + 717 * e + 117))).length : Int) := hs.2.2.1 e 0 he (by omega)
  unfold f_L_isSound_145
  rw [e8, Option.bind_some, if_neg (by rw [xw_nat (by omega), show xw 8 = 8 by decide]; omega), e9, Option.bind_some, if_neg (by rw [xw_nat (by omega), show xw 8 = 8 by decide]; omega), e0, Option.bind_some, if_neg (by rw [xw_nat (by omega), show xw 200 = 200 by decide]; omega)]
  have := s_186 hs hi hu hB he hp k4 x1 ((s.2.1 (56 + 717 * e + 10))).length 0 fu (by omega) (by show _ < 5000; omega)
  rw [show ((0 : Nat) : Int) = 0 from rfl] at this
  rw [this]
  exact s_241 h hB he hp k4 x1
theorem s_36 (h : aX B m s H S bf) (hB : B ≤ 400000000) (hv : vB s) {e : Nat} (he : e < 2) (hp : gH) (k4 : Int → Int → xM → Option (Int × xM)) (x1 : Int) : ∀ (j p n : Nat), p + j = ((s.2.2 (56 + 717 * e + 26))).length → j < n → ∃ m' : xM, f_L_isSound_36 hp k4 n x1 (e : Int) (((s.2.2 (56 + 717 * e + 26))).length : Int) (s.1 ((56 + 717 * (1 - e)) + 3)) (p : Int) m = k4 (x1 + s.1 ((56 + 717 * e) + 4)) ((e : Int) + 1) m' ∧ aX B m' s H S bf := by
  intro j
  have hs := h.see (by omega)
  obtain ⟨hi, hu⟩ := h.ai
  have hf7 : ((s.2.2 (56 + 717 * e + 26))).length ≤ 7 := (hi.2.2.2.1 e he).1.1
  obtain ⟨l1, l2, l3⟩ := h.ln e he
  have w : ∀ j, -400000000 ≤ s.1 j ∧ s.1 j ≤ 400000000 := fun j => by
    have := hi.2.1.1 j
    unfold aB at this
    omega
  have x : ∀ j, xw (s.1 j) = s.1 j := fun j => by
    have := w j
    exact xw_id (by omega) (by omega)
  have w2 := w ((56 + 717 * e) + 2)
  have w3 := w ((56 + 717 * (1 - e)) + 3)
  have e3 : f_X_end (e : Int) 3 m = some (s.1 ((56 + 717 * e) + 2)) := hs.2.2.1 e 3 he (by omega)
  have e1 : f_X_size 1 m = some (s.1 1) := hs.1 1 (by omega)
  have e0 : f_X_size 0 m = some (s.1 0) := hs.1 0 (by omega)
  have ph := hi.1.2.1
  induction j with
  | zero =>
    intro p n h1 h2
    obtain ⟨n, rfl⟩ : ∃ z, n = z + 1 := ⟨n - 1, by omega⟩
    rw [f_L_isSound_36, if_neg (by rw [xw_nat (by omega), xw_nat (by omega)]; omega)]
    unfold f_L_isSound_113
    rw [e3, Option.bind_some, if_neg (by rw [x, x]; omega), e1, Option.bind_some, x]
    by_cases c : s.1 1 = 0
    · rw [if_pos c]
      exact s_145 h (by omega) he hp k4 x1
    · rw [if_neg c, Option.bind_some, if_neg (by
        have := l3 c
        rw [x, xw_id (x := s.1 ((56 + 717 * e) + 2) - (((s.2.2 (56 + 717 * e + 26))).length : Int)) (by omega) (by omega)]
        omega)]
      exact s_145 h (by omega) he hp k4 x1
  | succ j ih =>
    intro p n h1 h2
    obtain ⟨n, rfl⟩ : ∃ z, n = z + 1 := ⟨n - 1, by omega⟩
    have hpl : p < ((s.2.2 (56 + 717 * e + 26))).length := by omega
    have hm : ((s.2.2 (56 + 717 * e + 26))).getD p [] ∈ (s.2.2 (56 + 717 * e + 26)) := by
      rw [List.getD_eq_getElem?_getD, List.getElem?_eq_getElem hpl]
      exact List.getElem_mem hpl
    obtain ⟨⟨g1, g2⟩, -⟩ := (hi.2.2.2.1 e he).1.2.1 _ hm
    have f0 : f_X_frame (e : Int) (p : Int) 0 m = some ((((s.2.2 (56 + 717 * e + 26))).getD p []).getD 0 0) := hs.2.2.2.1 e p 0 he hpl (by omega)
    have f1 : f_X_frame (e : Int) (p : Int) 1 m = some (((((s.2.2 (56 + 717 * e + 26))).getD p []).length : Int) - 3) := hs.2.2.2.1 e p 1 he hpl (by omega)
    have f2 : f_X_frame (e : Int) (p : Int) 2 m = some ((((s.2.2 (56 + 717 * e + 26))).getD p []).getD 1 0) := hs.2.2.2.1 e p 2 he hpl (by omega)
    have v2 := hv.2.2 e he _ hm
    have b2 := aRl_get (hi.2.1.2.2 _ _ hm) (by have := w 0; have := hi.2.1.1 0; unfold aB at this; omega) 1
    unfold aB at b2
    have w0 := w 0
    rw [f_L_isSound_36, if_pos (by rw [xw_nat (by omega), xw_nat (by omega)]; omega), f0, Option.bind_some, e3, Option.bind_some, if_pos (by rw [l1 p hpl]), f1, Option.bind_some, if_neg (by rw [xw_id (x := ((((s.2.2 (56 + 717 * e + 26))).getD p []).length : Int) - 3) (by omega) (by omega), show xw 1 = 1 by decide]; omega), Option.bind_some, if_neg (by rw [xw_id (x := ((((s.2.2 (56 + 717 * e + 26))).getD p []).length : Int) - 3) (by omega) (by omega), show xw 8 = 8 by decide]; omega), f2, Option.bind_some, e0, Option.bind_some, if_pos (by rw [xw_id (x := (((s.2.2 (56 + 717 * e + 26))).getD p []).getD 1 0) (by omega) (by omega), x]; omega), show (p : Int) + 1 = ((p + 1 : Nat) : Int) by omega]
    exact ih (p + 1) n (by omega) (by omega)
theorem aX.sound (h : aX B m s H S bf) (hB : B ≤ 400000000) (h0 : 0 ≤ B) (hv : vB s) (hp : gH) : ∃ m' : xM, f_L_isSound hp m = some (1, m') ∧ aX B m' s H S bf := by
  have step : ∀ (m : xM) (e n : Nat) (x1 : Int), e < 2 → aX B m s H S bf → ∃ m' : xM, f_L_isSound_4 hp (n + 1) x1 (e : Int) m = f_L_isSound_4 hp n (x1 + s.1 ((56 + 717 * e) + 4)) ((e : Int) + 1) m' ∧ aX B m' s H S bf := fun m e n x1 he h => by
    have hs := h.see (by omega)
    obtain ⟨hi, hu⟩ := h.ai
    obtain ⟨a1, -⟩ := hi.2.2.2.1 e he
    have hc := aCnt_all _ fun f hf => (a1.2.1 f hf).2.1
    have e1 : f_X_end (e : Int) 1 m = some (aCnt 0 ((s.2.2 (56 + 717 * e + 26)))) := hs.2.2.1 e 1 he (by omega)
    have e2 : f_X_end (e : Int) 2 m = some (aCnt 1 ((s.2.2 (56 + 717 * e + 26)))) := hs.2.2.1 e 2 he (by omega)
    have e4 : f_X_end (1 - (e : Int)) 4 m = some (s.1 ((56 + 717 * (1 - e)) + 3)) := by
      rw [show 1 - (e : Int) = ((1 - e : Nat) : Int) by omega]
      exact hs.2.2.1 (1 - e) 4 (by omega) (by omega)
    have hf7 : ((s.2.2 (56 + 717 * e + 26))).length ≤ 7 := a1.1
    have := s_36 h hB hv he hp (f_L_isSound_4 hp n) x1 ((s.2.2 (56 + 717 * e + 26))).length 0 fu (by omega) (by show _ < 5000; omega)
    rw [show ((0 : Nat) : Int) = 0 from rfl] at this
    rw [f_L_isSound_4, if_pos (by rw [xw_nat (by omega), show xw 2 = 2 by decide]; omega), e1, Option.bind_some, e2, Option.bind_some, e4, Option.bind_some, hc]
    exact this
  unfold f_L_isSound
  obtain ⟨m1, a1, a2⟩ := step m 0 4999 0 (by omega) h
  obtain ⟨m2, b1, b2⟩ := step m1 1 4998 (0 + s.1 ((56 + 717 * 0) + 4)) (by omega) a2
  refine ⟨m2, ?_, b2⟩
  have e0 : f_L_isSound_4 hp fu 0 0 m = f_L_isSound_4 hp (4999 + 1) 0 ((0 : Nat) : Int) m := rfl
  rw [e0, a1]
  have e1 : f_L_isSound_4 hp 4999 (0 + s.1 ((56 + 717 * 0) + 4)) (((0 : Nat) : Int) + 1) m1 = f_L_isSound_4 hp (4998 + 1) (0 + s.1 ((56 + 717 * 0) + 4)) ((1 : Nat) : Int) m1 := rfl
  rw [e1, b1]
  have n1 : s.1 60 + s.1 777 = s.1 55 := hv.1.1
  have e2 : 0 + s.1 ((56 + 717 * 0) + 4) + s.1 ((56 + 717 * 1) + 4) = s.1 55 := by
    show 0 + s.1 60 + s.1 777 = _
    omega
  rw [e2]
  have e3 : f_L_isSound_4 hp 4998 (s.1 55) (((1 : Nat) : Int) + 1) m2 = f_L_isSound_297 hp (s.1 55) m2 := by
    rw [f_L_isSound_4, if_neg (by decide)]
  rw [e3]
  exact s_297 (b2.see (by omega)) b2.ai.1 hB h0 hv hp
end

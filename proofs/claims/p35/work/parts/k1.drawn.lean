/-! ===== the law draws a line ===== -/
section
variable {fs : List xV} {cs : List gC}
theorem HL_len (fs : List xV) (cs : List gC) : (HL fs cs).length = 31 + cs.length := by
  unfold HL
  rw [List.length_cons, List.length_cons, List.length_append]
  show (29 + cs.length) + 1 + 1 = _
  omega
theorem HL_obj (fs : List xV) (cs : List gC) : gat (HL fs cs) 2001 = some (.inr (.inr fs)) := rfl
theorem HL_at {i : Nat} {c : gC} (h : cs[i]? = some c) : gat (HL fs cs) (2031 + i) = some c := by
  unfold gat
  rw [if_pos (by omega), show 2031 + i - 2000 = (29 + i) + 1 + 1 by omega]
  show (hI29 ++ cs)[29 + i]? = _
  have e : hI29.length = 29 := rfl
  rw [List.getElem?_append_right (by omega), e, show 29 + i - 29 = i by omega]
  exact h
theorem HL_put {j : Nat} (v : xV) (hj : j < fs.length) : gpt (HL fs cs) 2001 j v = some (HL (fs.set j v) cs) := by
  unfold gpt
  rw [HL_obj]
  dsimp only
  rw [if_pos hj]
  rfl
theorem HL_new (n : Nat) (hn : n ≤ 1000000) {z : Int} (hz : z = (n : Int)) : gNw 0 (HL fs cs) z = some (2031 + cs.length, HL fs (cs ++ [.inl (0, List.replicate n 0)])) := by
  rw [hz, gNw_nat 0 _ (by omega), HL_len]
  have : HL fs cs ++ [.inl (0, List.replicate n 0)] = HL fs (cs ++ [.inl (0, List.replicate n 0)]) := by
    unfold HL
    rw [List.cons_append, List.cons_append, List.append_assoc]
  rw [this]
  congr 2
  omega
theorem HL_set {i k : Nat} {l : List Int} {z : Int} (x : Int) (h : cs[i]? = some (.inl (0, l))) (hz : z = (k : Int)) (hk : k < l.length) (hl : l.length < 100000) : gsN 0 (HL fs cs) (2031 + i) z x = some (HL fs (cs.set i (.inl (0, l.set k x)))) := by
  unfold gsN
  rw [HL_at h]
  dsimp only
  rw [hz, if_pos ⟨rfl, by unfold xib; rw [xw_nat (by omega)]; omega⟩, xix_nat (by omega), show 2031 + i - 2000 = (29 + i) + 1 + 1 by omega]
  congr 1
  show hZ6 :: .inr (.inr fs) :: (hI29 ++ cs).set (29 + i) (.inl (0, l.set k x)) = _
  have e : hI29.length = 29 := rfl
  rw [List.set_append_right _ _ (by omega), e, show 29 + i - 29 = i by omega]
  rfl
theorem HL_fld {j a : Nat} (h : fs[j]? = some (.inr (.inr (some a)))) : gfK (HL fs cs) 2001 j = some a := by
  unfold gfK gfR
  rw [HL_obj]
  dsimp only
  rw [h]
  rfl
end
theorem getD_snoc2 {α : Type} (l : List α) (a d : α) (i : Nat) : (l ++ [a]).getD i d = if i < l.length then l.getD i d else if i = l.length then a else d := by
  rw [List.getD_eq_getElem?_getD, List.getD_eq_getElem?_getD]
  by_cases c : i < l.length
  · rw [if_pos c, List.getElem?_append_left c]
  · rw [if_neg c, List.getElem?_append_right (by omega)]
    by_cases e : i = l.length
    · rw [if_pos e, e, Nat.sub_self]; rfl
    · rw [if_neg e, List.getElem?_eq_none (by rw [List.length_singleton]; omega)]; rfl
theorem set_fill : ∀ (A : List Int) (j : Nat) (v : Int), (A ++ List.replicate (j + 1) 0).set A.length v = A ++ [v] ++ List.replicate j 0
  | [], j, v => rfl
  | a :: A, j, v => by
    have ih := set_fill A j v
    rw [List.length_cons, List.cons_append, List.set_cons_succ, ih]
    rfl
/-- rates as they are drawn: in a range, and rising -/
def rUp (R : List (Nat × Nat)) : Prop := ∀ i, i < R.length → ((4 ≤ (R.getD i (0, 0)).1 ∧ (R.getD i (0, 0)).1 ≤ 23 + 12 * i) ∧ 1 ≤ (R.getD i (0, 0)).2 ∧ (R.getD i (0, 0)).2 ≤ 3 + 2 * i) ∧ (0 < i → (R.getD (i - 1) (0, 0)).1 < (R.getD i (0, 0)).1 ∧ (R.getD (i - 1) (0, 0)).2 < (R.getD i (0, 0)).2)
theorem rUp.snoc {R : List (Nat × Nat)} (h : rUp R) {p : Nat × Nat} (hp : (4 ≤ p.1 ∧ p.1 ≤ 23 + 12 * R.length) ∧ 1 ≤ p.2 ∧ p.2 ≤ 3 + 2 * R.length) (hq : 0 < R.length → (R.getD (R.length - 1) (0, 0)).1 < p.1 ∧ (R.getD (R.length - 1) (0, 0)).2 < p.2) : rUp (R ++ [p]) := fun i hi => by
  rw [List.length_append, List.length_singleton] at hi
  rw [getD_snoc2, getD_snoc2]
  by_cases c : i < R.length
  · rw [if_pos c]
    refine ⟨(h i c).1, fun w => ?_⟩
    rw [if_pos (by omega)]
    exact (h i c).2 w
  · have e : i = R.length := by omega
    rw [if_neg c, if_pos e, e]
    refine ⟨hp, fun w => ?_⟩
    rw [if_pos (by omega)]
    exact hq w
theorem rOk_of : ∀ (R : List (Nat × Nat)) (a b : Nat), (∀ p, p ∈ R → (4 ≤ p.1 ∧ p.1 ≤ 80) ∧ 1 ≤ p.2 ∧ p.2 ≤ 9) → (∀ p, R.head? = some p → a < p.1 ∧ b < p.2) → (∀ i, i + 1 < R.length → (R.getD i (0, 0)).1 < (R.getD (i + 1) (0, 0)).1 ∧ (R.getD i (0, 0)).2 < (R.getD (i + 1) (0, 0)).2) → rOk a b R
  | [], _, _, _, _, _ => trivial
  | p :: R, a, b, h1, h2, h3 => by
    obtain ⟨q1, q2⟩ := h1 p List.mem_cons_self
    obtain ⟨q3, q4⟩ := h2 p rfl
    refine ⟨⟨q3, q1.1, q1.2⟩, ⟨q4, q2.1, q2.2⟩, rOk_of R p.1 p.2 (fun x hx => h1 x (List.mem_cons_of_mem _ hx)) (fun x hx => ?_) fun i hi => ?_⟩
    · cases R with
      | nil => cases hx
      | cons y R =>
        cases hx
        exact h3 0 (by rw [List.length_cons, List.length_cons]; omega)
    · exact h3 (i + 1) (by rw [List.length_cons]; omega)
theorem rUp.ok {R : List (Nat × Nat)} (h : rUp R) (hl : R.length ≤ 4) : rOk 0 0 R := by
  refine rOk_of R 0 0 (fun p hp => ?_) (fun p hp => ?_) fun i hi => ?_
  · obtain ⟨i, hi, e⟩ := List.getElem_of_mem hp
    have := (h i hi).1
    rw [List.getD_eq_getElem?_getD, List.getElem?_eq_getElem hi] at this
    have e' : (some R[i]).getD (0, 0) = p := e
    rw [e'] at this
    omega
  · have hi : 0 < R.length := by
      cases R with
      | nil => cases hp
      | cons y R => exact Nat.succ_pos _
    have := (h 0 hi).1
    have e : R.getD 0 (0, 0) = p := by
      cases R with
      | nil => cases hp
      | cons y R =>
        cases hp
        rfl
    rw [e] at this
    omega
  · exact (h (i + 1) hi).2 (by omega)
/-- the two rows of rates, so far -/
def csR (R : List (Nat × Nat)) (j : Nat) : List gC := [.inl (0, cI (R.map Prod.fst) ++ List.replicate j 0), .inl (0, cI (R.map Prod.snd) ++ List.replicate j 0)]
theorem csR_len (R : List (Nat × Nat)) (j : Nat) : (cI (R.map Prod.fst) ++ List.replicate j 0).length = R.length + j ∧ (cI (R.map Prod.snd) ++ List.replicate j 0).length = R.length + j := by
  rw [List.length_append, List.length_append, cI_len, cI_len, List.length_map, List.length_map, List.length_replicate]
  exact ⟨rfl, rfl⟩
theorem cI_getD {l : List Nat} {r : List Int} {i : Nat} (h : i < l.length) : (cI l ++ r).getD i 0 = ((l.getD i 0 : Nat) : Int) := by
  unfold cI
  rw [List.getD_eq_getElem?_getD, List.getElem?_append_left (by rw [List.length_map]; exact h), List.getElem?_map, List.getElem?_eq_getElem h, List.getD_eq_getElem?_getD, List.getElem?_eq_getElem h]
  rfl
theorem map_getD1 {R : List (Nat × Nat)} {i : Nat} (h : i < R.length) : (R.map Prod.fst).getD i 0 = (R.getD i (0, 0)).1 ∧ (R.map Prod.snd).getD i 0 = (R.getD i (0, 0)).2 := by
  rw [List.getD_eq_getElem?_getD, List.getD_eq_getElem?_getD, List.getD_eq_getElem?_getD, List.getElem?_map, List.getElem?_map, List.getElem?_eq_getElem h]
  exact ⟨rfl, rfl⟩
theorem drawn_85 (Ln : Nat) (xs : Nat → Int) (x3 x4 : Int) {q : Int} {c d e : Nat} {r : Nat} (hr : r ≤ 4) : ∀ (j n : Nat) (R : List (Nat × Nat)), R.length + j = r → j < n → rUp R → ∃ R' : List (Nat × Nat), R'.length = r ∧ rUp R' ∧ f_L_drawn_85 Ln xs 0 n 2001 x3 x4 (r : Int) (R.length : Int) (HL (fI q 2031 2032 c d e) (csR R j)) = f_L_drawn_196 Ln xs 0 2001 x4 (HL (fI q 2031 2032 c d e) (csR R' 0)) := by
  intro j
  induction j with
  | zero =>
    intro n R h1 h2 h3
    obtain ⟨n, rfl⟩ : ∃ z, n = z + 1 := ⟨n - 1, by omega⟩
    refine ⟨R, by omega, h3, ?_⟩
    rw [f_L_drawn_85, if_neg (by rw [xw_nat (by omega), xw_nat (by omega)]; omega)]
  | succ j ih =>
    intro n R h1 h2 h3
    obtain ⟨n, rfl⟩ : ∃ z, n = z + 1 := ⟨n - 1, by omega⟩
    obtain ⟨l1, l2⟩ := csR_len R (j + 1)
    obtain ⟨x, hx⟩ : ∃ x, x = R.length := ⟨_, rfl⟩
    have f12 : ∀ cs, gfK (HL (fI q 2031 2032 c d e) cs) 2001 12 = some 2031 := fun cs => HL_fld rfl
    have f13 : ∀ cs, gfK (HL (fI q 2031 2032 c d e) cs) 2001 13 = some 2032 := fun cs => HL_fld rfl
    -- the rest, once both numbers are there
    have fin : ∀ s nd : Nat, (4 ≤ s ∧ s ≤ 23 + 12 * R.length) → (1 ≤ nd ∧ nd ≤ 3 + 2 * R.length) → (0 < R.length → (R.getD (R.length - 1) (0, 0)).1 < s ∧ (R.getD (R.length - 1) (0, 0)).2 < nd) → ∃ R' : List (Nat × Nat), R'.length = r ∧ rUp R' ∧ f_L_drawn_189 Ln xs 0 (f_L_drawn_85 Ln xs 0 n) 2001 x3 x4 (r : Int) (R.length : Int) (nd : Int) (R.length : Int) 2032 (HL (fI q 2031 2032 c d e) ((csR R (j + 1)).set 0 (.inl (0, (cI (R.map Prod.fst) ++ List.replicate (j + 1) 0).set R.length (s : Int))))) = f_L_drawn_196 Ln xs 0 2001 x4 (HL (fI q 2031 2032 c d e) (csR R' 0)) := fun s nd w1 w2 w3 => by
      have up := h3.snoc (p := (s, nd)) ⟨w1, w2⟩ w3
      obtain ⟨R', g1, g2, g3⟩ := ih n (R ++ [(s, nd)]) (by rw [List.length_append, List.length_singleton]; omega) (by omega) up
      refine ⟨R', g1, g2, ?_⟩
      unfold f_L_drawn_189
      rw [HL_set (i := 1) (k := R.length) (l := cI (R.map Prod.snd) ++ List.replicate (j + 1) 0) (nd : Int) rfl rfl (by rw [l2]; omega) (by rw [l2]; omega), Option.bind_some]
      have e1 : ((csR R (j + 1)).set 0 (.inl (0, (cI (R.map Prod.fst) ++ List.replicate (j + 1) 0).set R.length (s : Int)))).set 1 (.inl (0, (cI (R.map Prod.snd) ++ List.replicate (j + 1) 0).set R.length (nd : Int))) = csR (R ++ [(s, nd)]) j := by
        have k1 := set_fill (cI (R.map Prod.fst)) j (s : Int)
        have k2 := set_fill (cI (R.map Prod.snd)) j (nd : Int)
        rw [cI_len, List.length_map] at k1 k2
        show [Sum.inl (0, (cI (R.map Prod.fst) ++ List.replicate (j + 1) 0).set R.length (s : Int)), Sum.inl (0, (cI (R.map Prod.snd) ++ List.replicate (j + 1) 0).set R.length (nd : Int))] = _
        rw [k1, k2]
        unfold csR
        rw [List.map_append, List.map_append, cI_app, cI_app]
        rfl
      rw [e1, show (R.length : Int) + 1 = ((R ++ [(s, nd)]).length : Int) by rw [List.length_append, List.length_singleton]; omega]
      exact g3
    have s141 : ∀ s : Nat, (4 ≤ s ∧ s ≤ 23 + 12 * R.length) → (0 < R.length → (R.getD (R.length - 1) (0, 0)).1 < s) → ∃ R' : List (Nat × Nat), R'.length = r ∧ rUp R' ∧ f_L_drawn_141 Ln xs 0 (f_L_drawn_85 Ln xs 0 n) 2001 x3 x4 (r : Int) (R.length : Int) (s : Int) (R.length : Int) 2031 (HL (fI q 2031 2032 c d e) (csR R (j + 1))) = f_L_drawn_196 Ln xs 0 2001 x4 (HL (fI q 2031 2032 c d e) (csR R' 0)) := fun s w1 w3 => by
      unfold f_L_drawn_141
      rw [HL_set (i := 0) (k := R.length) (l := cI (R.map Prod.fst) ++ List.replicate (j + 1) 0) (s : Int) rfl rfl (by rw [l1]; omega) (by rw [l1]; omega), Option.bind_some, f13, Option.bind_some, xw_nat (by omega)]
      by_cases c0 : (R.length : Int) = 0
      · obtain ⟨r5, hr5, e5⟩ := L_most (xishr x3 9) (k := 3) (by omega)
        have e5' : ∀ hp : gH, f_L_most (xishr x3 9) 3 hp = some (r5 : Int) := e5
        rw [if_pos c0, e5', Option.bind_some, show (1 : Int) + (r5 : Int) = ((1 + r5 : Nat) : Int) by omega]
        exact fin s (1 + r5) w1 (by omega) fun w => by omega
      · obtain ⟨r5, hr5, e5⟩ := L_most (xishr x3 (10 + (R.length : Int))) (k := 2) (by omega)
        have e5' : ∀ hp : gH, f_L_most (xishr x3 (10 + (R.length : Int))) 2 hp = some (r5 : Int) := e5
        have b := h3 (R.length - 1) (by omega)
        have gn : gaN 0 (HL (fI q 2031 2032 c d e) ((csR R (j + 1)).set 0 (.inl (0, (cI (R.map Prod.fst) ++ List.replicate (j + 1) 0).set R.length (s : Int))))) 2032 ((R.length : Int) - 1) = some (((R.getD (R.length - 1) (0, 0)).2 : Nat) : Int) := by
          rw [gaN_z (HL_at (i := 1) (c := .inl (0, cI (R.map Prod.snd) ++ List.replicate (j + 1) 0)) rfl) (i := R.length - 1) (by omega) (by rw [l2]; omega) (by rw [l2]; omega), cI_getD (by rw [List.length_map]; omega), (map_getD1 (by omega)).2]
        rw [if_neg c0, Option.bind_some, gn, Option.bind_some, e5', Option.bind_some, show (((R.getD (R.length - 1) (0, 0)).2 : Nat) : Int) + 1 + (r5 : Int) = (((R.getD (R.length - 1) (0, 0)).2 + 1 + r5 : Nat) : Int) by omega]
        exact fin s _ w1 (by omega) fun w => ⟨w3 w, by omega⟩
    rw [f_L_drawn_85, if_pos (by rw [xw_nat (by omega), xw_nat (by omega)]; omega), f12, Option.bind_some, xw_nat (by omega)]
    by_cases c0 : (R.length : Int) = 0
    · obtain ⟨r5, hr5, e5⟩ := L_most (xishr x3 7) (k := 20) (by omega)
      have e5' : ∀ hp : gH, f_L_most (xishr x3 7) 20 hp = some (r5 : Int) := e5
      rw [if_pos c0, e5', Option.bind_some, show (4 : Int) + (r5 : Int) = ((4 + r5 : Nat) : Int) by omega]
      exact s141 (4 + r5) (by omega) fun w => by omega
    · obtain ⟨r5, hr5, e5⟩ := L_most (xishr x3 (8 + (R.length : Int))) (k := 12) (by omega)
      have e5' : ∀ hp : gH, f_L_most (xishr x3 (8 + (R.length : Int))) 12 hp = some (r5 : Int) := e5
      have b := h3 (R.length - 1) (by omega)
      have gn : gaN 0 (HL (fI q 2031 2032 c d e) (csR R (j + 1))) 2031 ((R.length : Int) - 1) = some (((R.getD (R.length - 1) (0, 0)).1 : Nat) : Int) := by
        rw [gaN_z (HL_at (i := 0) (c := .inl (0, cI (R.map Prod.fst) ++ List.replicate (j + 1) 0)) rfl) (i := R.length - 1) (by omega) (by rw [l1]; omega) (by rw [l1]; omega), cI_getD (by rw [List.length_map]; omega), (map_getD1 (by omega)).1]
      rw [if_neg c0, Option.bind_some, gn, Option.bind_some, e5', Option.bind_some, show (((R.getD (R.length - 1) (0, 0)).1 : Nat) : Int) + 1 + (r5 : Int) = (((R.getD (R.length - 1) (0, 0)).1 + 1 + r5 : Nat) : Int) by omega]
      exact s141 _ (by omega) fun w => by omega

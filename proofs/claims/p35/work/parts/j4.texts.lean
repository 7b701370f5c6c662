/-! ===== the texts of the law ===== -/
/-- the numbers of a line that a text sets up -/
def dV (q : Nat) (R : List (Nat × Nat)) (tr se N : List Nat) (j : Nat) : Int :=
  if j = 2 then (q : Int) else if j = 11 then (R.length : Int) else if 12 ≤ j ∧ j < 19 then ((se.getD (j - 12) 0 : Nat) : Int) else if j = 19 then (N.length : Int) else if 21 ≤ j ∧ j < 25 then ((tr.getD (j - 21) 0 : Nat) : Int) else if 25 ≤ j ∧ j < 35 then ((N.getD (j - 25) 0 : Nat) : Int) else if 35 ≤ j ∧ j < 40 then (((R.getD (j - 35) (0, 0)).1 : Nat) : Int) else if 40 ≤ j ∧ j < 45 then (((R.getD (j - 40) (0, 0)).2 : Nat) : Int) else 0
section
variable {q : Nat} {R : List (Nat × Nat)} {tr se N : List Nat}
theorem dV_2 : dV q R tr se N 2 = (q : Int) := if_pos rfl
theorem dV_11 : dV q R tr se N 11 = (R.length : Int) := rfl
theorem dV_se {j : Nat} (h : j < 7) : dV q R tr se N (12 + j) = ((se.getD j 0 : Nat) : Int) := by
  unfold dV
  rw [if_neg (by omega), if_neg (by omega), if_pos (by omega), show 12 + j - 12 = j by omega]
theorem dV_19 : dV q R tr se N 19 = (N.length : Int) := rfl
theorem dV_tr {j : Nat} (h : j < 4) : dV q R tr se N (21 + j) = ((tr.getD j 0 : Nat) : Int) := by
  unfold dV
  rw [if_neg (by omega), if_neg (by omega), if_neg (by omega), if_neg (by omega), if_pos (by omega), show 21 + j - 21 = j by omega]
theorem dV_N {j : Nat} (h : j < 10) : dV q R tr se N (25 + j) = ((N.getD j 0 : Nat) : Int) := by
  unfold dV
  rw [if_neg (by omega), if_neg (by omega), if_neg (by omega), if_neg (by omega), if_neg (by omega), if_pos (by omega), show 25 + j - 25 = j by omega]
theorem dV_s {j : Nat} (h : j < 5) : dV q R tr se N (35 + j) = (((R.getD j (0, 0)).1 : Nat) : Int) := by
  unfold dV
  rw [if_neg (by omega), if_neg (by omega), if_neg (by omega), if_neg (by omega), if_neg (by omega), if_neg (by omega), if_pos (by omega), show 35 + j - 35 = j by omega]
theorem dV_n {j : Nat} (h : j < 5) : dV q R tr se N (40 + j) = (((R.getD j (0, 0)).2 : Nat) : Int) := by
  unfold dV
  rw [if_neg (by omega), if_neg (by omega), if_neg (by omega), if_neg (by omega), if_neg (by omega), if_neg (by omega), if_neg (by omega), if_pos (by omega), show 40 + j - 40 = j by omega]
theorem dV_0 {j : Nat} (h : j ≠ 2 ∧ j ≠ 11 ∧ ¬ (12 ≤ j ∧ j < 20) ∧ ¬ (21 ≤ j ∧ j < 45)) : dV q R tr se N j = 0 := by
  unfold dV
  rw [if_neg (by omega), if_neg (by omega), if_neg (by omega), if_neg (by omega), if_neg (by omega), if_neg (by omega), if_neg (by omega), if_neg (by omega)]
theorem rOk_all : ∀ (R : List (Nat × Nat)) (a b : Nat), rOk a b R → ∀ p, p ∈ R → (4 ≤ p.1 ∧ p.1 ≤ 80) ∧ 1 ≤ p.2 ∧ p.2 ≤ 9
  | [], _, _, _, p, hp => absurd hp List.not_mem_nil
  | x :: R, a, b, ⟨⟨_, h1⟩, ⟨_, h2⟩, h3⟩, p, hp => by
    rcases List.mem_cons.mp hp with w | w
    · rw [w]; exact ⟨h1, h2⟩
    · exact rOk_all R x.1 x.2 h3 p w
/-- what a text may set up -/
def sOk (q : Nat) (R : List (Nat × Nat)) (tr se N : List Nat) : Prop := q ≤ 9 ∧ (rOk 0 0 R ∧ 1 ≤ R.length ∧ R.length ≤ 5) ∧ (tr.length = 4 ∧ ∀ x, x ∈ tr → 1 ≤ x ∧ x ≤ 20) ∧ (∃ re ho wi de ti li pa : Nat, se = [re, ho, wi, de, ti, li, pa] ∧ re ≤ 9 ∧ ho ≤ 50 ∧ (1 ≤ wi ∧ wi ≤ 7) ∧ (1 ≤ de ∧ de ≤ 9) ∧ (2 * de < ti ∧ ti ≤ 60) ∧ (1 ≤ li ∧ li ≤ 5) ∧ 1 ≤ pa ∧ pa ≤ 50) ∧ (1 ≤ N.length ∧ N.length ≤ 10) ∧ ∀ x, x ∈ N → x ≤ 9
theorem getD_all {l : List Nat} {b : Nat} (h : ∀ x, x ∈ l → x ≤ b) (i : Nat) : l.getD i 0 ≤ b := by
  by_cases c : i < l.length
  · rw [List.getD_eq_getElem?_getD, List.getElem?_eq_getElem c]
    exact h _ (List.getElem_mem c)
  · rw [List.getD_eq_getElem?_getD, List.getElem?_eq_none (by omega)]
    exact Nat.zero_le _
theorem getD_in {α : Type} {l : List α} {d : α} {i : Nat} (h : i < l.length) : l.getD i d ∈ l := by
  rw [List.getD_eq_getElem?_getD, List.getElem?_eq_getElem h]
  exact List.getElem_mem h
theorem sOk.dN (h : sOk q R tr se N) : dN (dV q R tr se N) := by
  obtain ⟨h1, ⟨h2, h3, h4⟩, ⟨h5, h6⟩, ⟨re, ho, wi, de, ti, li, pa, rfl, s1, s2, s3, s4, s5, s6, s7⟩, h8, h9⟩ := h
  have hR := rOk_all R 0 0 h2
  have e12 : dV q R tr [re, ho, wi, de, ti, li, pa] N 12 = (re : Int) := rfl
  have e13 : dV q R tr [re, ho, wi, de, ti, li, pa] N 13 = (ho : Int) := rfl
  have e14 : dV q R tr [re, ho, wi, de, ti, li, pa] N 14 = (wi : Int) := rfl
  have e15 : dV q R tr [re, ho, wi, de, ti, li, pa] N 15 = (de : Int) := rfl
  have e16 : dV q R tr [re, ho, wi, de, ti, li, pa] N 16 = (ti : Int) := rfl
  have e17 : dV q R tr [re, ho, wi, de, ti, li, pa] N 17 = (li : Int) := rfl
  have e18 : dV q R tr [re, ho, wi, de, ti, li, pa] N 18 = (pa : Int) := rfl
  have hRb : ∀ i, (R.getD i (0, 0)).1 ≤ 80 ∧ (R.getD i (0, 0)).2 ≤ 9 := fun i => by
    by_cases c : i < R.length
    · have := hR _ (getD_in (d := (0, 0)) c)
      omega
    · rw [List.getD_eq_getElem?_getD, List.getElem?_eq_none (by omega)]
      exact ⟨Nat.zero_le _, Nat.zero_le _⟩
  have htb : ∀ i, tr.getD i 0 ≤ 20 := getD_all fun x hx => (h6 x hx).2
  have hnb : ∀ i, N.getD i 0 ≤ 9 := getD_all h9
  refine ⟨fun j a b c d => dV_0 (by omega), by rw [dV_2]; omega, fun j hj => ?_, ?_⟩
  · by_cases c2 : j = 2
    · rw [c2, dV_2]; omega
    · by_cases c11 : j = 11
      · rw [c11, dV_11]; omega
      · by_cases c19 : 12 ≤ j ∧ j < 19
        · rcases (by omega : j = 12 ∨ j = 13 ∨ j = 14 ∨ j = 15 ∨ j = 16 ∨ j = 17 ∨ j = 18) with r | r | r | r | r | r | r
          · rw [r, e12]; omega
          · rw [r, e13]; omega
          · rw [r, e14]; omega
          · rw [r, e15]; omega
          · rw [r, e16]; omega
          · rw [r, e17]; omega
          · rw [r, e18]; omega
        · by_cases d19 : j = 19
          · rw [d19, dV_19]; omega
          · by_cases d21 : 21 ≤ j ∧ j < 25
            · have := htb (j - 21)
              rw [show j = 21 + (j - 21) by omega, dV_tr (by omega)]; omega
            · by_cases d25 : 25 ≤ j ∧ j < 35
              · have := hnb (j - 25)
                rw [show j = 25 + (j - 25) by omega, dV_N (by omega)]; omega
              · by_cases d35 : 35 ≤ j ∧ j < 40
                · have := hRb (j - 35)
                  rw [show j = 35 + (j - 35) by omega, dV_s (by omega)]; omega
                · by_cases d40 : 40 ≤ j ∧ j < 45
                  · have := hRb (j - 40)
                    rw [show j = 40 + (j - 40) by omega, dV_n (by omega)]; omega
                  · rw [dV_0 (by omega)]; omega
  · unfold aSu
    rw [sN_1 _ (j := 11) (by omega), sN_1 _ (j := 19) (by omega), sN_1 _ (j := 14) (by omega), sN_1 _ (j := 15) (by omega), sN_1 _ (j := 16) (by omega), sN_1 _ (j := 17) (by omega), sN_1 _ (j := 18) (by omega), sN_1 _ (j := 12) (by omega), sN_1 _ (j := 13) (by omega), dV_11, dV_19, e12, e13, e14, e15, e16, e17, e18]
    refine ⟨⟨by omega, by omega⟩, ⟨by omega, by omega, by omega, by omega, by omega, by omega, by omega⟩, fun k hk => ?_, fun k hk => ?_, fun k hk => ?_⟩
    · rw [sN_1 _ (by omega), dV_tr hk]
      have := h6 _ (getD_in (l := tr) (d := 0) (i := k) (by omega))
      omega
    · rw [sN_1 _ (by omega), dV_N (by omega)]
      have := hnb k
      omega
    · rw [sN_1 _ (by omega), sN_1 _ (by omega), dV_s (by omega), dV_n (by omega)]
      have := hR _ (getD_in (l := R) (d := (0, 0)) (i := k) (by omega))
      omega
/-! what the updates of a text give -/
theorem ups_ne {j : Nat} : ∀ (l : List (Nat × Int)) (D : Nat → Int), (∀ p, p ∈ l → p.1 ≠ j) → ups D l j = D j
  | [], D, _ => rfl
  | p :: l, D, h => by
    rw [ups_cons, ups_ne l _ fun x hx => h x (List.mem_cons_of_mem _ hx)]
    unfold xup
    rw [if_neg fun w => h p List.mem_cons_self w.symm]
theorem ups_cg {n : Nat} : ∀ (l : List (Nat × Int)) (D D' : Nat → Int), (∀ j, j < n → D j = D' j) → ∀ j, j < n → ups D l j = ups D' l j
  | [], D, D', h, j, hj => h j hj
  | p :: l, D, D', h, j, hj => by
    rw [ups_cons, ups_cons]
    refine ups_cg l _ _ (fun i hi => ?_) j hj
    unfold xup
    by_cases c : i = p.1
    · rw [if_pos c, if_pos c]
    · rw [if_neg c, if_neg c, h i hi]
theorem rl_keys : ∀ (R : List (Nat × Nat)) (k : Nat), ∀ p, p ∈ rl R k → p.1 = 11 ∨ (35 + k ≤ p.1 ∧ p.1 < 35 + k + R.length) ∨ (40 + k ≤ p.1 ∧ p.1 < 40 + k + R.length)
  | [], _, p, h => absurd h List.not_mem_nil
  | x :: R, k, p, h => by
    rw [List.length_cons]
    rcases List.mem_append.mp h with w | w
    · rcases List.mem_cons.mp w with w | w
      · rw [w]; exact Or.inr (Or.inl ⟨Nat.le_refl _, by show 35 + k < _; omega⟩)
      · rcases List.mem_cons.mp w with w | w
        · rw [w]; exact Or.inr (Or.inr ⟨Nat.le_refl _, by show 40 + k < _; omega⟩)
        · rw [List.mem_singleton.mp w]; exact Or.inl rfl
    · have := rl_keys R (k + 1) p w
      omega
theorem noU_keys : ∀ (L : List Nat) (k : Nat), ∀ p, p ∈ noU L k → p.1 = 19 ∨ (25 + k ≤ p.1 ∧ p.1 < 25 + k + L.length)
  | [], _, p, h => absurd h List.not_mem_nil
  | x :: L, k, p, h => by
    rw [List.length_cons]
    rcases List.mem_cons.mp h with w | w
    · rw [w]; exact Or.inr ⟨Nat.le_refl _, by show 25 + k < _; omega⟩
    · rcases List.mem_cons.mp w with w | w
      · rw [w]; exact Or.inl rfl
      · have := noU_keys L (k + 1) p w
        omega
theorem trU_keys : ∀ (L : List Nat) (k : Nat), ∀ p, p ∈ trU L k → 21 + k ≤ p.1 ∧ p.1 < 21 + k + L.length
  | [], _, p, h => absurd h List.not_mem_nil
  | x :: L, k, p, h => by
    rw [List.length_cons]
    rcases List.mem_cons.mp h with w | w
    · rw [w]; exact ⟨Nat.le_refl _, by show 21 + k < _; omega⟩
    · have := trU_keys L (k + 1) p w
      omega
theorem rl_val : ∀ (R : List (Nat × Nat)) (k : Nat) (D : Nat → Int), k + R.length ≤ 5 → (∀ i, i < R.length → ups D (rl R k) (35 + k + i) = (((R.getD i (0, 0)).1 : Nat) : Int) ∧ ups D (rl R k) (40 + k + i) = (((R.getD i (0, 0)).2 : Nat) : Int)) ∧ (R ≠ [] → ups D (rl R k) 11 = ((k + R.length : Nat) : Int))
  | [], k, D, _ => ⟨fun i hi => absurd hi (Nat.not_lt_zero i), fun h => absurd rfl h⟩
  | x :: R, k, D, h => by
    rw [List.length_cons] at h ⊢
    have e : rl (x :: R) k = [(35 + k, (x.1 : Int)), (40 + k, (x.2 : Int)), (11, ((k + 1 : Nat) : Int))] ++ rl R (k + 1) := rfl
    obtain ⟨ih1, ih2⟩ := rl_val R (k + 1) (ups D [(35 + k, (x.1 : Int)), (40 + k, (x.2 : Int)), (11, ((k + 1 : Nat) : Int))]) (by omega)
    have hk := rl_keys R (k + 1)
    rw [e, ups_app]
    refine ⟨fun i hi => ?_, fun _ => ?_⟩
    · cases i with
      | zero =>
        have a1 : ups (ups D [(35 + k, (x.1 : Int)), (40 + k, (x.2 : Int)), (11, ((k + 1 : Nat) : Int))]) (rl R (k + 1)) (35 + k + 0) = ups D [(35 + k, (x.1 : Int)), (40 + k, (x.2 : Int)), (11, ((k + 1 : Nat) : Int))] (35 + k + 0) := ups_ne _ _ fun p hp => by have := hk p hp; omega
        have a2 : ups (ups D [(35 + k, (x.1 : Int)), (40 + k, (x.2 : Int)), (11, ((k + 1 : Nat) : Int))]) (rl R (k + 1)) (40 + k + 0) = ups D [(35 + k, (x.1 : Int)), (40 + k, (x.2 : Int)), (11, ((k + 1 : Nat) : Int))] (40 + k + 0) := ups_ne _ _ fun p hp => by have := hk p hp; omega
        rw [a1, a2, ups3]
        unfold xup
        rw [if_neg (by omega), if_neg (by omega), if_pos (by omega), if_neg (by omega), if_pos (by omega)]
        exact ⟨rfl, rfl⟩
      | succ i =>
        have := ih1 i (by omega)
        rw [show 35 + k + (i + 1) = 35 + (k + 1) + i by omega, show 40 + k + (i + 1) = 40 + (k + 1) + i by omega]
        exact this
    · cases R with
      | nil =>
        show ups _ [] 11 = _
        show ups D [(35 + k, (x.1 : Int)), (40 + k, (x.2 : Int)), (11, ((k + 1 : Nat) : Int))] 11 = _
        rw [ups3]
        unfold xup
        rw [if_pos rfl]
        rfl
      | cons y R =>
        rw [ih2 (by intro w; cases w)]
        rw [List.length_cons]
        congr 1
        omega
theorem noU_val : ∀ (L : List Nat) (k : Nat) (D : Nat → Int), (∀ i, i < L.length → ups D (noU L k) (25 + k + i) = ((L.getD i 0 : Nat) : Int)) ∧ (k + L.length ≤ 10 → L ≠ [] → ups D (noU L k) 19 = ((k + L.length : Nat) : Int)) := by
  intro L
  induction L with
  | nil => exact fun k D => ⟨fun i hi => absurd hi (Nat.not_lt_zero i), fun _ h => absurd rfl h⟩
  | cons x L ih =>
    intro k D
    rw [List.length_cons]
    have hk := noU_keys L (k + 1)
    have e : ups D (noU (x :: L) k) = ups (xup (xup D (25 + k) (x : Int)) 19 ((k + 1 : Nat) : Int)) (noU L (k + 1)) := rfl
    obtain ⟨ih1, ih2⟩ := ih (k + 1) (xup (xup D (25 + k) (x : Int)) 19 ((k + 1 : Nat) : Int))
    rw [e]
    refine ⟨fun i hi => ?_, fun h10 _ => ?_⟩
    · cases i with
      | zero =>
        rw [ups_ne _ _ fun p hp => by have := hk p hp; omega]
        unfold xup
        rw [if_neg (by omega), if_pos (by omega)]
        rfl
      | succ i =>
        have := ih1 i (by omega)
        rw [show 25 + k + (i + 1) = 25 + (k + 1) + i by omega]
        exact this
    · cases L with
      | nil =>
        show (xup (xup D (25 + k) (x : Int)) 19 ((k + 1 : Nat) : Int)) 19 = _
        unfold xup
        rw [if_pos rfl]
        rfl
      | cons y L =>
        rw [ih2 (by rw [List.length_cons] at h10 ⊢; omega) (by intro w; cases w), List.length_cons]
        congr 1
        omega
theorem trU_val : ∀ (L : List Nat) (k : Nat) (D : Nat → Int), ∀ i, i < L.length → ups D (trU L k) (21 + k + i) = ((L.getD i 0 : Nat) : Int) := by
  intro L
  induction L with
  | nil => exact fun k D i hi => absurd hi (Nat.not_lt_zero i)
  | cons x L ih =>
    intro k D i hi
    have hk := trU_keys L (k + 1)
    have e : ups D (trU (x :: L) k) = ups (xup D (21 + k) (x : Int)) (trU L (k + 1)) := rfl
    rw [e]
    cases i with
    | zero =>
      rw [ups_ne _ _ fun p hp => by have := hk p hp; omega]
      unfold xup
      rw [if_pos (by omega)]
      rfl
    | succ i =>
      rw [List.length_cons] at hi
      have := ih (k + 1) (xup D (21 + k) (x : Int)) i (by omega)
      rw [show 21 + k + (i + 1) = 21 + (k + 1) + i by omega]
      exact this
end

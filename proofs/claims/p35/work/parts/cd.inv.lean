/-! ===== what stays true of a state ===== -/
def aSu (s : aS) : Prop := ((1 ≤ s.1 11 ∧ s.1 11 ≤ 5) ∧ (1 ≤ s.1 19 ∧ s.1 19 ≤ 10)) ∧ ((1 ≤ s.1 14 ∧ s.1 14 ≤ 7) ∧ (1 ≤ s.1 15 ∧ s.1 15 ≤ 9) ∧ (2 * s.1 15 < s.1 16 ∧ s.1 16 ≤ 60) ∧ (1 ≤ s.1 17 ∧ s.1 17 ≤ 5) ∧ (1 ≤ s.1 18 ∧ s.1 18 ≤ 50) ∧ (0 ≤ s.1 12 ∧ s.1 12 ≤ 9) ∧ (0 ≤ s.1 13 ∧ s.1 13 ≤ 50)) ∧ (∀ k, k < 4 → 1 ≤ s.1 (21 + k) ∧ s.1 (21 + k) ≤ 20) ∧ (∀ k : Nat, (k : Int) < s.1 19 → 0 ≤ s.1 (25 + k) ∧ s.1 (25 + k) ≤ 9) ∧ ∀ k : Nat, (k : Int) < s.1 11 → (4 ≤ s.1 (35 + k) ∧ s.1 (35 + k) ≤ 80) ∧ 1 ≤ s.1 (40 + k) ∧ s.1 (40 + k) ≤ 9
theorem aSu.cg {s t : aS} (h : aSu s) (e : ∀ j, 11 ≤ j → j < 45 → t.1 j = s.1 j) : aSu t := by
  obtain ⟨⟨h1, h2⟩, ⟨h3, h4, h5, h6, h7, h8, h9⟩, h10, h11, h12⟩ := h
  unfold aSu
  rw [e 11 (by omega) (by omega), e 12 (by omega) (by omega), e 13 (by omega) (by omega), e 14 (by omega) (by omega), e 15 (by omega) (by omega), e 16 (by omega) (by omega), e 17 (by omega) (by omega), e 18 (by omega) (by omega), e 19 (by omega) (by omega)]
  refine ⟨⟨h1, h2⟩, ⟨h3, h4, h5, h6, h7, h8, h9⟩, fun k hk => ?_, fun k hk => ?_, fun k hk => ?_⟩
  · rw [e _ (by omega) (by omega)]; exact h10 k hk
  · rw [e _ (by omega) (by omega)]; exact h11 k hk
  · rw [e _ (by omega) (by omega), e _ (by omega) (by omega)]; exact h12 k hk
theorem aSu.sm {s : aS} (h : aSu s) : oSm s := ⟨h.1.1, h.1.2.1, h.1.2.2⟩
/-- frames of an end, the next new number being n -/
def aFrOk (n : Int) (l : List (List Int)) : Prop := l.length ≤ 7 ∧ (∀ f, f ∈ l → (4 ≤ f.length ∧ f.length ≤ 11) ∧ (f.getD 2 0 = 0 ∨ f.getD 2 0 = 1) ∧ f.getD 0 0 < n) ∧ l.Pairwise fun f g => f.getD 0 0 < g.getD 0 0
def aEnd (s : aS) (e : Nat) : Prop := aFrOk (s.1 ((56 + 717 * e) + 2)) ((s.2.2 (56 + 717 * e + 26))) ∧ (((s.2.1 (56 + 717 * e + 117))).length ≤ 300 ∧ ((s.2.1 (56 + 717 * e + 317))).length ≤ 400 ∧ ((s.2.1 (56 + 717 * e + 10))).length ≤ 8 ∧ ((s.2.1 (56 + 717 * e + 18))).length ≤ 8) ∧ (0 ≤ s.1 ((56 + 717 * e) + 5) ∧ s.1 ((56 + 717 * e) + 5) ≤ 108) ∧ (s.1 ((56 + 717 * e) + 6) = 0 ∨ s.1 ((56 + 717 * e) + 6) = 1) ∧ (s.1 ((56 + 717 * e) + 9) = 0 ∨ s.1 ((56 + 717 * e) + 9) = 1)
theorem aEnd.cg {s t : aS} {e : Nat} (h : aEnd s e) (h1 : ∀ j, (j = (56 + 717 * e) + 2 ∨ j = (56 + 717 * e) + 5 ∨ j = (56 + 717 * e) + 6 ∨ j = (56 + 717 * e) + 9) → t.1 j = s.1 j) (h2 : ∀ j, (j = (56 + 717 * e) + 117 ∨ j = (56 + 717 * e) + 317 ∨ j = (56 + 717 * e) + 10 ∨ j = (56 + 717 * e) + 18) → t.2.1 j = s.2.1 j) (h3 : t.2.2 ((56 + 717 * e) + 26) = s.2.2 ((56 + 717 * e) + 26)) : aEnd t e := by
  unfold aEnd
  rw [h1 _ (Or.inl rfl), h1 _ (Or.inr (Or.inl rfl)), h1 _ (Or.inr (Or.inr (Or.inl rfl))), h1 _ (Or.inr (Or.inr (Or.inr rfl))), h2 _ (Or.inl rfl), h2 _ (Or.inr (Or.inl rfl)), h2 _ (Or.inr (Or.inr (Or.inl rfl))), h2 _ (Or.inr (Or.inr (Or.inr rfl))), h3]
  exact h
/-- one under way: whole, and with a byte at least if it is a frame -/
def aItOk (it : List Int) : Prop := oIt it ∧ (it.getD 1 0 = 0 → 7 ≤ it.length)
def aSc (s : aS) : Prop := (0 ≤ s.1 1 ∧ s.1 1 ≤ 3) ∧ (0 ≤ s.1 2 ∧ s.1 2 ≤ 9) ∧ (0 ≤ s.1 3 ∧ s.1 3 < s.1 11) ∧ (0 ≤ s.1 4 ∧ s.1 4 ≤ 3) ∧ 0 ≤ s.1 45
def aI (B : Int) (s : aS) : Prop := (aSu s ∧ aSc s) ∧ aR B s ∧ ((s.2.2 1490)).length ≤ 60 ∧ (∀ e, e < 2 → aEnd s e) ∧ ∀ it, it ∈ (s.2.2 1730) → aItOk it
theorem aI.le {B B' : Int} {s : aS} (h : aI B s) (hB : B ≤ B') : aI B' s := ⟨h.1, h.2.1.le hB, h.2.2⟩
theorem aFrOk.fw {n : Int} {l : List (List Int)} (h : aFrOk n l) : oFw l := ⟨by have := h.1; omega, fun f hf => by have := h.2.1 f hf; omega⟩
theorem aFrOk.filter {n : Int} {l : List (List Int)} (h : aFrOk n l) (P : List Int → Bool) : aFrOk n (l.filter P) := ⟨Nat.le_trans (List.length_filter_le _ _) h.1, fun f hf => h.2.1 f (List.mem_filter.mp hf).1, h.2.2.filter P⟩
theorem set2_0 (f : List Int) (x : Int) : (f.set 2 x).getD 0 0 = f.getD 0 0 := by
  rw [List.getD_eq_getElem?_getD, List.getD_eq_getElem?_getD, List.getElem?_set_ne (by omega)]
theorem aFrOk.mark {n : Int} {l : List (List Int)} (h : aFrOk n l) : aFrOk n (aMark l) := by
  unfold aMark
  refine ⟨by rw [List.length_map]; exact h.1, fun f hf => ?_, ?_⟩
  · obtain ⟨g, hg, rfl⟩ := List.mem_map.mp hf
    obtain ⟨h1, h2, h3⟩ := h.2.1 g hg
    rw [List.length_set, set2_0]
    refine ⟨h1, Or.inr ?_, h3⟩
    rw [List.getD_eq_getElem?_getD, List.getElem?_set_self (by omega)]
    rfl
  · rw [List.pairwise_map]
    exact h.2.2.imp fun {a b} w => by rw [set2_0, set2_0]; exact w
theorem aFrOk.nil (n : Int) : aFrOk n [] := ⟨Nat.zero_le _, fun f hf => absurd hf List.not_mem_nil, List.Pairwise.nil⟩
section
variable {B : Int} {s : aS}
theorem aI.tell (h : aI B s) {k e : Int} (hk : aB B k) (he : aB B e) (h1 : 1 ≤ B) : aI B (aTell k e s) :=
  ⟨h.1, aTell_R h.2.1 hk he h1, aTell_len k e s h.2.2.1, fun e' he' => (h.2.2.2.1 e' he').cg (fun _ _ => rfl) (fun _ _ => rfl) (aTell_F k e s _ (by omega)), fun it hit => h.2.2.2.2 it (by rw [aTell_fl] at hit; exact hit)⟩
theorem aI.ack (h : aI B s) {e : Nat} (he : e < 2) (num : Int) (h1 : 1 ≤ B) : aI (B + 1) (aAck e num s) := by
  obtain ⟨⟨h2, h3⟩, h4, h5, h6, h7⟩ := h
  have x9 := h4.1 9
  unfold aB at x9
  have sc : ∀ j, j ≠ 8 → j ≠ 9 → (aAck e num s).1 j = s.1 j := fun j j8 j9 => by unfold aAck; rw [aN_1, if_neg j9, aN_1, if_neg j8]; rfl
  have eF : ∀ j, j ≠ (56 + 717 * e) + 26 → (aAck e num s).2.2 j = s.2.2 j := fun j hj => by unfold aAck; rw [aN_2, aN_2, aF_3, if_neg hj]
  refine ⟨⟨h2.cg fun j j1 j2 => sc j (by omega) (by omega), ?_⟩, ?_, ?_, fun e' he' => ?_, fun it hit => ?_⟩
  · unfold aSc
    rw [sc 1 (by omega) (by omega), sc 2 (by omega) (by omega), sc 3 (by omega) (by omega), sc 4 (by omega) (by omega), sc 11 (by omega) (by omega), sc 45 (by omega) (by omega)]
    exact h3
  · unfold aAck
    exact (((h4.F fun f hf => h4.2.2 _ f (List.mem_filter.mp hf).1).N (by unfold aB; omega)).le (by omega)).N (by unfold aB; omega)
  · rw [eF _ (by omega)]; exact h5
  · by_cases c : e' = e
    · rw [c]
      have he6 := h6 e he
      unfold aEnd at *
      rw [sc _ (by omega) (by omega), sc _ (by omega) (by omega), sc _ (by omega) (by omega), sc _ (by omega) (by omega)]
      have e1 : (aAck e num s).2.2 ((56 + 717 * e) + 26) = ((s.2.2 (56 + 717 * e + 26))).filter fun f => decide (f.getD 0 0 ≠ num) := by unfold aAck; rw [aN_2, aN_2, aF_3, if_pos rfl]
      rw [e1]
      exact ⟨he6.1.filter _, he6.2⟩
    · exact (h6 e' he').cg (fun j hj => sc j (by omega) (by omega)) (fun _ _ => rfl) (eF _ (by omega))
  · rw [eF _ (by omega)] at hit
    exact h7 it hit
theorem aI.thrown (h : aI B s) : aI (B + 1) (aN s 47 (s.1 47 + 1)) := by
  obtain ⟨⟨h2, h3⟩, h4, h5, h6, h7⟩ := h
  have x9 := h4.1 47
  unfold aB at x9
  exact ⟨⟨h2.cg fun j j1 j2 => by rw [aN_1, if_neg (by omega)], h3⟩, (h4.le (by omega)).N (by unfold aB; omega), h5, fun e' he' => (h6 e' he').cg (fun j hj => by rw [aN_1, if_neg (by omega)]) (fun _ _ => rfl) rfl, h7⟩
theorem aI.L (h : aI B s) {j : Nat} {l : List Int} (hl : aRl B l) (hw : ∀ e, e < 2 → (j = (56 + 717 * e) + 117 → l.length ≤ 300) ∧ (j = (56 + 717 * e) + 317 → l.length ≤ 400) ∧ (j = (56 + 717 * e) + 10 → l.length ≤ 8) ∧ (j = (56 + 717 * e) + 18 → l.length ≤ 8)) : aI B (aL s j l) := by
  obtain ⟨⟨h2, h3⟩, h4, h5, h6, h7⟩ := h
  refine ⟨⟨h2, h3⟩, h4.L hl, h5, fun e' he' => ?_, h7⟩
  obtain ⟨a1, ⟨a2, a3, a4, a5⟩, a6⟩ := h6 e' he'
  obtain ⟨w1, w2, w3, w4⟩ := hw e' he'
  refine ⟨a1, ⟨?_, ?_, ?_, ?_⟩, a6⟩
  · rw [aL_2]
    by_cases c : (56 + 717 * e') + 117 = j
    · rw [if_pos c]; exact w1 c.symm
    · rw [if_neg c]; exact a2
  · rw [aL_2]
    by_cases c : (56 + 717 * e') + 317 = j
    · rw [if_pos c]; exact w2 c.symm
    · rw [if_neg c]; exact a3
  · rw [aL_2]
    by_cases c : (56 + 717 * e') + 10 = j
    · rw [if_pos c]; exact w3 c.symm
    · rw [if_neg c]; exact a4
  · rw [aL_2]
    by_cases c : (56 + 717 * e') + 18 = j
    · rw [if_pos c]; exact w4 c.symm
    · rw [if_neg c]; exact a5
theorem aI.recvs {e : Nat} (he : e < 2) {q : List Int} (h : aI B s) (hq : aRl B q) (h1 : 1 ≤ B) : aI (B + q.length) (aRecvs e q s) := by
  obtain ⟨⟨h2, h3⟩, h4, h5, h6, h7⟩ := h
  have sc := fun j j4 j5 => aRecvs_sc e q s j j4 j5
  have eF := aRecvs_F e q s
  refine ⟨⟨h2.cg fun j j1 j2 => sc j (by omega) (by omega), ?_⟩, aRecvs_R e q h4 hq h1, by rw [eF]; exact h5, fun e' he' => ?_, by rw [eF]; exact h7⟩
  · unfold aSc
    rw [sc 1 (by omega) (by omega), sc 2 (by omega) (by omega), sc 3 (by omega) (by omega), sc 4 (by omega) (by omega), sc 11 (by omega) (by omega), sc 45 (by omega) (by omega)]
    exact h3
  · obtain ⟨l1, l2⟩ := aRecvs_len e he q s (fun e'' he'' => ⟨(h6 e'' he'').2.1.2.2.2, (h6 e'' he'').2.1.2.1⟩) e' he'
    have eL : ∀ (q : List Int) (s : aS) (j : Nat), j ≠ (56 + 717 * e) + 18 → j ≠ (56 + 717 * e) + 317 → (aRecvs e q s).2.1 j = s.2.1 j := fun q => by
      induction q with
      | nil => intro s j _ _; rfl
      | cons v q ih => intro s j j1 j2; rw [aRecvs, ih _ j j1 j2, aRecv_L e he, if_neg j1, if_neg (fun w => j2 w.1)]
    obtain ⟨a1, ⟨a2, a3, a4, a5⟩, a6⟩ := h6 e' he'
    unfold aEnd
    rw [sc _ (by omega) (by omega), sc _ (by omega) (by omega), sc _ (by omega) (by omega), sc _ (by omega) (by omega), eF, eL q s _ (by omega) (by omega), eL q s ((56 + 717 * e') + 10) (by omega) (by omega)]
    exact ⟨a1, ⟨a2, l2, a4, l1⟩, a6⟩
theorem aI.take {e : Nat} (he : e < 2) {num mk : Int} {b : List Int} (h : aI B s) (hn : aB B num) (hb : aRl B b) (h1 : 8 ≤ B) : aI (B + b.length + 20) (aTake e num mk b s) := by
  have h0 : aI B (if mk = 1 then aTell 7 e (aL s ((56 + 717 * e) + 18) []) else s) := by
    by_cases c : mk = 1
    · rw [if_pos c]
      exact (h.L (fun x hx => absurd hx List.not_mem_nil) (fun _ _ => ⟨fun _ => Nat.zero_le _, fun _ => Nat.zero_le _, fun _ => Nat.zero_le _, fun _ => Nat.zero_le _⟩)).tell (by unfold aB; omega) (by unfold aB; omega) (by omega)
    · rw [if_neg c]; exact h
  have h3 := h0.recvs he hb (by omega)
  unfold aTake
  obtain ⟨t, ht⟩ : ∃ t, t = aRecvs e b (if mk = 1 then aTell 7 e (aL s ((56 + 717 * e) + 18) []) else s) := ⟨_, rfl⟩
  rw [← ht] at h3
  dsimp only
  rw [← ht]
  obtain ⟨⟨g2, g3⟩, g4, g5, g6, g7⟩ := h3
  have x3 := g4.1 ((56 + 717 * e) + 3)
  have x0 := g4.1 0
  have x15 := g2.2.1.2.1
  unfold aB at x3 x0 hn
  have sc : ∀ j, j ≠ (56 + 717 * e) + 3 → (aN t ((56 + 717 * e) + 3) (t.1 ((56 + 717 * e) + 3) + 1)).1 j = t.1 j := fun j hj => by rw [aN_1, if_neg hj]
  refine ⟨⟨g2.cg fun j j1 j2 => sc j (by omega), ?_⟩, ?_, ?_, fun e' he' => ?_, fun it hit => ?_⟩
  · unfold aSc
    rw [aF_1, sc 1 (by omega), sc 2 (by omega), sc 3 (by omega), sc 4 (by omega), sc 11 (by omega), sc 45 (by omega)]
    exact g3
  · refine aR.F ((g4.le (by omega)).N (by unfold aB; omega)) fun f hf => ?_
    rcases List.mem_append.mp hf with hf | hf
    · exact (g4.2.2 1730 f hf).le (by omega)
    · rw [List.mem_singleton] at hf
      subst hf
      intro x hx
      simp only [List.mem_cons, List.not_mem_nil, or_false] at hx
      unfold aB
      rcases hx with rfl | rfl | rfl | rfl <;> omega
  · rw [aF_3, if_neg (by omega)]; exact g5
  · exact (g6 e' he').cg (fun j hj => by rw [aF_1, sc j (by omega)]) (fun _ _ => rfl) (by rw [aF_3, if_neg (by omega)]; rfl)
  · rw [aF_3, if_pos rfl] at hit
    rcases List.mem_append.mp hit with hit | hit
    · exact g7 it hit
    · rw [List.mem_singleton] at hit
      subst hit
      refine ⟨⟨⟨Nat.le_of_ble_eq_true rfl, ?_⟩, Or.inl ⟨rfl, Nat.le_refl _⟩⟩, fun w => absurd w (by show ¬ (1 : Int) = 0; omega)⟩
      show (1 - (e : Int)) = 0 ∨ (1 - (e : Int)) = 1
      omega
theorem aI.land {it : List Int} (h : aI B s) (hit : aItOk it) (hr : aRl B it) (h1 : 8 ≤ B) : aI (B + 30) (aLand it s) := by
  have he : (it.getD 2 0).toNat < 2 := by rcases hit.1.1.2 with w | w <;> rw [w] <;> decide
  have hl := hit.1.1.1
  unfold aLand
  by_cases c1 : it.getD 1 0 = 1
  · rw [if_pos c1]; exact (h.ack he _ (by omega)).le (by omega)
  · rw [if_neg c1]
    by_cases c2 : it.getD 4 0 = 1 ∨ it.getD 3 0 ≠ s.1 ((56 + 717 * (it.getD 2 0).toNat) + 3)
    · rw [if_pos c2]; exact h.thrown.le (by omega)
    · rw [if_neg c2]
      refine (h.take he (aRl_get hr (by omega) 3) (fun x hx => hr x (List.mem_of_mem_drop hx)) h1).le ?_
      rw [List.length_drop]
      omega
end

/-! ===== the own line: dictionaries, costs, launches ===== -/
theorem gsN_nz {h : gH} {t : Nat} {l : List Int} {i : Nat} {z : Int} (x : Int) (hz : z = (i : Int)) (hi : i < l.length) (hl : l.length < 2147483648) : gsN t (h ++ [.inl (t, l)]) (2000 + h.length) z x = some (h ++ [.inl (t, l.set i x)]) := by
  subst hz
  exact gsN_nw hi hl x
theorem gNw_z (t : Nat) (h : gH) {n : Nat} {z : Int} (hz : z = (n : Int)) (hn : n ≤ 100000000) : gNw t h z = some (2000 + h.length, h ++ [.inl (t, List.replicate n 0)]) := by
  subst hz
  exact gNw_nat t h hn
theorem gNq_z (t : Nat) (h : gH) {n : Nat} {z : Int} (hz : z = (n : Int)) (hn : n ≤ 100000000) : gNq t h z = some (2000 + h.length, h ++ [.inr (.inl (t, List.replicate n none))]) := by
  subst hz
  exact gNq_nat t h hn
/-- ranges -/
def aB (B x : Int) : Prop := -B ≤ x ∧ x ≤ B
def aRl (B : Int) (l : List Int) : Prop := ∀ x, x ∈ l → aB B x
def aR (B : Int) (s : aS) : Prop := (∀ j, aB B (s.1 j)) ∧ (∀ j, aRl B (s.2.1 j)) ∧ ∀ j f, f ∈ s.2.2 j → aRl B f
theorem aB.xw {B x : Int} (h : aB B x) (hB : B ≤ 2147483647) : xw x = x := by
  unfold aB at h
  exact xw_id (by omega) (by omega)
theorem aB.le {B B' x : Int} (h : aB B x) (hB : B ≤ B') : aB B' x := by
  unfold aB at *
  omega
theorem aRl.le {B B' : Int} {l : List Int} (h : aRl B l) (hB : B ≤ B') : aRl B' l := fun x hx => (h x hx).le hB
theorem aR.le {B B' : Int} {s : aS} (h : aR B s) (hB : B ≤ B') : aR B' s := ⟨fun j => (h.1 j).le hB, fun j => (h.2.1 j).le hB, fun j f hf => (h.2.2 j f hf).le hB⟩
theorem aR.N {B : Int} {s : aS} {j : Nat} {x : Int} (h : aR B s) (hx : aB B x) : aR B (aN s j x) := ⟨fun k => by
  rw [aN_1]
  by_cases q : k = j
  · rw [if_pos q]; exact hx
  · rw [if_neg q]; exact h.1 k, h.2.1, h.2.2⟩
theorem aR.L {B : Int} {s : aS} {j : Nat} {l : List Int} (h : aR B s) (hl : aRl B l) : aR B (aL s j l) := ⟨h.1, fun k => by
  rw [aL_2]
  by_cases q : k = j
  · rw [if_pos q]; exact hl
  · rw [if_neg q]; exact h.2.1 k, h.2.2⟩
theorem aR.F {B : Int} {s : aS} {j : Nat} {l : List (List Int)} (h : aR B s) (hl : ∀ f, f ∈ l → aRl B f) : aR B (aF s j l) := ⟨h.1, h.2.1, fun k f hf => by
  rw [aF_3] at hf
  by_cases q : k = j
  · rw [if_pos q] at hf; exact hl f hf
  · rw [if_neg q] at hf; exact h.2.2 k f hf⟩
theorem usL_eq (v : Int) (hv : xw v = v) : ∀ (ws bl : List Int), (∀ w, w ∈ ws → xw w = w) → bl.length ≤ 8 → usL v bl ws = bl ++ (ws.filter fun w => decide (w ≠ v)).take (8 - bl.length)
  | [], bl, _, _ => by rw [usL, List.filter_nil, List.take_nil, List.append_nil]
  | w :: ws, bl, hw, hb => by
    have e1 := hw w List.mem_cons_self
    have ih := fun bl' hb' => usL_eq v hv ws bl' (fun x hx => hw x (List.mem_cons_of_mem _ hx)) hb'
    rw [usL, e1, hv]
    by_cases h : w = v
    · rw [if_pos h, ih bl hb, List.filter_cons_of_neg (by rw [decide_eq_true_eq]; exact fun q => q h)]
    · rw [if_neg h, List.filter_cons_of_pos (by rw [decide_eq_true_eq]; exact h)]
      by_cases h8 : bl.length < 8
      · rw [if_pos h8, ih _ (by rw [List.length_append]; exact h8), List.length_append, List.append_assoc]
        show bl ++ (w :: (List.take (8 - (bl.length + 1)) _)) = _
        rw [show 8 - bl.length = (8 - (bl.length + 1)) + 1 by omega, List.take_succ_cons]
      · rw [if_neg h8, ih bl hb, show 8 - bl.length = 0 by omega, List.take_zero, List.take_zero]
theorem aUse_us {B v : Int} {l : List Int} (hB : B ≤ 2147483647) (hv : aB B v) (hl : aRl B l) : usL v [v] l = aUse v l := usL_eq v (hv.xw hB) l [v] (fun w hw => (hl w hw).xw hB) (Nat.le_of_ble_eq_true rfl)
theorem aUse_len (v : Int) (l : List Int) : (aUse v l).length ≤ 8 := by
  unfold aUse
  rw [List.length_cons, List.length_take]
  omega
theorem aUse_len2 (v : Int) (l : List Int) : (aUse v l).length ≤ l.length + 1 := by
  unfold aUse
  rw [List.length_cons, List.length_take]
  have := List.length_filter_le (fun w => decide (w ≠ v)) l
  omega
theorem aUse_mem {v x : Int} {l : List Int} (h : x ∈ aUse v l) : x = v ∨ x ∈ l := by
  rcases List.mem_cons.mp h with h | h
  · exact Or.inl h
  · exact Or.inr (List.mem_filter.mp (List.mem_of_mem_take h)).1
theorem aUse_R {B v : Int} {l : List Int} (hv : aB B v) (hl : aRl B l) : aRl B (aUse v l) := fun x hx => by
  rcases aUse_mem hx with rfl | h
  · exact hv
  · exact hl x h
theorem aWr_R {B : Int} : ∀ {q ws : List Int}, aRl B ws → aRl B q → aRl B (aWr ws q)
  | [], _, h, _ => h
  | v :: q, ws, h, h2 => aWr_R (q := q) (ws := aUse v ws) (aUse_R (h2 v List.mem_cons_self) h) fun x hx => h2 x (List.mem_cons_of_mem _ hx)
theorem hasL_eq {B v : Int} {l : List Int} (hB : B ≤ 2147483647) (hv : aB B v) (hl : aRl B l) : hasL v l = if v ∈ l then 1 else 0 := by
  unfold hasL
  have e : l.any (fun w => decide (xw w = xw v)) = true ↔ v ∈ l := by
    rw [List.any_eq_true]
    constructor
    · rintro ⟨x, hx, h⟩
      rw [decide_eq_true_eq, (hl x hx).xw hB, hv.xw hB] at h
      exact h ▸ hx
    · intro h
      exact ⟨v, h, by rw [decide_eq_true_eq]⟩
  by_cases h : v ∈ l
  · rw [if_pos h, if_pos (e.mpr h)]
  · rw [if_neg h, if_neg (fun q => h (e.mp q))]
/-- words of dictionaries that are made over bytes -/
def aSz : List Int → List Int → Nat
  | _, [] => 0
  | ws, v :: t => (aUse v ws).length + aSz (aUse v ws) t
theorem O_use_loop {a x3 B0 : Nat} {l : List Int} (v : Int) (hl : l.length < 1000000) : ∀ (q p : List Int) (n : Nat) (bl : List Int) (x2 : Nat) (h : gH), gat h x3 = some (.inl (0, l)) → gat h x2 = some (.inl (0, bl)) → B0 ≤ x2 → B0 ≤ 2000 + h.length → bl.length ≤ 8 → l = p ++ q → q.length < n → ∃ (r : Nat) (g : gH), f_O_used_17 a v n x2 x3 (l.length : Int) (p.length : Int) h = some (r, h ++ g) ∧ gat (h ++ g) r = some (.inl (0, usL v bl q)) ∧ B0 ≤ r ∧ g.length + bl.length = (usL v bl q).length ∧ gsl g ≤ 8 * g.length
  | [], p, n + 1, bl, x2, h, ha, hb, hb2, _, h8, e, _ => by
    rw [List.append_nil] at e
    subst e
    refine ⟨x2, [], ?_, by rw [List.append_nil]; exact hb, hb2, by rw [usL]; exact Nat.zero_add _, Nat.le_refl _⟩
    rw [f_O_used_17, if_neg (by omega), List.append_nil]
    rfl
  | x :: q, p, n + 1, bl, x2, h, ha, hb, hb2, hB, h8, e, hn => by
    have e1 : l.length = p.length + (q.length + 1) := by rw [e, List.length_append]; rfl
    have e5 : l.getD p.length 0 = x := by rw [e, getD_mid]
    have e6 : l = (p ++ [x]) ++ q := by rw [e, List.append_assoc]; rfl
    have hn' : q.length < n := by simp only [List.length_cons] at hn; omega
    rw [f_O_used_17, if_pos (by rw [xw_nat (by omega), xw_nat (by omega)]; omega), gaN_N ha (by omega) (by omega), Option.bind_some, e5]
    by_cases hx : xw x = xw v
    · rw [if_pos hx]
      unfold f_O_used_50
      rw [← len_snoc p x]
      obtain ⟨r, g, h1, h2, h3, h4, h5⟩ := O_use_loop (a := a) v hl q (p ++ [x]) n bl x2 h ha hb hb2 hB h8 e6 hn'
      refine ⟨r, g, h1, ?_, h3, ?_, h5⟩ <;> rw [usL, if_pos hx] <;> assumption
    · rw [if_neg hx, glc_N hb (Or.inl rfl), Option.bind_some]
      by_cases hb8 : bl.length < 8
      · rw [if_pos (by rw [xw_nat (by omega), show xw 8 = 8 by decide]; omega), O_with x hb (by omega), Option.bind_some]
        unfold f_O_used_50
        rw [← len_snoc p x]
        obtain ⟨r, g, h1, h2, h3, h4, h5⟩ := O_use_loop (a := a) v hl q (p ++ [x]) n (bl ++ [x]) (2000 + h.length) (h ++ [.inl (0, bl ++ [x])]) (gat_lt ha _) (gat_nw h _ []) hB (by rw [List.length_append]; omega) (by rw [List.length_append]; exact hb8) e6 hn'
        rw [List.length_append] at h4
        have hz : gsl (.inl (0, bl ++ [x]) :: g) = (bl.length + 1) + gsl g := by show (bl ++ [x]).length + gsl g = _; rw [List.length_append]; rfl
        refine ⟨r, .inl (0, bl ++ [x]) :: g, by rw [h1, List.append_assoc]; rfl, ?_, h3, ?_, ?_⟩
        · rw [usL, if_neg hx, if_pos hb8]
          rw [List.append_assoc] at h2
          exact h2
        · rw [usL, if_neg hx, if_pos hb8, ← h4]
          simp only [List.length_cons, List.length_nil]; omega
        · rw [hz]; simp only [List.length_cons]; omega
      · rw [if_neg (by rw [xw_nat (by omega), show xw 8 = 8 by decide]; omega)]
        unfold f_O_used_50
        rw [← len_snoc p x]
        obtain ⟨r, g, h1, h2, h3, h4, h5⟩ := O_use_loop (a := a) v hl q (p ++ [x]) n bl x2 h ha hb hb2 hB h8 e6 hn'
        refine ⟨r, g, h1, ?_, h3, ?_, h5⟩ <;> rw [usL, if_neg hx, if_neg hb8] <;> assumption
  | _, _, 0, _, _, _, _, _, _, _, _, _, hn => by omega
theorem O_use {h : gH} {a : Nat} {B v : Int} {l : List Int} (ha : gat h a = some (.inl (0, l))) (hl : l.length < 4999) (hB : B ≤ 2147483647) (hv : aB B v) (hr : aRl B l) : ∃ (r : Nat) (g : gH), f_O_used a v h = some (r, h ++ g) ∧ gat (h ++ g) r = some (.inl (0, aUse v l)) ∧ 2000 + h.length ≤ r ∧ g.length = (aUse v l).length ∧ gsl g ≤ 8 * g.length := by
  unfold f_O_used
  rw [show (1 : Int) = ((1 : Nat) : Int) from rfl, gNw_nat 0 h (by omega), Option.bind_some]
  have h1 : gsN 0 (h ++ [.inl (0, List.replicate 1 0)]) (2000 + h.length) ((0 : Nat) : Int) v = _ := gsN_nw (h := h) (t := 0) (l := List.replicate 1 0) (i := 0) (by decide) (by decide) v
  rw [show ((0 : Nat) : Int) = 0 from rfl] at h1
  rw [h1, Option.bind_some, glc_N (gat_lt ha _) (Or.inl rfl), Option.bind_some]
  obtain ⟨r, g, k1, k2, k3, k4, k5⟩ := O_use_loop (a := a) (x3 := a) (B0 := 2000 + h.length) (l := l) v (by omega) l [] fu [v] (2000 + h.length) (h ++ [.inl (0, [v])]) (gat_lt ha _) (gat_nw h _ []) (Nat.le_refl _) (by rw [List.length_append]; omega) (Nat.le_of_ble_eq_true rfl) rfl (by show _ < 5000; omega)
  rw [aUse_us hB hv hr] at k2 k4
  refine ⟨r, .inl (0, [v]) :: g, ?_, ?_, k3, ?_, ?_⟩
  · rw [List.append_assoc] at k1
    exact k1
  · rw [List.append_assoc] at k2
    exact k2
  · rw [← k4]; rfl
  · show [v].length + gsl g ≤ 8 * (g.length + 1)
    simp only [List.length_cons, List.length_nil]; omega
theorem O_cost_loop (u : Nat) (e : Int) {a x5 : Nat} {B : Int} {l : List Int} (hB : B ≤ 2147483647) (hl : l.length < 4000) (hr : aRl B l) : ∀ (q p : List Int) (n : Nat) (acc : Int) (x4 : Nat) (ws : List Int) (h : gH), gat h x5 = some (.inl (0, l)) → gat h x4 = some (.inl (0, ws)) → ws.length ≤ 8 → aRl B ws → l = p ++ q → q.length < n → ∃ g, f_O_cost_49 u e a n acc x4 x5 (l.length : Int) (p.length : Int) h = some (acc + aCo ws q, h ++ g) ∧ g.length = aSz ws q ∧ gsl g ≤ 8 * g.length
  | [], p, n + 1, acc, x4, ws, h, ha, hb, _, _, e1, _ => by
    rw [List.append_nil] at e1
    subst e1
    refine ⟨[], ?_, rfl, Nat.le_refl _⟩
    rw [f_O_cost_49, if_neg (by omega), aCo, Int.add_zero, List.append_nil]
  | v :: q, p, n + 1, acc, x4, ws, h, ha, hb, h8, hw, e1, hn => by
    have e2 : l.length = p.length + (q.length + 1) := by rw [e1, List.length_append]; rfl
    have e5 : l.getD p.length 0 = v := by rw [e1, getD_mid]
    have e6 : l = (p ++ [v]) ++ q := by rw [e1, List.append_assoc]; rfl
    have hn' : q.length < n := by simp only [List.length_cons] at hn; omega
    have hv : aB B v := hr v (by rw [e1]; exact List.mem_append_right _ List.mem_cons_self)
    rw [f_O_cost_49, if_pos (by rw [xw_nat (by omega), xw_nat (by omega)]; omega), gaN_N ha (by omega) (by omega), Option.bind_some, e5, O_has v hb (by omega), Option.bind_some, hasL_eq hB hv hw]
    obtain ⟨r, g, k1, k2, k3, k4, k5⟩ := O_use (a := x4) hb (by omega) hB hv hw
    obtain ⟨g', m1, m2, m3⟩ := O_cost_loop u e hB hl hr q (p ++ [v]) n (acc + aPay v ws) r (aUse v ws) (h ++ g) (gat_lt ha g) k2 (aUse_len _ _) (aUse_R hv hw) e6 hn'
    have key : f_O_cost_79 u e a (f_O_cost_49 u e a n) x4 x5 (l.length : Int) (p.length : Int) v (aPay v ws) acc h = some (acc + aCo ws (v :: q), h ++ (g ++ g')) := by
      unfold f_O_cost_79
      rw [k1, Option.bind_some, ← len_snoc p v, m1, aCo, Int.add_assoc, List.append_assoc]
    refine ⟨g ++ g', ?_, by rw [List.length_append, k4, m2, aSz], by rw [gsl_app, List.length_append]; omega⟩
    rw [← key]
    unfold aPay
    by_cases hm : v ∈ ws
    · rw [if_pos hm, if_pos hm, if_neg (by decide)]
    · rw [if_neg hm, if_neg hm, if_pos (by decide)]
  | _, _, 0, _, _, _, _, _, _, _, _, _, hn => by omega
section
variable {u : Nat} {A ρ : Nat → Nat} {R : Nat → List Nat} {a b : Int} {h : gH} {s : aS}
theorem OR.cost (o : OR u A R ρ a b h s) {B : Int} (hB : B ≤ 2147483647) (hr : aR B s) (e : Nat) {z : Int} (hz : z = (e : Int)) (he : e < 2) {x : Nat} {l : List Int} (hx : gat h x = some (.inl (0, l))) (hl : l.length < 4000) (hrl : aRl B l) (hw : ((s.2.1 (56 + 717 * e + 10))).length ≤ 8) : ∃ g, f_O_cost u z x h = some (aCost e l s, h ++ g) ∧ g.length = (if s.1 ((56 + 717 * e) + 9) = 0 then 0 else 1) + aSz (aDict e s) l ∧ gsl g ≤ 8 * g.length := by
  have xm := (hr.1 ((56 + 717 * e) + 9)).xw hB
  unfold f_O_cost f_O_cost_14 aCost aDict
  rw [o.k27, Option.bind_some, o.mark e hz he, Option.bind_some, xm]
  by_cases hm : s.1 ((56 + 717 * e) + 9) = 0
  · rw [if_pos hm, if_pos hm, if_pos hm, if_pos hm, Option.bind_some, o.mark e hz he, Option.bind_some, xm, if_pos hm, o.k20, Option.bind_some]
    obtain ⟨y, y1, y2⟩ := o.wri e hz he
    rw [y1, Option.bind_some]
    unfold f_O_cost_36
    rw [glc_N hx (Or.inl rfl), Option.bind_some]
    obtain ⟨g, k1, k2, k3⟩ := O_cost_loop u z (a := x) hB hl hrl l [] fu 4 y ((s.2.1 (56 + 717 * e + 10))) h hx y2.1 hw (hr.2.1 _) rfl (by show _ < 5000; omega)
    exact ⟨g, k1, by rw [k2, Nat.zero_add], k3⟩
  · rw [if_neg hm, if_neg hm, if_neg hm, if_neg hm, Option.bind_some, o.mark e hz he, Option.bind_some, xm, if_neg hm, gNw_z 0 h (n := 0) (z := 0) rfl (by omega), Option.bind_some]
    unfold f_O_cost_36
    dsimp only
    rw [glc_N (gat_lt hx _) (Or.inl rfl), Option.bind_some]
    obtain ⟨g, k1, k2, k3⟩ := O_cost_loop u z (a := x) hB hl hrl l [] fu 5 (2000 + h.length) [] (h ++ [.inl (0, [])]) (gat_lt hx _) (gat_nw h _ []) (Nat.zero_le _) (fun x hx => absurd hx List.not_mem_nil) rfl (by show _ < 5000; omega)
    refine ⟨.inl (0, []) :: g, ?_, by rw [List.length_cons, k2]; omega, ?_⟩
    · rw [List.append_assoc] at k1
      exact k1
    · show 0 + gsl g ≤ 8 * (g.length + 1)
      omega
end

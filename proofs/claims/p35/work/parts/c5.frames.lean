/-! ===== the own line: rates, frames that are forgotten, marked; coming online; timers ===== -/
theorem gaN_z {h : gH} {k t : Nat} {l : List Int} {i : Nat} {z : Int} (e : gat h k = some (.inl (t, l))) (hz : z = (i : Int)) (hi : i < l.length) (hl : l.length < 2147483648) : gaN t h k z = some (l.getD i 0) := by
  subst hz
  exact gaN_N e hi hl
def aKeep (P : List Int → Bool) : List Nat → List (List Int) → List Nat
  | x :: r, f :: l => if P f = true then x :: aKeep P r l else aKeep P r l
  | [], _ => []
  | _ :: _, [] => []
theorem aFa_keep {Q : Nat → List Int → Prop} (P : List Int → Bool) : ∀ {r : List Nat} {l : List (List Int)}, aFa Q r l → aFa Q (aKeep P r l) (l.filter P)
  | [], [], _ => trivial
  | x :: r, f :: l, h => by
    rw [aKeep]
    by_cases hp : P f = true
    · rw [if_pos hp, List.filter_cons_of_pos hp]; exact ⟨h.1, aFa_keep P h.2⟩
    · rw [if_neg hp, List.filter_cons_of_neg hp]; exact aFa_keep P h.2
  | [], _ :: _, h => h.elim
  | _ :: _, [], h => h.elim
theorem aKeep_sub (P : List Int → Bool) : ∀ (r : List Nat) (l : List (List Int)), (aKeep P r l).Sublist r
  | [], _ => List.Sublist.refl _
  | _ :: _, [] => List.nil_sublist _
  | x :: r, f :: l => by
    rw [aKeep]
    by_cases hp : P f = true
    · rw [if_pos hp]; exact List.Sublist.cons₂ x (aKeep_sub P r l)
    · rw [if_neg hp]; exact List.Sublist.cons x (aKeep_sub P r l)
theorem gRow_of {h : gH} {ρ : Nat → Nat} {x : Nat} {f : List Int} (e : oRow h ρ x f) : gRow h x := ⟨f, e.1⟩
section
variable {u : Nat} {A ρ : Nat → Nat} {R : Nat → List Nat} {a b : Int}
theorem O_forget_21 (z num : Int) {y B0 : Nat} {L : List Nat} {B : Int} (hB : B ≤ 2147483647) (hnum : aB B num) (hL : L.length ≤ 100) : ∀ (q : List Nat) (lq : List (List Int)) (p acc : List Nat) (n x3 : Nat) (h : gH), gat h y = some (.inr (.inl (4, L.map some))) → L = p ++ q → aFa (oRow h ρ) q lq → (∀ f, f ∈ lq → 1 ≤ f.length ∧ f.length ≤ 100 ∧ aRl B f) → gat h x3 = some (.inr (.inl (4, acc.map some))) → (∀ x, x ∈ acc → gRow h x) → B0 ≤ x3 → B0 ≤ 2000 + h.length → acc.length + q.length ≤ 8 → q.length < n →
    ∃ (x' : Nat) (g : gH), f_O_forget_21 u z num n x3 y (L.length : Int) (p.length : Int) h = f_O_forget_56 u z num x' (h ++ g) ∧ gat (h ++ g) x' = some (.inr (.inl (4, (acc ++ aKeep (fun f => decide (f.getD 0 0 ≠ num)) q lq).map some))) ∧ B0 ≤ x' ∧ g.length = (aKeep (fun f => decide (f.getD 0 0 ≠ num)) q lq).length ∧ gsl g ≤ 8 * g.length
  | [], lq, p, acc, n + 1, x3, h, hy, e1, hq, hf, ha, hr, h0, h1, h8, hn => by
    rw [List.append_nil] at e1
    subst e1
    refine ⟨x3, [], ?_, by rw [aKeep, List.append_nil, List.append_nil]; exact ha, h0, rfl, Nat.le_refl _⟩
    rw [f_O_forget_21, if_neg (by omega), List.append_nil]
  | x :: q, [], p, acc, n + 1, x3, h, hy, e1, hq, hf, ha, hr, h0, h1, h8, hn => hq.elim
  | x :: q, f :: lq, p, acc, n + 1, x3, h, hy, e1, hq, hf, ha, hr, h0, h1, h8, hn => by
    have e2 : L.length = p.length + (q.length + 1) := by rw [e1, List.length_append]; rfl
    have e6 : L = (p ++ [x]) ++ q := by rw [e1, List.append_assoc]; rfl
    have hn' : q.length < n := by simp only [List.length_cons] at hn; omega
    have hm : (L.map some).length = L.length := List.length_map _
    have hg : (L.map some).getD p.length none = some x := by
      have hpm : (p.map some).length = p.length := List.length_map _
      rw [e1, List.map_append, ← hpm]
      exact getD_mid _ _ _ _
    obtain ⟨f1, f2, f3⟩ := hf f List.mem_cons_self
    have hf0 : aB B (f.getD 0 0) := by
      rw [List.getD_eq_getElem?_getD, List.getElem?_eq_getElem (by omega)]
      exact f3 _ (List.getElem_mem _)
    rw [f_O_forget_21, if_pos (by rw [xw_nat (by omega), xw_nat (by omega)]; omega), gaK_N hy (by omega) (by omega), hg, Option.bind_some, gaN_z (i := 0) (z := 0) hq.1.1 rfl (by omega) (by omega), Option.bind_some, hf0.xw hB, hnum.xw hB]
    by_cases hx : f.getD 0 0 = num
    · rw [if_pos hx]
      unfold f_O_forget_50
      rw [← len_snoc p x]
      obtain ⟨x', g, k1, k2, k3, k4, k5⟩ := O_forget_21 z num hB hnum hL q lq (p ++ [x]) acc n x3 h hy e6 hq.2 (fun f hf' => hf f (List.mem_cons_of_mem _ hf')) ha hr h0 h1 (by simp only [List.length_cons] at h8; omega) hn'
      refine ⟨x', g, k1, ?_, k3, ?_, k5⟩ <;> rw [aKeep, if_neg (by rw [decide_eq_true_eq]; exact fun w => w hx)] <;> assumption
    · rw [if_neg hx, O_more ha (gRow_of hq.1) hr (by simp only [List.length_cons] at h8; omega), Option.bind_some]
      unfold f_O_forget_50
      dsimp only
      rw [← len_snoc p x]
      obtain ⟨x', g, k1, k2, k3, k4, k5⟩ := O_forget_21 z num hB hnum hL q lq (p ++ [x]) (acc ++ [x]) n (2000 + h.length) (h ++ [.inr (.inl (4, (acc ++ [x]).map some))]) (gat_lt hy _) e6 (aFa_mono (fun y f w => ⟨gat_lt w.1 _, w.2⟩) hq.2) (fun f hf' => hf f (List.mem_cons_of_mem _ hf')) (gat_nw h _ []) (fun y hy' => by
        rcases List.mem_append.mp hy' with hy' | hy'
        · exact (hr y hy').lt _
        · rw [List.mem_singleton] at hy'
          rw [hy']
          exact (gRow_of hq.1).lt _) h1 (by rw [List.length_append]; omega) (by rw [List.length_append]; simp only [List.length_cons, List.length_nil] at h8 ⊢; omega) hn'
      refine ⟨x', .inr (.inl (4, (acc ++ [x]).map some)) :: g, ?_, ?_, k3, ?_, ?_⟩
      · rw [k1, List.append_assoc]; rfl
      · rw [aKeep, if_pos (by rw [decide_eq_true_eq]; exact hx)]
        rw [List.append_assoc, List.append_assoc] at k2
        exact k2
      · rw [aKeep, if_pos (by rw [decide_eq_true_eq]; exact hx), List.length_cons, List.length_cons, k4]
      · show ((acc ++ [x]).map some).length + gsl g ≤ 8 * (g.length + 1)
        rw [List.length_map, List.length_append]
        simp only [List.length_cons, List.length_nil] at h8 ⊢
        omega
  | _, _, _, _, 0, _, _, _, _, _, _, _, _, _, _, _, hn => by omega
theorem O_online_71 (k45 : Int → gH → Option gH) (z : Int) (X : Int) {y B0 : Nat} {L : List Nat} {B : Int} (hB : B ≤ 2147483647) (hX : aB B X) (hL : L.length ≤ 100) : ∀ (q : List Nat) (lq : List (List Int)) (p acc : List Nat) (n x3 : Nat) (h : gH), (∀ g : gH, (Option.bind (gfK (h ++ g) u 23) fun q30 => gaN 0 (h ++ g) q30 (1 - z)) = some X) → gat h y = some (.inr (.inl (4, L.map some))) → L = p ++ q → aFa (oRow h ρ) q lq → (∀ f, f ∈ lq → 1 ≤ f.length ∧ f.length ≤ 100 ∧ aRl B f) → gat h x3 = some (.inr (.inl (4, acc.map some))) → (∀ x, x ∈ acc → gRow h x) → B0 ≤ x3 → B0 ≤ 2000 + h.length → acc.length + q.length ≤ 8 → q.length < n →
    ∃ (x' : Nat) (g : gH), f_O_online_71 u k45 n z x3 y (L.length : Int) (p.length : Int) h = f_O_online_113 u k45 z x' (h ++ g) ∧ gat (h ++ g) x' = some (.inr (.inl (4, (acc ++ aKeep (fun f => decide (X ≤ f.getD 0 0)) q lq).map some))) ∧ B0 ≤ x' ∧ g.length = (aKeep (fun f => decide (X ≤ f.getD 0 0)) q lq).length ∧ gsl g ≤ 8 * g.length
  | [], lq, p, acc, n + 1, x3, h, hh, hy, e1, hq, hf, ha, hr, h0, h1, h8, hn => by
    rw [List.append_nil] at e1
    subst e1
    refine ⟨x3, [], ?_, by rw [aKeep, List.append_nil, List.append_nil]; exact ha, h0, rfl, Nat.le_refl _⟩
    rw [f_O_online_71, if_neg (by omega), List.append_nil]
  | x :: q, [], p, acc, n + 1, x3, h, hh, hy, e1, hq, hf, ha, hr, h0, h1, h8, hn => hq.elim
  | x :: q, f :: lq, p, acc, n + 1, x3, h, hh, hy, e1, hq, hf, ha, hr, h0, h1, h8, hn => by
    have e2 : L.length = p.length + (q.length + 1) := by rw [e1, List.length_append]; rfl
    have e6 : L = (p ++ [x]) ++ q := by rw [e1, List.append_assoc]; rfl
    have hn' : q.length < n := by simp only [List.length_cons] at hn; omega
    have hm : (L.map some).length = L.length := List.length_map _
    have hg : (L.map some).getD p.length none = some x := by
      have hpm : (p.map some).length = p.length := List.length_map _
      rw [e1, List.map_append, ← hpm]
      exact getD_mid _ _ _ _
    obtain ⟨f1, f2, f3⟩ := hf f List.mem_cons_self
    have hf0 : aB B (f.getD 0 0) := by
      rw [List.getD_eq_getElem?_getD, List.getElem?_eq_getElem (by omega)]
      exact f3 _ (List.getElem_mem _)
    have hX0 := hh []
    rw [List.append_nil] at hX0
    obtain ⟨y23, g1, g2⟩ := Option.bind_eq_some_iff.mp hX0
    rw [f_O_online_71, if_pos (by rw [xw_nat (by omega), xw_nat (by omega)]; omega), gaK_N hy (by omega) (by omega), hg, Option.bind_some, gaN_z (i := 0) (z := 0) hq.1.1 rfl (by omega) (by omega), Option.bind_some, g1, Option.bind_some, g2, Option.bind_some, hf0.xw hB, hX.xw hB]
    by_cases hx : f.getD 0 0 < X
    · rw [if_pos hx]
      unfold f_O_online_107
      rw [← len_snoc p x]
      obtain ⟨x', g, k1, k2, k3, k4, k5⟩ := O_online_71 k45 z X hB hX hL q lq (p ++ [x]) acc n x3 h hh hy e6 hq.2 (fun f hf' => hf f (List.mem_cons_of_mem _ hf')) ha hr h0 h1 (by simp only [List.length_cons] at h8; omega) hn'
      refine ⟨x', g, k1, ?_, k3, ?_, k5⟩ <;> rw [aKeep, if_neg (by rw [decide_eq_true_eq]; omega)] <;> assumption
    · rw [if_neg hx, O_more ha (gRow_of hq.1) hr (by simp only [List.length_cons] at h8; omega), Option.bind_some]
      unfold f_O_online_107
      dsimp only
      rw [← len_snoc p x]
      obtain ⟨x', g, k1, k2, k3, k4, k5⟩ := O_online_71 k45 z X hB hX hL q lq (p ++ [x]) (acc ++ [x]) n (2000 + h.length) (h ++ [.inr (.inl (4, (acc ++ [x]).map some))]) (fun g => by rw [List.append_assoc]; exact hh _) (gat_lt hy _) e6 (aFa_mono (fun y f w => ⟨gat_lt w.1 _, w.2⟩) hq.2) (fun f hf' => hf f (List.mem_cons_of_mem _ hf')) (gat_nw h _ []) (fun y hy' => by
        rcases List.mem_append.mp hy' with hy' | hy'
        · exact (hr y hy').lt _
        · rw [List.mem_singleton] at hy'
          rw [hy']
          exact (gRow_of hq.1).lt _) h1 (by rw [List.length_append]; omega) (by rw [List.length_append]; simp only [List.length_cons, List.length_nil] at h8 ⊢; omega) hn'
      refine ⟨x', .inr (.inl (4, (acc ++ [x]).map some)) :: g, ?_, ?_, k3, ?_, ?_⟩
      · rw [k1, List.append_assoc]; rfl
      · rw [aKeep, if_pos (by rw [decide_eq_true_eq]; omega)]
        rw [List.append_assoc, List.append_assoc] at k2
        exact k2
      · rw [aKeep, if_pos (by rw [decide_eq_true_eq]; omega), List.length_cons, List.length_cons, k4]
      · show ((acc ++ [x]).map some).length + gsl g ≤ 8 * (g.length + 1)
        rw [List.length_map, List.length_append]
        simp only [List.length_cons, List.length_nil] at h8 ⊢
        omega
  | _, _, _, _, 0, _, _, _, _, _, _, _, _, _, _, _, _, hn => by omega
/-- rows that are marked, one behind another -/
theorem O_online_124 (k45 : Int → gH → Option gH) (z : Int) (x3 : Nat) {y : Nat} {L : List Nat} (hL : L.length ≤ 100) (hnd : L.Nodup) : ∀ (q : List Nat) (lq : List (List Int)) (p : List Nat) (lp : List (List Int)) (n : Nat) (h : gH), gat h y = some (.inr (.inl (4, L.map some))) → ρ y = 0 → L = p ++ q → aFa (oRow h ρ) p (aMark lp) → aFa (oRow h ρ) q lq → (∀ f, f ∈ lq → 3 ≤ f.length ∧ f.length ≤ 100) → q.length < n →
    ∃ h' : gH, f_O_online_124 u k45 n z x3 y (L.length : Int) (p.length : Int) h = f_O_online_149 u k45 z x3 h' ∧ aFa (oRow h' ρ) L (aMark (lp ++ lq)) ∧ hP 6 ρ h h' ∧ (∀ x, x ∉ q → gat h' x = gat h x) ∧ h'.length = h.length ∧ gsl h' = gsl h
  | [], [], p, lp, n + 1, h, hy, hy0, e1, hp, hq, hf, hn => by
    rw [List.append_nil] at e1
    subst e1
    refine ⟨h, ?_, by rw [List.append_nil]; exact hp, fun _ _ _ e => e, fun _ _ => rfl, rfl, rfl⟩
    rw [f_O_online_124, if_neg (by omega)]
  | [], _ :: _, _, _, n + 1, _, _, _, _, _, hq, _, _ => hq.elim
  | _ :: _, [], _, _, n + 1, _, _, _, _, _, hq, _, _ => hq.elim
  | x :: q, f :: lq, p, lp, n + 1, h, hy, hy0, e1, hp, hq, hf, hn => by
    have e2 : L.length = p.length + (q.length + 1) := by rw [e1, List.length_append]; rfl
    have e6 : L = (p ++ [x]) ++ q := by rw [e1, List.append_assoc]; rfl
    have hn' : q.length < n := by simp only [List.length_cons] at hn; omega
    have hm : (L.map some).length = L.length := List.length_map _
    have hg : (L.map some).getD p.length none = some x := by
      have hpm : (p.map some).length = p.length := List.length_map _
      rw [e1, List.map_append, ← hpm]
      exact getD_mid _ _ _ _
    have hnd2 : (p ++ x :: q).Nodup := e1 ▸ hnd
    have hxp : x ∉ p := fun w => (List.nodup_append.mp hnd2).2.2 x w x List.mem_cons_self rfl
    have hxq : x ∉ q := (List.nodup_cons.mp (List.nodup_append.mp hnd2).2.1).1
    obtain ⟨f1, f2⟩ := hf f List.mem_cons_self
    obtain ⟨h1, w1, w2⟩ := gsN_W (i := 2) (z := 2) 1 hq.1.1 rfl (by omega) (by omega)
    have hk : ∀ x' f', x' ≠ x → oRow h ρ x' f' → oRow h1 ρ x' f' := fun x' f' hne w => ⟨by rw [w2.2.1 x' hne]; exact w.1, w.2⟩
    obtain ⟨h', k1, k2, k3, k4, k5, k6⟩ := O_online_124 k45 z x3 hL hnd q lq (p ++ [x]) (lp ++ [f]) n h1 (by rw [w2.2.1 y (fun w => by have := hq.1.2; rw [← w, hy0] at this; omega)]; exact hy) hy0 e6 (by
      unfold aMark
      rw [List.map_append]
      exact aFa_app (aFa_mono2 (fun x' f' hx' w => hk x' f' (fun q' => hxp (q' ▸ hx')) w) hp) ⟨⟨w2.1, hq.1.2⟩, trivial⟩) (aFa_mono2 (fun x' f' hx' w => hk x' f' (fun q' => hxq (q' ▸ hx')) w) hq.2) (fun f hf' => hf f (List.mem_cons_of_mem _ hf')) hn'
    refine ⟨h', ?_, ?_, fun y' c' hy' ey => k3 y' c' hy' (w2.P hq.1.2 y' c' hy' ey), fun x' hx' => ?_, by rw [k5, w2.2.2.1], by rw [k6, w2.2.2.2]⟩
    · rw [f_O_online_124, if_pos (by rw [xw_nat (by omega), xw_nat (by omega)]; omega), gaK_N hy (by omega) (by omega), hg, Option.bind_some, w1, Option.bind_some, ← len_snoc p x, k1]
    · rw [List.append_assoc] at k2
      exact k2
    · rw [List.mem_cons, not_or] at hx'
      rw [k4 x' hx'.2, w2.2.1 x' hx'.1]
  | _, _, _, _, 0, _, _, _, _, _, _, _, hn => by omega
variable {h : gH} {s : aS}
theorem O_rate_4 (o : OR u A R ρ a b h s) (hm : oSm s) {B q : Int} (hB : B ≤ 2147483647) (hr : aR B s) (hq : aB B q) : ∀ (k x n : Nat), x + k = (s.1 11).toNat → k < n → f_O_rateFor_4 u q h n (aRt s q x) (x : Int) = some (aRt s q (s.1 11).toNat)
  | 0, x, n + 1, hx, _ => by
    obtain ⟨⟨m1, m2⟩, m3, m4⟩ := hm
    rw [f_O_rateFor_4, o.k13, Option.bind_some, o.rates ⟨⟨m1, m2⟩, m3, m4⟩, Option.bind_some, if_neg (by rw [xw_nat (by omega), xw_id (by omega) (by omega)]; omega), show x = (s.1 11).toNat by omega]
  | k + 1, x, n + 1, hx, hn => by
    obtain ⟨⟨m1, m2⟩, m3, m4⟩ := id hm
    rw [f_O_rateFor_4, o.k13, Option.bind_some, o.rates hm, Option.bind_some, if_pos (by rw [xw_nat (by omega), xw_id (by omega) (by omega)]; omega), Option.bind_some, o.need hm x rfl (by omega), Option.bind_some, hq.xw hB, (hr.1 (40 + x)).xw hB]
    have ih := O_rate_4 o hm hB hr hq k (x + 1) n (by omega) (by omega)
    unfold f_O_rateFor_25
    by_cases hc : q < s.1 (40 + x)
    · rw [aRt, if_neg (by omega)] at ih
      rw [if_pos hc]
      exact ih
    · rw [aRt, if_pos (by omega)] at ih
      rw [if_neg hc]
      exact ih
  | _, _, 0, _, hn => by omega
theorem OR.rateFor (o : OR u A R ρ a b h s) (hm : oSm s) {B q : Int} (hB : B ≤ 2147483647) (hr : aR B s) (hq : aB B q) : f_O_rateFor u q h = some (aRt s q (s.1 11).toNat) := by
  obtain ⟨⟨m1, m2⟩, m3, m4⟩ := id hm
  exact O_rate_4 o hm hB hr hq (s.1 11).toNat 0 fu (by omega) (by show _ < 5000; omega)
/-- frames: not many, each with its head -/
def oFw (l : List (List Int)) : Prop := l.length ≤ 8 ∧ ∀ f, f ∈ l → 3 ≤ f.length ∧ f.length ≤ 11
theorem OR.forget (o : OR u A R ρ a b h s) (e : Nat) {z : Int} (hz : z = (e : Int)) (he : e < 2) {num B : Int} (hB : B ≤ 2147483647) (hr : aR B s) (hnum : aB B num) (hf : oFw ((s.2.2 (56 + 717 * e + 26)))) : ∃ (R' : Nat → List Nat) (h' : gH), f_O_forget u z num h = some h' ∧ OR u A R' ρ a b h' (aF s ((56 + 717 * e) + 26) (((s.2.2 (56 + 717 * e + 26))).filter fun f => decide (f.getD 0 0 ≠ num))) ∧ hC (1 + ((s.2.2 (56 + 717 * e + 26))).length) (8 * ((s.2.2 (56 + 717 * e + 26))).length) ρ h ρ h' := by
  unfold f_O_forget
  rw [gNq_z 4 h (n := 0) (z := 0) rfl (by omega), Option.bind_some]
  dsimp only
  rw [(o.app _).k28, Option.bind_some]
  obtain ⟨y, f1, ⟨f2, f2'⟩, f3, f4⟩ := (o.app [.inr (.inl (4, List.replicate 0 none))]).frs e hz he
  have hm : ((R e).map some).length = (R e).length := List.length_map _
  have hlen := aFa_len f3
  rw [f1, Option.bind_some, glc_Q f2 (Or.inl rfl), Option.bind_some, hm]
  obtain ⟨x', g, k1, k2, k3, k4, k5⟩ := O_forget_21 (u := u) (ρ := ρ) z num (y := y) (B0 := 2000 + h.length) (L := R e) hB hnum (by have := hf.1; omega) (R e) ((s.2.2 (56 + 717 * e + 26))) [] [] fu (2000 + h.length) (h ++ [.inr (.inl (4, List.replicate 0 none))]) f2 rfl f3 (fun f hf' => ⟨by have := (hf.2 f hf').1; omega, by have := (hf.2 f hf').2; omega, hr.2.2 _ f hf'⟩) (gat_nw h _ []) (fun x hx => absurd hx List.not_mem_nil) (Nat.le_refl _) (by rw [List.length_append]; omega) (by have := hf.1; show 0 + (R e).length ≤ 8; omega) (by have := hf.1; show _ < 5000; omega)
  have k1' : f_O_forget_21 u z num fu (2000 + h.length) y ((R e).length : Int) 0 (h ++ [.inr (.inl (4, List.replicate 0 none))]) = _ := k1
  rw [k1']
  unfold f_O_forget_56
  have o2 := (o.app [.inr (.inl (4, List.replicate 0 none))]).app g
  rw [o2.k28, Option.bind_some]
  obtain ⟨y', i1, ⟨i2, i2'⟩, i3, i4⟩ := o2.frs e rfl he
  obtain ⟨y'', j1, ⟨j2, j2'⟩, j3, j4⟩ := o2.frs (1 - e) rfl (by omega)
  have hs := aKeep_sub (fun f => decide (f.getD 0 0 ≠ num)) (R e) ((s.2.2 (56 + 717 * e + 26)))
  have hdis : ∀ x, x ∈ R e → x ∉ R (1 - e) := by
    obtain ⟨_, _, _, _, _, hd⟩ := o2.2.2.2.2.1
    rcases (by omega : e = 0 ∨ e = 1) with rfl | rfl
    · exact hd
    · exact fun x hx hx2 => hd x hx2 hx
  obtain ⟨h', w1, w2, w3⟩ := o2.wfrs e hz he (y := x') (r' := aKeep (fun f => decide (f.getD 0 0 ≠ num)) (R e) ((s.2.2 (56 + 717 * e + 26)))) (l := ((s.2.2 (56 + 717 * e + 26))).filter fun f => decide (f.getD 0 0 ≠ num)) ⟨k2, o.1.2.2.2.1 _ k3⟩ (aFa_keep _ i3) (hs.nodup i4) (fun x hx => hdis x (hs.subset hx))
  rw [w1, Option.bind_some]
  refine ⟨_, h', rfl, w2, (((hC.app ρ h _).tr (hC.app ρ _ g)).tr w3).le ?_ ?_⟩
  · have := hs.length_le
    show 1 + g.length + 0 ≤ _
    omega
  · have := hs.length_le
    show (0 + 0) + gsl g + 0 ≤ _
    omega
/-- another list of frames, when rows of the old one were changed -/
theorem OR.wfrs2 {h2 : gH} (o : OR u A R ρ a b h s) (e : Nat) {z : Int} (hz : z = (e : Int)) (he : e < 2) (q : hP 6 ρ h h2) (hlen : h2.length = h.length) (hgs : gsl h2 = gsl h) (hkeep : ∀ x, x ∈ R (1 - e) → gat h2 x = gat h x) {y : Nat} {r' : List Nat} {l : List (List Int)} (hy : gat h2 y = some (.inr (.inl (4, r'.map some))) ∧ ρ y = 0) (hr : aFa (oRow h2 ρ) r' l) (hn : r'.Nodup) (hd : ∀ x, x ∈ r' → x ∉ R (1 - e)) : ∃ h', gsQ 5 h2 (A 28) z (some y) = some h' ∧ OR u A (fun k => if k = e then r' else R k) ρ a b h' (aF s ((56 + 717 * e) + 26) l) ∧ hC 0 0 ρ h ρ h' := by
  obtain ⟨⟨p1, r⟩, p2, p3, ⟨p4, p5, p6, p7⟩, ⟨⟨y0, y1, e1, ⟨e2, e2'⟩, ⟨e3, e3'⟩⟩, e4, e5, e6, e7, e8⟩, p9, p10⟩ := o
  have r2 : oRole u A ρ h2 := r.len (by omega)
  obtain ⟨h', e', wr⟩ := gsQ_W y (q _ _ (r.la (by omega) (by omega)) e1) hz (by exact he) (by show 2 < 100000; omega) (gokB5 hy.1)
  have p := wr.P (r.2.1 28 (by omega) (by omega))
  have hA : ∀ k n j, (j = 1730 ∨ j = 1490) → (12 ≤ k ∧ k ≤ 30 ∧ k ≠ 28) → oArr A ρ h k n (s.2.2 j) → oArr A ρ h' k n ((aF s ((56 + 717 * e) + 26) l).2.2 j) := fun k n j hj hk ee => by
    have q2 := (ee.kp r q ⟨hk.1, hk.2.1⟩ (by omega) (by omega)).kp r2 p ⟨hk.1, hk.2.1⟩ (by omega) hk.2.2
    have he2 : e = 0 ∨ e = 1 := by omega
    rw [aF_3, if_neg (by omega)]
    exact q2
  have hN : ∀ x f, oRow h2 ρ x f → oRow h' ρ x f := fun x f q => q.kp p (by omega)
  have hL : ∀ k d, (12 ≤ k ∧ k ≤ 30 ∧ k ≠ 28) → oLs A ρ h s k d → oLs A ρ h' s k d := fun k d hk ee => (ee.kp r q ⟨hk.1, hk.2.1⟩ (by omega) (by omega)).kp r2 p ⟨hk.1, hk.2.1⟩ hk.2.2 (by omega)
  refine ⟨h', e', ⟨⟨p _ _ (by rw [r.1]; omega) (q _ _ (by rw [r.1]; omega) p1), r2.len (by rw [wr.2.2.1]; exact Nat.le_refl _)⟩, (p2.kp r q (by omega)).kp r2 p (by omega), (p3.kp r q (by omega)).kp r2 p (by omega), ⟨hL _ _ (by omega) p4, hL _ _ (by omega) p5, hL _ _ (by omega) p6, hL _ _ (by omega) p7⟩, ?_, hA _ _ _ (by omega) (by omega) p9, hA _ _ _ (by omega) (by omega) p10⟩, ⟨⟨by rw [wr.2.2.1, hlen]; exact Nat.le_refl _, by rw [wr.2.2.1, hlen]; exact Nat.le_refl _, by rw [wr.2.2.2, hgs]; exact Nat.le_refl _⟩, fun y c hy ey => ⟨p _ _ (by rcases hy with hy | hy <;> omega) (q _ _ (by rcases hy with hy | hy <;> omega) ey), rfl⟩⟩⟩
  unfold oFr
  rw [aF_3, aF_3]
  rcases (by omega : e = 0 ∨ e = 1) with rfl | rfl
  · rw [if_pos (by omega), if_neg (by omega)]
    exact ⟨⟨y, y1, wr.1, ⟨p _ _ (by rw [hy.2]; omega) hy.1, hy.2⟩, ⟨p _ _ (by rw [e3']; omega) (q _ _ (by rw [e3']; omega) e3), e3'⟩⟩, aFa_mono hN hr, aFa_mono2 (fun x f hx w => hN x f ⟨by rw [hkeep x hx]; exact w.1, w.2⟩) e5, hn, e7, hd⟩
  · rw [if_neg (by omega), if_pos (by omega)]
    exact ⟨⟨y0, y, wr.1, ⟨p _ _ (by rw [e2']; omega) (q _ _ (by rw [e2']; omega) e2), e2'⟩, ⟨p _ _ (by rw [hy.2]; omega) hy.1, hy.2⟩⟩, aFa_mono2 (fun x f hx w => hN x f ⟨by rw [hkeep x hx]; exact w.1, w.2⟩) e4, aFa_mono hN hr, e6, hn, fun x hx h2 => hd x h2 hx⟩
end

/-! ===== the own line: all that arrives in a tick ===== -/
/-- cells and slots of the arrivals, at most -/
def aLcs (t : Int) : List (List Int) → aS → Nat
  | [], _ => 0
  | it :: r, s => (if it.getD 0 0 = t then aLc it s else 0) + aLcs t r (if it.getD 0 0 = t then aLand it s else s)
def aLzs (t : Int) : List (List Int) → aS → Nat
  | [], _ => 0
  | it :: r, s => (if it.getD 0 0 = t then aLz it s else 0) + aLzs t r (if it.getD 0 0 = t then aLand it s else s)
section
variable {u : Nat} {A ρ : Nat → Nat} {R : Nat → List Nat} {a b : Int} {h : gH} {s : aS}
theorem OR.newfly (o : OR u A R ρ a b h s) : ∃ (A' ρ' : Nat → Nat) (h' : gH), gpt (h ++ [.inr (.inl (4, List.replicate 200 none))]) u 29 (.inr (.inr (some (2000 + h.length)))) = some h' ∧ OR u A' R ρ' a b h' (aF s 1730 []) ∧ hC 1 200 ρ h ρ' h' ∧ ρ' (A 29) = 0 ∧ ∀ c, gat h (A 29) = some c → gat h' (A 29) = some c := by
  obtain ⟨x, hx⟩ : ∃ x, x = 2000 + h.length := ⟨_, rfl⟩
  have hA29 : A 29 < 2000 + h.length := by
    obtain ⟨rr, q, e1, _⟩ := o.2.2.2.2.2.1
    exact (gat_in e1).2
  have hlen : (h ++ [Sum.inr (Sum.inl (4, List.replicate 200 none))] : gH).length = h.length + 1 := by rw [List.length_append]; rfl
  have o1 : OR u A R (fun y => if y = x then 29 else ρ y) a b (h ++ [.inr (.inl (4, List.replicate 200 none))]) s := o.rhoA _ (fun y hy => by rw [if_neg (by omega)]) (fun y hy => by rw [if_neg (by omega)]; exact o.1.2.2.2.1 y (by omega)) (fun y => by
    by_cases c : y = x
    · rw [if_pos c]; omega
    · rw [if_neg c]; exact o.1.2.2.2.2 y)
  have rA29 := o.1.2.2.1 29 (by omega) (by omega)
  obtain ⟨⟨p1, r⟩, p2, p3, ⟨p4, p5, p6, p7⟩, p8, p9, p10⟩ := o1
  obtain ⟨h', e, wr⟩ := gpt_W (j := 29) (.inr (.inr (some x))) p1 (by show _ < 31; omega)
  have p := wr.P (ρ := fun y => if y = x then 29 else ρ y) (k := 1) r.1
  have hnew : gat (h ++ [.inr (.inl (4, List.replicate 200 none))]) x = some (.inr (.inl (4, List.replicate 200 none))) := by rw [hx]; exact gat_nw _ _ []
  have hux : u ≠ x := by
    have := (gat_in o.1.1).2
    omega
  have hu29 : u ≠ A 29 := fun w => by
    have := o.1.2.1
    rw [w, rA29] at this
    omega
  have hxa : x ≠ A 29 := by omega
  have r2 : ∀ y k, k ≠ 29 → (if y = x then 29 else ρ y) = k → (if y = x then 29 else if y = A 29 then 0 else ρ y) = k := fun y k hk hy => by
    by_cases c : y = x
    · rw [if_pos c] at hy ⊢; exact hy
    · rw [if_neg c] at hy ⊢
      by_cases c2 : y = A 29
      · rw [c2, rA29] at hy; omega
      · rw [if_neg c2]; exact hy
  have hI : ∀ y l, oI (h ++ [.inr (.inl (4, List.replicate 200 none))]) (fun y => if y = x then 29 else ρ y) y l → oI h' (fun y => if y = x then 29 else if y = A 29 then 0 else ρ y) y l := fun y l w => by
    have w2 := w.kp p (by omega)
    exact ⟨w2.1, r2 y 0 (by omega) w2.2⟩
  have hR : ∀ y l, oRow (h ++ [.inr (.inl (4, List.replicate 200 none))]) (fun y => if y = x then 29 else ρ y) y l → oRow h' (fun y => if y = x then 29 else if y = A 29 then 0 else ρ y) y l := fun y l w => by
    have w2 := w.kp p (by omega)
    exact ⟨w2.1, r2 y 6 (by omega) w2.2⟩
  have hL : ∀ k d, (12 ≤ k ∧ k ≤ 30 ∧ k ≠ 29) → oLs A (fun y => if y = x then 29 else ρ y) (h ++ [.inr (.inl (4, List.replicate 200 none))]) s k d → oLs (fun k => if k = 29 then x else A k) (fun y => if y = x then 29 else if y = A 29 then 0 else ρ y) h' s k d := fun k d hk ⟨x0, x1, e1, e2, e3⟩ => ⟨x0, x1, by
    dsimp only
    rw [if_neg hk.2.2]
    exact p _ _ (r.la ⟨hk.1, hk.2.1⟩ (by omega)) e1, hI _ _ e2, hI _ _ e3⟩
  have q2 := p2.kp r p (by omega)
  have q3 := p3.kp r p (by omega)
  rw [← hx]
  refine ⟨fun k => if k = 29 then x else A k, fun y => if y = x then 29 else if y = A 29 then 0 else ρ y, h', e, ⟨⟨wr.1, ?_, ?_, ?_, ?_⟩, q2, q3, ⟨hL _ _ (by omega) p4, hL _ _ (by omega) p5, hL _ _ (by omega) p6, hL _ _ (by omega) p7⟩, ?_, ?_, ?_⟩, ⟨⟨by rw [wr.2.2.1, hlen]; omega, by rw [wr.2.2.1, hlen]; omega, by rw [wr.2.2.2, gsl_push]; exact Nat.le_refl _⟩, fun y c hy ey => ?_⟩, by dsimp only; rw [if_neg (by omega), if_pos rfl], fun c hc => ?_⟩
  · dsimp only
    rw [if_neg hux, if_neg hu29]
    exact o.1.2.1
  · intro k k1 k2
    dsimp only
    by_cases ck : k = 29
    · rw [if_pos ck, if_pos rfl, ck]
    · rw [if_neg ck]
      have h3 := o.1.2.2.1 k k1 k2
      refine r2 _ _ ck ?_
      by_cases c : A k = x
      · have : ρ (A k) = 0 := o.1.2.2.2.1 _ (by omega)
        omega
      · rw [if_neg c]; exact h3
  · intro y hy
    rw [wr.2.2.1, hlen] at hy
    dsimp only
    rw [if_neg (by omega), if_neg (by omega)]
    exact o.1.2.2.2.1 y (by omega)
  · intro y
    dsimp only
    by_cases c : y = x
    · rw [if_pos c]; omega
    · rw [if_neg c]
      by_cases c2 : y = A 29
      · rw [if_pos c2]; omega
      · rw [if_neg c2]; exact o.1.2.2.2.2 y
  · obtain ⟨⟨y0, y1, e1, ⟨e2, e2'⟩, ⟨e3, e3'⟩⟩, e4, e5, e6⟩ := p8
    exact ⟨⟨y0, y1, p _ _ (r.la (by omega) (by omega)) e1, ⟨p _ _ (by dsimp only at e2' ⊢; rw [e2']; omega) e2, r2 y0 0 (by omega) e2'⟩, ⟨p _ _ (by dsimp only at e3' ⊢; rw [e3']; omega) e3, r2 y1 0 (by omega) e3'⟩⟩, aFa_mono hR e4, aFa_mono hR e5, e6⟩
  · refine ⟨[], List.replicate 200 none, ?_, List.length_replicate .., rfl, ?_⟩
    · dsimp only
      rw [if_pos rfl, wr.2.1 x (fun w => hux w.symm)]
      exact hnew
    · rw [aF_3, if_pos rfl]; trivial
  · obtain ⟨rr, q, e1, e2, e3, e4⟩ := p10
    rw [aF_3, if_neg (by omega)]
    exact ⟨rr, q, p _ _ (r.la (by omega) (by omega)) e1, e2, e3, aFa_mono hI e4⟩
  · have hy2 := (gat_in ey).2
    constructor
    · rw [wr.2.1 y (fun w => by rw [w, o.1.2.1] at hy; omega)]
      exact gat_lt ey _
    · dsimp only
      rw [if_neg (by omega), if_neg (fun w => by rw [w, rA29] at hy; omega)]
  · rw [wr.2.1 _ (fun w => hu29 w.symm)]
    exact gat_lt hc _
theorem O_arrivals_27 {old : Nat} {r : List Nat} {Q : List (Option Nat)} {B : Int} (hB : B ≤ 2147483647) (hQ : ∀ i, i < r.length → Q.getD i none = some (r.getD i 0)) (hQl : r.length ≤ Q.length ∧ Q.length ≤ 1000) (ho : ρ old = 0) : ∀ (q : List Nat) (lq : List (List Int)) (p : List Nat) (n : Nat) (h : gH) (s : aS), r = p ++ q → gat h old = some (.inr (.inl (4, Q))) → aFa (oI h ρ) q lq → (∀ it, it ∈ lq → 1 ≤ it.length ∧ it.length ≤ 100 ∧ aRl B it) → aB B (s.1 0) → OR u A R ρ a (((s.2.2 1730)).length : Int) h s → ((s.2.2 1730)).length + q.length < 200 → q.length < n → ∃ h', f_O_arrivals_27 u n old (r.length : Int) (p.length : Int) h = f_O_arrivals_69 u old (r.length : Int) h' ∧ OR u A R ρ a (((s.2.2 1730) ++ lq.filter fun it => decide (it.getD 0 0 ≠ s.1 0)).length : Int) h' (aF s 1730 ((s.2.2 1730) ++ lq.filter fun it => decide (it.getD 0 0 ≠ s.1 0))) ∧ hC 0 0 ρ h ρ h'
  | [], [], p, n + 1, h, s, e1, hy, hq, hf, ht, o, hl, hn => by
    rw [List.append_nil] at e1
    subst e1
    refine ⟨h, ?_, ?_, hC.rf⟩
    · rw [f_O_arrivals_27, if_neg (by omega)]
    · rw [List.filter_nil, List.append_nil, aF_self]; exact o
  | [], _ :: _, _, n + 1, _, _, _, _, hq, _, _, _, _, _ => hq.elim
  | _ :: _, [], _, n + 1, _, _, _, _, hq, _, _, _, _, _ => hq.elim
  | x :: q, it :: lq, p, n + 1, h, s, e1, hy, hq, hf, ht, o, hl, hn => by
    have e2 : r.length = p.length + (q.length + 1) := by rw [e1, List.length_append]; rfl
    have e6 : r = (p ++ [x]) ++ q := by rw [e1, List.append_assoc]; rfl
    have hn' : q.length < n := by simp only [List.length_cons] at hn; omega
    have hg : Q.getD p.length none = some x := by rw [hQ _ (by omega), e1, getD_mid]
    obtain ⟨f1, f2, f3⟩ := hf it List.mem_cons_self
    have hf0 : aB B (it.getD 0 0) := by
      rw [List.getD_eq_getElem?_getD, List.getElem?_eq_getElem (by omega)]
      exact f3 _ (List.getElem_mem _)
    have hfq := fun f hf' => hf f (List.mem_cons_of_mem _ hf')
    rw [f_O_arrivals_27, if_pos (by rw [xw_nat (by omega), xw_nat (by omega)]; omega), gaK_N hy (by omega) (by omega), hg, Option.bind_some, gaN_z (i := 0) (z := 0) hq.1.1 rfl (by omega) (by omega), Option.bind_some, o.f0, Option.bind_some, hf0.xw hB, ht.xw hB]
    unfold f_O_arrivals_63
    by_cases hc : it.getD 0 0 = s.1 0
    · rw [if_pos hc]
      obtain ⟨h', k1, k2, k3⟩ := O_arrivals_27 hB hQ hQl ho q lq (p ++ [x]) n h s e6 hy hq.2 hfq ht o (by simp only [List.length_cons] at hl; omega) hn'
      rw [len_snoc] at k1
      rw [List.filter_cons_of_neg (by rw [decide_eq_true_eq]; exact fun w => w hc)]
      exact ⟨h', k1, k2, k3⟩
    · rw [if_neg hc, o.k29, Option.bind_some, o.fb, Option.bind_some]
      obtain ⟨h1, a1, a2, a3⟩ := o.wb ((((s.2.2 1730)).length : Int) + 1)
      have hy1 := (a3.2 old _ (Or.inl ho) hy).1
      rw [a1, Option.bind_some, gaK_N hy1 (by omega) (by omega), hg, Option.bind_some]
      simp only [List.length_cons] at hl
      obtain ⟨h2, b1, b2, b3⟩ := a2.wfly (z := (((s.2.2 1730)).length : Int)) rfl (by omega) (a3.oI hq.1)
      rw [b1, Option.bind_some]
      have c2 := a3.tr b3
      have efl : (aF s 1730 ((s.2.2 1730) ++ [it])).2.2 1730 = (s.2.2 1730) ++ [it] := by rw [aF_3, if_pos rfl]
      have eln : ((((aF s 1730 ((s.2.2 1730) ++ [it])).2.2 1730).length : Nat) : Int) = (((s.2.2 1730)).length : Int) + 1 := by rw [efl, List.length_append]; rfl
      obtain ⟨h', k1, k2, k3⟩ := O_arrivals_27 hB hQ hQl ho q lq (p ++ [x]) n h2 (aF s 1730 ((s.2.2 1730) ++ [it])) e6 ((b3.2 old _ (Or.inl ho) hy1).1) (aFa_mono (fun y f w => c2.oI w) hq.2) hfq ht (by rw [eln]; exact b2) (by rw [efl, List.length_append, List.length_singleton]; omega) hn'
      rw [len_snoc] at k1
      rw [efl, aF_aF, List.append_assoc] at k2
      rw [List.filter_cons_of_pos (by rw [decide_eq_true_eq]; exact hc)]
      exact ⟨h', k1, k2, (c2.tr k3).le (by omega) (by omega)⟩
  | _, _, _, 0, _, _, _, _, _, _, _, _, _, hn => by omega
theorem O_arrivals_71 {old : Nat} {r : List Nat} {Q : List (Option Nat)} {B : Int} (hB : B ≤ 900000000) (hB2 : 8 ≤ B) (J : List (List Int) → aS → Prop) (hJ : ∀ it r s, J (it :: r) s → (oIt it ∧ aRl B it ∧ aB B (s.1 0)) ∧ (it.getD 0 0 = s.1 0 → oLd B it s ∧ J r (aLand it s)) ∧ (it.getD 0 0 ≠ s.1 0 → J r s)) (hQ : ∀ i, i < r.length → Q.getD i none = some (r.getD i 0)) (hQl : r.length ≤ Q.length ∧ Q.length ≤ 1000) (ho : ρ old = 0) : ∀ (q : List Nat) (lq : List (List Int)) (p : List Nat) (n : Nat) (h : gH) (s : aS), r = p ++ q → gat h old = some (.inr (.inl (4, Q))) → aFa (oI h ρ) q lq → J lq s → OO u A ρ h s → q.length < n → ∃ h', f_O_arrivals_71 u n old (r.length : Int) (p.length : Int) h = some h' ∧ OO u A ρ h' (aLands (s.1 0) lq s) ∧ hC (aLcs (s.1 0) lq s) (aLzs (s.1 0) lq s) ρ h ρ h'
  | [], [], p, n + 1, h, s, e1, hy, hq, hj, o, hn => by
    rw [List.append_nil] at e1
    subst e1
    refine ⟨h, ?_, o, hC.rf⟩
    rw [f_O_arrivals_71, if_neg (by omega)]
  | [], _ :: _, _, n + 1, _, _, _, _, hq, _, _, _ => hq.elim
  | _ :: _, [], _, n + 1, _, _, _, _, hq, _, _, _ => hq.elim
  | x :: q, it :: lq, p, n + 1, h, s, e1, hy, hq, hj, o, hn => by
    have e2 : r.length = p.length + (q.length + 1) := by rw [e1, List.length_append]; rfl
    have e6 : r = (p ++ [x]) ++ q := by rw [e1, List.append_assoc]; rfl
    have hn' : q.length < n := by simp only [List.length_cons] at hn; omega
    have hg : Q.getD p.length none = some x := by rw [hQ _ (by omega), e1, getD_mid]
    obtain ⟨⟨j1, j2, j3⟩, j4, j5⟩ := hJ it lq s hj
    obtain ⟨R', o'⟩ := id o
    have hlen : 4 ≤ it.length ∧ it.length ≤ 14 := ⟨by rcases j1.2 with w | w <;> omega, j1.1.1⟩
    rw [f_O_arrivals_71, if_pos (by rw [xw_nat (by omega), xw_nat (by omega)]; omega), gaK_N hy (by omega) (by omega), hg, Option.bind_some, gaN_z (i := 0) (z := 0) hq.1.1 rfl (by omega) (by omega), Option.bind_some, o'.f0, Option.bind_some, (aRl_get j2 (by omega) 0).xw (by omega), j3.xw (by omega), aLands, aLcs, aLzs]
    by_cases hc : it.getD 0 0 = s.1 0
    · obtain ⟨k1, k2⟩ := j4 hc
      rw [if_pos hc, if_pos hc, if_pos hc, if_pos hc, Option.bind_some]
      obtain ⟨h1, a1, a2, a3⟩ := o.land hB hB2 hq.1 j1 j2 k1
      rw [a1, Option.bind_some, if_pos o'.ob]
      unfold f_O_arrivals_95
      have ht : (aLand it s).1 0 = s.1 0 := aLand_sc11 it s 0 (by omega)
      obtain ⟨h2, b1, b2, b3⟩ := O_arrivals_71 hB hB2 J hJ hQ hQl ho q lq (p ++ [x]) n h1 (aLand it s) e6 ((a3.2 old _ (Or.inl ho) hy).1) (aFa_mono (fun y f w => a3.oI w) hq.2) k2 a2 hn'
      rw [len_snoc] at b1
      rw [ht] at b2 b3
      exact ⟨h2, b1, b2, a3.tr b3⟩
    · rw [if_neg hc, if_neg hc, if_neg hc, if_neg hc]
      unfold f_O_arrivals_95
      obtain ⟨h2, b1, b2, b3⟩ := O_arrivals_71 hB hB2 J hJ hQ hQl ho q lq (p ++ [x]) n h s e6 hy hq.2 (j5 hc) o hn'
      rw [len_snoc] at b1
      exact ⟨h2, b1, b2, b3.le (by omega) (by omega)⟩
  | _, _, _, 0, _, _, _, _, _, _, _, hn => by omega
theorem OO.arrivals (o : OO u A ρ h s) {B : Int} (hB : B ≤ 900000000) (hB2 : 8 ≤ B) (J : List (List Int) → aS → Prop) (hJ : ∀ it r s, J (it :: r) s → (oIt it ∧ aRl B it ∧ aB B (s.1 0)) ∧ (it.getD 0 0 = s.1 0 → oLd B it s ∧ J r (aLand it s)) ∧ (it.getD 0 0 ≠ s.1 0 → J r s)) (hl : ((s.2.2 1730)).length < 190) (ht : aB B (s.1 0)) (hf : ∀ it, it ∈ (s.2.2 1730) → 1 ≤ it.length ∧ it.length ≤ 100 ∧ aRl B it) (hj : J ((s.2.2 1730)) (aF s 1730 (((s.2.2 1730)).filter fun it => decide (it.getD 0 0 ≠ s.1 0)))) : ∃ (A' ρ' : Nat → Nat) (h' : gH), f_O_arrivals u h = some h' ∧ OO u A' ρ' h' (aArr s) ∧ hC (1 + aLcs (s.1 0) ((s.2.2 1730)) (aF s 1730 (((s.2.2 1730)).filter fun it => decide (it.getD 0 0 ≠ s.1 0)))) (200 + aLzs (s.1 0) ((s.2.2 1730)) (aF s 1730 (((s.2.2 1730)).filter fun it => decide (it.getD 0 0 ≠ s.1 0)))) ρ h ρ' h' := by
  obtain ⟨R, o⟩ := o
  unfold f_O_arrivals
  rw [o.k29, Option.bind_some, o.fb, Option.bind_some, gNq_z 4 h (n := 200) (z := 200) rfl (by omega), Option.bind_some]
  dsimp only
  obtain ⟨A', ρ', h1, a1, a2, a3, ho, a4⟩ := o.newfly
  rw [a1, Option.bind_some]
  obtain ⟨h2, b1, b2, b3⟩ := a2.wb 0
  rw [b1, Option.bind_some]
  obtain ⟨rr, q, e1, e2, e3, e4⟩ := o.2.2.2.2.2.1
  have hrl := aFa_len e4
  have hA29 : A 29 < 2000 + h.length := (gat_in e1).2
  have c2 := a3.tr b3
  have hQ : ∀ i, i < rr.length → q.getD i none = some (rr.getD i 0) := fun i hi => by
    have h5 : (q.take rr.length)[i]? = (rr.map some)[i]? := by rw [e3]
    rw [List.getElem?_take, if_pos hi, List.getElem?_map, List.getElem?_eq_getElem hi] at h5
    rw [List.getD_eq_getElem?_getD, h5, List.getD_eq_getElem?_getD, List.getElem?_eq_getElem hi]
    rfl
  have hl' : (s.2.2 1730).length < 190 := hl
  have e0 : (aF s 1730 []).2.2 1730 = [] := by rw [aF_3, if_pos rfl]
  have hgo := (b3.2 (A 29) _ (Or.inl ho) (a4 _ e1)).1
  obtain ⟨h3, d1, d2, d3⟩ := O_arrivals_27 (u := u) (r := rr) (Q := q) (s := aF s 1730 []) (h := h2) (A := A') (ρ := ρ') (R := R) (a := (((s.2.2 1490)).length : Int)) (by omega : B ≤ 2147483647) hQ ⟨by omega, by omega⟩ ho rr ((s.2.2 1730)) [] fu rfl hgo (aFa_mono (fun y f w => c2.oI w) e4) hf ht (by rw [e0]; exact b2) (by rw [e0]; show 0 + _ < 200; omega) (by show _ < 5000; omega)
  have d1' : f_O_arrivals_27 u fu (A 29) ((s.2.2 1730).length : Int) 0 h2 = f_O_arrivals_69 u (A 29) ((s.2.2 1730).length : Int) h3 := by rw [← hrl]; exact d1
  rw [d1']
  rw [e0, List.nil_append, aF_aF] at d2
  unfold f_O_arrivals_69
  have oo : OO u A' ρ' h3 (aF s 1730 (((s.2.2 1730)).filter fun it => decide (it.getD 0 0 ≠ s.1 0))) := ⟨R, by
    rw [aF_3, if_neg (by omega), aF_3, if_pos rfl]
    exact d2⟩
  have c3 := c2.tr d3
  obtain ⟨h4, f1, f2, f3⟩ := O_arrivals_71 (u := u) (r := rr) (Q := q) hB hB2 J hJ hQ ⟨by omega, by omega⟩ ho rr ((s.2.2 1730)) [] fu h3 _ rfl ((d3.2 (A 29) _ (Or.inl ho) hgo).1) (aFa_mono (fun y f w => c3.oI w) e4) hj oo (by show _ < 5000; omega)
  have f1' : f_O_arrivals_71 u fu (A 29) ((s.2.2 1730).length : Int) 0 h3 = some h4 := by rw [← hrl]; exact f1
  exact ⟨_, _, h4, f1', f2, (c3.tr f3).le (by show 1 + 0 + 0 + aLcs (s.1 0) ((s.2.2 1730)) (aF s 1730 (((s.2.2 1730)).filter fun it => decide (it.getD 0 0 ≠ s.1 0))) ≤ _; omega) (by show 200 + 0 + 0 + aLzs (s.1 0) ((s.2.2 1730)) (aF s 1730 (((s.2.2 1730)).filter fun it => decide (it.getD 0 0 ≠ s.1 0))) ≤ _; omega)⟩
end

/-! ===== the own line: coming online, timers ===== -/
section
variable {u : Nat} {A ρ : Nat → Nat} {R : Nat → List Nat} {a b : Int} {h : gH} {s : aS}
theorem OR.dis (o : OR u A R ρ a b h s) (e : Nat) (he : e < 2) : ∀ x, x ∈ R e → x ∉ R (1 - e) := by
  obtain ⟨_, _, _, _, _, hd⟩ := o.2.2.2.2.1
  rcases (by omega : e = 0 ∨ e = 1) with rfl | rfl
  · exact hd
  · exact fun x hx hx2 => hd x hx2 hx
theorem O_on (o : OR u A R ρ a b h s) (hm : oSm s) (n e : Nat) (he : e < 2) {B : Int} (hB : B ≤ 2147483647) (hr : aR B s) (hf : oFw ((s.2.2 (56 + 717 * e + 26)))) : ∃ (R' : Nat → List Nat) (h' : gH), f_O_online_45 u (n + 1) (e : Int) h = f_O_online_45 u n ((e : Int) + 1) h' ∧ OR u A R' ρ a b h' (aOn e s) ∧ hC (1 + ((s.2.2 (56 + 717 * e + 26))).length) (8 * ((s.2.2 (56 + 717 * e + 26))).length) ρ h ρ h' := by
  rw [f_O_online_45, if_pos (by rw [xw_nat (by omega), show xw 2 = 2 by decide]; omega), gNq_z 4 h (n := 0) (z := 0) rfl (by omega), Option.bind_some]
  dsimp only
  have o1 := o.app [.inr (.inl (4, List.replicate 0 none))]
  rw [o1.k28, Option.bind_some]
  obtain ⟨y, f1, ⟨f2, f2'⟩, f3, f4⟩ := o1.frs e rfl he
  have hml : ((R e).map some).length = (R e).length := List.length_map _
  have hlen := aFa_len f3
  rw [f1, Option.bind_some, glc_Q f2 (Or.inl rfl), Option.bind_some, hml]
  obtain ⟨x', g, k1, k2, k3, k4, k5⟩ := O_online_71 (u := u) (ρ := ρ) (f_O_online_45 u n) (e : Int) (s.1 ((56 + 717 * (1 - e)) + 3)) (y := y) (B0 := 2000 + h.length) (L := R e) hB (hr.1 _) (by have := hf.1; omega) (R e) ((s.2.2 (56 + 717 * e + 26))) [] [] fu (2000 + h.length) (h ++ [.inr (.inl (4, List.replicate 0 none))]) (fun g => by
    rw [(o1.app g).k23, Option.bind_some, (o1.app g).exp (1 - e) (by omega) (by omega)]) f2 rfl f3 (fun f hf' => ⟨by have := (hf.2 f hf').1; omega, by have := (hf.2 f hf').2; omega, hr.2.2 _ f hf'⟩) (gat_nw h _ []) (fun x hx => absurd hx List.not_mem_nil) (Nat.le_refl _) (by rw [List.length_append]; omega) (by have := hf.1; show 0 + (R e).length ≤ 8; omega) (by have := hf.1; show _ < 5000; omega)
  have k1' : f_O_online_71 u (f_O_online_45 u n) fu (e : Int) (2000 + h.length) y ((R e).length : Int) 0 (h ++ [.inr (.inl (4, List.replicate 0 none))]) = _ := k1
  rw [k1']
  have o2 := o1.app g
  obtain ⟨y', i1, ⟨i2, i2'⟩, i3, i4⟩ := o2.frs e rfl he
  have hs := aKeep_sub (fun f => decide (s.1 ((56 + 717 * (1 - e)) + 3) ≤ f.getD 0 0)) (R e) ((s.2.2 (56 + 717 * e + 26)))
  have hk := aFa_keep (fun f => decide (s.1 ((56 + 717 * (1 - e)) + 3) ≤ f.getD 0 0)) i3
  have hkl := aFa_len hk
  have hx0 : ρ x' = 0 := o.1.2.2.2.1 _ k3
  have hsl := hs.length_le
  unfold f_O_online_113
  rw [glc_Q k2 (Or.inl rfl), Option.bind_some, List.length_map, List.nil_append]
  rw [List.nil_append] at k2
  obtain ⟨h2, m1, m2, m3, m4, m5, m6⟩ := O_online_124 (u := u) (ρ := ρ) (f_O_online_45 u n) (e : Int) x' (y := x') (L := aKeep (fun f => decide (s.1 ((56 + 717 * (1 - e)) + 3) ≤ f.getD 0 0)) (R e) ((s.2.2 (56 + 717 * e + 26)))) (by have := hf.1; omega) (hs.nodup i4) _ _ [] [] fu _ k2 hx0 rfl trivial hk (fun f hf' => by
    have := hf.2 f (List.mem_filter.mp hf').1
    omega) (by have := hf.1; show _ < 5000; omega)
  have m1' : f_O_online_124 u (f_O_online_45 u n) fu (e : Int) x' x' ((aKeep (fun f => decide (s.1 ((56 + 717 * (1 - e)) + 3) ≤ f.getD 0 0)) (R e) ((s.2.2 (56 + 717 * e + 26)))).length : Int) 0 ((h ++ [.inr (.inl (4, List.replicate 0 none))]) ++ g) = _ := m1
  rw [m1']
  unfold f_O_online_149
  have hdis := o.dis e he
  have r2 : oRole u A ρ h2 := o2.1.2.len (by omega)
  obtain ⟨h3, w1, w2, w3⟩ := o2.wfrs2 e rfl he m3 m5 m6 (fun x hx => m4 x (fun hx2 => hdis x (hs.subset hx2) hx)) (y := x') ⟨m3 _ _ (by rw [hx0]; omega) k2, hx0⟩ m2 (hs.nodup i4) (fun x hx => hdis x (hs.subset hx))
  rw [List.nil_append] at w2
  have e28 : gfK h2 u 28 = some (A 28) := by
    unfold gfK gfR
    rw [m3 _ _ (by rw [o2.1.2.1]; omega) o2.1.1]
    rfl
  rw [e28, Option.bind_some, w1, Option.bind_some, w2.k25, Option.bind_some]
  have hm3 : oSm (aF s ((56 + 717 * e) + 26) (aMark (((s.2.2 (56 + 717 * e + 26))).filter fun f => decide (s.1 ((56 + 717 * (1 - e)) + 3) ≤ f.getD 0 0)))) := hm
  obtain ⟨h4, a1, a2, a3⟩ := w2.wcred hm3 e rfl he 0
  have hm4 := hm3.N (j := (56 + 717 * e) + 5) (x := 0) (by omega)
  rw [a1, Option.bind_some, a2.k26, Option.bind_some]
  obtain ⟨h5, b1, b2, b3⟩ := a2.wesc hm4 e rfl he 0
  have hm5 := hm4.N (j := (56 + 717 * e) + 6) (x := 0) (by omega)
  rw [b1, Option.bind_some, b2.k27, Option.bind_some]
  obtain ⟨h6, c1, c2, c3⟩ := b2.wmark hm5 e rfl he 1
  rw [c1, Option.bind_some]
  refine ⟨_, h6, rfl, c2, ((((((hC.app ρ h _).tr (hC.app ρ _ g)).tr w3).tr a3).tr b3).tr c3).le ?_ ?_⟩
  · show 1 + g.length + 0 + 0 + 0 + 0 ≤ _
    omega
  · show (0 + 0) + gsl g + 0 + 0 + 0 + 0 ≤ _
    omega
theorem aOn_sc (e : Nat) (s : aS) (j : Nat) (h5 : j ≠ (56 + 717 * e) + 5) (h6 : j ≠ (56 + 717 * e) + 6) (h9 : j ≠ (56 + 717 * e) + 9) : (aOn e s).1 j = s.1 j := by
  unfold aOn
  rw [aN_1, if_neg h9, aN_1, if_neg h6, aN_1, if_neg h5]
  rfl
theorem aOn_fr (e : Nat) (s : aS) (j : Nat) (h : j ≠ (56 + 717 * e) + 26) : (aOn e s).2.2 j = s.2.2 j := by
  unfold aOn
  rw [aN_2, aN_2, aN_2, aF_3, if_neg h]
theorem aMark_R {B : Int} (hB : 1 ≤ B) {l : List (List Int)} (h : ∀ f, f ∈ l → aRl B f) : ∀ f, f ∈ aMark l → aRl B f := fun f hf => by
  unfold aMark at hf
  obtain ⟨f', h1, rfl⟩ := List.mem_map.mp hf
  intro x hx
  rcases List.mem_or_eq_of_mem_set hx with hx | rfl
  · exact h f' h1 x hx
  · unfold aB; omega
theorem aOn_R {B : Int} (hB : 1 ≤ B) (e : Nat) {s : aS} (h : aR B s) : aR B (aOn e s) := by
  unfold aOn
  exact (((h.F (aMark_R hB fun f hf => h.2.2 _ f (List.mem_filter.mp hf).1)).N (by unfold aB; omega)).N (by unfold aB; omega)).N (by unfold aB; omega)
theorem OO.up (o : OO u A ρ h s) (hm : oSm s) {B r : Int} (hB : B ≤ 1000000000) (hB2 : 5 ≤ B) (hr : aR B s) (hrr : aB B r) (hev : ((s.2.2 1490)).length ≤ 60) (hf : ∀ e, e < 2 → oFw ((s.2.2 (56 + 717 * e + 26)))) : ∃ h', (Option.bind (gpt h u 1 (.inl 2)) fun q3 => (Option.bind (gpt q3 u 3 (.inl r)) fun q4 => (Option.bind (gpt q4 u 8 (.inl 0)) fun q5 => (Option.bind (gpt q5 u 9 (.inl 0)) fun q6 => (Option.bind (gpt q6 u 11 (.inl 0)) fun q7 => f_O_online_45 u fu 0 q7))))) = some h' ∧ OO u A ρ h' (aUp r s) ∧ hC 20 140 ρ h ρ h' := by
  obtain ⟨R, o⟩ := o
  obtain ⟨h1, a1, a2, a3⟩ := o.w1 hm 2
  have m1 := hm.N (j := 1) (x := 2) (by omega)
  obtain ⟨h2, b1, b2, b3⟩ := a2.w3 m1 r
  have m2 := m1.N (j := 3) (x := r) (by omega)
  obtain ⟨h3, c1, c2, c3⟩ := b2.w8 m2 0
  have m3 := m2.N (j := 8) (x := 0) (by omega)
  obtain ⟨h4, d1, d2, d3⟩ := c2.w9 m3 0
  have m4 := m3.N (j := 9) (x := 0) (by omega)
  obtain ⟨h5, e1, e2, e3⟩ := d2.wb 0
  rw [a1, Option.bind_some, b1, Option.bind_some, c1, Option.bind_some, d1, Option.bind_some, e1, Option.bind_some]
  have o5 := e2.fl0
  have m5 : oSm (aF (aN (aN (aN (aN s 1 2) 3 r) 8 0) 9 0) 1730 []) := m4
  have r5 : aR B (aF (aN (aN (aN (aN s 1 2) 3 r) 8 0) 9 0) 1730 []) := ((((hr.N (by unfold aB; omega)).N hrr).N (by unfold aB; omega)).N (by unfold aB; omega)).F fun f hf => absurd hf List.not_mem_nil
  obtain ⟨T, hT⟩ : ∃ T, T = aF (aN (aN (aN (aN s 1 2) 3 r) 8 0) 9 0) 1730 [] := ⟨_, rfl⟩
  have f0 : ∀ j, j ≠ 1730 → T.2.2 j = s.2.2 j := fun j hj => by rw [hT, aF_3, if_neg hj]; rfl
  have fl : T.2.2 1730 = [] := by rw [hT, aF_3, if_pos rfl]
  rw [← hT] at o5 m5 r5
  obtain ⟨R6, h6, i1, i2, i3⟩ := O_on o5 m5 4999 0 (by omega) (by omega) r5 (by rw [f0 _ (by omega)]; exact hf 0 (by omega))
  have m6 : oSm (aOn 0 T) := by
    unfold oSm
    rw [aOn_sc 0 T 11 (by omega) (by omega) (by omega), aOn_sc 0 T 19 (by omega) (by omega) (by omega)]
    exact m5
  obtain ⟨R7, h7, j1, j2, j3⟩ := O_on i2 m6 4998 1 (by omega) (by omega) (aOn_R (by omega) 0 r5) (by rw [aOn_fr 0 T _ (by omega), f0 _ (by omega)]; exact hf 1 (by omega))
  have m7 : oSm (aOn 1 (aOn 0 T)) := by
    unfold oSm
    rw [aOn_sc 1 _ 11 (by omega) (by omega) (by omega), aOn_sc 1 _ 19 (by omega) (by omega) (by omega)]
    exact m6
  have i1' : f_O_online_45 u fu 0 h5 = f_O_online_45 u 4999 1 h6 := i1
  have j1' : f_O_online_45 u 4999 1 h6 = f_O_online_45 u (4997 + 1) 2 h7 := j1
  rw [i1', j1', f_O_online_45, if_neg (by decide)]
  unfold f_O_online_183
  rw [j2.k17, Option.bind_some, j2.tot 8 (z := 8) rfl (by omega), Option.bind_some]
  obtain ⟨h8, k1, k2, k3⟩ := j2.wtot m7 8 (z := 8) rfl (by omega) ((aOn 1 (aOn 0 T)).1 (45 + 8) + 1)
  rw [k1, Option.bind_some]
  have r7 := aOn_R (by omega) 1 (aOn_R (B := B) (by omega) 0 r5)
  have x53 := r7.1 (45 + 8)
  unfold aB at x53
  have r8 : aR 2000000000 (aN (aOn 1 (aOn 0 T)) (45 + 8) ((aOn 1 (aOn 0 T)).1 (45 + 8) + 1)) := (r7.le (by omega)).N (by unfold aB; omega)
  have ev : (aN (aOn 1 (aOn 0 T)) (45 + 8) ((aOn 1 (aOn 0 T)).1 (45 + 8) + 1)).2.2 1490 = s.2.2 1490 := by
    rw [aN_2, aOn_fr 1 _ _ (by omega), aOn_fr 0 _ _ (by omega), f0 _ (by omega)]
  have fl8 : (aN (aOn 1 (aOn 0 T)) (45 + 8) ((aOn 1 (aOn 0 T)).1 (45 + 8) + 1)).2.2 1730 = [] := by
    rw [aN_2, aOn_fr 1 _ _ (by omega), aOn_fr 0 _ _ (by omega), fl]
  rw [← ev] at k2
  obtain ⟨h9, l1, l2, l3⟩ := k2.tell (by rw [ev]; exact hev) (by omega) r8 1 (-1)
  rw [l1, Option.bind_some, if_pos k2.ob]
  have c0 := (hf 0 (by omega)).1
  have c1 := (hf 1 (by omega)).1
  have g0 : (T.2.2 (56 + 717 * 0 + 26)) = s.2.2 (56 + 717 * 0 + 26) := f0 _ (by omega)
  have g1 : ((aOn 0 T).2.2 (56 + 717 * 1 + 26)) = s.2.2 (56 + 717 * 1 + 26) := by rw [aOn_fr 0 T _ (by omega), f0 _ (by omega)]
  rw [g0] at i3
  rw [g1] at j3
  refine ⟨h9, rfl, ⟨R7, ?_⟩, ((((((((a3.tr b3).tr c3).tr d3).tr e3).tr i3).tr j3).tr k3).tr l3).le (by omega) (by omega)⟩
  have e9 : ((aUp r s).2.2 1730) = [] := by
    unfold aUp
    dsimp only
    rw [aTell_fl, ← hT]
    exact fl8
  rw [e9]
  unfold aUp
  dsimp only
  rw [← hT]
  exact l2
theorem OO.online (o : OO u A ρ h s) (hm : oSm s) {B : Int} (hB : B ≤ 1000000000) (hB2 : 5 ≤ B) (hr : aR B s) (hev : ((s.2.2 1490)).length ≤ 60) (hf : ∀ e, e < 2 → oFw ((s.2.2 (56 + 717 * e + 26)))) : ∃ h', f_O_online u h = some h' ∧ OO u A ρ h' (aOnline s) ∧ hC 20 140 ρ h ρ h' := by
  obtain ⟨R, o'⟩ := id o
  have hq := o'.rateFor hm (by omega) hr (hr.1 2)
  have hb : ∀ k, k ≤ 5 → aB B (aRt s (s.1 2) k) := fun k hk => by
    induction k with
    | zero => unfold aRt aB; omega
    | succ k ih =>
      rw [aRt]
      by_cases hc : s.1 (40 + k) ≤ s.1 2
      · rw [if_pos hc]; unfold aB; omega
      · rw [if_neg hc]; exact ih (by omega)
  obtain ⟨⟨n1, n2⟩, n3, n4⟩ := id hm
  have hbr := hb (s.1 11).toNat (by omega)
  unfold f_O_online aOnline
  rw [o'.f2, Option.bind_some, hq, Option.bind_some, if_pos o'.ob, hbr.xw (by omega)]
  by_cases hn : aRt s (s.1 2) (s.1 11).toNat < 0
  · rw [if_pos hn, if_pos hn]
    obtain ⟨h', w1, w2, w3⟩ := o.hang hm hev hB hr
    rw [w1, Option.bind_some, if_pos o'.ob]
    exact ⟨h', rfl, w2, w3.le (by omega) (by omega)⟩
  · rw [if_neg hn, if_neg hn]
    exact o.up hm hB hB2 hr hbr hev hf
theorem aFst_cons (a : Int) (f : List Int) (l : List (List Int)) : aFst a (f :: l) = if f.getD 2 0 = a then 0 else aFst a l + 1 := by
  unfold aFst
  rw [List.findIdx_cons]
  by_cases h : f.getD 2 0 = a
  · rw [if_pos h, beq_iff_eq.mpr h]; rfl
  · rw [if_neg h, beq_eq_false_iff_ne.mpr h]; rfl
/-- the oldest one that is sent is late -/
def aLt (to t : Int) (l : List (List Int)) : Int := if aFst 0 l < l.length ∧ to ≤ t - (l.getD (aFst 0 l) []).getD 1 0 then 1 else 0
theorem O_timer_B (z : Int) {y : Nat} {L : List Nat} (hL : L.length ≤ 100) {B : Int} (hB : B ≤ 2147483647) (hy : gat h y = some (.inr (.inl (4, L.map some)))) {late : Int} (hl : late = 0 ∨ late = 1) : ∀ (q : List Nat) (lq : List (List Int)) (p : List Nat) (n : Nat), L = p ++ q → aFa (oRow h ρ) q lq → (∀ f, f ∈ lq → 3 ≤ f.length ∧ f.length ≤ 100 ∧ aRl B f) → q.length < n → f_O_timer_20 u z n late 0 y (L.length : Int) (p.length : Int) h = f_O_timer_79 u z late h
  | [], lq, p, n + 1, e1, hq, hf, hn => by
    rw [List.append_nil] at e1
    subst e1
    rw [f_O_timer_20, if_neg (by omega)]
  | _ :: _, [], _, n + 1, _, hq, _, _ => hq.elim
  | x :: q, f :: lq, p, n + 1, e1, hq, hf, hn => by
    have e2 : L.length = p.length + (q.length + 1) := by rw [e1, List.length_append]; rfl
    have e6 : L = (p ++ [x]) ++ q := by rw [e1, List.append_assoc]; rfl
    have hn' : q.length < n := by simp only [List.length_cons] at hn; omega
    have hm : (L.map some).length = L.length := List.length_map _
    have hg : (L.map some).getD p.length none = some x := by
      have hpm : (p.map some).length = p.length := List.length_map _
      rw [e1, List.map_append, ← hpm]
      exact getD_mid _ _ _ _
    obtain ⟨f1, f2, f3⟩ := hf f List.mem_cons_self
    have ih := O_timer_B z hL hB hy hl q lq (p ++ [x]) n e6 hq.2 (fun f hf' => hf f (List.mem_cons_of_mem _ hf')) hn'
    rw [len_snoc] at ih
    rw [f_O_timer_20, if_pos (by rw [xw_nat (by omega), xw_nat (by omega)]; omega), gaK_N hy (by omega) (by omega), hg, Option.bind_some, gaN_z (i := 2) (z := 2) hq.1.1 rfl (by omega) (by omega), Option.bind_some]
    by_cases hc : xw (f.getD 2 0) = 0
    · rw [if_pos hc, if_pos (by decide)]
      unfold f_O_timer_68 f_O_timer_69 f_O_timer_73
      rw [show xior late 0 = late by rcases hl with rfl | rfl <;> decide]
      exact ih
    · rw [if_neg hc]
      unfold f_O_timer_73
      exact ih
  | _, _, _, 0, _, _, _, hn => by omega
theorem O_timer_A (o : OR u A R ρ a b h s) (z : Int) {y : Nat} {L : List Nat} (hL : L.length ≤ 100) {B : Int} (hB : B ≤ 1000000000) (hr : aR B s) (hy : gat h y = some (.inr (.inl (4, L.map some)))) : ∀ (q : List Nat) (lq : List (List Int)) (p : List Nat) (n : Nat), L = p ++ q → aFa (oRow h ρ) q lq → (∀ f, f ∈ lq → 3 ≤ f.length ∧ f.length ≤ 100 ∧ aRl B f) → q.length < n → f_O_timer_20 u z n 0 1 y (L.length : Int) (p.length : Int) h = f_O_timer_79 u z (aLt (s.1 16) (s.1 0) lq) h
  | [], [], p, n + 1, e1, hq, hf, hn => by
    rw [List.append_nil] at e1
    subst e1
    rw [f_O_timer_20, if_neg (by omega)]
    rfl
  | [], _ :: _, _, n + 1, _, hq, _, _ => hq.elim
  | _ :: _, [], _, n + 1, _, hq, _, _ => hq.elim
  | x :: q, f :: lq, p, n + 1, e1, hq, hf, hn => by
    have e2 : L.length = p.length + (q.length + 1) := by rw [e1, List.length_append]; rfl
    have e6 : L = (p ++ [x]) ++ q := by rw [e1, List.append_assoc]; rfl
    have hn' : q.length < n := by simp only [List.length_cons] at hn; omega
    have hm : (L.map some).length = L.length := List.length_map _
    have hg : (L.map some).getD p.length none = some x := by
      have hpm : (p.map some).length = p.length := List.length_map _
      rw [e1, List.map_append, ← hpm]
      exact getD_mid _ _ _ _
    obtain ⟨f1, f2, f3⟩ := hf f List.mem_cons_self
    have hg2 : aB B (f.getD 2 0) := by
      rw [List.getD_eq_getElem?_getD, List.getElem?_eq_getElem (by omega)]
      exact f3 _ (List.getElem_mem _)
    have hg1 : aB B (f.getD 1 0) := by
      rw [List.getD_eq_getElem?_getD, List.getElem?_eq_getElem (by omega)]
      exact f3 _ (List.getElem_mem _)
    have r0 := hr.1 0
    have r16 := hr.1 16
    unfold aB at r0 r16 hg1
    have hfq := fun f hf' => hf f (List.mem_cons_of_mem _ hf')
    rw [f_O_timer_20, if_pos (by rw [xw_nat (by omega), xw_nat (by omega)]; omega), gaK_N hy (by omega) (by omega), hg, Option.bind_some, gaN_z (i := 2) (z := 2) hq.1.1 rfl (by omega) (by omega), Option.bind_some, hg2.xw (by omega)]
    unfold aLt
    rw [aFst_cons]
    by_cases hc : f.getD 2 0 = 0
    · rw [if_pos hc, if_neg (by decide), o.f0, Option.bind_some, gaN_z (i := 1) (z := 1) hq.1.1 rfl (by omega) (by omega), Option.bind_some, o.k16, Option.bind_some, o.set 4 (z := 4) rfl (by omega), Option.bind_some, xw_id (by omega) (by omega), show s.1 (12 + 4) = s.1 16 from rfl, xw_id (x := s.1 16) (by omega) (by omega), if_pos hc]
      have e9 : ((f :: lq).getD 0 []).getD 1 0 = f.getD 1 0 := rfl
      rw [e9]
      by_cases hd : s.1 0 - f.getD 1 0 < s.1 16
      · have ih := O_timer_B (u := u) (ρ := ρ) z hL (by omega : B ≤ 2147483647) hy (late := 0) (Or.inl rfl) q lq (p ++ [x]) n e6 hq.2 hfq hn'
        rw [len_snoc] at ih
        rw [if_pos hd, if_neg (by omega)]
        unfold f_O_timer_68 f_O_timer_69 f_O_timer_73
        rw [show xior 0 0 = 0 by decide]
        exact ih
      · have ih := O_timer_B (u := u) (ρ := ρ) z hL (by omega : B ≤ 2147483647) hy (late := 1) (Or.inr rfl) q lq (p ++ [x]) n e6 hq.2 hfq hn'
        rw [len_snoc] at ih
        rw [if_neg hd, if_pos ⟨by rw [List.length_cons]; omega, by omega⟩]
        unfold f_O_timer_69 f_O_timer_73
        rw [show xior 0 1 = 1 by decide]
        exact ih
    · rw [if_neg hc, if_neg hc]
      have ih := O_timer_A o z hL hB hr hy q lq (p ++ [x]) n e6 hq.2 hfq hn'
      rw [len_snoc] at ih
      unfold f_O_timer_73
      rw [ih]
      unfold aLt
      rw [List.getD_cons_succ, List.length_cons]
      congr 1
      by_cases h9 : aFst 0 lq < lq.length ∧ s.1 16 ≤ s.1 0 - (lq.getD (aFst 0 lq) []).getD 1 0
      · rw [if_pos h9, if_pos ⟨by omega, h9.2⟩]
      · rw [if_neg h9, if_neg (fun w => h9 ⟨by omega, w.2⟩)]
  | _, _, _, 0, _, _, _, hn => by omega
end

/-! ===== the law's loop over acts, and undoing them all ===== -/
/-- d is what the law reads of a line in state s -/
def aDig (s : aS) (d : Int) : Prop := ∀ (m : xM) (hp : gH), aSee m s → f_L_all m hp = some d
/-- the digests of what can be undone -/
def wD (x : Nat) (h : gH) (H : List aS) : Prop := ∃ W : List Int, gat h x = some (.inl (1, W)) ∧ W.length = 10 ∧ ∀ j t, H[j]? = some t → aDig t (W.getD j 0)
section
variable {u w x6 : Nat} {A ρ : Nat → Nat} {R : Nat → List Nat} {a b : Int} {h h' : gH} {s t0 : aS} {B : Int} {m : xM} {H : List aS} {S : Option aS}
theorem OR.k51 (o : OR u A R ρ a b h s) (p : hP 51 ρ h h') (hl : h.length ≤ h'.length) : OR u A R ρ a b h' s := by
  obtain ⟨⟨p1, r⟩, p2, p3, ⟨p4, p5, p6, p7⟩, p8, p9, p10⟩ := o
  exact ⟨⟨p _ _ (by rw [r.1]; omega) p1, r.len hl⟩, p2.kp r p (by omega), p3.kp r p (by omega), ⟨p4.kp r p (by omega) (by omega) (by omega), p5.kp r p (by omega) (by omega) (by omega), p6.kp r p (by omega) (by omega) (by omega), p7.kp r p (by omega) (by omega) (by omega)⟩, p8.kp r p (by omega) (by omega) (by omega), p9.kp r p (by omega) (by omega) (by omega), p10.kp r p (by omega) (by omega) (by omega)⟩
def LL (u w x6 : Nat) (A ρ : Nat → Nat) (B : Int) (m : xM) (h : gH) (s : aS) (H : List aS) (t0 : aS) : Prop := (OO u A ρ h s ∧ wZ w ρ h) ∧ (aX B m s H (some t0) [] ∧ vB s ∧ pI s ∧ ∀ t, t ∈ H → vB t ∧ t.1 0 ≤ 50000) ∧ ρ x6 = 51
theorem LL.O (k : LL u w x6 A ρ B m h s H t0) (q : hO x6 h h') : LL u w x6 A ρ B m h' s H t0 := by
  obtain ⟨⟨⟨R, o⟩, k2⟩, k3, k4⟩ := k
  have p : hP 51 ρ h h' := fun y c hy e => by
    rw [q.1 y (fun k => hy (by rw [k]; exact k4))]; exact e
  have hw : w ≠ x6 := fun e => by
    have := k2.2
    rw [e, k4] at this
    omega
  exact ⟨⟨⟨R, o.k51 p (by rw [q.2.1]; exact Nat.le_refl _)⟩, ⟨by rw [q.1 w hw]; exact k2.1, k2.2⟩⟩, k3, k4⟩
theorem dig_eq {t : aS} {d1 d2 : Int} (h1 : aDig t d1) (h2 : aDig t d2) {m : xM} (hs : aSee m t) : d1 = d2 := by
  have e1 := h1 m [] hs
  have e2 := h2 m [] hs
  rw [e1] at e2
  exact Option.some.inj e2
/-- the end of the law: ahead by forty, sound, back to the snapshot -/
theorem law_538 (Ln : Nat) (xs : Nat → Int) (x4 : Int) (hx : aX B m s [] (some t0) []) (hv : vB s) (hd : aDig t0 x4) (ht : s.1 0 ≤ 50000) (hB1 : 108 ≤ B) (hB : B ≤ 300000000) : ∃ m9 : xM, f_L_law_538 Ln xs w x4 m h = some (1, m9, h) := by
  obtain ⟨m1, a1, a2⟩ := hx.undoN
  obtain ⟨m2, b1, b2⟩ := a2.isPassed hv (n := 40) (by omega) (by omega) (Nat.zero_lt_of_lt (by decide : 0 < 10)) (by omega) (by omega) h
  obtain ⟨m3, c1, c2⟩ := b2.sound (by omega) (by omega) hv h
  obtain ⟨m4, d1, d2⟩ := c2.restore
  have e1 := hd m4 h (d2.see (by omega))
  have e2 := d2.count
  refine ⟨m4, ?_⟩
  have b1' : f_L_isPassed 40 h m1 = some (1, m2) := b1
  unfold f_L_law_538
  rw [a1, Option.bind_some]
  dsimp only
  rw [if_pos rfl, b1', Option.bind_some]
  dsimp only
  rw [if_neg (by decide), c1, Option.bind_some]
  dsimp only
  rw [if_neg (by decide), d1, Option.bind_some]
  dsimp only
  rw [if_neg (by decide), e1, Option.bind_some, if_pos (xlcmp_self x4), e2, Option.bind_some]
  have e3 : xw (([] : List aS).length : Int) = 0 := by decide
  rw [if_pos e3]
/-- undoing one by one -/
theorem law_503 (Ln : Nat) (xs : Nat → Int) (x4 : Int) (hd : aDig t0 x4) (hB1 : 108 ≤ B) (hB : B ≤ 300000000) {W : List Int} (hW : gat h x6 = some (.inl (1, W))) (hWl : W.length = 10) : ∀ (k n : Nat) (m : xM) (s : aS) (H : List aS), H.length = k → k ≤ 10 → k < n → aX B m s H (some t0) [] → (vB s ∧ s.1 0 ≤ 50000) → (∀ t, t ∈ H → vB t ∧ t.1 0 ≤ 50000) → (∀ j t, H[j]? = some t → aDig t (W.getD j 0)) → ∃ m9 : xM, f_L_law_503 Ln xs w n x4 x6 ((k : Int) - 1) m h = some (1, m9, h) := by
  intro k
  induction k with
  | zero =>
    intro n m s H h1 h2 h3 hx hv hH hj
    obtain ⟨n, rfl⟩ : ∃ z, n = z + 1 := ⟨n - 1, by omega⟩
    have : H = [] := List.eq_nil_of_length_eq_zero h1
    subst this
    obtain ⟨m9, e⟩ := law_538 (w := w) (h := h) Ln xs x4 hx hv.1 hd hv.2 hB1 hB
    refine ⟨m9, ?_⟩
    rw [f_L_law_503, if_pos (by decide)]
    exact e
  | succ k ih =>
    intro n m s H h1 h2 h3 hx hv hH hj
    obtain ⟨n, rfl⟩ : ∃ z, n = z + 1 := ⟨n - 1, by omega⟩
    have hne : H ≠ [] := fun e => by rw [e] at h1; exact absurd h1 (by simp)
    obtain ⟨H', t, rfl⟩ : ∃ H' t, H = H' ++ [t] := ⟨H.dropLast, H.getLast hne, (List.dropLast_concat_getLast hne).symm⟩
    have hl : H'.length = k := by
      rw [List.length_append, List.length_singleton] at h1
      omega
    obtain ⟨m1, a1, a2⟩ := hx.undo
    have dt : aDig t (W.getD k 0) := hj k t (by rw [List.getElem?_append_right (by omega), hl, Nat.sub_self]; rfl)
    have e1 := dt m1 h (a2.see (by omega))
    have ht := hH t (List.mem_append_right _ List.mem_cons_self)
    obtain ⟨m9, b1⟩ := ih n m1 t H' hl (by omega) (by omega) a2 ht (fun x hx => hH x (List.mem_append_left _ hx)) (fun j x hjx => hj j x (by
      have := (List.getElem?_eq_some_iff.mp hjx).1
      rw [List.getElem?_append_left this]
      exact hjx))
    refine ⟨m9, ?_⟩
    have ek : ((k + 1 : Nat) : Int) - 1 = (k : Int) := by omega
    rw [f_L_law_503, ek, if_neg (by rw [xw_nat (by omega)]; omega), a1, Option.bind_some]
    dsimp only
    rw [hl, if_pos rfl, e1, Option.bind_some, gaN_z hW (i := k) rfl (by omega) (by omega), Option.bind_some, if_pos (xlcmp_self _), show (k : Int) + (-1) = (k : Int) - 1 by omega]
    exact b1
/-- the digests move down by one -/
theorem law_404 (Ln : Nat) (xs : Nat → Int) (k320 : Nat → Int → Nat → Int → Int → xM → gH → Option (Int × xM × gH)) (x3 : Nat) (x4 x7 x8 x9 x10 : Int) (m : xM) {W0 : List Int} : ∀ (j x n : Nat) (W : List Int) (h : gH), x + j = 10 → 1 ≤ x → j < n → gat h x6 = some (.inl (1, W)) → W.length = 10 → (∀ i, i + 1 < x → W.getD i 0 = W0.getD (i + 1) 0) → (∀ i, x ≤ i + 1 → W.getD i 0 = W0.getD i 0) → ∃ (W' : List Int) (h' : gH), f_L_law_404 Ln xs w k320 n x3 x4 x6 x7 x8 x9 x10 (x : Int) m h = f_L_law_429 Ln xs w k320 x3 x4 x6 x7 x8 x9 x10 m h' ∧ hO x6 h h' ∧ gat h' x6 = some (.inl (1, W')) ∧ W'.length = 10 ∧ ∀ i, i < 9 → W'.getD i 0 = W0.getD (i + 1) 0 := by
  intro j
  induction j with
  | zero =>
    intro x n W h h1 h2 h3 hg hl i1 i2
    obtain ⟨n, rfl⟩ : ∃ z, n = z + 1 := ⟨n - 1, by omega⟩
    refine ⟨W, h, ?_, hO.rf x6 h, hg, hl, fun i hi => i1 i (by omega)⟩
    rw [f_L_law_404, if_neg (by rw [xw_nat (by omega), show xw 10 = 10 by decide]; omega)]
  | succ j ih =>
    intro x n W h h1 h2 h3 hg hl i1 i2
    obtain ⟨n, rfl⟩ : ∃ z, n = z + 1 := ⟨n - 1, by omega⟩
    obtain ⟨h1', a1, a2⟩ := gsN_W (W.getD x 0) hg (i := x - 1) (z := (x : Int) - 1) (by omega) (by omega) (by omega)
    obtain ⟨W', h', b1, b2, b3, b4, b5⟩ := ih (x + 1) n (W.set (x - 1) (W.getD x 0)) h1' (by omega) (by omega) (by omega) a2.1 (by rw [List.length_set]; exact hl) (fun i hi => by
      rw [List.getD_eq_getElem?_getD]
      by_cases c : i = x - 1
      · rw [c, List.getElem?_set_self (by omega)]
        show W.getD x 0 = _
        rw [i2 x (by omega), show x - 1 + 1 = x by omega]
      · rw [List.getElem?_set_ne (by omega), ← List.getD_eq_getElem?_getD]
        exact i1 i (by omega)) (fun i hi => by
      rw [List.getD_eq_getElem?_getD, List.getElem?_set_ne (by omega), ← List.getD_eq_getElem?_getD]
      exact i2 i (by omega))
    refine ⟨W', h', ?_, a2.O.tr b2, b3, b4, b5⟩
    rw [f_L_law_404, if_pos (by rw [xw_nat (by omega), show xw 10 = 10 by decide]; omega), gaN_z hg (i := x) rfl (by omega) (by omega), Option.bind_some, a1, Option.bind_some, show (x : Int) + 1 = ((x + 1 : Nat) : Int) by omega]
    exact b1
/-- behind an act that was done -/
theorem law_432 (Ln : Nat) (xs : Nat → Int) (k320 : Nat → Int → Nat → Int → Int → xM → gH → Option (Int × xM × gH)) (x3 : Nat) (x4 x9 x10 : Int) {k : Nat} (hk : k < 36) {H' : List aS} {t : aS} (L : LL u w x6 A ρ B m h s (H' ++ [t]) t0) {W : List Int} (hW : gat h x6 = some (.inl (1, W))) (hWl : W.length = 10) (hj : ∀ j y, H'[j]? = some y → aDig y (W.getD j 0)) (hd : aDig t x10) (hl : H'.length < 10) (ht : s.1 0 ≤ 50000) (hB1 : 255 ≤ B) (hB : B ≤ 300000000) : ∃ (m' : xM) (h' : gH), f_L_law_432 Ln xs w k320 x3 x4 x6 (H'.length : Int) (k : Int) x9 x10 m h = k320 x3 x4 x6 (((H' ++ [t]).length : Nat) : Int) ((k : Int) + 1) m' h' ∧ LL u w x6 A ρ (B + 600000) m' h' s (H' ++ [t]) t0 ∧ wD x6 h' (H' ++ [t]) ∧ hO x6 h h' := by
  obtain ⟨h1, a1, a2⟩ := gsN_W x10 hW (i := H'.length) (z := (H'.length : Int)) rfl (by omega) (by omega)
  have q := a2.O
  have L1 := L.O q
  have D1 : wD x6 h1 (H' ++ [t]) := ⟨W.set H'.length x10, a2.1, by rw [List.length_set]; exact hWl, fun j y hy => by
    by_cases c : j < H'.length
    · rw [List.getElem?_append_left c] at hy
      rw [List.getD_eq_getElem?_getD, List.getElem?_set_ne (by omega), ← List.getD_eq_getElem?_getD]
      exact hj j y hy
    · have hjl := (List.getElem?_eq_some_iff.mp hy).1
      rw [List.length_append, List.length_singleton] at hjl
      have : j = H'.length := by omega
      subst this
      rw [List.getElem?_append_right (Nat.le_refl _), Nat.sub_self] at hy
      cases hy
      rw [List.getD_eq_getElem?_getD, List.getElem?_set_self (by omega)]
      exact hd⟩
  obtain ⟨k1, ⟨hx, hv, hi, hH⟩, k4⟩ := L1
  have e1 := hx.count
  have hlen : (H' ++ [t]).length = H'.length + 1 := by rw [List.length_append, List.length_singleton]
  obtain ⟨m2, b1, b2⟩ := hx.sound (by omega) (by omega) hv h1
  have e6 : ((H'.length : Nat) : Int) + 1 = (((H' ++ [t]).length : Nat) : Int) := by rw [hlen]; omega
  have e29 : xirem (k : Int) 2 = ((k % 2 : Nat) : Int) := by
    rw [xirem_pos (x := (k : Int)) (y := 2) ⟨by omega, by omega⟩ ⟨by omega, by omega⟩]; omega
  unfold f_L_law_432
  rw [a1, Option.bind_some, e1, Option.bind_some, e6, if_pos rfl, b1, Option.bind_some]
  dsimp only
  rw [if_neg (by decide), if_neg (by decide), e29, xw_nat (by omega), show xw 1 = 1 by decide, show xw 10 = 10 by decide, hlen, xw_nat (by omega)]
  have next : ∀ mm : xM, aX (B + 600000) mm s (H' ++ [t]) (some t0) [] → ∃ (m' : xM) (h' : gH), f_L_law_491 Ln xs w k320 x3 x4 x6 ((H'.length + 1 : Nat) : Int) (k : Int) mm h1 = k320 x3 x4 x6 ((H'.length + 1 : Nat) : Int) ((k : Int) + 1) m' h' ∧ LL u w x6 A ρ (B + 600000) m' h' s (H' ++ [t]) t0 ∧ wD x6 h' (H' ++ [t]) ∧ hO x6 h h' := fun mm hmm => ⟨mm, h1, rfl, ⟨k1, ⟨hmm, hv, hi, hH⟩, k4⟩, D1, q⟩
  by_cases c1 : ((k % 2 : Nat) : Int) = 1
  · rw [if_pos c1]
    by_cases c2 : ((H'.length + 1 : Nat) : Int) < 10
    · rw [if_pos c2]
      obtain ⟨r, hr, er⟩ := L_most x9 (k := 20) (by omega)
      have er' : f_L_most x9 20 h1 = some (r : Int) := er h1
      obtain ⟨m3, d1, d2⟩ := b2.isPassed hv (n := r + 1) (by omega) (by omega) (by rw [hlen]; omega) (by omega) (by omega) h1
      rw [er', Option.bind_some, show (1 : Int) + (r : Int) = ((r + 1 : Nat) : Int) by omega, d1, Option.bind_some]
      dsimp only
      rw [if_neg (by decide)]
      exact next m3 (d2.le (by omega))
    · rw [if_neg c2]
      exact next m2 (b2.le (by omega))
  · rw [if_neg c1]
    exact next m2 (b2.le (by omega))
theorem pP_nn (hi : pI s) (hl : vLn s) (h3 : 0 ≤ s.1 3) : 0 ≤ pP s ∧ 0 ≤ pX s := by
  have ee : ∀ e, e < 2 → 0 ≤ pEnd s e ∧ 0 ≤ pXe s e := fun e he => by
    have := (hl e he).2.1
    have a1 := (pPs_nn (s.1 14) (s.1 ((56 + 717 * e) + 9)) (aCnt 1 ((s.2.2 (56 + 717 * e + 26)))) (((s.2.2 (56 + 717 * e + 26))).length)).1
    have a3 := pAge_nn (s.1 0) ((s.2.2 (56 + 717 * e + 26)))
    have a6 : 0 ≤ pCl ((s.2.1 (56 + 717 * e + 117))) := by unfold pCl; omega
    unfold pEnd pXe
    exact ⟨by omega, by omega⟩
  have er : 0 ≤ pRest s := by
    unfold pRest
    have o2 : 0 ≤ pOn s := by unfold pOn; split <;> omega
    have a7 := pAcks_nn ((s.2.2 1730))
    have v0 := pVw_nn hi h3
    omega
  obtain ⟨x1, x2⟩ := ee 0 (by omega)
  obtain ⟨y1, y2⟩ := ee 1 (by omega)
  refine ⟨?_, ?_⟩
  · show 0 ≤ pEnd s 0 + pEnd s 1 + pRest s
    omega
  · show 0 ≤ pXe s 0 + pXe s 1
    omega
theorem L_cell (Ln : Nat) (xs : Nat → Int) (hLn : Ln < 2147483648) (k : Nat) (hk : k < 1000000) (hp : gH) : ∃ v : Int, f_L_cell Ln xs (k : Int) hp = some v := by
  unfold f_L_cell
  rw [xw_nat (by omega), xw_nat (by omega)]
  by_cases c : (k : Int) < (Ln : Int)
  · rw [if_pos c]
    unfold gTl
    rw [if_pos (by unfold xib; rw [xw_nat (by omega)]; omega)]
    exact ⟨_, rfl⟩
  · rw [if_neg c]
    exact ⟨_, rfl⟩
/-- the law's loop -/
theorem law_320 (Ln : Nat) (xs : Nat → Int) (hLn : Ln < 2147483648) (x4 : Int) (hd : aDig t0 x4) : ∀ (j k n : Nat) (A ρ : Nat → Nat) (B : Int) (m : xM) (h : gH) (s : aS) (H : List aS), k + j = 36 → j < n → LL u w x6 A ρ B m h s H t0 → wD x6 h H → H.length ≤ 10 → s.1 0 + 40 * j ≤ 50000 → 255 ≤ B → B + 1800000 * j ≤ 200000000 → ∃ (m9 : xM) (h9 : gH), f_L_law_320 Ln xs w n u x4 x6 (H.length : Int) (k : Int) m h = some (1, m9, h9) ∧ (h9.length : Int) ≤ h.length + pP s + 16480 * j ∧ (gsl h9 : Int) ≤ gsl h + 9 * (pP s + 16480 * j) + pX s + 47000 * j := by
  intro j
  induction j with
  | zero =>
    intro k n A ρ B m h s H h1 h2 L D hl ht hB1 hB
    obtain ⟨n, rfl⟩ : ∃ z, n = z + 1 := ⟨n - 1, by omega⟩
    obtain ⟨k1, ⟨hx, hv, hi, hH⟩, k4⟩ := L
    obtain ⟨W, hW, hWl, hj⟩ := D
    obtain ⟨m9, e⟩ := law_503 (w := w) Ln xs x4 hd (by omega) (by omega) hW hWl H.length fu m s H rfl hl (by show _ < 5000; omega) hx ⟨hv, by omega⟩ hH hj
    have nn := pP_nn hi hx.ln hx.ai.1.1.2.2.2.1.1
    refine ⟨m9, h, ?_, by omega, by omega⟩
    rw [f_L_law_320, if_neg (by rw [xw_nat (by omega), show xw 36 = 36 by decide]; omega)]
    unfold f_L_law_497
    exact e
  | succ j ih =>
    intro k n A ρ B m h s H h1 h2 L D hl ht hB1 hB
    obtain ⟨n, rfl⟩ : ∃ z, n = z + 1 := ⟨n - 1, by omega⟩
    obtain ⟨⟨o, hw⟩, ⟨hx, hv, hi, hH⟩, k4⟩ := L
    obtain ⟨W, hW, hWl, hj⟩ := D
    obtain ⟨d0, hd0⟩ := d_all hx.ai.1
    have e0 : f_L_all m h = some d0 := hd0 m h (hx.see (by omega))
    have e29 : xirem (k : Int) 29 = ((k % 29 : Nat) : Int) := by
      rw [xirem_pos (x := (k : Int)) (y := 29) ⟨by omega, by omega⟩ ⟨by omega, by omega⟩]; omega
    obtain ⟨v, ev⟩ := L_cell Ln xs hLn (2 + k % 29) (by omega) h
    have ev' : f_L_cell Ln xs (2 + xirem (k : Int) 29) h = some v := by
      rw [e29, show (2 : Int) + ((k % 29 : Nat) : Int) = ((2 + k % 29 : Nat) : Int) by omega]
      exact ev
    obtain ⟨vv, hvv⟩ : ∃ vv, vv = xishr v ((xidiv (k : Int) 29) * 3) := ⟨_, rfl⟩
    obtain ⟨d, m1, h1', A1, ρ1, s1, H1, nn, zz, r1, r2, ⟨o1, w1⟩, ⟨x1, v1, i1⟩, c1, ⟨cc, xx, p1, p2, p3, p4⟩, t1⟩ := act_all o hw hx hv hi (by omega) hB1 (by omega) vv
    have hx6 := c1.2 x6 _ (Or.inr (by rw [k4]; omega)) hW
    have k4' : ρ1 x6 = 51 := by rw [hx6.2, k4]
    have c11 := c1.1
    rw [f_L_law_320, if_pos (by rw [xw_nat (by omega), show xw 36 = 36 by decide]; omega), if_neg (by decide), ev', Option.bind_some, if_neg (by decide), e0, Option.bind_some, ← hvv, r1, Option.bind_some]
    dsimp only
    rcases r2 with ⟨rd, rs, rH⟩ | ⟨rd, rH⟩
    · subst rd rs rH
      have e1 : f_L_all m1 h1' = some d0 := hd0 m1 h1' (x1.see (by omega))
      obtain ⟨m9, h9, q1, q2, q3⟩ := ih (k + 1) n A1 ρ1 (B + 1800000) m1 h1' s1 H1 (by omega) (by omega) ⟨⟨o1, w1⟩, ⟨x1.le (by omega), v1, i1, hH⟩, k4'⟩ ⟨W, hx6.1, hWl, hj⟩ hl (by omega) (by omega) (by omega)
      refine ⟨m9, h9, ?_, by omega, by omega⟩
      rw [if_neg (by decide), if_pos (by decide), e1, Option.bind_some, if_pos (xlcmp_self d0)]
      unfold f_L_law_386 f_L_law_491
      rw [if_pos (by decide), show (k : Int) + 1 = ((k + 1 : Nat) : Int) by omega]
      exact q1
    · subst rd
      rw [if_neg (by decide), if_neg (by decide)]
      unfold f_L_law_386
      rw [if_neg (by decide), show xw 10 = 10 by decide, xw_nat (by omega)]
      have hs50 : vB s ∧ s.1 0 ≤ 50000 := ⟨hv, by omega⟩
      by_cases cH : H.length = 10
      · have eH : H1 = H.drop 1 ++ [s] := by
          rw [rH]
          unfold aPush
          rw [if_pos cH]
        subst eH
        have ld : (H.drop 1).length = 9 := by rw [List.length_drop]; omega
        have hH1 : ∀ t, t ∈ H.drop 1 ++ [s] → vB t ∧ t.1 0 ≤ 50000 := fun t ht => by
          rcases List.mem_append.mp ht with q | q
          · exact hH t (List.mem_of_mem_drop q)
          · rw [List.mem_singleton.mp q]; exact hs50
        obtain ⟨W', h2', b1, b2, b3, b4, b5⟩ := law_404 (w := w) (x6 := x6) Ln xs (f_L_law_320 Ln xs w n) u x4 (H.length : Int) (k : Int) vv d0 m1 (W0 := W) 9 1 fu W h1' (by omega) (by omega) (by show _ < 5000; omega) hx6.1 hWl (fun i hi => by omega) (fun i hi => rfl)
        have L1 : LL u w x6 A1 ρ1 (B + 1200000) m1 h1' s1 (H.drop 1 ++ [s]) t0 := ⟨⟨o1, w1⟩, ⟨x1, v1, i1, hH1⟩, k4'⟩
        obtain ⟨m2, h3', g1, g2, g3, g4⟩ := law_432 (w := w) (x6 := x6) Ln xs (f_L_law_320 Ln xs w n) u x4 vv d0 (k := k) (by omega) (L1.O b2) b3 b4 (fun i y hy => by
          have hi9 := (List.getElem?_eq_some_iff.mp hy).1
          rw [List.getElem?_drop] at hy
          rw [b5 i (by omega), Nat.add_comm i 1]
          exact hj (1 + i) y hy) hd0 (by omega) (by omega) (by omega) (by omega)
        obtain ⟨m9, h9, q1, q2, q3⟩ := ih (k + 1) n A1 ρ1 (B + 1200000 + 600000) m2 h3' s1 (H.drop 1 ++ [s]) (by omega) (by omega) g2 g3 (by rw [List.length_append, List.length_singleton]; omega) (by omega) (by omega) (by omega)
        rw [show ((1 : Nat) : Int) = 1 from rfl] at b1
        have l3 := b2.2.1
        have l4 := b2.2.2
        have l5 := g4.2.1
        have l6 := g4.2.2
        refine ⟨m9, h9, ?_, by omega, by omega⟩
        rw [if_pos (by omega), b1]
        unfold f_L_law_429
        have e9 : (H.length : Int) + (-1) = ((H.drop 1).length : Int) := by omega
        rw [e9, g1, show (k : Int) + 1 = ((k + 1 : Nat) : Int) by omega]
        exact q1
      · have eH : H1 = H ++ [s] := by
          rw [rH]
          unfold aPush
          rw [if_neg cH]
        subst eH
        have hH1 : ∀ t, t ∈ H ++ [s] → vB t ∧ t.1 0 ≤ 50000 := fun t ht => by
          rcases List.mem_append.mp ht with q | q
          · exact hH t q
          · rw [List.mem_singleton.mp q]; exact hs50
        have L1 : LL u w x6 A1 ρ1 (B + 1200000) m1 h1' s1 (H ++ [s]) t0 := ⟨⟨o1, w1⟩, ⟨x1, v1, i1, hH1⟩, k4'⟩
        obtain ⟨m2, h3', g1, g2, g3, g4⟩ := law_432 (w := w) (x6 := x6) Ln xs (f_L_law_320 Ln xs w n) u x4 vv d0 (k := k) (by omega) L1 hx6.1 hWl hj hd0 (by omega) (by omega) (by omega) (by omega)
        obtain ⟨m9, h9, q1, q2, q3⟩ := ih (k + 1) n A1 ρ1 (B + 1200000 + 600000) m2 h3' s1 (H ++ [s]) (by omega) (by omega) g2 g3 (by rw [List.length_append, List.length_singleton]; omega) (by omega) (by omega) (by omega)
        have l5 := g4.2.1
        have l6 := g4.2.2
        refine ⟨m9, h9, ?_, by omega, by omega⟩
        rw [if_neg (by omega), g1, show (k : Int) + 1 = ((k + 1 : Nat) : Int) by omega]
        exact q1
end

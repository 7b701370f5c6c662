/-! ===== the whole object, class and reference ===== -/
theorem bLine.eqv {m m' M : xM} (h : bLine m M) (he : ∀ k, k ≤ 37 → m' k = m k) : bLine m' M := by
  have e : ∀ k, k ≤ 37 → m' k = m k := he
  refine h.sim ⟨?_, ?_, ⟨?_, ?_⟩, fun _ k h1 h2 i hi => ?_, ⟨?_, ?_⟩, fun i hi => ?_, fun i hi => ?_, fun j h1 h2 => ?_⟩ (fun k h1 h2 => e k h2)
  · unfold bSE
    rw [e (0 + 1) (by omega), e (0 + 1 + 1) (by omega), e (0 + 1 + 2) (by omega), e (0 + 1 + 3) (by omega), e (0 + 1 + 4) (by omega), e (0 + 1 + 5) (by omega), e (0 + 1 + 6) (by omega), e (0 + 1 + 7) (by omega), e (0 + 1 + 8) (by omega), e (0 + 1 + 9) (by omega), e (0 + 1 + 10) (by omega)]
    exact ⟨fun _ _ _ => rfl, fun _ _ => rfl, fun _ _ _ => rfl, fun _ _ _ => rfl, fun _ _ => rfl, fun _ _ => rfl, fun _ _ => rfl, ⟨rfl, fun _ _ => rfl⟩, rfl, fun _ _ => rfl⟩
  · unfold bSE
    rw [e (0 + 12) (by omega), e (0 + 12 + 1) (by omega), e (0 + 12 + 2) (by omega), e (0 + 12 + 3) (by omega), e (0 + 12 + 4) (by omega), e (0 + 12 + 5) (by omega), e (0 + 12 + 6) (by omega), e (0 + 12 + 7) (by omega), e (0 + 12 + 8) (by omega), e (0 + 12 + 9) (by omega), e (0 + 12 + 10) (by omega)]
    exact ⟨fun _ _ _ => rfl, fun _ _ => rfl, fun _ _ _ => rfl, fun _ _ _ => rfl, fun _ _ => rfl, fun _ _ => rfl, fun _ _ => rfl, ⟨rfl, fun _ _ => rfl⟩, rfl, fun _ _ => rfl⟩
  · rw [e _ (by omega)]
  · rw [e _ (by omega)]
  · rw [e _ (by omega)]
  · rw [e _ (by omega)]
  · rw [e _ (by omega)]
  · rw [e _ (by omega)]
  · rw [e _ (by omega)]
  · rw [e _ (by omega)]
theorem bWire.cgN {e : Nat} {m : xM} {N N' : Nat → Int} {lo hi : Int} {f c : Nat} (h : bWire e m N lo hi f c) (hc : c ≤ 60) (hN : ∀ i, i < 3530 → N' i = N i) : bWire e m N' lo hi f c := by
  obtain ⟨⟨v1, v2, v3, v4⟩, we, ws, d⟩ := h
  refine ⟨⟨v1, v2, v3, by rw [hN 20 (by omega), v4]⟩, fun i hi => ?_, ws, d⟩
  obtain ⟨c1, c2, c3, c4, c5⟩ := we i hi
  unfold bWe bWc at *
  rw [hN _ (by omega), hN _ (by omega), hN _ (by omega), hN _ (by omega), hN _ (by omega), hN _ (by omega), hN _ (by omega)]
  refine ⟨c1, c2, c3, c4, fun hx => ?_⟩
  obtain ⟨x1, x2, x3, x4, x5⟩ := c5 hx
  exact ⟨x1, x2, x3, fun hy => ⟨(x4 hy).1, fun j hj hj2 => by rw [hN _ (by omega)]; exact (x4 hy).2 j hj hj2⟩, fun hy => ⟨(x5 hy).1, fun j hj hj2 => by rw [hN _ (by omega)]; exact (x5 hy).2 j hj hj2⟩⟩
theorem bLine.cgN {m M M' : xM} (h : bLine m M) (hN : ∀ i, i < 3530 → M' 1 i = M 1 i) : bLine m M' := by
  obtain ⟨⟨r1, r2, r3, r4, r5, r6⟩, hB, h20, hf, hW⟩ := h
  refine ⟨⟨r1.cg (fun _ _ _ => rfl) (fun i h1 h2 => hN i (by omega)), r2.cg (fun _ _ _ => rfl) (fun i h1 h2 => hN i (by omega)), r3.cg rfl rfl (hN _ (by omega)) (fun i h1 h2 => hN i (by omega)), r4.cg rfl (fun i h1 h2 => hN i (by omega)), r5.cg (fun _ _ _ => rfl) (fun i h1 h2 h3 => hN i (by omega)), r6.cg (fun _ _ _ => rfl) rfl (fun i h1 => hN i (by omega))⟩, hB, by rw [hN 20 (by omega), h20], hf, fun h2 => ?_⟩
  obtain ⟨f, c, hw⟩ := hW h2
  obtain ⟨-, we, ws, d1, d2⟩ := id hw
  have := bUnder (dl := m 33 10) d1 d2 (fun i hi => (we i hi).2.1)
  exact ⟨f, c, hw.cgN (by omega) hN⟩
/-- a line and a row of the reference -/
def bLn (x : xM) (N : Nat → Int) : Prop := bLine x (fun _ => N) ∧ x 0 7 ≤ 99999
theorem bLn.cg {x x' : xM} {N N' : Nat → Int} (h : bLn x N) (he : ∀ k, k ≤ 37 → x' k = x k) (hN : ∀ i, i < 3530 → N' i = N i) : bLn x' N' :=
  ⟨(h.1.eqv he).cgN (M' := fun _ => N') hN, by rw [he 0 (by omega)]; exact h.2⟩
theorem bLn.of {x M : xM} (h : bLine x M) (ht : x 0 7 ≤ 99999) : bLn x (M 1) := ⟨h, ht⟩
abbrev bSlot (nx p i : Nat) : Nat := 110 + 33 * ((nx + 10 - p + i) % 10)
theorem bSlot_in (nx p i : Nat) : 110 ≤ bSlot nx p i ∧ bSlot nx p i + 33 ≤ 440 := by
  show 110 ≤ 110 + 33 * ((nx + 10 - p + i) % 10) ∧ 110 + 33 * ((nx + 10 - p + i) % 10) + 33 ≤ 440
  omega
/-- what can be undone -/
def bU (m M : xM) : Prop := ∃ nx p : Nat, (m 0 8 = nx ∧ nx < 10) ∧ (m 0 7 = p ∧ p ≤ 10) ∧ M 0 5 = p ∧ ∀ i, i < p → bLn (xvw (bV (bSlot nx p i)) m) (fun j => M 5 (3530 * i + j))
/-- the snapshot -/
def bSn (m M : xM) : Prop := (m 0 5 = 0 ∧ M 0 7 = 0) ∨ (m 0 5 = 1 ∧ M 0 7 = 1 ∧ bLn (xvw (bV 77) m) (M 4))
/-- the buffer -/
def bBuf (m M : xM) : Prop := ∃ n : Nat, n ≤ 600 ∧ m 0 10 = n ∧ M 0 13 = n ∧ ∀ i, i < n → m 441 i = M 8 i ∧ 0 ≤ M 8 i ∧ M 8 i ≤ 255
/-- the text of format: no other call changes it -/
abbrev bGt : Type := Int × (Nat → Int)
def bG (G : bGt) (M : xM) : Prop := M 0 11 = G.1 ∧ M 7 = G.2
theorem bG.cg {G : bGt} {M M' : xM} (h : bG G M) (hM : M' 0 11 = M 0 11) (hM7 : M' 7 = M 7) : bG G M' := ⟨by rw [hM, h.1], by rw [hM7, h.2]⟩
def bX (G : bGt) (m M : xM) : Prop := bLn (xvw (bV 11) m) (M 1) ∧ bU m M ∧ bSn m M ∧ bBuf m M ∧ m 0 11 = M 0 20 ∧ bG G M
/-- two views of the object alike -/
theorem bV_eq {b : Nat} {m m' : xM} (hb : b < 900) (h1 : ∀ k, b ≤ k → k < b + 33 → m' k = m k) (h2 : ∀ k, 1 ≤ k → k ≤ 5 → m' k = m k) : ∀ k, k ≤ 37 → xvw (bV b) m' k = xvw (bV b) m k := fun k hk => by
  show m' (xT (bV b) k) = m (xT (bV b) k)
  by_cases h : k < 33
  · rw [bV_lo b hb h]; exact h1 _ (by omega) (by omega)
  · rw [bV_hi b ⟨by omega, hk⟩]; exact h2 _ (by omega) (by omega)
theorem bU.cg {m m' M M' : xM} (h : bU m M) (h0 : m' 0 8 = m 0 8 ∧ m' 0 7 = m 0 7) (h1 : ∀ k, 110 ≤ k → k < 440 → m' k = m k) (h2 : ∀ k, 1 ≤ k → k ≤ 5 → m' k = m k) (hM : M' 0 5 = M 0 5) (hM5 : M' 5 = M 5) : bU m' M' := by
  obtain ⟨nx, p, a1, a2, a3, a4⟩ := h
  refine ⟨nx, p, by rw [h0.1]; exact a1, by rw [h0.2]; exact a2, by rw [hM]; exact a3, fun i hi => by
    have hs := bSlot_in nx p i
    exact (a4 i hi).cg (bV_eq (by omega) (fun k k1 k2 => h1 k (by omega) (by omega)) h2) (fun j hj => by rw [hM5])⟩
theorem bSn.cg {m m' M M' : xM} (h : bSn m M) (h0 : m' 0 5 = m 0 5) (h1 : ∀ k, 77 ≤ k → k < 110 → m' k = m k) (h2 : ∀ k, 1 ≤ k → k ≤ 5 → m' k = m k) (hM : M' 0 7 = M 0 7) (hM4 : M' 4 = M 4) : bSn m' M' := by
  rcases h with ⟨a1, a2⟩ | ⟨a1, a2, a3⟩
  · exact Or.inl ⟨by rw [h0, a1], by rw [hM, a2]⟩
  · exact Or.inr ⟨by rw [h0, a1], by rw [hM, a2], a3.cg (bV_eq (by omega) h1 h2) (fun j hj => by rw [hM4])⟩
theorem bBuf.cg {m m' M M' : xM} (h : bBuf m M) (h0 : m' 0 10 = m 0 10) (h1 : m' 441 = m 441) (hM : M' 0 13 = M 0 13) (hM8 : M' 8 = M 8) : bBuf m' M' := by
  obtain ⟨n, a1, a2, a3, a4⟩ := h
  exact ⟨n, a1, by rw [h0, a2], by rw [hM, a3], fun i hi => by rw [h1, hM8]; exact a4 i hi⟩
/-- the line changes, all else stays -/
theorem bX.line {G : bGt} {m m' M M' : xM} (h : bX G m M) (hl : bLn (xvw (bV 11) m') (M' 1)) (hm : ∀ k, (k < 11 ∨ 77 ≤ k) → m' k = m k) (hM : ∀ k, k ≠ 0 → k ≠ 1 → k ≠ 3 → k ≠ 6 → M' k = M k) (hM0 : ∀ j, j ≠ 6 → j ≠ 9 → M' 0 j = M 0 j) : bX G m' M' := by
  obtain ⟨a1, a2, a3, a4, a5, a6⟩ := h
  have e0 : m' 0 = m 0 := hm 0 (by omega)
  exact ⟨hl, a2.cg ⟨by rw [e0], by rw [e0]⟩ (fun k h1 h2 => hm k (by omega)) (fun k h1 h2 => hm k (by omega)) (hM0 5 (by omega) (by omega)) (hM 5 (by omega) (by omega) (by omega) (by omega)), a3.cg (by rw [e0]) (fun k h1 h2 => hm k (by omega)) (fun k h1 h2 => hm k (by omega)) (hM0 7 (by omega) (by omega)) (hM 4 (by omega) (by omega) (by omega) (by omega)), a4.cg (by rw [e0]) (hm 441 (by omega)) (hM0 13 (by omega) (by omega)) (hM 8 (by omega) (by omega) (by omega) (by omega)), by rw [e0, hM0 20 (by omega) (by omega), a5], a6.cg (hM0 11 (by omega) (by omega)) (hM 7 (by omega) (by omega) (by omega) (by omega))⟩
theorem bX.thr {G : bGt} {m M : xM} (t : Int) (h : bX G m M) : bX G m (xu M 0 6 t) := by
  refine h.line (m' := m) ?_ (fun _ _ => rfl) (fun k h0 _ _ _ => xu_K h0) (fun j h6 _ => xu_d h6)
  rw [xu_K (by omega)]; exact h.1
/-- what is at hand when a line's view was changed and put back -/
theorem bV_put {m q : xM} (b : Nat) (hb : b < 900) (h5 : 5 < b) (hq : ∀ k, 33 ≤ k → k ≤ 37 → q k = xvw (bV b) m k) (hT : (bV b).take 38 = bV b ∧ ∀ i, i < 38 → xpos (bV b) 0 (if i < 33 then b + i else i - 32) = some i) : (∀ k, k ≤ 37 → xvw (bV b) (xmg (bV b) 38 m q) k = q k) ∧ ∀ k, (k < b ∨ b + 33 ≤ k) → xmg (bV b) 38 m q k = m k := by
  have hg : ∀ i, i < 38 → xmg (bV b) 38 m q (if i < 33 then b + i else i - 32) = q i := fun i hi => by
    unfold xmg
    rw [hT.1, hT.2 i hi]
  refine ⟨fun k hk => ?_, fun k hk => ?_⟩
  · show xmg (bV b) 38 m q (xT (bV b) k) = _
    have := hg k (by omega)
    by_cases h : k < 33
    · rw [if_pos h] at this; rw [bV_lo b hb h, this]
    · rw [if_neg h] at this; rw [bV_hi b ⟨by omega, hk⟩, this]
  · by_cases h : 1 ≤ k ∧ k ≤ 5
    · have := hg (k + 32) (by omega)
      rw [if_neg (by omega), show k + 32 - 32 = k by omega] at this
      rw [this, hq _ (by omega) (by omega)]
      show m (xT (bV b) (k + 32)) = _
      rw [bV_hi b ⟨by omega, by omega⟩, show k + 32 - 32 = k by omega]
    · refine xmg_no _ _ ?_
      rw [hT.1]
      refine xpos_not (fun hz => ?_)
      unfold bV at hz
      rw [List.mem_append, List.mem_map] at hz
      rcases hz with ⟨i, hi, hi2⟩ | hz
      · rw [List.mem_range] at hi; omega
      · simp only [List.mem_cons, List.not_mem_nil, or_false] at hz; omega
theorem bT11 : (bV 11).take 38 = bV 11 ∧ ∀ i, i < 38 → xpos (bV 11) 0 (if i < 33 then 11 + i else i - 32) = some i := by decide
theorem bT44 : (bV 44).take 38 = bV 44 ∧ ∀ i, i < 38 → xpos (bV 44) 0 (if i < 33 then 44 + i else i - 32) = some i := by decide
theorem bV_25 : xT_25 = bV 11 := by decide
theorem bV_4 : xT_4 = bV 44 := by decide
/-- the class remembers -/
def bRem (m m' : xM) : Prop := ∃ nx : Nat, m 0 8 = nx ∧ nx < 10 ∧ m' 0 8 = ((if nx + 1 < 10 then nx + 1 else 0 : Nat) : Int) ∧ m' 0 7 = (if 10 < m 0 7 + 1 then 10 else m 0 7 + 1) ∧ (∀ j, j ≠ 7 → j ≠ 8 → m' 0 j = m 0 j) ∧ (∀ k, k ≠ 0 → (k < 110 + 33 * nx ∨ 143 + 33 * nx ≤ k) → m' k = m k) ∧ ∀ N, bLn (xvw (bV 11) m) N → bLn (xvw (bV (110 + 33 * nx)) m') N
theorem X_rem_one (T : List Nat) (nx : Nat) (m : xM) (hnx : nx < 10) (h8 : m 0 8 = nx) (h7 : 0 ≤ m 0 7 ∧ m 0 7 ≤ 10) (hT : bTok T (110 + 33 * nx) 11 = true) {N0 : Nat → Int} (hl : bLn (xvw (bV 11) m) N0) : ∃ m' : xM, ((f_L_cp (xvw T m)).bind fun q0 => if xw (((xmg T 66 m q0) 0 8) + 1) < xw 10 then f_X_remember_38 (((xmg T 66 m q0) 0 8) + 1) (xmg T 66 m q0) else f_X_remember_38 0 (xmg T 66 m q0)) = some m' ∧ bRem m m' := by
  obtain ⟨q, q1, q2, q3⟩ := X_cp T (110 + 33 * nx) 11 m (fun _ => N0) hT ⟨by omega, by omega, by omega, by omega⟩ (by omega) hl.1
  have e0 : xmg T 66 m q 0 = m 0 := q3 0 (by omega)
  obtain ⟨m1, hm1⟩ : ∃ Z, Z = xmg T 66 m q := ⟨_, rfl⟩
  rw [← hm1] at e0 q2 q3
  obtain ⟨w, hw⟩ : ∃ w : Int, w = ((if nx + 1 < 10 then nx + 1 else 0 : Nat) : Int) := ⟨_, rfl⟩
  have h7' : ∀ x : xM, x 0 7 = m 0 7 → (if xw 10 < xw (x 0 7 + 1) then 10 else x 0 7 + 1) = (if 10 < m 0 7 + 1 then 10 else m 0 7 + 1) := fun x hx => by rw [hx, b_xw (by omega), b_xw (by omega)]
  refine ⟨xu (xu m1 0 8 w) 0 7 (if 10 < m 0 7 + 1 then 10 else m 0 7 + 1), ?_, nx, h8, hnx, ?_, ?_, fun j j7 j8 => ?_, fun k k0 k1 => ?_, fun N hN => ?_⟩
  · rw [q1, b_bs, ← hm1, e0, h8]
    unfold f_X_remember_38
    have x7 : ∀ v : Int, xu m1 0 8 v 0 7 = m 0 7 := fun v => by rw [xu_d (by omega), e0]
    by_cases hc : nx + 1 < 10
    · rw [if_pos (show xw ((nx : Int) + 1) < xw 10 by rw [b_xw (by omega), b_xw (by omega)]; omega), hw, if_pos hc, e0, b_xw (by omega), b_xw (by omega)]
      congr 1
    · rw [if_neg (show ¬ xw ((nx : Int) + 1) < xw 10 by rw [b_xw (by omega), b_xw (by omega)]; omega), hw, if_neg hc, e0, b_xw (by omega), b_xw (by omega)]
      congr 1
  · rw [xu_d (by omega), xu_s rfl, hw]
  · rw [xu_s rfl]
  · rw [xu_d j7, xu_d j8, e0]
  · rw [xu_K k0, xu_K k0, q3 k (by omega)]
  · -- the copy holds what the line held
    obtain ⟨q', q1', q2', q3'⟩ := X_cp T (110 + 33 * nx) 11 m (fun _ => N) hT ⟨by omega, by omega, by omega, by omega⟩ (by omega) hN.1
    rw [q1] at q1'
    cases q1'
    rw [← hm1] at q2'
    have hv := bV_eq (b := 110 + 33 * nx) (m := m1) (m' := xu (xu m1 0 8 w) 0 7 (if 10 < m 0 7 + 1 then 10 else m 0 7 + 1)) (by omega) (fun k h1 h2 => by rw [xu_K (by omega), xu_K (by omega)]) (fun k h1 h2 => by rw [xu_K (by omega), xu_K (by omega)])
    refine ⟨q2'.eqv hv, ?_⟩
    have t0 : N 0 = xvw (bV (110 + 33 * nx)) m1 0 7 := q2'.1.2.2.2.2.2.1
    have t1 : N 0 = xvw (bV 11) m 0 7 := hN.1.1.2.2.2.2.2.1
    rw [hv 0 (by omega), ← t0, t1]
    exact hN.2
theorem X_rem_sp {G : bGt} (m M : xM) (h : bX G m M) : ∃ m' : xM, f_X_remember m = some m' ∧ bRem m m' := by
  obtain ⟨hl, ⟨nx, p, ⟨a1, a1'⟩, ⟨a2, a2'⟩, -⟩, -⟩ := h
  have h7 : 0 ≤ m 0 7 ∧ m 0 7 ≤ 10 := by omega
  unfold f_X_remember
  rw [a1]
  rcases (by omega : nx = 0 ∨ nx = 1 ∨ nx = 2 ∨ nx = 3 ∨ nx = 4 ∨ nx = 5 ∨ nx = 6 ∨ nx = 7 ∨ nx = 8 ∨ nx = 9) with z | z | z | z | z | z | z | z | z | z <;> subst z
  · rw [if_pos (show xw ((0 : Nat) : Int) = 0 by decide)]
    exact X_rem_one xT_6 0 m (by omega) a1 h7 (by decide) hl
  · rw [if_neg (show ¬ xw ((1 : Nat) : Int) = 0 by decide), if_pos (show xw ((1 : Nat) : Int) = 1 by decide)]
    exact X_rem_one xT_8 1 m (by omega) a1 h7 (by decide) hl
  · rw [if_neg (show ¬ xw ((2 : Nat) : Int) = 0 by decide), if_neg (show ¬ xw ((2 : Nat) : Int) = 1 by decide), if_pos (show xw ((2 : Nat) : Int) = 2 by decide)]
    exact X_rem_one xT_10 2 m (by omega) a1 h7 (by decide) hl
  · rw [if_neg (show ¬ xw ((3 : Nat) : Int) = 0 by decide), if_neg (show ¬ xw ((3 : Nat) : Int) = 1 by decide), if_neg (show ¬ xw ((3 : Nat) : Int) = 2 by decide), if_pos (show xw ((3 : Nat) : Int) = 3 by decide)]
    exact X_rem_one xT_12 3 m (by omega) a1 h7 (by decide) hl
  · rw [if_neg (show ¬ xw ((4 : Nat) : Int) = 0 by decide), if_neg (show ¬ xw ((4 : Nat) : Int) = 1 by decide), if_neg (show ¬ xw ((4 : Nat) : Int) = 2 by decide), if_neg (show ¬ xw ((4 : Nat) : Int) = 3 by decide), if_pos (show xw ((4 : Nat) : Int) = 4 by decide)]
    exact X_rem_one xT_14 4 m (by omega) a1 h7 (by decide) hl
  · rw [if_neg (show ¬ xw ((5 : Nat) : Int) = 0 by decide), if_neg (show ¬ xw ((5 : Nat) : Int) = 1 by decide), if_neg (show ¬ xw ((5 : Nat) : Int) = 2 by decide), if_neg (show ¬ xw ((5 : Nat) : Int) = 3 by decide), if_neg (show ¬ xw ((5 : Nat) : Int) = 4 by decide), if_pos (show xw ((5 : Nat) : Int) = 5 by decide)]
    exact X_rem_one xT_16 5 m (by omega) a1 h7 (by decide) hl
  · rw [if_neg (show ¬ xw ((6 : Nat) : Int) = 0 by decide), if_neg (show ¬ xw ((6 : Nat) : Int) = 1 by decide), if_neg (show ¬ xw ((6 : Nat) : Int) = 2 by decide), if_neg (show ¬ xw ((6 : Nat) : Int) = 3 by decide), if_neg (show ¬ xw ((6 : Nat) : Int) = 4 by decide), if_neg (show ¬ xw ((6 : Nat) : Int) = 5 by decide), if_pos (show xw ((6 : Nat) : Int) = 6 by decide)]
    exact X_rem_one xT_18 6 m (by omega) a1 h7 (by decide) hl
  · rw [if_neg (show ¬ xw ((7 : Nat) : Int) = 0 by decide), if_neg (show ¬ xw ((7 : Nat) : Int) = 1 by decide), if_neg (show ¬ xw ((7 : Nat) : Int) = 2 by decide), if_neg (show ¬ xw ((7 : Nat) : Int) = 3 by decide), if_neg (show ¬ xw ((7 : Nat) : Int) = 4 by decide), if_neg (show ¬ xw ((7 : Nat) : Int) = 5 by decide), if_neg (show ¬ xw ((7 : Nat) : Int) = 6 by decide), if_pos (show xw ((7 : Nat) : Int) = 7 by decide)]
    exact X_rem_one xT_20 7 m (by omega) a1 h7 (by decide) hl
  · rw [if_neg (show ¬ xw ((8 : Nat) : Int) = 0 by decide), if_neg (show ¬ xw ((8 : Nat) : Int) = 1 by decide), if_neg (show ¬ xw ((8 : Nat) : Int) = 2 by decide), if_neg (show ¬ xw ((8 : Nat) : Int) = 3 by decide), if_neg (show ¬ xw ((8 : Nat) : Int) = 4 by decide), if_neg (show ¬ xw ((8 : Nat) : Int) = 5 by decide), if_neg (show ¬ xw ((8 : Nat) : Int) = 6 by decide), if_neg (show ¬ xw ((8 : Nat) : Int) = 7 by decide), if_pos (show xw ((8 : Nat) : Int) = 8 by decide)]
    exact X_rem_one xT_22 8 m (by omega) a1 h7 (by decide) hl
  · rw [if_neg (show ¬ xw ((9 : Nat) : Int) = 0 by decide), if_neg (show ¬ xw ((9 : Nat) : Int) = 1 by decide), if_neg (show ¬ xw ((9 : Nat) : Int) = 2 by decide), if_neg (show ¬ xw ((9 : Nat) : Int) = 3 by decide), if_neg (show ¬ xw ((9 : Nat) : Int) = 4 by decide), if_neg (show ¬ xw ((9 : Nat) : Int) = 5 by decide), if_neg (show ¬ xw ((9 : Nat) : Int) = 6 by decide), if_neg (show ¬ xw ((9 : Nat) : Int) = 7 by decide), if_neg (show ¬ xw ((9 : Nat) : Int) = 8 by decide), if_pos (show xw ((9 : Nat) : Int) = 9 by decide)]
    exact X_rem_one xT_24 9 m (by omega) a1 h7 (by decide) hl

/-! ===== the line, both ends in it: own end first ===== -/
theorem bREv.tr {kl kl' : Nat} {m m' : xM} {N : Nat → Int} (h : bREv kl m N) (h1 : m' kl' = m kl) (h2 : m' (kl' + 1) = m (kl + 1)) : bREv kl' m' N := by
  obtain ⟨b, c, a1, a2, a3, a4, a5, a6, a7⟩ := h
  exact ⟨b, c, by rw [h1, a1], by rw [h1, a2], a3, a4, a5, a6, fun i w hi hw => by rw [h2, a7 i w hi hw]⟩
/-- an end seen under other numbers -/
theorem bRE.tr {k k' : Nat} {m m' : xM} {o : Nat} {N : Nat → Int} (h : bRE k m o N) (hm : ∀ i, i ≤ 10 → m' (k' + i) = m (k + i)) : bRE k' m' o N := by
  have h0 : m' k' = m k := hm 0 (by omega)
  obtain ⟨⟨F, C, S, a1, a2, a3, a4, a5, a6, a7, a8, a9⟩, ⟨c1, c2, c3, c4, c5⟩, ⟨d1, d2, d3, d4, d5⟩, ⟨q, q1, q2, q3, q4⟩, ⟨r, r1, r2, r3, r4⟩, s1, s2, s3, s4, s5, s6⟩ := h
  refine ⟨⟨F, C, S, ?_, ?_, ?_, a4, a5, a6, a7, a8, fun p hp => ?_⟩, ⟨c1, c2, ?_, c4, fun j hj => ?_⟩, ⟨d1, d2, ?_, d4, fun j hj => ?_⟩, ⟨q, q1, ?_, q3, fun i hi => ?_⟩, ⟨r, r1, ?_, r3, fun i hi hi2 => ?_⟩, ?_, ?_, ?_, ?_, ?_, ?_⟩
  · rw [hm 3 (by omega), a1]
  · rw [hm 3 (by omega), a2]
  · rw [hm 3 (by omega), a3]
  · have h9 := a9 p hp
    unfold bFr at h9 ⊢
    rw [show k' + 3 + 1 = k' + 4 from rfl, show k' + 3 + 2 = k' + 5 from rfl, show k' + 3 + 3 = k' + 6 from rfl, hm 4 (by omega), hm 5 (by omega), hm 6 (by omega)]
    exact h9
  · rw [hm 7 (by omega), c3]
  · rw [hm 8 (by omega), c5 j hj]
  · rw [hm 9 (by omega), d3]
  · rw [hm 10 (by omega), d5 j hj]
  · rw [h0, q2]
  · rw [hm 1 (by omega), q4 i hi]
  · rw [h0, r2]
  · rw [hm 2 (by omega), r4 i hi hi2]
  · rw [h0]; exact s1
  · rw [h0]; exact s2
  · rw [h0]; exact s3
  · rw [h0]; exact s4
  · rw [h0]; exact s5
  · rw [h0]; exact s6
def bRT (m : xM) (N : Nat → Int) : Prop := ∀ w, w < 11 → N (45 + w) = m 30 w
/-- what is set -/
def bRP (m : xM) (N : Nat → Int) : Prop :=
  (N 11 = m 33 4 ∧ 1 ≤ m 33 4 ∧ m 33 4 ≤ 5) ∧ (N 12 = m 33 7 ∧ 0 ≤ m 33 7 ∧ m 33 7 ≤ 9) ∧ (N 13 = m 33 8 ∧ 0 ≤ m 33 8 ∧ m 33 8 ≤ 50) ∧ (N 14 = m 33 9 ∧ 1 ≤ m 33 9 ∧ m 33 9 ≤ 7) ∧ (N 15 = m 33 10 ∧ 1 ≤ m 33 10 ∧ m 33 10 ≤ 9) ∧ (N 16 = m 33 11 ∧ 2 * m 33 10 < m 33 11 ∧ m 33 11 ≤ 60) ∧ (N 17 = m 33 12 ∧ 1 ≤ m 33 12 ∧ m 33 12 ≤ 5) ∧ (N 18 = m 33 13 ∧ 1 ≤ m 33 13 ∧ m 33 13 ≤ 50) ∧ (N 19 = m 33 5 ∧ 1 ≤ m 33 5 ∧ m 33 5 ≤ 10) ∧
  (∀ s, s < 4 → N (21 + s) = m 36 s ∧ 1 ≤ m 36 s ∧ m 36 s ≤ 20) ∧ (∀ i : Nat, (i : Int) < m 33 5 → N (25 + i) = m 37 i ∧ 0 ≤ m 37 i ∧ m 37 i ≤ 9) ∧ ∀ i : Nat, (i : Int) < m 33 4 → N (35 + i) = m 34 i ∧ N (40 + i) = m 35 i ∧ 4 ≤ m 34 i ∧ m 34 i ≤ 80 ∧ 1 ≤ m 35 i ∧ m 35 i ≤ 9
def bRSc (m : xM) (N : Nat → Int) : Prop :=
  N 0 = m 0 7 ∧ N 1 = m 0 8 ∧ N 2 = m 0 9 ∧ N 3 = m 0 10 ∧ N 8 = m 0 15 ∧ N 9 = m 0 16 ∧ (m 0 8 = 1 → (N 4 = m 0 11 ∧ N 5 = m 0 12 ∧ N 6 = m 0 13) ∧ 0 ≤ m 0 11 ∧ m 0 11 ≤ 3) ∧ (m 0 8 = 3 → N 7 = m 0 14) ∧ (0 ≤ m 0 8 ∧ m 0 8 ≤ 3) ∧ (0 ≤ m 0 9 ∧ m 0 9 ≤ 9) ∧ 0 ≤ m 0 10 ∧ m 0 10 < m 33 4
/-- all but the wire -/
def bRL (e : Nat) (m : xM) (N : Nat → Int) : Prop := bRE 1 m (56 + 717 * e) N ∧ bRE 12 m (56 + 717 * (1 - e)) N ∧ bREv 28 m N ∧ bRT m N ∧ bRP m N ∧ bRSc m N
theorem bRT.cg {m m' : xM} {N N' : Nat → Int} (h : bRT m N) (h1 : m' 30 = m 30) (hN : ∀ i, 45 ≤ i → i < 56 → N' i = N i) : bRT m' N' := fun w hw => by rw [hN _ (by omega) (by omega), h1, h w hw]
/-- one of the totals grows -/
theorem bRT.up {m m' : xM} {N N' : Nat → Int} {j : Nat} {x : Int} (h : bRT m N) (hj : m' 30 j = x) (h1 : ∀ w, w ≠ j → m' 30 w = m 30 w) (hNj : N' (45 + j) = x) (hN : ∀ i, i ≠ 45 + j → 45 ≤ i → i < 56 → N' i = N i) : bRT m' N' := fun w hw => by
  by_cases e : w = j
  · rw [e, hNj, hj]
  · rw [hN _ (by omega) (by omega) (by omega), h1 w e, h w hw]
theorem bRP.cg {m m' : xM} {N N' : Nat → Int} (h : bRP m N) (h1 : ∀ k, 33 ≤ k → k ≤ 37 → m' k = m k) (hN : ∀ i, 11 ≤ i → i < 45 → i ≠ 20 → N' i = N i) : bRP m' N' := by
  obtain ⟨⟨a1, a2⟩, ⟨b1, b2⟩, ⟨c1, c2⟩, ⟨d1, d2⟩, ⟨e1, e2⟩, ⟨f1, f2⟩, ⟨g1, g2⟩, ⟨i1, i2⟩, ⟨j1, j2⟩, k1, l1, n1⟩ := h
  unfold bRP
  rw [h1 33 (by omega) (by omega), h1 34 (by omega) (by omega), h1 35 (by omega) (by omega), h1 36 (by omega) (by omega), h1 37 (by omega) (by omega)]
  rw [hN 11 (by omega) (by omega) (by omega), hN 12 (by omega) (by omega) (by omega), hN 13 (by omega) (by omega) (by omega), hN 14 (by omega) (by omega) (by omega), hN 15 (by omega) (by omega) (by omega), hN 16 (by omega) (by omega) (by omega), hN 17 (by omega) (by omega) (by omega), hN 18 (by omega) (by omega) (by omega), hN 19 (by omega) (by omega) (by omega)]
  exact ⟨⟨a1, a2⟩, ⟨b1, b2⟩, ⟨c1, c2⟩, ⟨d1, d2⟩, ⟨e1, e2⟩, ⟨f1, f2⟩, ⟨g1, g2⟩, ⟨i1, i2⟩, ⟨j1, j2⟩, fun s hs => by rw [hN _ (by omega) (by omega) (by omega)]; exact k1 s hs, fun i hi => by rw [hN _ (by omega) (by omega) (by omega)]; exact l1 i hi, fun i hi => by rw [hN _ (by omega) (by omega) (by omega), hN _ (by omega) (by omega) (by omega)]; exact n1 i hi⟩
theorem bRSc.cg {m m' : xM} {N N' : Nat → Int} (h : bRSc m N) (h1 : ∀ j, 7 ≤ j → j ≤ 16 → m' 0 j = m 0 j) (h2 : m' 33 4 = m 33 4) (hN : ∀ i, i < 10 → N' i = N i) : bRSc m' N' := by
  unfold bRSc at h ⊢
  rw [h2, h1 7 (by omega) (by omega), h1 8 (by omega) (by omega), h1 9 (by omega) (by omega), h1 10 (by omega) (by omega), h1 11 (by omega) (by omega), h1 12 (by omega) (by omega), h1 13 (by omega) (by omega), h1 14 (by omega) (by omega), h1 15 (by omega) (by omega), h1 16 (by omega) (by omega),
    hN 0 (by omega), hN 1 (by omega), hN 2 (by omega), hN 3 (by omega), hN 4 (by omega), hN 5 (by omega), hN 6 (by omega), hN 7 (by omega), hN 8 (by omega), hN 9 (by omega)]
  exact h
/-- a mask of places: what a part of the line gave back, put into the line -/
theorem xmg_no {T : List Nat} {n i : Nat} (m q : xM) (h : xpos (T.take n) 0 i = none) : xmg T n m q i = m i := by
  unfold xmg
  rw [h]
theorem xpos_not : ∀ {T : List Nat} {b i : Nat}, i ∉ T → xpos T b i = none
  | [], _, _, _ => rfl
  | t :: ts, b, i, h => by
    unfold xpos
    rw [if_neg (fun e => h (by rw [e]; exact List.mem_cons_self))]
    exact xpos_not (fun e => h (List.mem_cons_of_mem _ e))
/-- an event told, class and reference -/
theorem L_note (kd en : Int) (m M : xM) (h : bREv 28 m (M 1)) (h0 : M 1 0 = m 0 7) (h1 : M 1 1 = m 0 8) (h3 : M 1 3 = m 0 10) (hp : 0 ≤ m 0 8 ∧ m 0 8 ≤ 3) : ∃ m' M' : xM, f_L_note kd en m = some m' ∧ f_m_tellEvent kd en M = some M' ∧ bREv 28 m' (M' 1) ∧ (∀ k, k ≠ 28 → k ≠ 29 → m' k = m k) ∧ (∀ i, i ≠ 10 → (i < 1490 ∨ 1730 ≤ i) → M' 1 i = M 1 i) ∧ ∀ k, k ≠ 1 → M' k = M k := by
  obtain ⟨q, M', e1, e2, e3, e4, e5, e6⟩ := REv_add kd en (xvw [28, 29] m) M (h.tr rfl rfl) (by omega)
  refine ⟨xmg [28, 29] 2 m q, M', ?_, e2, e3.tr rfl rfl, fun k h1 h2 => xmg_no _ _ (xpos_not (by simp [h1, h2])), e5, e6⟩
  unfold f_L_note f_L_note_26
  unfold bEvR at e1
  rw [b_xw (by omega), b_xw (by omega), ← h1]
  by_cases hc : M 1 1 = 2
  · rw [if_pos hc] at e1 ⊢
    rw [← h3, ← h0, e1]
    rfl
  · rw [if_neg hc] at e1 ⊢
    rw [← h0, e1]
    rfl
/-- an end loses all -/
theorem RE_lose (m : xM) (o : Nat) (N N' : Nat → Int) (h : bRE 0 m o N) (h0 : N' o = 0) (h1 : N' (o + 1) = 0) (hN : ∀ i, o ≤ i → i < o + 717 → i ≠ o → i ≠ o + 1 → N' i = N i) : ∃ m' : xM, f_E_lose m = some m' ∧ bRE 0 m' o N' ∧ m' 0 5 = 0 ∧ (∀ j, j ≠ 5 → m' 0 j = m 0 j) ∧ m' 3 3 = m 3 3 + m 3 4 ∧ m' 3 4 = 0 ∧ m' 3 5 = 0 ∧ (∀ k, k ≠ 0 → k ≠ 3 → m' k = m k) := by
  obtain ⟨⟨F, C, S, a1, a2, a3, a4, a5, a6, a7, a8, a9⟩, b1, b2, b3, b4, b5⟩ := h
  unfold f_E_lose f_F_lose
  rw [b_bs]
  refine ⟨_, rfl, ⟨⟨F + C, 0, 0, ?_, rfl, rfl, Nat.le_refl _, by omega, by omega, ?_, ?_, fun p hp => by omega⟩, ?_, ?_, ?_, ?_, ?_⟩, rfl, fun j hj => ?_, rfl, rfl, rfl, fun k h3 h4 => ?_⟩
  · show m 3 3 + m 3 4 = _
    rw [a1, a2]; omega
  · rw [h1]; rfl
  · rw [hN _ (by omega) (by omega) (by omega) (by omega), a8]; omega
  · exact b1.cg rfl rfl (hN _ (by omega) (by omega) (by omega) (by omega)) (fun j hj => hN _ (by omega) (by omega) (by omega) (by omega))
  · exact b2.cg rfl rfl (hN _ (by omega) (by omega) (by omega) (by omega)) (fun j hj => hN _ (by omega) (by omega) (by omega) (by omega))
  · exact ⟨0, by omega, rfl, h0, fun i hi => by omega⟩
  · exact b4.cg rfl rfl (hN _ (by omega) (by omega) (by omega) (by omega)) (fun i h1 h2 => hN _ (by omega) (by omega) (by omega) (by omega))
  · exact b5.cg rfl rfl rfl rfl (fun i hi => hN _ (by omega) (by omega) (by omega) (by omega))
  · show xu m 0 5 0 0 j = _
    rw [xu_d hj]
  · by_cases h5 : k ∈ [3, 4, 5, 6]
    · simp only [List.mem_cons, List.not_mem_nil, or_false] at h5
      rcases h5 with rfl | rfl | rfl | rfl
      · exact absurd rfl h4
      · rfl
      · rfl
      · rfl
    · rw [xmg_no _ _ (xpos_not h5), xu_K h3]

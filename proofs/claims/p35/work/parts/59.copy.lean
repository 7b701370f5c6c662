/-! ===== a line copied ===== -/
theorem bDir.cg {s F C S X : Int} {st : Int → Int} {time dl : Int} {c : Nat} {T Sn Nn Tr T' Sn' Nn' Tr' : Nat → Int} (h : bDir s F C S X st time dl c T Sn Nn Tr) (hT : ∀ i, i < c → T' i = T i ∧ Sn' i = Sn i ∧ Nn' i = Nn i ∧ Tr' i = Tr i) : bDir s F C S X st time dl c T' Sn' Nn' Tr' := by
  obtain ⟨a, b1, b2, b3, b4, b5, b6, b7, b8⟩ := h
  have t : ∀ i, i < c → T' i = T i := fun i hi => (hT i hi).1
  have u : ∀ i, i < c → Sn' i = Sn i := fun i hi => (hT i hi).2.1
  have n : ∀ i, i < c → Nn' i = Nn i := fun i hi => (hT i hi).2.2.1
  have r : ∀ i, i < c → Tr' i = Tr i := fun i hi => (hT i hi).2.2.2
  have fr : ∀ i, i < c → (bFre F S st T' Nn' i ↔ bFre F S st T Nn i) := fun i hi => by unfold bFre; rw [t i hi, n i hi]
  refine ⟨a, fun i hi q1 q2 => ?_, fun i j hij hj q1 q2 q3 q4 q5 => ?_, fun i hi q1 q2 q3 => ?_, fun i j hi hj q1 q2 q3 q4 q5 q6 => ?_, fun i hi q1 q2 => ?_, fun i j hij hj q1 q2 q3 q4 => ?_, fun k q1 q2 => ?_, b8⟩
  · rw [n i hi]; exact b1 i hi (by rw [← u i hi]; exact q1) (by rw [← r i hi]; exact q2)
  · have hi : i < c := by omega
    have := b2 i j hij hj (by rw [← u i hi]; exact q1) (by rw [← r i hi]; exact q2) (by rw [← u j hj]; exact q3) (by rw [← r j hj]; exact q4) (by rw [← n i hi, ← n j hj]; exact q5)
    exact ⟨fun z => this.1 ((fr i hi).mp z), (fr j hj).mpr this.2⟩
  · rw [n i hi, t i hi]; exact b3 i hi (by rw [← u i hi]; exact q1) (by rw [← r i hi]; exact q2) (fun z => q3 ((fr i hi).mpr z))
  · exact b4 i j hi hj (by rw [← u i hi]; exact q1) (by rw [← r i hi]; exact q2) (by rw [← u j hj]; exact q3) (by rw [← r j hj]; exact q4) ((fr i hi).mp q5) (fun z => q6 ((fr j hj).mpr z))
  · rw [n i hi, t i hi]; exact b5 i hi (by rw [← u i hi]; exact q1) (by rw [← r i hi]; exact q2)
  · have hi : i < c := by omega
    rw [n i hi, n j hj]; exact b6 i j hij hj (by rw [← u i hi]; exact q1) (by rw [← r i hi]; exact q2) (by rw [← u j hj]; exact q3) (by rw [← r j hj]; exact q4)
  · obtain ⟨i, hi, z1, z2, z3⟩ := b7 k q1 q2
    exact ⟨i, hi, by rw [u i hi]; exact z1, by rw [r i hi]; exact z2, by rw [n i hi]; exact z3⟩
/-- an end that is another's copy, as far as it is read -/
def bSE (k k' : Nat) (m m' : xM) : Prop := (∀ j, 5 ≤ j → j ≤ 10 → m' k' j = m k j) ∧ (∀ i : Nat, (i : Int) < m k 5 → m' (k' + 1) i = m (k + 1) i) ∧ (∀ i : Nat, i < 400 → (i : Int) < m k 6 → m' (k' + 2) i = m (k + 2) i) ∧ (∀ j, 3 ≤ j → j ≤ 5 → m' (k' + 3) j = m (k + 3) j) ∧ (∀ i, i < 56 → m' (k' + 4) i = m (k + 4) i) ∧ (∀ i, i < 7 → m' (k' + 5) i = m (k + 5) i) ∧ (∀ i, i < 7 → m' (k' + 6) i = m (k + 6) i) ∧ (m' (k' + 7) 1 = m (k + 7) 1 ∧ ∀ j, j < 8 → m' (k' + 8) j = m (k + 8) j) ∧ m' (k' + 9) 1 = m (k + 9) 1 ∧ ∀ j, j < 8 → m' (k' + 10) j = m (k + 10) j
theorem bRD.sim {kc kb kc' kb' : Nat} {m m' : xM} {ci wi : Nat} {N : Nat → Int} (h : bRD kc kb m ci wi N) (h1 : m' kc' 1 = m kc 1) (h2 : ∀ j, j < 8 → m' kb' j = m kb j) : bRD kc' kb' m' ci wi N := by
  obtain ⟨c, a1, a2, a3, a4⟩ := h
  exact ⟨c, a1, by rw [h1, a2], a3, fun j hj => by rw [a4 j hj, h2 j (by omega)]⟩
theorem bRE.sim {k k' : Nat} {m m' : xM} {o : Nat} {N : Nat → Int} (h : bRE k m o N) (s : bSE k k' m m') : bRE k' m' o N := by
  obtain ⟨⟨F, C, S, a1, a2, a3, a4, a5, a6, a7, a8, a9⟩, hw, hr, ⟨q, q1, q2, q3, q4⟩, ⟨r, r1, r2, r3, r4⟩, t1, t2, t3, t4, t5, t6⟩ := h
  obtain ⟨s1, s2, s3, s4, s5, s6, s7, ⟨s8, s9⟩, s10, s11⟩ := s
  refine ⟨⟨F, C, S, by rw [s4 3 (by omega) (by omega), a1], by rw [s4 4 (by omega) (by omega), a2], by rw [s4 5 (by omega) (by omega), a3], a4, a5, a6, a7, a8, fun p hp => ?_⟩, hw.sim s8 s9, hr.sim s10 s11, ⟨q, q1, by rw [s1 5 (by omega) (by omega), q2], q3, fun i hi => by rw [q4 i hi, s2 i (by omega)]⟩, ⟨r, r1, by rw [s1 6 (by omega) (by omega), r2], r3, fun i h1 h2 => by rw [r4 i h1 h2, s3 i h1 (by omega)]⟩, ?_⟩
  · obtain ⟨b1, b2, b3, b4, b5, b6⟩ := a9 p hp
    have hl : (F + p) % 7 < 7 := Nat.mod_lt _ (by decide)
    unfold bFr
    rw [show k' + 3 + 1 = k' + 4 from rfl, show k' + 3 + 2 = k' + 5 from rfl, show k' + 3 + 3 = k' + 6 from rfl, s6 _ hl, s7 _ hl]
    exact ⟨b1, b2, b3, b4, b5, fun j hj hj2 => by rw [s5 _ (by omega)]; exact b6 j hj hj2⟩
  · unfold bRS
    rw [s1 7 (by omega) (by omega), s1 8 (by omega) (by omega), s1 9 (by omega) (by omega), s1 10 (by omega) (by omega)]
    exact ⟨t1, t2, t3, t4, t5, t6⟩
/-- a line that is another's copy, as far as it is read: from s on, from d on -/
def bSLo (s d : Nat) (m m' : xM) : Prop := bSE (s + 1) (d + 1) m m' ∧ bSE (s + 12) (d + 12) m m' ∧ (m' (d + 23) 4 = m (s + 23) 4 ∧ m' (d + 23) 5 = m (s + 23) 5) ∧ (m (s + 23) 5 ≠ 0 → ∀ k, 24 ≤ k → k ≤ 27 → ∀ i, i < 64 → m' (d + k) i = m (s + k) i) ∧ (m' (d + 28) 1 = m (s + 28) 1 ∧ m' (d + 28) 2 = m (s + 28) 2) ∧ (∀ i : Nat, (i : Int) < m (s + 28) 2 * 4 → m' (d + 29) i = m (s + 29) i) ∧ (∀ i, i < 11 → m' (d + 30) i = m (s + 30) i) ∧ ∀ j, 7 ≤ j → j ≤ 16 → m' d j = m s j
theorem bLine.sim {m m' M : xM} (h : bLine m M) (s : bSLo 0 0 m m') (hs : ∀ k, 33 ≤ k → k ≤ 37 → m' k = m k) : bLine m' M := by
  obtain ⟨⟨r1, r2, r3, r4, r5, r6⟩, hB, h20, hf, hW⟩ := h
  obtain ⟨s1, s2, ⟨s3, s4⟩, s5, ⟨s6, s7⟩, s8, s9, s10⟩ := s
  rw [Nat.zero_add] at s1 s2
  rw [Nat.zero_add] at s3 s4 s5 s6 s7 s8
  have s5' : m 23 5 ≠ 0 → ∀ k, 24 ≤ k → k ≤ 27 → ∀ i, i < 64 → m' k i = m k i := fun h k h1 h2 i hi => by have := s5 h k h1 h2 i hi; rw [Nat.zero_add] at this; exact this
  have s9' : ∀ i, i < 11 → m' 30 i = m 30 i := fun i hi => by have := s9 i hi; rw [Nat.zero_add] at this; exact this
  have s8' : ∀ i : Nat, (i : Int) < m 28 2 * 4 → m' 29 i = m 29 i := fun i hi => by have := s8 i hi; rw [Nat.zero_add] at this; exact this
  have t1 := id s1
  have t2 := id s2
  obtain ⟨e1, -, -, e4, e5, e6, e7, -⟩ := t1
  obtain ⟨f1, -, -, f4, f5, f6, f7, -⟩ := t2
  have h33 := hs 33 (by omega) (by omega)
  refine ⟨⟨r1.sim s1, r2.sim s2, ?_, fun w hw => by rw [r4 w hw, s9' w hw], r5.cg hs (fun _ _ _ _ => rfl), ?_⟩, ?_, by rw [s4, h20], by rw [s3]; exact hf, fun h2 => ?_⟩
  · obtain ⟨b, c, b1, b2, b3, b4, b5, b6, b7⟩ := r3
    refine ⟨b, c, by rw [s6, b1], by rw [s7, b2], b3, b4, b5, b6, fun i w hi hw => ?_⟩
    rw [b7 i w hi hw]
    refine (s8' _ ?_).symm
    rw [b2]
    by_cases hc : c < 60
    · have hb := b5 hc
      subst hb
      have : (0 + i) % 60 = i := by rw [Nat.zero_add]; exact Nat.mod_eq_of_lt (by omega)
      rw [this]; omega
    · have : (b + i) % 60 < 60 := Nat.mod_lt _ (by decide)
      omega
  · exact r6.cg (fun j h1 h2 => s10 j h1 h2) (by rw [h33]) (fun _ _ => rfl)
  · unfold bB bBe at hB ⊢
    rw [s10 7 (by omega) (by omega), s10 8 (by omega) (by omega), s9' 0 (by omega), e4 3 (by omega) (by omega), e4 4 (by omega) (by omega), e1 5 (by omega) (by omega), e1 6 (by omega) (by omega), e1 7 (by omega) (by omega), e1 8 (by omega) (by omega), f4 3 (by omega) (by omega), f4 4 (by omega) (by omega), f1 5 (by omega) (by omega), f1 6 (by omega) (by omega), f1 7 (by omega) (by omega), f1 8 (by omega) (by omega), s4]
    exact hB
  · rw [s10 8 (by omega) (by omega)] at h2
    obtain ⟨f, c, ⟨v1, v2, v3, v4⟩, we, ws, d1, d2⟩ := hW h2
    have hm : ∀ i, (f + i) % 64 < 64 := fun i => Nat.mod_lt _ (by decide)
    have g : ∀ i, i < c → ∀ k, 24 ≤ k → k ≤ 27 → bSq m' k f i = bSq m k f i := fun i hi k h1 h2 => s5' (by omega) k h1 h2 _ (hm i)
    have v7 : bSt m' 7 = bSt m 7 := by
      funext n; show m' 7 _ = m 7 _
      exact e7 _ (by omega)
    have v18 : bSt m' 18 = bSt m 18 := by
      funext n; show m' 18 _ = m 18 _
      exact f7 _ (by omega)
    rw [h33, s10 7 (by omega) (by omega)]
    refine ⟨f, c, ⟨by rw [s3, v1], v2, by rw [s4, v3], v4⟩, fun i hi => ?_, fun i j hij hj => ?_, ?_, ?_⟩
    · obtain ⟨c1, c2, c3, c4, c5⟩ := we i hi
      unfold bWe
      rw [g i hi 24 (by omega) (by omega), g i hi 25 (by omega) (by omega), g i hi 26 (by omega) (by omega), g i hi 27 (by omega) (by omega), h33, s10 7 (by omega) (by omega)]
      refine ⟨c1, c2, c3, c4, fun hx => ?_⟩
      obtain ⟨x1, x2, x3, x4, x5⟩ := c5 hx
      refine ⟨x1, x2, x3, fun hy => ?_, fun hy => ?_⟩
      · obtain ⟨y1, y2⟩ := x4 hy
        have hl : (bSq m 26 f i % 7).toNat < 7 := by omega
        refine ⟨?_, fun j hj hj2 => ?_⟩
        · rw [y1]; exact (e6 _ hl).symm
        · have hj3 : (j : Int) < m' 6 (bSq m 26 f i % 7).toNat := hj2
          rw [show m' 6 (bSq m 26 f i % 7).toNat = m 6 (bSq m 26 f i % 7).toNat from e6 _ hl] at hj3
          rw [y2 j hj hj3]; exact (e5 _ (by omega)).symm
      · obtain ⟨y1, y2⟩ := x5 hy
        have hl : (bSq m 26 f i % 7).toNat < 7 := by omega
        refine ⟨?_, fun j hj hj2 => ?_⟩
        · rw [y1]; exact (f6 _ hl).symm
        · have hj3 : (j : Int) < m' 17 (bSq m 26 f i % 7).toNat := hj2
          rw [show m' 17 (bSq m 26 f i % 7).toNat = m 17 (bSq m 26 f i % 7).toNat from f6 _ hl] at hj3
          rw [y2 j hj hj3]; exact (f5 _ (by omega)).symm
    · rw [g i (by omega) 24 (by omega) (by omega), g j hj 24 (by omega) (by omega)]
      exact ws i j hij hj
    · rw [v7, e4 3 (by omega) (by omega), e4 4 (by omega) (by omega), e4 5 (by omega) (by omega), f1 7 (by omega) (by omega), h33, s10 7 (by omega) (by omega)]
      exact d1.cg (fun i hi => ⟨g i hi 24 (by omega) (by omega), g i hi 25 (by omega) (by omega), g i hi 26 (by omega) (by omega), g i hi 27 (by omega) (by omega)⟩)
    · rw [v18, f4 3 (by omega) (by omega), f4 4 (by omega) (by omega), f4 5 (by omega) (by omega), e1 7 (by omega) (by omega), h33, s10 7 (by omega) (by omega)]
      exact d2.cg (fun i hi => ⟨g i hi 24 (by omega) (by omega), g i hi 25 (by omega) (by omega), g i hi 26 (by omega) (by omega), g i hi 27 (by omega) (by omega)⟩)
/-- what a copy asks of the line that is copied -/
def bCpE (k : Nat) (m : xM) : Prop := (0 ≤ m k 5 ∧ m k 5 ≤ 200) ∧ (0 ≤ m k 6 ∧ m k 6 ≤ 1000000000) ∧ (m k 9 = 0 ∨ m k 9 = 1) ∧ (m k 10 = 0 ∨ m k 10 = 1)
def bCp (s : Nat) (m : xM) : Prop := bCpE (s + 1) m ∧ bCpE (s + 12) m ∧ (0 ≤ m (s + 23) 5 ∧ m (s + 23) 5 ≤ 1000) ∧ (0 ≤ m (s + 28) 2 ∧ m (s + 28) 2 ≤ 60)
theorem bRE.cp {k : Nat} {m : xM} {o : Nat} {N : Nat → Int} (h : bRE k m o N) : bCpE k m := by
  obtain ⟨-, -, -, ⟨q, q1, q2, -⟩, ⟨r, r1, r2, -⟩, -, -, -, -, t5, t6⟩ := h
  exact ⟨⟨by omega, by omega⟩, ⟨by omega, by omega⟩, t5, t6⟩
theorem bLine.cp {m M : xM} (h : bLine m M) : bCp 0 m := by
  obtain ⟨⟨r1, r2, ⟨b, c, b1, b2, b3, b4, -⟩, -⟩, hB, h20, hf, hW⟩ := h
  refine ⟨r1.cp, r2.cp, ?_, ⟨by show 0 ≤ m 28 2; omega, by show m 28 2 ≤ 60; omega⟩⟩
  show 0 ≤ m 23 5 ∧ m 23 5 ≤ 1000
  by_cases h2 : m 0 8 = 2
  · obtain ⟨f, c, ⟨v1, v2, v3, v4⟩, we, ws, d1, d2⟩ := hW h2
    have := bUnder (dl := m 33 10) d1 d2 (fun i hi => (we i hi).2.1)
    omega
  · have := hB.2.2.2.2 h2
    omega
theorem E_cp_sp (m : xM) (h : bCpE 11 m) : ∃ m' : xM, f_E_cp m = some m' ∧ bSE 11 0 m m' ∧ ∀ k, 11 ≤ k → m' k = m k := by
  obtain ⟨⟨q1, q2⟩, ⟨r1, r2⟩, e1, e2⟩ := h
  obtain ⟨q, hq⟩ : ∃ q : Nat, m 11 5 = q := ⟨(m 11 5).toNat, by omega⟩
  obtain ⟨r, hr⟩ : ∃ r : Nat, r = if 400 < m 11 6 then 400 else (m 11 6).toNat := ⟨_, rfl⟩
  have hr4 : r ≤ 400 := by rw [hr]; split <;> omega
  obtain ⟨m1, hm1⟩ : ∃ Z, Z = xcp (xcp m 12 1 0 0 q) 13 2 0 0 r := ⟨_, rfl⟩
  have a1 : ∀ i, i < q → m1 1 i = m 12 i := fun i hi => by rw [hm1, xcp_K (by omega), xcp_at hi]
  have a2 : ∀ i, i < r → m1 2 i = m 13 i := fun i hi => by rw [hm1, xcp_at hi, xcp_K (by omega)]
  have ak : ∀ k, k ≠ 1 → k ≠ 2 → m1 k = m k := fun k h1 h2 => by rw [hm1, xcp_K h2, xcp_K h1]
  obtain ⟨q9, h9⟩ : ∃ Z, Z = xcp (xcp (xcp (xvw [3, 4, 5, 6, 14, 15, 16, 17] m1) 5 1 0 0 56) 6 2 0 0 7) 7 3 0 0 7 := ⟨_, rfl⟩
  obtain ⟨p, hp⟩ : ∃ Z, Z = xu (xu (xu q9 0 3 (q9 4 3)) 0 4 (q9 4 4)) 0 5 (q9 4 5) := ⟨_, rfl⟩
  obtain ⟨m2, hm2⟩ : ∃ Z, Z = xmg [3, 4, 5, 6, 14, 15, 16, 17] 8 m1 p := ⟨_, rfl⟩
  have w4 : q9 4 = m 14 := by rw [h9, xcp_K (by omega), xcp_K (by omega), xcp_K (by omega)]; show m1 14 = _; rw [ak 14 (by omega) (by omega)]
  have b3 : ∀ j, 3 ≤ j → j ≤ 5 → m2 3 j = m 14 j := fun j h1 h2 => by
    rw [hm2]; show p 0 j = _; rw [hp]
    rcases (by omega : j = 3 ∨ j = 4 ∨ j = 5) with rfl | rfl | rfl
    · rw [xu_d (by omega), xu_d (by omega), xu_s rfl, w4]
    · rw [xu_d (by omega), xu_s rfl, w4]
    · rw [xu_s rfl, w4]
  have b4 : ∀ i, i < 56 → m2 4 i = m 15 i := fun i hi => by
    rw [hm2]; show p 1 i = _; rw [hp, xu_k (by omega), xu_k (by omega), xu_k (by omega), h9, xcp_K (by omega), xcp_K (by omega), xcp_at hi]; show m1 15 i = _; rw [ak 15 (by omega) (by omega)]
  have b5 : ∀ i, i < 7 → m2 5 i = m 16 i := fun i hi => by
    rw [hm2]; show p 2 i = _; rw [hp, xu_k (by omega), xu_k (by omega), xu_k (by omega), h9, xcp_K (by omega), xcp_at hi, xcp_K (by omega)]; show m1 16 i = _; rw [ak 16 (by omega) (by omega)]
  have b6 : ∀ i, i < 7 → m2 6 i = m 17 i := fun i hi => by
    rw [hm2]; show p 3 i = _; rw [hp, xu_k (by omega), xu_k (by omega), xu_k (by omega), h9, xcp_at hi, xcp_K (by omega), xcp_K (by omega)]; show m1 17 i = _; rw [ak 17 (by omega) (by omega)]
  have bk : ∀ k, k ≠ 3 → k ≠ 4 → k ≠ 5 → k ≠ 6 → m2 k = m1 k := fun k h3 h4 h5 h6 => by
    by_cases h14 : k = 14
    · rw [h14, hm2]; show p 4 = _; rw [hp, xu_K (by omega), xu_K (by omega), xu_K (by omega), h9, xcp_K (by omega), xcp_K (by omega), xcp_K (by omega)]; rfl
    · by_cases h15 : k = 15
      · rw [h15, hm2]; show p 5 = _; rw [hp, xu_K (by omega), xu_K (by omega), xu_K (by omega), h9, xcp_K (by omega), xcp_K (by omega), xcp_K (by omega)]; rfl
      · by_cases h16 : k = 16
        · rw [h16, hm2]; show p 6 = _; rw [hp, xu_K (by omega), xu_K (by omega), xu_K (by omega), h9, xcp_K (by omega), xcp_K (by omega), xcp_K (by omega)]; rfl
        · by_cases h17 : k = 17
          · rw [h17, hm2]; show p 7 = _; rw [hp, xu_K (by omega), xu_K (by omega), xu_K (by omega), h9, xcp_K (by omega), xcp_K (by omega), xcp_K (by omega)]; rfl
          · rw [hm2]; exact xmg_no _ _ (xpos_not (by simp [h3, h4, h5, h6, h14, h15, h16, h17]))
  obtain ⟨d, hd⟩ : ∃ Z, Z = xu (xcp (xvw [7, 8, 18, 19] m2) 3 1 0 0 8) 0 1 (xvw [7, 8, 18, 19] m2 2 1) := ⟨_, rfl⟩
  obtain ⟨m3, hm3⟩ : ∃ Z, Z = xmg [7, 8, 18, 19] 4 m2 d := ⟨_, rfl⟩
  have c7 : m3 7 1 = m 18 1 := by rw [hm3]; show d 0 1 = _; rw [hd, xu_s rfl]; show m2 18 1 = _; rw [bk 18 (by omega) (by omega) (by omega) (by omega), ak 18 (by omega) (by omega)]
  have c8 : ∀ j, j < 8 → m3 8 j = m 19 j := fun j hj => by rw [hm3]; show d 1 j = _; rw [hd, xu_k (by omega), xcp_at hj]; show m2 19 j = _; rw [bk 19 (by omega) (by omega) (by omega) (by omega), ak 19 (by omega) (by omega)]
  have ck : ∀ k, k ≠ 7 → k ≠ 8 → m3 k = m2 k := fun k h7 h8 => by
    by_cases h18 : k = 18
    · rw [h18, hm3]; show d 2 = _; rw [hd, xu_K (by omega), xcp_K (by omega)]; rfl
    · by_cases h19 : k = 19
      · rw [h19, hm3]; show d 3 = _; rw [hd, xu_K (by omega), xcp_K (by omega)]; rfl
      · rw [hm3]; exact xmg_no _ _ (xpos_not (by simp [h7, h8, h18, h19]))
  obtain ⟨g, hg⟩ : ∃ Z, Z = xu (xcp (xvw [9, 10, 20, 21] m3) 3 1 0 0 8) 0 1 (xvw [9, 10, 20, 21] m3 2 1) := ⟨_, rfl⟩
  obtain ⟨m4, hm4⟩ : ∃ Z, Z = xmg [9, 10, 20, 21] 4 m3 g := ⟨_, rfl⟩
  have d9 : m4 9 1 = m 20 1 := by rw [hm4]; show g 0 1 = _; rw [hg, xu_s rfl]; show m3 20 1 = _; rw [ck 20 (by omega) (by omega), bk 20 (by omega) (by omega) (by omega) (by omega), ak 20 (by omega) (by omega)]
  have d10 : ∀ j, j < 8 → m4 10 j = m 21 j := fun j hj => by rw [hm4]; show g 1 j = _; rw [hg, xu_k (by omega), xcp_at hj]; show m3 21 j = _; rw [ck 21 (by omega) (by omega), bk 21 (by omega) (by omega) (by omega) (by omega), ak 21 (by omega) (by omega)]
  have dk : ∀ k, k ≠ 9 → k ≠ 10 → m4 k = m3 k := fun k h9 h10 => by
    by_cases h20 : k = 20
    · rw [h20, hm4]; show g 2 = _; rw [hg, xu_K (by omega), xcp_K (by omega)]; rfl
    · by_cases h21 : k = 21
      · rw [h21, hm4]; show g 3 = _; rw [hg, xu_K (by omega), xcp_K (by omega)]; rfl
      · rw [hm4]; exact xmg_no _ _ (xpos_not (by simp [h9, h10, h20, h21]))
  have e11 : m4 11 = m 11 := by rw [dk 11 (by omega) (by omega), ck 11 (by omega) (by omega), bk 11 (by omega) (by omega) (by omega) (by omega), ak 11 (by omega) (by omega)]
  obtain ⟨m5, hm5⟩ : ∃ Z, Z = xu (xu (xu (xu (xu (xu m4 0 5 (m 11 5)) 0 6 (m 11 6)) 0 7 (m 11 7)) 0 8 (m 11 8)) 0 9 (m 11 9)) 0 10 (m 11 10) := ⟨_, rfl⟩
  have k5 : ∀ k, k ≠ 0 → m5 k = m4 k := fun k hk => by rw [hm5, xu_K hk, xu_K hk, xu_K hk, xu_K hk, xu_K hk, xu_K hk]
  have kk : ∀ k, 11 ≤ k → m5 k = m k := fun k hk => by rw [k5 k (by omega), dk k (by omega) (by omega), ck k (by omega) (by omega), bk k (by omega) (by omega) (by omega) (by omega), ak k (by omega) (by omega)]
  have cb56 : xcb 0 0 56 56 56 := by decide
  have cb7 : xcb 0 0 7 7 7 := by decide
  have hcq : xcb 0 0 (m 11 5) 200 200 := by
    unfold xcb
    rw [b_xw (x := m 11 5) (by omega), b_xw (x := 0) (by omega)]
    omega
  have hke : f_E_kept (xvw [11, 12, 13, 14, 15, 16, 17, 18, 19, 20, 21] (xcp m 12 1 0 0 q)) = some (r : Int) := by
    have e0 : xvw [11, 12, 13, 14, 15, 16, 17, 18, 19, 20, 21] (xcp m 12 1 0 0 q) 0 = m 11 := by show xcp m 12 1 0 0 q 11 = _; rw [xcp_K (by omega)]
    unfold f_E_kept
    rw [e0, hr, b_xw (by omega), b_xw (by omega)]
    by_cases hx : 400 < m 11 6
    · rw [if_pos hx, if_pos hx]; rfl
    · rw [if_neg hx, if_neg hx]; congr 1; omega
  have hcr : xcb 0 0 (r : Int) 400 400 := by
    unfold xcb
    rw [b_xw (x := (r : Int)) (by omega), b_xw (x := 0) (by omega)]
    omega
  have xq : xix (m 11 5) = q := by rw [hq, b_ix (by omega)]; exact Int.toNat_natCast _
  have xr : xix (r : Int) = r := by rw [b_ix (by omega)]; exact Int.toNat_natCast _
  have z9 : xbz (m 11 9) := by rcases e1 with z | z <;> rw [z] <;> decide
  have z10 : xbz (m 11 10) := by rcases e2 with z | z <;> rw [z] <;> decide
  have n11 : ∀ (x : xM) (j : Nat) (v : Int), x 11 = m 11 → xu x 0 j v 11 = m 11 := fun x j v hx => by rw [xu_K (by omega), hx]
  refine ⟨m5, ?_, ⟨fun j h1 h2 => ?_, fun i hi => ?_, fun i h1 h2 => ?_, fun j h1 h2 => ?_, fun i hi => ?_, fun i hi => ?_, fun i hi => ?_, ⟨?_, fun j hj => ?_⟩, ?_, fun j hj => ?_⟩, kk⟩
  · unfold f_E_cp
    rw [if_pos hcq, xq, hke, b_bs, if_pos hcr, xr, ← hm1]
    unfold f_E_cp_34 f_F_cp f_F_cp_48
    rw [if_pos cb56, if_pos cb7, if_pos cb7, ← h9, ← hp, b_bs, ← hm2, D_cp_sp, b_bs, ← hd, ← hm3]
    unfold f_E_cp_56
    rw [D_cp_sp, b_bs, ← hg, ← hm4]
    unfold f_E_cp_75
    rw [n11 _ _ _ e11, e11, if_pos z9]
    unfold f_E_cp_107
    rw [n11 _ _ _ (n11 _ _ _ (n11 _ _ _ (n11 _ _ _ (n11 _ _ _ e11)))), if_pos z10, ← hm5]
  · rw [hm5]
    rcases (by omega : j = 5 ∨ j = 6 ∨ j = 7 ∨ j = 8 ∨ j = 9 ∨ j = 10) with rfl | rfl | rfl | rfl | rfl | rfl
    · rw [xu_d (by omega), xu_d (by omega), xu_d (by omega), xu_d (by omega), xu_d (by omega), xu_s rfl]
    · rw [xu_d (by omega), xu_d (by omega), xu_d (by omega), xu_d (by omega), xu_s rfl]
    · rw [xu_d (by omega), xu_d (by omega), xu_d (by omega), xu_s rfl]
    · rw [xu_d (by omega), xu_d (by omega), xu_s rfl]
    · rw [xu_d (by omega), xu_s rfl]
    · rw [xu_s rfl]
  · show m5 1 i = m 12 i
    rw [k5 1 (by omega), dk 1 (by omega) (by omega), ck 1 (by omega) (by omega), bk 1 (by omega) (by omega) (by omega) (by omega), a1 i (by omega)]
  · show m5 2 i = m 13 i
    rw [k5 2 (by omega), dk 2 (by omega) (by omega), ck 2 (by omega) (by omega), bk 2 (by omega) (by omega) (by omega) (by omega), a2 i (by rw [hr]; split <;> omega)]
  · show m5 3 j = m 14 j
    rw [k5 3 (by omega), dk 3 (by omega) (by omega), ck 3 (by omega) (by omega), b3 j h1 h2]
  · show m5 4 i = m 15 i
    rw [k5 4 (by omega), dk 4 (by omega) (by omega), ck 4 (by omega) (by omega), b4 i hi]
  · show m5 5 i = m 16 i
    rw [k5 5 (by omega), dk 5 (by omega) (by omega), ck 5 (by omega) (by omega), b5 i hi]
  · show m5 6 i = m 17 i
    rw [k5 6 (by omega), dk 6 (by omega) (by omega), ck 6 (by omega) (by omega), b6 i hi]
  · show m5 7 1 = m 18 1
    rw [k5 7 (by omega), dk 7 (by omega) (by omega), c7]
  · show m5 8 j = m 19 j
    rw [k5 8 (by omega), dk 8 (by omega) (by omega), c8 j hj]
  · show m5 9 1 = m 20 1
    rw [k5 9 (by omega), d9]
  · show m5 10 j = m 21 j
    rw [k5 10 (by omega), d10 j hj]

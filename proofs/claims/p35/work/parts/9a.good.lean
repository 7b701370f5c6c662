/-! ===== load: a text without a flaw ===== -/
theorem bRP.sl {m m' : xM} {N N' : Nat → Int} (h : bRP m N) (h33 : ∀ j, 4 ≤ j → j ≤ 13 → m' 33 j = m 33 j) (h34 : ∀ i, i < 5 → m' 34 i = m 34 i) (h35 : ∀ i, i < 5 → m' 35 i = m 35 i) (h36 : ∀ i, i < 4 → m' 36 i = m 36 i) (h37 : ∀ i, i < 10 → m' 37 i = m 37 i) (hN : ∀ i, 11 ≤ i → i < 45 → i ≠ 20 → N' i = N i) : bRP m' N' := by
  obtain ⟨⟨a1, a2⟩, ⟨b1, b2⟩, ⟨c1, c2⟩, ⟨d1, d2⟩, ⟨e1, e2⟩, ⟨f1, f2⟩, ⟨g1, g2⟩, ⟨i1, i2⟩, ⟨j1, j2⟩, k1, l1, n1⟩ := h
  unfold bRP
  rw [h33 4 (by omega) (by omega), h33 5 (by omega) (by omega), h33 7 (by omega) (by omega), h33 8 (by omega) (by omega), h33 9 (by omega) (by omega), h33 10 (by omega) (by omega), h33 11 (by omega) (by omega), h33 12 (by omega) (by omega), h33 13 (by omega) (by omega)]
  rw [hN 11 (by omega) (by omega) (by omega), hN 12 (by omega) (by omega) (by omega), hN 13 (by omega) (by omega) (by omega), hN 14 (by omega) (by omega) (by omega), hN 15 (by omega) (by omega) (by omega), hN 16 (by omega) (by omega) (by omega), hN 17 (by omega) (by omega) (by omega), hN 18 (by omega) (by omega) (by omega), hN 19 (by omega) (by omega) (by omega)]
  refine ⟨⟨a1, a2⟩, ⟨b1, b2⟩, ⟨c1, c2⟩, ⟨d1, d2⟩, ⟨e1, e2⟩, ⟨f1, f2⟩, ⟨g1, g2⟩, ⟨i1, i2⟩, ⟨j1, j2⟩, fun s hs => ?_, fun i hi => ?_, fun i hi => ?_⟩
  · rw [hN _ (by omega) (by omega) (by omega), h36 s hs]; exact k1 s hs
  · rw [hN _ (by omega) (by omega) (by omega), h37 i (by omega)]; exact l1 i hi
  · rw [hN _ (by omega) (by omega) (by omega), hN _ (by omega) (by omega) (by omega), h34 i (by omega), h35 i (by omega)]; exact n1 i hi
theorem FF_mg (m q : xM) : ∃ m' : xM, xmg [1, 2, 3, 4, 5, 6, 7, 8, 9, 10] 10 m q = m' ∧ (m' 1 = q 0 ∧ m' 2 = q 1 ∧ m' 3 = q 2 ∧ m' 4 = q 3 ∧ m' 5 = q 4) ∧ (m' 6 = q 5 ∧ m' 7 = q 6 ∧ m' 8 = q 7 ∧ m' 9 = q 8 ∧ m' 10 = q 9) ∧ ∀ k, (k < 1 ∨ 11 ≤ k) → m' k = m k := by
  refine ⟨_, rfl, ⟨rfl, rfl, rfl, rfl, rfl⟩, ⟨rfl, rfl, rfl, rfl, rfl⟩, fun k hk => xmg_no _ _ ?_⟩
  show xpos [1, 2, 3, 4, 5, 6, 7, 8, 9, 10] 0 k = none
  unfold xpos xpos xpos xpos xpos xpos xpos xpos xpos xpos xpos
  rw [if_neg (by omega), if_neg (by omega), if_neg (by omega), if_neg (by omega), if_neg (by omega), if_neg (by omega), if_neg (by omega), if_neg (by omega), if_neg (by omega), if_neg (by omega)]
theorem copyA_21 (M : xM) : ∃ Q : xM, f_m_copyA 0 0 (xvw [2, 1] M) = some Q ∧ (∀ j, j < 3530 → xmg [2, 1] 2 M Q 1 j = M 2 j) ∧ ∀ k, k ≠ 1 → xmg [2, 1] 2 M Q k = M k := by
  obtain ⟨Q, c1, c2, c3, c4⟩ := copyA_sp 0 0 (by omega) (by omega) (xvw [2, 1] M)
  refine ⟨Q, c1, fun j hj => ?_, fun k hk => ?_⟩
  · have := c2 j hj
    rw [Nat.mul_zero, Nat.zero_add] at this
    exact this
  · by_cases h2 : k = 2
    · rw [h2]
      show Q 0 = M 2
      rw [c4 0 (by omega)]; rfl
    · exact xmg_no _ _ (xpos_not (by simp [hk, h2]))
theorem X_load_good {G : bGt} (L : Nat) (m M : xM) (h : bX G m M) (m2 M3 : xM) (hm : ∀ k, (k < 6 ∨ 11 ≤ k) → (k < 441 ∨ 444 ≤ k) → m2 k = m k) (h6 : M3 0 6 = 0) (hj : ∀ j, j ≠ 6 → (j < 14 ∨ j = 20 ∨ 22 ≤ j) → M3 0 j = M 0 j) (hk : ∀ k, k ≠ 0 → k ≠ 2 → M3 k = M k) (hz : ∀ i, i < 3530 → (i < 2 ∨ (3 ≤ i ∧ i < 11) ∨ i = 20 ∨ 45 ≤ i) → M3 2 i = 0) (e1 : M3 0 18 = 0) (e2 : m2 442 6 = 0) (hD : bDx m2 M3) : bOk G (f_X_load_27 (L : Int) m2) (Option.bind (f_m_finish M3) fun q4 => (if xw q4.1 = 0 then (Option.bind (f_m_copyA 0 0 (xvw [2, 1] q4.2)) fun q5 => (if xib 11 3530 then some (((xmg [2, 1] 2 q4.2 q5) 1 11), (xu (xu (xmg [2, 1] 2 q4.2 q5) 0 5 0) 0 7 0)) else none)) else some ((-10) - (q4.2 0 18), q4.2))) := by
  obtain ⟨m3, a1, a2, a3, a4, a5⟩ := X_close_sp m2 (by omega)
  obtain ⟨M4, b1, b2, b3, b4, b5⟩ := m_finish_sp M3 (by omega)
  rw [if_pos e2] at a3
  rw [if_pos e1] at b3
  obtain ⟨d1, d2, d3⟩ := hD
  obtain ⟨x1, ⟨nx, p, ⟨u1, u2⟩, u3⟩, x3, x4, x5, x6⟩ := h
  unfold f_X_load_27
  rw [a1, b1, Option.bind_some, Option.bind_some]
  dsimp only
  have m6 : m3 442 6 = 0 := by rw [a5 442 (by omega), e2]
  rw [m6, e1, if_pos (show xw (0 : Int) = 0 by decide), if_pos (show xw (0 : Int) = 0 by decide)]
  obtain ⟨q4, c1, c2, c3, c4, c5, c6, c7⟩ := S_cp_sp (xvw [1, 2, 3, 4, 5, 6, 7, 8, 9, 10] m3)
  obtain ⟨m4, f1, ⟨f2, f3, f4, f5, f6⟩, f7, f8⟩ := FF_mg m3 q4
  rw [c1, Option.bind_some, f1]
  obtain ⟨q5, g1, g2, g3, g4, g5, g6, g7, g8, g9⟩ := L_begin_sp (xvw xT_25 m4)
  rw [g1, Option.bind_some]
  obtain ⟨p1, p2⟩ := bV_put (m := m4) (q := q5) 11 (by omega) (by omega) (fun k k1 k2 => by rw [g9 k k1]; rw [bV_25]) bT11
  obtain ⟨m5, hm5⟩ : ∃ Z, Z = xmg xT_25 38 m4 q5 := ⟨_, rfl⟩
  rw [← hm5]
  rw [← bV_25, ← hm5] at p1 p2
  obtain ⟨Q, r1, r2, r3⟩ := copyA_21 M4
  rw [r1, Option.bind_some]
  obtain ⟨M5, hM5⟩ : ∃ Z, Z = xmg [2, 1] 2 M4 Q := ⟨_, rfl⟩
  rw [← hM5, if_pos (b_ib (by omega))]
  rw [← hM5] at r2 r3
  unfold f_X_load_70
  obtain ⟨m6, hm6⟩ : ∃ Z, Z = xu (xu m5 0 5 0) 0 7 0 := ⟨_, rfl⟩
  obtain ⟨M6, hM6⟩ : ∃ Z, Z = xu (xu M5 0 5 0) 0 7 0 := ⟨_, rfl⟩
  rw [← hm6, ← hM6]
  -- what the cells hold
  have A0 : ∀ k, k ≠ 0 → (k < 1 ∨ 11 ≤ k) → (k < 441 ∨ 444 ≤ k) → m4 k = m k := fun k h0 h1 h2 => by rw [f8 k h1, a5 k h0, hm k (by omega) h2]
  have A1 : ∀ k, k ≠ 0 → 44 ≤ k → (k < 441 ∨ 444 ≤ k) → m6 k = m k := fun k h0 h1 h2 => by rw [hm6, xu_K h0, xu_K h0, p2 k (by omega), A0 k h0 (by omega) h2]
  have A3 : ∀ k, k ≠ 0 → k < 11 → m6 k = m4 k := fun k h0 h1 => by rw [hm6, xu_K h0, xu_K h0, p2 k (by omega)]
  have D4 : ∀ j, 4 ≤ j → j ≤ 13 → m4 1 j = m2 6 j := fun j h1 h2 => by rw [f2, c2 j h1 h2, show xvw [1, 2, 3, 4, 5, 6, 7, 8, 9, 10] m3 5 = m3 6 from rfl, a5 6 (by omega)]
  have D2 : ∀ i, i < 5 → m4 2 i = m2 7 i := fun i hi => by rw [f3, c3 i hi, show xvw [1, 2, 3, 4, 5, 6, 7, 8, 9, 10] m3 6 = m3 7 from rfl, a5 7 (by omega)]
  have D3 : ∀ i, i < 5 → m4 3 i = m2 8 i := fun i hi => by rw [f4, c4 i hi, show xvw [1, 2, 3, 4, 5, 6, 7, 8, 9, 10] m3 7 = m3 8 from rfl, a5 8 (by omega)]
  have D5 : ∀ i, i < 4 → m4 4 i = m2 9 i := fun i hi => by rw [f5, c5 i hi, show xvw [1, 2, 3, 4, 5, 6, 7, 8, 9, 10] m3 8 = m3 9 from rfl, a5 9 (by omega)]
  have D6 : ∀ i, i < 10 → m4 5 i = m2 10 i := fun i hi => by rw [f6, c6 i hi, show xvw [1, 2, 3, 4, 5, 6, 7, 8, 9, 10] m3 9 = m3 10 from rfl, a5 10 (by omega)]
  have N1 : ∀ j, j < 3530 → M6 1 j = M3 2 j := fun j hj => by rw [hM6, xu_K (by omega), xu_K (by omega), r2 j hj, b5 2 (by omega)]
  have NK : ∀ k, k ≠ 0 → k ≠ 1 → k ≠ 2 → M6 k = M k := fun k h0 h1 h2 => by rw [hM6, xu_K h0, xu_K h0, r3 k h1, b5 k h0, hk k h0 h2]
  have N0 : ∀ j, j ≠ 5 → j ≠ 6 → j ≠ 7 → j ≠ 13 → j < 14 → M6 0 j = M 0 j := fun j h5 h6 h7 h13 h14 => by
    rw [hM6, xu_d h7, xu_d h5, r3 0 (by omega), b4 j h13 (by omega), hj j h6 (by omega)]
  have m00 : ∀ j, j ≠ 5 → j ≠ 7 → j ≠ 10 → j ≠ 11 → m6 0 j = m 0 j := fun j h5 h7 h10 h11 => by
    rw [hm6, xu_d h7, xu_d h5, p2 0 (by omega), f8 0 (by omega), a4 j h10 h11, hm 0 (by omega) (by omega)]
  have q33 : ∀ k, 33 ≤ k → q5 k = xvw xT_25 m4 k := g9
  have v1 : xvw xT_25 m4 33 = m4 1 := rfl
  have v2 : xvw xT_25 m4 34 = m4 2 := rfl
  have v3 : xvw xT_25 m4 35 = m4 3 := rfl
  have v4 : xvw xT_25 m4 36 = m4 4 := rfl
  have v5 : xvw xT_25 m4 37 = m4 5 := rfl
  have hq6 : m4 1 6 = M3 2 2 := by rw [D4 6 (by omega) (by omega), d2]
  have hPq : bRP q5 (M6 1) := by
    refine d1.sl (fun j h1 h2 => ?_) (fun i hi => ?_) (fun i hi => ?_) (fun i hi => ?_) (fun i hi => ?_) (fun i h1 h2 h3 => N1 i (by omega))
    · rw [q33 33 (by omega), v1]; exact D4 j h1 h2
    · rw [q33 34 (by omega), v2]; exact D2 i hi
    · rw [q33 35 (by omega), v3]; exact D3 i hi
    · rw [q33 36 (by omega), v4]; exact D5 i hi
    · rw [q33 37 (by omega), v5]; exact D6 i hi
  have h234 : 0 ≤ q5 23 4 ∧ q5 23 4 ≤ 64 := by
    rw [g5, show xvw xT_25 m4 23 = m4 34 from rfl, A0 34 (by omega) (by omega) (by omega)]
    exact x1.1.2.2.2.1
  have hln : bLn q5 (M6 1) := by
    refine bLn_begin g2 g3 g4 h234 g6 g7 ⟨g8.1, g8.2.1, ?_, g8.2.2.2.1, g8.2.2.2.2.1, g8.2.2.2.2.2⟩ ?_ hPq (fun i hi h => by rw [N1 i hi]; exact hz i hi h)
    · rw [g8.2.2.1, v1, hq6, N1 2 (by omega)]
    · rw [N1 2 (by omega), d2]; exact d3
  have hv : ∀ k, k ≤ 37 → xvw (bV 11) m6 k = q5 k := fun k hk' => by
    rw [← p1 k hk', bV_25]
    refine bV_eq (by omega) (fun k h1 h2 => ?_) (fun k h1 h2 => ?_) k hk'
    · rw [hm6, xu_K (by omega), xu_K (by omega)]
    · rw [hm6, xu_K (by omega), xu_K (by omega)]
  refine ⟨m5 1 4, m6, M6, rfl, ?_, ?_, ?_, ?_, ?_, ?_, ?_, x6.cg (N0 11 (by omega) (by omega) (by omega) (by omega) (by omega)) (NK 7 (by omega) (by omega) (by omega))⟩
  · have e : M5 1 11 = m5 1 4 := by
      rw [r2 11 (by omega), b5 2 (by omega), p2 1 (by omega), D4 4 (by omega) (by omega)]
      exact d1.1.1
    rw [e]
  · rw [hM6, xu_d (by omega), xu_d (by omega), r3 0 (by omega), b4 6 (by omega) (by omega), h6]
  · exact hln.cg hv (fun _ _ => rfl)
  · refine ⟨nx, 0, ⟨by rw [m00 8 (by omega) (by omega) (by omega) (by omega), u1], u2⟩, ⟨by rw [hm6, xu_s rfl]; rfl, by omega⟩, ?_, fun i hi => by omega⟩
    rw [hM6, xu_d (by omega), xu_s rfl]; rfl
  · exact Or.inl ⟨by rw [hm6, xu_d (by omega), xu_s rfl], by rw [hM6, xu_s rfl]⟩
  · refine ⟨0, by omega, ?_, ?_, fun i hi => by omega⟩
    · rw [hm6, xu_d (by omega), xu_d (by omega), p2 0 (by omega), f8 0 (by omega), a2]; rfl
    · rw [hM6, xu_d (by omega), xu_d (by omega), r3 0 (by omega), b2]; rfl
  · rw [hm6, xu_d (by omega), xu_d (by omega), p2 0 (by omega), f8 0 (by omega), a3, hM6, xu_d (by omega), xu_d (by omega), r3 0 (by omega), b3]
theorem X_load_sp {G : bGt} (z : Int) (hz : bI z) (m M : xM) (h : bX G m M) : bOk G (f_X_load z m) (f_m_load z M) ∨ bTh G (h_X_load z m) (f_m_load z M) 1 1 m := by
  obtain ⟨n, a1, a2, a3, a4⟩ := id h.2.2.2.1
  rcases X_chkL_sp z 600 n m hz (by omega) a2 a1 with ⟨d1, d2, d3, d4, d5⟩ | ⟨d2, d3⟩
  · left
    obtain ⟨L, hL⟩ : ∃ L : Nat, z = L := ⟨z.toNat, by omega⟩
    subst hL
    obtain ⟨m2, M3, e1, e2, e3, e4, e5, e6, e7, e8, e9⟩ := X_load_pre L m M h.2.2.2.1 (by omega)
    rw [e1, e2]
    rcases e9 with ⟨g1, g2, g3⟩ | ⟨c, q, g1, g2, g3, g4, g5⟩
    · exact X_load_good L m M h m2 M3 e3 e5 e6 e7 e8 g1 g2 g3
    · exact X_load_bad L m M h m2 M3 e3 e5 e6 e7 c q g1 g2 g3 g4 g5
  · right
    have hcd : (if 0 ≤ z ∧ z ≤ (n : Int) then (1 : Int) else 0) = 0 := if_neg (fun x => d3 ⟨x.1, x.2, by omega⟩)
    have z0 : xw (0 : Int) = 0 := by decide
    unfold f_m_load f_m_raise
    rw [a3, m_inR z 0 _ _ hz (by unfold bI; omega) (by unfold bI; omega), b_bs, hcd, if_pos z0]
    refine ⟨by unfold h_X_load; rw [d2]; rfl, ?_⟩
    exact ⟨0, xu (xu M 0 6 0) 0 6 1, rfl, by rw [xu_s rfl], (h.thr 0).thr 1⟩

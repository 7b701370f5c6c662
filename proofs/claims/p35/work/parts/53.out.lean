/-! ===== the class's sending behind the reckoning of the cost ===== -/
def bOut (e F S f c r : Nat) (dm : Int) (m m' : xM) : Prop :=
  (m' 30 0 = m 30 0 + 1 ∧ m' 30 1 = m 30 1 + dm ∧ m' 30 9 = m 30 9 + r ∧ ∀ j, j ≠ 0 → j ≠ 1 → j ≠ 9 → m' 30 j = m 30 j) ∧ (m' 4 5 = ((S + 1 : Nat) : Int) ∧ ∀ j, j ≠ 5 → m' 4 j = m 4 j) ∧ (m' 1 10 = 0 ∧ m' 1 8 = m 1 8 - r ∧ ∀ j, j ≠ 10 → j ≠ 8 → m' 1 j = m 1 j) ∧ (m' 7 ((F + S) % 7) = m 0 7 ∧ ∀ j, j ≠ (F + S) % 7 → m' 7 j = m 7 j) ∧
  (m' 24 ((f + c) % 64) = m 0 7 ∧ m' 25 ((f + c) % 64) = e ∧ m' 26 ((f + c) % 64) = ((F + S : Nat) : Int) ∧ m' 27 ((f + c) % 64) = (if m 1 10 = 0 then 0 else 4) + (if dm = 0 then 0 else 2) ∧ m' 23 5 = ((c + 1 : Nat) : Int) ∧ m' 23 4 = m 23 4 ∧ ∀ k i, 24 ≤ k → k ≤ 27 → i ≠ (f + c) % 64 → m' k i = m k i) ∧
  (m' 8 1 = m 31 1 ∧ ∀ j, j < 8 → m' 9 j = m 32 j) ∧
  ∀ k, k ≠ 1 → k ≠ 4 → k ≠ 7 → k ≠ 8 → k ≠ 9 → (k < 23 ∨ 27 < k) → k ≠ 30 → m' k = m k
theorem L_out_sp (e F S f c r k nc : Nat) (N : Nat → Int) (m : xM) (he : e < 2) (h43 : m 4 3 = F) (h45 : m 4 5 = S) (hFS : F + S < 2000000000) (hf : m 23 4 = f) (hf64 : f ≤ 64) (hc : m 23 5 = c) (hc64 : c < 64) (hmk : m 1 10 = 0 ∨ m 1 10 = 1)
    (h30 : m 30 0 = k) (hk : k < 2147483647) (hn : m 33 5 = nc) (hnc : 1 ≤ nc ∧ nc ≤ 10) (hN2 : N 2 = m 0 9) (hN3 : N 3 = m 0 10) (hN : N (25 + k % nc) = m 37 (k % nc)) : ∃ m' : xM, f_L_sendNext_134 (e : Int) (r : Int) m = some (1, m') ∧ bOut e F S f c r (bDm N k nc) m m' := by
  obtain ⟨m2, hm2⟩ : ∃ Z, Z = xu (xu m 1 8 (m 1 8 - (r : Int))) 30 9 (m 30 9 + (r : Int)) := ⟨_, rfl⟩
  obtain ⟨V, hV⟩ : ∃ Z, Z = xvw [8, 9, 31, 32] m2 := ⟨_, rfl⟩
  obtain ⟨Q, hQ⟩ : ∃ Z, Z = xu (xcp V 3 1 0 0 8) 0 1 (V 2 1) := ⟨_, rfl⟩
  obtain ⟨m3, hm3⟩ : ∃ Z, Z = xmg [8, 9, 31, 32] 4 m2 Q := ⟨_, rfl⟩
  have a1 : ∀ j, j ≠ 8 → m2 1 j = m 1 j := fun j hj => by rw [hm2, xu_k (by omega), xu_d hj]
  have a18 : m2 1 8 = m 1 8 - r := by rw [hm2, xu_k (by omega), xu_s rfl]
  have a30 : ∀ j, j ≠ 9 → m2 30 j = m 30 j := fun j hj => by rw [hm2, xu_d hj, xu_k (by omega)]
  have a309 : m2 30 9 = m 30 9 + r := by rw [hm2, xu_s rfl]
  have ak : ∀ k, k ≠ 1 → k ≠ 30 → m2 k = m k := fun k h1 h2 => by rw [hm2, xu_K h2, xu_K h1]
  have b8 : m3 8 1 = m 31 1 := by rw [hm3]; show Q 0 1 = _; rw [hQ, xu_s rfl, hV]; show m2 31 1 = _; rw [ak 31 (by omega) (by omega)]
  have b9 : ∀ j, j < 8 → m3 9 j = m 32 j := fun j hj => by rw [hm3]; show Q 1 j = _; rw [hQ, xu_k (by omega), xcp_at hj, hV]; show m2 32 j = _; rw [ak 32 (by omega) (by omega)]
  have bk : ∀ k, k ≠ 8 → k ≠ 9 → m3 k = m2 k := fun k h1 h2 => by
    by_cases h4 : k = 31
    · rw [h4, hm3]; show Q 2 = _; rw [hQ, xu_K (by omega), xcp_K (by omega), hV]; rfl
    · by_cases h5 : k = 32
      · rw [h5, hm3]; show Q 3 = _; rw [hQ, xu_K (by omega), xcp_K (by omega), hV]; rfl
      · rw [hm3]; exact xmg_no _ _ (xpos_not (by simp [h1, h2, h4, h5]))
  have ck : ∀ k, k ≠ 1 → k ≠ 8 → k ≠ 9 → k ≠ 30 → m3 k = m k := fun k h1 h2 h3 h4 => by rw [bk k h2 h3, ak k h1 h4]
  obtain ⟨m', p1, ⟨p2, p3, p3'⟩, ⟨p4, p5⟩, ⟨p6, p7⟩, ⟨p8, p9⟩, ⟨q1, q2, q3, q4, q5, q6, q7⟩, q8⟩ := L_launch_sp e F S f c k nc N m3 he (by rw [ck 4 (by omega) (by omega) (by omega) (by omega), h43]) (by rw [ck 4 (by omega) (by omega) (by omega) (by omega), h45]) hFS (by rw [ck 23 (by omega) (by omega) (by omega) (by omega), hf]) hf64 (by rw [ck 23 (by omega) (by omega) (by omega) (by omega), hc]) hc64
    (by rw [bk 1 (by omega) (by omega), a1 10 (by omega)]; exact hmk) (by rw [bk 30 (by omega) (by omega), a30 0 (by omega), h30]) hk (by rw [ck 33 (by omega) (by omega) (by omega) (by omega), hn]) hnc (by rw [ck 0 (by omega) (by omega) (by omega) (by omega), hN2]) (by rw [ck 0 (by omega) (by omega) (by omega) (by omega), hN3]) (by rw [ck 37 (by omega) (by omega) (by omega) (by omega), hN])
  have d0 : m3 0 = m 0 := ck 0 (by omega) (by omega) (by omega) (by omega)
  have d4 : m3 4 = m 4 := ck 4 (by omega) (by omega) (by omega) (by omega)
  have d7 : m3 7 = m 7 := ck 7 (by omega) (by omega) (by omega) (by omega)
  have d1 : m3 1 = m2 1 := bk 1 (by omega) (by omega)
  have d30 : m3 30 = m2 30 := bk 30 (by omega) (by omega)
  refine ⟨m', ?_, ⟨?_, ?_, ?_, fun j j0 j1 j9 => ?_⟩, ⟨p4, fun j hj => by rw [p5 j hj, d4]⟩, ⟨p6, ?_, fun j j10 j8 => ?_⟩, ⟨by rw [p8, d0], fun j hj => by rw [p9 j hj, d7]⟩, ⟨by rw [q1, d0], q2, q3, by rw [q4, d1, a1 10 (by omega)], q5, ?_, fun k i h1 h2 h3 => ?_⟩, ⟨?_, fun j hj => ?_⟩, fun k h1 h4 h7 h8 h9 h23 h30 => ?_⟩
  · unfold f_L_sendNext_134 f_L_sendNext_168
    rw [if_pos (show xib 9 11 from b_ib (by omega)), if_pos (show xib 9 11 from b_ib (by omega)), ← hm2, ← hV, D_cp_sp, b_bs, ← hQ, ← hm3, p1, b_bs]
  · rw [p2, d30, a30 0 (by omega)]
  · rw [p3, d30, a30 1 (by omega)]
  · rw [p3' 9 (by omega) (by omega), d30, a309]
  · rw [p3' j j0 j1, d30, a30 j j9]
  · rw [p7 8 (by omega), d1, a18]
  · rw [p7 j j10, d1, a1 j j8]
  · rw [q6, ck 23 (by omega) (by omega) (by omega) (by omega)]
  · rw [q7 k i h1 h2 h3, ck k (by omega) (by omega) (by omega) (by omega)]
  · rw [q8 8 (by omega) (by omega) (by omega) (by omega) (by omega), b8]
  · rw [q8 9 (by omega) (by omega) (by omega) (by omega) (by omega), b9 j hj]
  · rw [q8 k h1 h4 h7 h23 h30, ck k h1 h8 h9 h30]
/-- both lines behind a sending: m and N before it -/
theorem L_sent_sp (e o c fr z F S f r : Nat) (b dm mk : Int) (m m1 m' : xM) (N N1 N' : Nat → Int) (he : e < 2) (ho : o = 56 + 717 * e) (hc : c ≤ 100) (h : bRL e m N) (hO : bOut e F S f c r dm m1 m') (hL : bLa e o c fr z b r dm mk N N1)
    (k1 : ∀ k, k ≠ 1 → k ≠ 2 → k ≠ 4 → k ≠ 5 → k ≠ 6 → k ≠ 31 → k ≠ 32 → m1 k = m k) (k11 : ∀ j, j ≠ 5 → m1 1 j = m 1 j) (hN' : ∀ i, (i < o ∨ (o + 3 ≤ i ∧ i < o + 26) ∨ o + 317 ≤ i) → N' i = N1 i)
    (hRF : bRF 4 m' o N') (hRQ : bRQ 1 m' o N') (hRD : bRD 31 32 m1 (o + 7) (o + 10) N1) : bRL e m' N' := by
  obtain ⟨r1, r2, r3, r4, r5, r6⟩ := h
  obtain ⟨⟨o1, o2, o3, o4⟩, ⟨o5, o6⟩, ⟨o7, o8, o9⟩, ⟨o10, o11⟩, ⟨w1, w2, w3, w4, w5, w6, w7⟩, ⟨d1, d2⟩, oo⟩ := hO
  obtain ⟨⟨l1, l2⟩, l3, ⟨l4, l5, l6⟩, -, l7⟩ := hL
  have kk : ∀ k, k ≠ 1 → k ≠ 2 → k ≠ 4 → k ≠ 5 → k ≠ 6 → k ≠ 7 → k ≠ 8 → k ≠ 9 → (k < 23 ∨ 27 < k) → k ≠ 30 → k ≠ 31 → k ≠ 32 → m' k = m k := fun k h1 h2 h4 h5 h6 h7 h8 h9 h23 h30 h31 h32 => by rw [oo k h1 h4 h7 h8 h9 h23 h30, k1 k h1 h2 h4 h5 h6 h31 h32]
  have k30 : m1 30 = m 30 := k1 30 (by omega) (by omega) (by omega) (by omega) (by omega) (by omega) (by omega)
  have nn : ∀ i, (i < o ∨ (o + 3 ≤ i ∧ i < o + 26) ∨ o + 317 ≤ i) → i ≠ o + 5 → i ≠ o + 7 → i ≠ o + 9 → (i < o + 10 ∨ o + 18 ≤ i) → i ≠ 20 → i ≠ 45 → i ≠ 46 → i ≠ 54 → i < 1730 → N' i = N i := fun i h0 h1 h2 h3 h4 h5 h6 h7 h8 h9 => by rw [hN' i h0, l7 i h1 h2 h3 h4 h5 h6 h7 h8 (by omega)]
  unfold bRL at *
  rw [← ho] at r1 ⊢
  refine ⟨⟨hRF, ?_, ?_, hRQ, ?_, ?_⟩, ?_, ?_, ?_, ?_, ?_⟩
  · obtain ⟨c0, x1, x2, x3, x4⟩ := hRD
    exact ⟨c0, x1, by rw [d1, x2], by rw [hN' _ (by omega), x3], fun j hj => by rw [hN' _ (by omega), x4 j hj]; exact (d2 j (by omega)).symm⟩
  · exact r1.2.2.1.cg (by rw [kk _ (by omega) (by omega) (by omega) (by omega) (by omega) (by omega) (by omega) (by omega) (by omega) (by omega) (by omega) (by omega)]) (kk _ (by omega) (by omega) (by omega) (by omega) (by omega) (by omega) (by omega) (by omega) (by omega) (by omega) (by omega) (by omega)) (nn _ (by omega) (by omega) (by omega) (by omega) (by omega) (by omega) (by omega) (by omega) (by omega) (by omega)) (fun j hj => nn _ (by omega) (by omega) (by omega) (by omega) (by omega) (by omega) (by omega) (by omega) (by omega) (by omega))
  · exact r1.2.2.2.2.1.cg (by rw [o9 6 (by omega) (by omega), k11 6 (by omega)]) (kk _ (by omega) (by omega) (by omega) (by omega) (by omega) (by omega) (by omega) (by omega) (by omega) (by omega) (by omega) (by omega)) (nn _ (by omega) (by omega) (by omega) (by omega) (by omega) (by omega) (by omega) (by omega) (by omega) (by omega)) (fun i h1 h2 => nn _ (by omega) (by omega) (by omega) (by omega) (by omega) (by omega) (by omega) (by omega) (by omega) (by omega))
  · obtain ⟨s1, s2, s3, s4, s5, s6⟩ := r1.2.2.2.2.2
    refine ⟨?_, ?_, ?_, ?_, ?_, ?_⟩
    · rw [nn _ (by omega) (by omega) (by omega) (by omega) (by omega) (by omega) (by omega) (by omega) (by omega) (by omega), o9 7 (by omega) (by omega), k11 7 (by omega), s1]
    · rw [hN' _ (by omega), l1, o8, k11 8 (by omega), s2]
    · rw [nn _ (by omega) (by omega) (by omega) (by omega) (by omega) (by omega) (by omega) (by omega) (by omega) (by omega), o9 9 (by omega) (by omega), k11 9 (by omega), s3]
    · rw [hN' _ (by omega), l2, o7]
    · rw [o9 9 (by omega) (by omega), k11 9 (by omega)]; exact s5
    · rw [o7]; exact Or.inl rfl
  · exact r2.cg (fun i h1 h2 => kk i (by omega) (by omega) (by omega) (by omega) (by omega) (by omega) (by omega) (by omega) (by omega) (by omega) (by omega) (by omega)) (fun i h1 h2 => nn i (by omega) (by omega) (by omega) (by omega) (by omega) (by omega) (by omega) (by omega) (by omega) (by omega))
  · exact r3.cg (kk 28 (by omega) (by omega) (by omega) (by omega) (by omega) (by omega) (by omega) (by omega) (by omega) (by omega) (by omega) (by omega)) (kk 29 (by omega) (by omega) (by omega) (by omega) (by omega) (by omega) (by omega) (by omega) (by omega) (by omega) (by omega) (by omega)) (nn 10 (by omega) (by omega) (by omega) (by omega) (by omega) (by omega) (by omega) (by omega) (by omega) (by omega)) (fun i h1 h2 => nn i (by omega) (by omega) (by omega) (by omega) (by omega) (by omega) (by omega) (by omega) (by omega) (by omega))
  · intro w hw
    by_cases w0 : w = 0
    · subst w0; rw [hN' _ (by omega), o1, k30, l4, r4 0 (by omega)]
    · by_cases w1 : w = 1
      · subst w1; rw [hN' _ (by omega), o2, k30, l5, ← r4 1 (by omega)]
      · by_cases w9 : w = 9
        · subst w9; rw [hN' _ (by omega), o3, k30, l6, ← r4 9 (by omega)]
        · rw [nn _ (by omega) (by omega) (by omega) (by omega) (by omega) (by omega) (by omega) (by omega) (by omega) (by omega), o4 w w0 w1 w9, k30, r4 w hw]
  · exact r5.cg (fun k h1 h2 => kk k (by omega) (by omega) (by omega) (by omega) (by omega) (by omega) (by omega) (by omega) (by omega) (by omega) (by omega) (by omega)) (fun i h1 h2 h3 => nn i (by omega) (by omega) (by omega) (by omega) (by omega) (by omega) (by omega) (by omega) (by omega) (by omega))
  · exact r6.cg (fun j h1 h2 => by rw [kk 0 (by omega) (by omega) (by omega) (by omega) (by omega) (by omega) (by omega) (by omega) (by omega) (by omega) (by omega) (by omega)]) (by rw [kk 33 (by omega) (by omega) (by omega) (by omega) (by omega) (by omega) (by omega) (by omega) (by omega) (by omega) (by omega) (by omega)]) (fun i h1 => nn i (by omega) (by omega) (by omega) (by omega) (by omega) (by omega) (by omega) (by omega) (by omega) (by omega))

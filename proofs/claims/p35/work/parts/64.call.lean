/-! ===== dialling ===== -/
set_option maxHeartbeats 16000000 in
theorem L_call_sp (m M : xM) (h : bLine m M) (h0 : m 0 8 = 0) : ∃ m' M' : xM, f_L_call m = some m' ∧ ((f_m_train 0 M).bind fun q2 => f_m_dial_29 fu 0 0 q2) = some (m 36 0 + m 36 1 + m 36 2 + m 36 3, M') ∧ bLine m' M' ∧ m' 0 7 = m 0 7 ∧ (∀ k, 33 ≤ k → k ≤ 37 → m' k = m k) ∧ bMK M M' := by
  obtain ⟨⟨r1, r2, r3, r4, r5, r6⟩, ⟨⟨t1, t2⟩, ⟨x1, x2⟩, ⟨a1, a2, a3, a4, a5, a6, a7, a8⟩, ⟨b1, b2, b3, b4, b5, b6, b7, b8⟩, w⟩, h20, hf, hW⟩ := h
  obtain ⟨s0, s1, s2, s3, s4, s5, s6, s7, s8, s9, s10⟩ := id r6
  obtain ⟨-, -, -, -, -, -, -, -, -, k1, -, -⟩ := id r5
  have c4 := (a5 h0).1
  have c15 := (b5 h0).1
  obtain ⟨m1, hm1⟩ : ∃ Z, Z = xu (xu (xu (xu (xu (xu (xu (xu m 4 3 0) 4 4 0) 4 5 0) 15 3 0) 15 4 0) 15 5 0) 1 7 0) 12 7 0 := ⟨_, rfl⟩
  obtain ⟨m2, hm2⟩ : ∃ Z, Z = xu (xu (xu (xu m1 0 8 1) 0 13 0) 0 11 0) 0 12 (m 36 0) := ⟨_, rfl⟩
  have hq0 : f_F_begin (xvw [4, 5, 6, 7] m) = some (xu (xu (xu (xvw [4, 5, 6, 7] m) 0 3 0) 0 4 0) 0 5 0) := rfl
  have e1 : ∀ (k a b c d : Nat) (x : xM), k ≠ a → k ≠ b → k ≠ c → k ≠ d → True := fun _ _ _ _ _ _ _ _ _ _ => trivial
  have q4 : xmg [4, 5, 6, 7] 4 m (xu (xu (xu (xvw [4, 5, 6, 7] m) 0 3 0) 0 4 0) 0 5 0) = xu (xu (xu m 4 3 0) 4 4 0) 4 5 0 := by
    funext k
    by_cases h4 : k = 4
    · subst h4; rfl
    · rw [xu_K h4, xu_K h4, xu_K h4]
      by_cases h5 : k = 5
      · subst h5; rfl
      · by_cases h6 : k = 6
        · subst h6; rfl
        · by_cases h7 : k = 7
          · subst h7; rfl
          · exact xmg_no _ _ (xpos_not (by simp [h4, h5, h6, h7]))
  have q15 : ∀ x : xM, xmg [15, 16, 17, 18] 4 x (xu (xu (xu (xvw [15, 16, 17, 18] x) 0 3 0) 0 4 0) 0 5 0) = xu (xu (xu x 15 3 0) 15 4 0) 15 5 0 := fun x => by
    funext k
    by_cases h4 : k = 15
    · subst h4; rfl
    · rw [xu_K h4, xu_K h4, xu_K h4]
      by_cases h5 : k = 16
      · subst h5; rfl
      · by_cases h6 : k = 17
        · subst h6; rfl
        · by_cases h7 : k = 18
          · subst h7; rfl
          · exact xmg_no _ _ (xpos_not (by simp [h4, h5, h6, h7]))
  have k1e : ∀ k, k ≠ 1 → k ≠ 4 → k ≠ 12 → k ≠ 15 → m1 k = m k := fun k z1 z4 z12 z15 => by rw [hm1, xu_K z12, xu_K z1, xu_K z15, xu_K z15, xu_K z15, xu_K z4, xu_K z4, xu_K z4]
  have j4 : m1 4 3 = 0 ∧ m1 4 4 = 0 ∧ m1 4 5 = 0 := by
    rw [hm1]; exact ⟨by rfl, by rfl, by rfl⟩
  have j15 : m1 15 3 = 0 ∧ m1 15 4 = 0 ∧ m1 15 5 = 0 := by
    rw [hm1]; exact ⟨by rfl, by rfl, by rfl⟩
  have j1 : ∀ j, j ≠ 7 → m1 1 j = m 1 j := fun j hj => by rw [hm1, xu_k (by omega), xu_d hj, xu_k (by omega), xu_k (by omega), xu_k (by omega), xu_k (by omega), xu_k (by omega), xu_k (by omega)]
  have j12 : ∀ j, j ≠ 7 → m1 12 j = m 12 j := fun j hj => by rw [hm1, xu_d hj, xu_k (by omega), xu_k (by omega), xu_k (by omega), xu_k (by omega), xu_k (by omega), xu_k (by omega), xu_k (by omega)]
  have j17 : m1 1 7 = 0 := by rw [hm1]; rfl
  have j127 : m1 12 7 = 0 := by rw [hm1, xu_s rfl]
  have i0 : ∀ j, j ≠ 8 → j ≠ 11 → j ≠ 12 → j ≠ 13 → m2 0 j = m 0 j := fun j z8 z11 z12 z13 => by rw [hm2, xu_d z12, xu_d z11, xu_d z13, xu_d z8, k1e 0 (by omega) (by omega) (by omega) (by omega)]
  have i8 : m2 0 8 = 1 := by rw [hm2, xu_d (by omega), xu_d (by omega), xu_d (by omega), xu_s rfl]
  have i11 : m2 0 11 = 0 := by rw [hm2, xu_d (by omega), xu_s rfl]
  have i12 : m2 0 12 = m 36 0 := by rw [hm2, xu_s rfl]
  have i13 : m2 0 13 = 0 := by rw [hm2, xu_d (by omega), xu_d (by omega), xu_s rfl]
  have ik : ∀ k, k ≠ 0 → m2 k = m1 k := fun k hk => by rw [hm2, xu_K hk, xu_K hk, xu_K hk, xu_K hk]
  have ikm : ∀ k, k ≠ 0 → k ≠ 1 → k ≠ 4 → k ≠ 12 → k ≠ 15 → m2 k = m k := fun k z0 z1 z4 z12 z15 => by rw [ik k z0, k1e k z1 z4 z12 z15]
  have eC : f_L_call m = some m2 := by
    unfold f_L_call f_F_begin
    rw [b_bs, q4, b_bs, q15]
    unfold f_L_call_28
    rw [← hm1]
    unfold f_L_beginTraining f_L_beginStep f_S_step
    have w36 : xvw bT5 (xu (xu (xu m1 0 8 1) 0 13 0) 0 11 0) 3 = m 36 := by
      show xu (xu (xu m1 0 8 1) 0 13 0) 0 11 0 36 = _
      rw [xu_K (by omega), xu_K (by omega), xu_K (by omega), k1e 36 (by omega) (by omega) (by omega) (by omega)]
    have c0 : ¬ xw 0 < 0 := by decide
    have c1 : xw 0 < xw 4 := by decide
    have c2 : xib 0 4 := by decide
    have c3 : xix 0 = 0 := by decide
    rw [if_neg c0, if_pos c1, if_pos c2, c3, w36, b_bs, b_bs, b_bs, ← hm2]
  -- the reference
  obtain ⟨M1, hM1⟩ : ∃ Z, Z = xu (xu (xu (xu M 1 1 1) 1 4 0) 1 5 (m 36 0)) 1 6 0 := ⟨_, rfl⟩
  obtain ⟨M2, hM2⟩ : ∃ Z, Z = xu (xu (xu (xu M1 1 58 0) 1 59 0) 1 775 0) 1 776 0 := ⟨_, rfl⟩
  have n21 : ∀ s, s < 4 → M1 1 (21 + s) = m 36 s := fun s hs => by rw [hM1, xu_d (by omega), xu_d (by omega), xu_d (by omega), xu_d (by omega), (k1 s hs).1]
  have eT : f_m_train 0 M = some M1 := by
    unfold f_m_train f_m_train_29
    have c1 : xib 1 3530 := b_ib (by omega)
    have c4' : xib 4 3530 := b_ib (by omega)
    have c5 : xib 5 3530 := b_ib (by omega)
    have c6 : xib 6 3530 := b_ib (by omega)
    have c21 : xib (21 + 0) 3530 := b_ib (by omega)
    have x21 : xix (21 + 0) = 21 := by decide
    have v21 : xu (xu M 1 1 1) 1 4 0 1 21 = m 36 0 := by rw [xu_d (by omega), xu_d (by omega)]; exact (k1 0 (by omega)).1
    rw [if_pos c1, if_pos c4', if_pos c21, if_pos c5, if_pos c6, x21, v21, ← hM1]
  have eD : f_m_dial_29 fu 0 0 M1 = some (m 36 0 + m 36 1 + m 36 2 + m 36 3, M2) := by
    have st : ∀ (n : Nat) (x : Int) (s : Nat), s < 4 → f_m_dial_29 (n + 1) x (s : Int) M1 = f_m_dial_29 n (x + m 36 s) ((s + 1 : Nat) : Int) M1 := fun n x s hs => by
      have c1 : xw (s : Int) < xw 4 := by rw [b_xw (by omega), b_xw (by omega)]; omega
      have c2 : xib (21 + (s : Int)) 3530 := b_ib (by omega)
      have c3 : xix (21 + (s : Int)) = 21 + s := by rw [b_ix (by omega)]; omega
      rw [f_m_dial_29, if_pos c1, if_pos c2, c3, n21 s hs, show (s : Int) + 1 = ((s + 1 : Nat) : Int) by omega]
    have c4' : ¬ xw ((4 : Nat) : Int) < xw 4 := by decide
    have d1 : ∀ (n : Nat) (x : Int), f_m_dial_29 (n + 1) x ((4 : Nat) : Int) M1 = f_m_dial_52 x M1 := fun n x => by rw [f_m_dial_29, if_neg c4']
    have d0 : ∀ n : Nat, f_m_dial_29 (n + 5) 0 ((0 : Nat) : Int) M1 = f_m_dial_52 (0 + m 36 0 + m 36 1 + m 36 2 + m 36 3) M1 := fun n => by
      rw [st (n + 4) 0 0 (by omega), st (n + 3) _ 1 (by omega), st (n + 2) _ 2 (by omega), st (n + 1) _ 3 (by omega), d1]
    obtain ⟨n5, h5⟩ : ∃ n : Nat, fu = n + 5 := ⟨4995, rfl⟩
    have d0' : f_m_dial_29 fu 0 0 M1 = f_m_dial_52 (0 + m 36 0 + m 36 1 + m 36 2 + m 36 3) M1 := by rw [h5]; exact d0 n5
    rw [d0']
    unfold f_m_dial_52
    have z0 : xw (0 : Int) < xw 2 := by decide
    have z1 : xw ((0 : Int) + 1) < xw 2 := by decide
    have z2 : ¬ xw ((0 : Int) + 1 + 1) < xw 2 := by decide
    have g0 : ∀ (n : Nat) (x : Int), f_m_dial_54 (n + 3) x 0 M1 = some (x, M2) := fun n x => by
      rw [f_m_dial_54, if_pos z0, m_endAt (i := 58) _ (by omega), b_bs, if_pos (b_ib (by omega)), b_ix (by omega), Int.toNat_natCast, m_endAt (i := 59) _ (by omega), b_bs, if_pos (b_ib (by omega)), b_ix (by omega), Int.toNat_natCast,
        f_m_dial_54, if_pos z1, m_endAt (i := 775) _ (by omega), b_bs, if_pos (b_ib (by omega)), b_ix (by omega), Int.toNat_natCast, m_endAt (i := 776) _ (by omega), b_bs, if_pos (b_ib (by omega)), b_ix (by omega), Int.toNat_natCast, f_m_dial_54, if_neg z2, ← hM2]
    rw [show fu = n5 + 2 + 3 by omega, g0]
    congr 2; omega
  have N : ∀ i, i ≠ 1 → i ≠ 4 → i ≠ 5 → i ≠ 6 → i ≠ 58 → i ≠ 59 → i ≠ 775 → i ≠ 776 → M2 1 i = M 1 i := fun i z1 z4 z5 z6 z58 z59 z75 z76 => by rw [hM2, xu_d z76, xu_d z75, xu_d z59, xu_d z58, hM1, xu_d z6, xu_d z5, xu_d z4, xu_d z1]
  have N1 : M2 1 1 = 1 := by rw [hM2, xu_d (by omega), xu_d (by omega), xu_d (by omega), xu_d (by omega), hM1, xu_d (by omega), xu_d (by omega), xu_d (by omega), xu_s rfl]
  have N4 : M2 1 4 = 0 := by rw [hM2, xu_d (by omega), xu_d (by omega), xu_d (by omega), xu_d (by omega), hM1, xu_d (by omega), xu_d (by omega), xu_s rfl]
  have N5 : M2 1 5 = m 36 0 := by rw [hM2, xu_d (by omega), xu_d (by omega), xu_d (by omega), xu_d (by omega), hM1, xu_d (by omega), xu_s rfl]
  have N6 : M2 1 6 = 0 := by rw [hM2, xu_d (by omega), xu_d (by omega), xu_d (by omega), xu_d (by omega), hM1, xu_s rfl]
  have N58 : M2 1 58 = 0 := by rw [hM2, xu_d (by omega), xu_d (by omega), xu_d (by omega), xu_s rfl]
  have N59 : M2 1 59 = 0 := by rw [hM2, xu_d (by omega), xu_d (by omega), xu_s rfl]
  have N775 : M2 1 775 = 0 := by rw [hM2, xu_d (by omega), xu_s rfl]
  have N776 : M2 1 776 = 0 := by rw [hM2, xu_s rfl]
  obtain ⟨F, C, S, v1, v2, v3, v4, v5, v6, v7, v8, v9⟩ := id r1.1
  obtain ⟨F', C', S', u1, u2, u3, u4, u5, u6, u7, u8, u9⟩ := id r2.1
  rw [show (1 + 3 : Nat) = 4 from rfl] at v2
  rw [show (12 + 3 : Nat) = 15 from rfl] at u2
  have n57 : M 1 57 = 0 := by have : M 1 57 = C := v7; omega
  have n774 : M 1 774 = 0 := by have : M 1 774 = C' := u7; omega
  refine ⟨m2, M2, eC, by rw [eT, b_bs, eD], ⟨⟨⟨?_, ?_, ?_, ?_, ?_, ?_⟩, ⟨?_, ?_, ?_, ?_, ?_, ?_⟩, ?_, ?_, ?_, ?_⟩, ?_, ?_, ?_, fun z => ?_⟩, i0 7 (by omega) (by omega) (by omega) (by omega), fun k z1 z2 => ikm k (by omega) (by omega) (by omega) (by omega) (by omega), bMK.of fun k hk => by rw [hM2, xu_K hk, xu_K hk, xu_K hk, xu_K hk, hM1, xu_K hk, xu_K hk, xu_K hk, xu_K hk]⟩
  · exact ⟨0, 0, 0, by rw [show (1 + 3 : Nat) = 4 from rfl, ik 4 (by omega)]; exact j4.1, by rw [show (1 + 3 : Nat) = 4 from rfl, ik 4 (by omega)]; exact j4.2.1, by rw [show (1 + 3 : Nat) = 4 from rfl, ik 4 (by omega)]; exact j4.2.2, Nat.le_refl _, by omega, by omega, by rw [N _ (by omega) (by omega) (by omega) (by omega) (by omega) (by omega) (by omega) (by omega)]; exact n57, N58, fun p hp => by omega⟩
  · exact r1.2.1.cg (by rw [ikm _ (by omega) (by omega) (by omega) (by omega) (by omega)]) (ikm _ (by omega) (by omega) (by omega) (by omega) (by omega)) (N _ (by omega) (by omega) (by omega) (by omega) (by omega) (by omega) (by omega) (by omega)) (fun j hj => N _ (by omega) (by omega) (by omega) (by omega) (by omega) (by omega) (by omega) (by omega))
  · exact r1.2.2.1.cg (by rw [ikm _ (by omega) (by omega) (by omega) (by omega) (by omega)]) (ikm _ (by omega) (by omega) (by omega) (by omega) (by omega)) (N _ (by omega) (by omega) (by omega) (by omega) (by omega) (by omega) (by omega) (by omega)) (fun j hj => N _ (by omega) (by omega) (by omega) (by omega) (by omega) (by omega) (by omega) (by omega))
  · exact r1.2.2.2.1.cg (by rw [ik 1 (by omega), j1 5 (by omega)]) (ikm _ (by omega) (by omega) (by omega) (by omega) (by omega)) (N _ (by omega) (by omega) (by omega) (by omega) (by omega) (by omega) (by omega) (by omega)) (fun j h1 h2 => N _ (by omega) (by omega) (by omega) (by omega) (by omega) (by omega) (by omega) (by omega))
  · exact r1.2.2.2.2.1.cg (by rw [ik 1 (by omega), j1 6 (by omega)]) (ikm _ (by omega) (by omega) (by omega) (by omega) (by omega)) (N _ (by omega) (by omega) (by omega) (by omega) (by omega) (by omega) (by omega) (by omega)) (fun j h1 h2 => N _ (by omega) (by omega) (by omega) (by omega) (by omega) (by omega) (by omega) (by omega))
  · obtain ⟨g1, g2, g3, g4, g5, g6⟩ := r1.2.2.2.2.2
    exact ⟨by rw [N59, ik 1 (by omega), j17], by rw [N _ (by omega) (by omega) (by omega) (by omega) (by omega) (by omega) (by omega) (by omega), ik 1 (by omega), j1 8 (by omega), g2], by rw [N _ (by omega) (by omega) (by omega) (by omega) (by omega) (by omega) (by omega) (by omega), ik 1 (by omega), j1 9 (by omega), g3], by rw [N _ (by omega) (by omega) (by omega) (by omega) (by omega) (by omega) (by omega) (by omega), ik 1 (by omega), j1 10 (by omega), g4], by rw [ik 1 (by omega), j1 9 (by omega)]; exact g5, by rw [ik 1 (by omega), j1 10 (by omega)]; exact g6⟩
  · exact ⟨0, 0, 0, by rw [show (12 + 3 : Nat) = 15 from rfl, ik 15 (by omega)]; exact j15.1, by rw [show (12 + 3 : Nat) = 15 from rfl, ik 15 (by omega)]; exact j15.2.1, by rw [show (12 + 3 : Nat) = 15 from rfl, ik 15 (by omega)]; exact j15.2.2, Nat.le_refl _, by omega, by omega, by rw [N _ (by omega) (by omega) (by omega) (by omega) (by omega) (by omega) (by omega) (by omega)]; exact n774, N775, fun p hp => by omega⟩
  · exact r2.2.1.cg (by rw [ikm _ (by omega) (by omega) (by omega) (by omega) (by omega)]) (ikm _ (by omega) (by omega) (by omega) (by omega) (by omega)) (N _ (by omega) (by omega) (by omega) (by omega) (by omega) (by omega) (by omega) (by omega)) (fun j hj => N _ (by omega) (by omega) (by omega) (by omega) (by omega) (by omega) (by omega) (by omega))
  · exact r2.2.2.1.cg (by rw [ikm _ (by omega) (by omega) (by omega) (by omega) (by omega)]) (ikm _ (by omega) (by omega) (by omega) (by omega) (by omega)) (N _ (by omega) (by omega) (by omega) (by omega) (by omega) (by omega) (by omega) (by omega)) (fun j hj => N _ (by omega) (by omega) (by omega) (by omega) (by omega) (by omega) (by omega) (by omega))
  · exact r2.2.2.2.1.cg (by rw [ik 12 (by omega), j12 5 (by omega)]) (ikm _ (by omega) (by omega) (by omega) (by omega) (by omega)) (N _ (by omega) (by omega) (by omega) (by omega) (by omega) (by omega) (by omega) (by omega)) (fun j h1 h2 => N _ (by omega) (by omega) (by omega) (by omega) (by omega) (by omega) (by omega) (by omega))
  · exact r2.2.2.2.2.1.cg (by rw [ik 12 (by omega), j12 6 (by omega)]) (ikm _ (by omega) (by omega) (by omega) (by omega) (by omega)) (N _ (by omega) (by omega) (by omega) (by omega) (by omega) (by omega) (by omega) (by omega)) (fun j h1 h2 => N _ (by omega) (by omega) (by omega) (by omega) (by omega) (by omega) (by omega) (by omega))
  · obtain ⟨g1, g2, g3, g4, g5, g6⟩ := r2.2.2.2.2.2
    exact ⟨by rw [N776, ik 12 (by omega), j127], by rw [N _ (by omega) (by omega) (by omega) (by omega) (by omega) (by omega) (by omega) (by omega), ik 12 (by omega), j12 8 (by omega), g2], by rw [N _ (by omega) (by omega) (by omega) (by omega) (by omega) (by omega) (by omega) (by omega), ik 12 (by omega), j12 9 (by omega), g3], by rw [N _ (by omega) (by omega) (by omega) (by omega) (by omega) (by omega) (by omega) (by omega), ik 12 (by omega), j12 10 (by omega), g4], by rw [ik 12 (by omega), j12 9 (by omega)]; exact g5, by rw [ik 12 (by omega), j12 10 (by omega)]; exact g6⟩
  · exact r3.cg (ikm _ (by omega) (by omega) (by omega) (by omega) (by omega)) (ikm _ (by omega) (by omega) (by omega) (by omega) (by omega)) (N _ (by omega) (by omega) (by omega) (by omega) (by omega) (by omega) (by omega) (by omega)) (fun i h1 h2 => N _ (by omega) (by omega) (by omega) (by omega) (by omega) (by omega) (by omega) (by omega))
  · exact r4.cg (ikm _ (by omega) (by omega) (by omega) (by omega) (by omega)) (fun i h1 h2 => N _ (by omega) (by omega) (by omega) (by omega) (by omega) (by omega) (by omega) (by omega))
  · exact r5.cg (fun k h1 h2 => ikm k (by omega) (by omega) (by omega) (by omega) (by omega)) (fun i h1 h2 h3 => N _ (by omega) (by omega) (by omega) (by omega) (by omega) (by omega) (by omega) (by omega))
  · unfold bRSc
    rw [ikm 33 (by omega) (by omega) (by omega) (by omega) (by omega), i8, i11, i12, i13, i0 7 (by omega) (by omega) (by omega) (by omega), i0 9 (by omega) (by omega) (by omega) (by omega), i0 10 (by omega) (by omega) (by omega) (by omega), i0 14 (by omega) (by omega) (by omega) (by omega), i0 15 (by omega) (by omega) (by omega) (by omega), i0 16 (by omega) (by omega) (by omega) (by omega), N1, N4, N5, N6,
      N 0 (by omega) (by omega) (by omega) (by omega) (by omega) (by omega) (by omega) (by omega), N 2 (by omega) (by omega) (by omega) (by omega) (by omega) (by omega) (by omega) (by omega), N 3 (by omega) (by omega) (by omega) (by omega) (by omega) (by omega) (by omega) (by omega), N 7 (by omega) (by omega) (by omega) (by omega) (by omega) (by omega) (by omega) (by omega), N 8 (by omega) (by omega) (by omega) (by omega) (by omega) (by omega) (by omega) (by omega), N 9 (by omega) (by omega) (by omega) (by omega) (by omega) (by omega) (by omega) (by omega)]
    exact ⟨s0, rfl, s2, s3, s4, s5, fun _ => ⟨⟨rfl, rfl, rfl⟩, by omega, by omega⟩, fun z => by omega, by omega, s9, s10⟩
  · unfold bB bBe
    rw [i0 7 (by omega) (by omega) (by omega) (by omega), i8, ikm 30 (by omega) (by omega) (by omega) (by omega) (by omega), ikm 23 (by omega) (by omega) (by omega) (by omega) (by omega), ik 4 (by omega), ik 15 (by omega), ik 1 (by omega), ik 12 (by omega), j4.1, j4.2.1, j15.1, j15.2.1, j17, j127, j1 5 (by omega), j1 6 (by omega), j1 8 (by omega), j12 5 (by omega), j12 6 (by omega), j12 8 (by omega)]
    exact ⟨⟨t1, t2⟩, ⟨x1, x2⟩, ⟨by omega, by omega, by omega, fun _ => by omega, fun z => by omega, a6, a7, a8⟩, ⟨by omega, by omega, by omega, fun _ => by omega, fun z => by omega, b6, b7, b8⟩, fun _ => w (by omega)⟩
  · rw [N 20 (by omega) (by omega) (by omega) (by omega) (by omega) (by omega) (by omega) (by omega), ikm 23 (by omega) (by omega) (by omega) (by omega) (by omega), h20]
  · rw [ikm 23 (by omega) (by omega) (by omega) (by omega) (by omega)]; exact hf
  · rw [i8] at z; exact absurd z (by decide)

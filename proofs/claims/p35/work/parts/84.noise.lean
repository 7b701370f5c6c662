/-! ===== the clause noise ===== -/
theorem m_check_0 {z : Int} {M M' : xM} (h : f_m_check 0 z M = some M') : f_m_check 0 z M = some M' := h
theorem no_noise {B : Nat → Int} {L : Nat} {c : Int} {q : Nat} {M : xM} (h : bNoM B L c q M) (n : Nat) : f_m_readNoise_33 (n + 1) M = some M := by
  rw [f_m_readNoise_33, if_neg h.ne]
/-- one number of the noise, by the reference -/
theorem noise_one {B : Nat → Int} {L s e : Nat} {m M : xM} (n C : Nat) (h : bGo B L s e (m 0) (m 1) M) (hk : bK B L s = 2) (hC : M 2 19 = C) (hC2 : C ≤ 10) : (∃ (V : Int) (m' M' : xM) (s' e' : Nat), C < 10 ∧ f_T_takeNumber 0 9 m = some (V, m') ∧ 0 ≤ V ∧ V ≤ 9 ∧ f_m_readNoise_33 (n + 1) M = f_m_readNoise_33 n M' ∧ bFc m m' ∧ bF2 M M' ∧ M' 2 (25 + C) = V ∧ M' 2 19 = ((C + 1 : Nat) : Int) ∧ (∀ i, i ≠ 25 + C → i ≠ 19 → M' 2 i = M 2 i) ∧ s < s' ∧ bGo B L s' e' (m' 0) (m' 1) M') ∨ (∃ m' M' : xM, f_T_hasNumber 0 9 m = some (0, m') ∧ f_m_readNoise_33 (n + 1) M = f_m_readNoise_33 n M' ∧ bFc m m' ∧ bFm M M' ∧ bEr B L (m' 0) M') ∨ (C = 10 ∧ ∃ m' M' : xM, f_T_hasNumber 0 9 m = some (1, m) ∧ f_T_fail 3 m = some (0, m') ∧ f_m_readNoise_33 (n + 1) M = f_m_readNoise_33 n M' ∧ bFc m m' ∧ bFm M M' ∧ bEr B L (m' 0) M') := by
  obtain ⟨V, v1, v2, v3⟩ := go_value h hk
  have wv : xw (m 0 5) = m 0 5 := b_xw (by rw [v3]; split <;> omega)
  have w0 : xw (M 0 18) = 0 := by rw [h.err]; decide
  have hk2 : xw (m 0 2) = xw 2 := by rw [h.isK.1, hk]
  have hk3 : xw (M 0 17) = xw 2 := by rw [h.isK.2, hk]
  have hb19 : xib 19 3530 := b_ib (by omega)
  have er : f_m_readNoise_33 (n + 1) M = (Option.bind (f_m_check (if 0 ≤ V ∧ V ≤ 9 then 1 else 0) 2 M) fun q3 => (if xw (q3 0 18) = 0 then (if xib 19 3530 then (if xw (q3 2 19) < xw 10 then f_m_readNoise_83 (f_m_readNoise_33 n) q3 else f_m_readNoise_88 (f_m_readNoise_33 n) 0 q3) else none) else f_m_readNoise_83 (f_m_readNoise_33 n) q3)) := by
    rw [f_m_readNoise_33, if_pos w0, if_pos hk3, v1, Option.bind_some, m_inR V 0 9 _ ⟨by omega, by omega⟩ ⟨by omega, by omega⟩ ⟨by omega, by omega⟩, Option.bind_some]
  rw [er]
  have e9 : xw 9 = 9 := rfl
  have e00 : xw 0 = 0 := rfl
  by_cases hr : 0 ≤ V ∧ V ≤ 9
  · have v5 : m 0 5 = V := by rw [v3, if_neg (by omega)]
    have hh : f_T_hasNumber 0 9 m = some (1, m) := by
      unfold f_T_hasNumber
      rw [if_pos hk2, wv, v5, e00, e9, if_neg (show ¬ V < 0 by omega), if_neg (show ¬ 9 < V by omega)]
      rfl
    rw [if_pos hr, m_check_1, Option.bind_some, if_pos w0, if_pos hb19, hC]
    by_cases hC3 : C < 10
    · left
      rw [if_pos (show xw (C : Int) < xw 10 by rw [b_xw (by omega), b_xw (by omega)]; omega)]
      unfold f_m_readNoise_83 f_m_readNoise_88
      have e25 : (25 : Int) + (M 2 19) = ((25 + C : Nat) : Int) := by rw [hC]; omega
      have hx : xix ((25 + C : Nat) : Int) = 25 + C := by rw [b_ix (by omega)]; exact Int.toNat_natCast _
      rw [m_check_1, Option.bind_some, if_pos w0, if_pos hb19, v1, Option.bind_some, e25, if_pos (b_ib (by omega)), if_pos hb19, if_pos hb19, hx]
      unfold f_m_readNoise_129
      obtain ⟨M4, hM4⟩ : ∃ Z, Z = xu (xu M 2 (25 + C) V) 2 19 ((xu M 2 (25 + C) V) 2 19 + 1) := ⟨_, rfl⟩
      rw [← hM4]
      have g4 : bGo B L s e (m 0) (m 1) M4 := h.cgM (by rw [hM4, xu_K (by omega), xu_K (by omega)]) (by rw [hM4, xu_K (by omega), xu_K (by omega)])
      obtain ⟨m', M', s', e', b1, b2, b3, b4, b5, b6⟩ := g4.next
      have := g4.lt (by omega)
      rw [m_advance_0 g4.err, b2, Option.bind_some]
      refine ⟨V, m', M', s', e', hC3, ?_, hr.1, hr.2, rfl, b4, ?_, ?_, ?_, fun i h1 h2 => ?_, by omega, b3⟩
      · unfold f_T_takeNumber
        rw [hh, Option.bind_some]
        dsimp only
        rw [if_neg (show ¬ xw 1 = 0 by decide), b1, Option.bind_some, v5]
      · refine bF2.trans ?_ b5.to
        rw [hM4]
        have hput : 25 + C = 2 ∨ (11 ≤ 25 + C ∧ 25 + C < 20) ∨ (21 ≤ 25 + C ∧ 25 + C < 45) := by omega
        exact (bF2.put hput).trans (bF2.put (by decide))
      · rw [b5.1 2 (by omega), hM4, xu_d (by omega), xu_s rfl]
      · rw [b5.1 2 (by omega), hM4, xu_s rfl, xu_d (by omega), hC]; omega
      · rw [b5.1 2 (by omega), hM4, xu_d h2, xu_d h1]
    · right; right
      rw [if_neg (show ¬ xw (C : Int) < xw 10 by rw [b_xw (by omega), b_xw (by omega)]; omega)]
      unfold f_m_readNoise_88
      obtain ⟨m', M', b1, b2, b3, b4, b5⟩ := h.fail 3 0 (by omega) rfl
      rw [b2, Option.bind_some, if_neg b3.ne]
      unfold f_m_readNoise_129
      obtain ⟨c, r, u1, u2⟩ := b3
      rw [u2.advance, Option.bind_some]
      exact ⟨by omega, m', M', hh, b1, rfl, b4, b5, c, r, u1, u2⟩
  · right; left
    rw [if_neg hr]
    obtain ⟨m', M', b1, b2, b3, b4, b5⟩ := h.fail 2 0 (by omega) rfl
    rw [b2, Option.bind_some, if_neg b3.ne]
    unfold f_m_readNoise_83 f_m_readNoise_88
    obtain ⟨c, r, u1, u2⟩ := b3
    rw [u2.check, Option.bind_some, if_neg u2.ne]
    unfold f_m_readNoise_129
    rw [u2.advance, Option.bind_some]
    refine ⟨m', M', ?_, rfl, b4, b5, c, r, u1, u2⟩
    have e31 : f_T_hasNumber_30 0 9 m = some (0, m') := by
      unfold f_T_hasNumber_30
      rw [b1, Option.bind_some, if_pos (show xw 0 = 0 by decide)]
    unfold f_T_hasNumber
    rw [if_pos hk2, e31, wv, e00, e9]
    by_cases c1 : m 0 5 < 0
    · rw [if_pos c1]
    · rw [if_neg c1, if_pos]
      rw [v3] at c1 ⊢
      split at c1 <;> split <;> omega
/-- the rest of the noise -/
theorem R_noises_30_sp {B : Nat → Int} {L f0 : Nat} (n n' : Nat) : ∀ (k C : Nat) (m M : xM), C + k = 10 → 1 ≤ C → (∃ s e, f0 ≤ s ∧ bGo B L s e (m 1) (m 2) M) → M 2 19 = C → m 3 5 = C → (∀ i, i < C → M 2 (25 + i) = m 7 i ∧ 0 ≤ m 7 i ∧ m 7 i ≤ 9) → ∃ m1 M1 M' : xM, f_R_noises_30 (n + k + 1) (C : Int) m = some m1 ∧ f_m_readNoise_33 (n' + k + 2) M = some M1 ∧ f_m_expect 59 M1 = some M' ∧ bFR m m1 ∧ bF2 M M' ∧ (∀ i, i ≠ 19 → (i < 25 ∨ 35 ≤ i) → M' 2 i = M 2 i) ∧ ((∃ s e, f0 < s ∧ bGo B L s e (m1 1) (m1 2) M' ∧ (∀ k, k ≠ 1 → k ≠ 3 → k ≠ 7 → m1 k = m k) ∧ (∀ i, i ≠ 5 → m1 3 i = m 3 i) ∧ ∃ C' : Nat, 1 ≤ C' ∧ C' ≤ 10 ∧ M' 2 19 = C' ∧ m1 3 5 = C' ∧ ∀ i, i < C' → M' 2 (25 + i) = m1 7 i ∧ 0 ≤ m1 7 i ∧ m1 7 i ≤ 9) ∨ bEr B L (m1 1) M') := by
  have fin : ∀ (C : Nat) (m M : xM) (N : Nat), 1 ≤ C ∧ C ≤ 10 → (∃ s e, f0 ≤ s ∧ bGo B L s e (m 1) (m 2) M ∧ bK B L s ≠ 2) → M 2 19 = C → m 3 5 = C → (∀ i, i < C → M 2 (25 + i) = m 7 i ∧ 0 ≤ m 7 i ∧ m 7 i ≤ 9) → ∃ m1 M1 M' : xM, f_R_noises_76 m = some m1 ∧ f_m_readNoise_33 (N + 1) M = some M1 ∧ f_m_expect 59 M1 = some M' ∧ bFR m m1 ∧ bF2 M M' ∧ (∀ i, i ≠ 19 → (i < 25 ∨ 35 ≤ i) → M' 2 i = M 2 i) ∧ ((∃ s e, f0 < s ∧ bGo B L s e (m1 1) (m1 2) M' ∧ (∀ k, k ≠ 1 → k ≠ 3 → k ≠ 7 → m1 k = m k) ∧ (∀ i, i ≠ 5 → m1 3 i = m 3 i) ∧ ∃ C' : Nat, 1 ≤ C' ∧ C' ≤ 10 ∧ M' 2 19 = C' ∧ m1 3 5 = C' ∧ ∀ i, i < C' → M' 2 (25 + i) = m1 7 i ∧ 0 ≤ m1 7 i ∧ m1 7 i ≤ 9) ∨ bEr B L (m1 1) M') := fun C m M N hC h hM hm hi => by
    obtain ⟨s, e, h1, h2, h3⟩ := h
    have kin := bK_in B L s
    have k1 : ¬ xw (m 1 2) = xw 2 := by
      rw [h2.isK.1, b_xw (by omega)]; exact h3
    have k2 : ¬ xw (M 0 17) = xw 2 := by
      rw [h2.isK.2, b_xw (by omega)]; exact h3
    unfold f_R_noises_76 f_R_noises_109
    rw [if_neg k1, f_m_readNoise_33, if_pos (show xw (M 0 18) = 0 by rw [h2.err]; decide), if_neg k2]
    obtain ⟨m', M', q, x, b1, b2, b3, b4, b5, b6, b7⟩ := R_sign (m := m) (M := M) (f := f0) (B := B) (L := L) 59 (by omega) (Or.inl ⟨s, e, h1, h2⟩)
    rw [b1, Option.bind_some, b2]
    refine ⟨m', M, M', rfl, rfl, b3, ⟨fun k hk => b5 k (by omega), b4⟩, b6.to, fun i _ _ => by rw [b6.1 2 (by omega)], ?_⟩
    rcases b7 with ⟨_, s', e', c1, c2⟩ | ⟨_, c2⟩
    · exact Or.inl ⟨s', e', c1, c2, fun k a1 _ _ => b5 k a1, fun i _ => by rw [b5 3 (by omega)], C, hC.1, hC.2, by rw [b6.1 2 (by omega), hM], by rw [b5 3 (by omega), hm], fun i hi2 => by rw [b6.1 2 (by omega), b5 7 (by omega)]; exact hi i hi2⟩
    · exact Or.inr c2
  intro k
  induction k with
  | zero =>
    intro C m M hC hC1 h hM hm hi
    rw [f_R_noises_30, if_neg (show ¬ xw (C : Int) < xw 10 by rw [b_xw (by omega), b_xw (by omega)]; omega)]
    obtain ⟨s, e, h1, h2⟩ := h
    by_cases hk : bK B L s = 2
    · have k1 : xw (m 1 2) = xw 2 := by rw [h2.isK.1, hk]
      unfold f_R_noises_76
      rw [if_pos k1]
      rcases noise_one (m := xvw [1, 2] m) (n' + 1) C h2 hk hM (by omega) with ⟨V, _, _, _, _, c, _⟩ | ⟨q, M', c1, c2, c3, c4, c, r, u1, u2⟩ | ⟨_, q, M', c1, c0, c2, c3, c4, c, r, u1, u2⟩
      · omega
      · obtain ⟨n1, w1, w2, w3, w4, w5, w6⟩ := R_mg m q c3
        rw [c1, Option.bind_some]
        dsimp only
        rw [if_pos (show xw 0 = 0 by decide), w1]
        unfold f_R_noises_109
        have hno : bNo c r ((xvw [1, 2] n1) 0) := by rw [show xvw [1, 2] n1 0 = q 0 from w2]; exact u1
        rw [hno.takeSign, Option.bind_some]
        dsimp only
        rw [xmg_self [1, 2] 2 (by omega) n1, show n' + 0 + 2 = (n' + 1) + 1 from rfl, c2, no_noise u2 n']
        exact ⟨n1, M', M', rfl, rfl, u2.expect, ⟨fun k hk => w4 k (by omega), w5, w6⟩, c4.to, fun i _ _ => by rw [c4.1 2 (by omega)], Or.inr ⟨c, r, hno, u2⟩⟩
      · obtain ⟨n1, w1, w2, w3, w4, w5, w6⟩ := R_mg m q c3
        rw [c1, Option.bind_some]
        dsimp only
        rw [if_neg (show ¬ xw 1 = 0 by decide), xmg_self [1, 2] 2 (by omega) m, c0, Option.bind_some]
        dsimp only
        rw [w1]
        unfold f_R_noises_109
        have hno : bNo c r ((xvw [1, 2] n1) 0) := by rw [show xvw [1, 2] n1 0 = q 0 from w2]; exact u1
        rw [hno.takeSign, Option.bind_some]
        dsimp only
        rw [xmg_self [1, 2] 2 (by omega) n1, show n' + 0 + 2 = (n' + 1) + 1 from rfl, c2, no_noise u2 n']
        exact ⟨n1, M', M', rfl, rfl, u2.expect, ⟨fun k hk => w4 k (by omega), w5, w6⟩, c4.to, fun i _ _ => by rw [c4.1 2 (by omega)], Or.inr ⟨c, r, hno, u2⟩⟩
    · exact fin C m M (n' + 1) (by omega) ⟨s, e, h1, h2, hk⟩ hM hm hi
  | succ k ih =>
    intro C m M hC hC1 h hM hm hi
    obtain ⟨s, e, h1, h2⟩ := h
    rw [show n + (k + 1) + 1 = (n + k + 1) + 1 by omega, f_R_noises_30, if_pos (show xw (C : Int) < xw 10 by rw [b_xw (by omega), b_xw (by omega)]; omega)]
    by_cases hk : bK B L s = 2
    · have k1 : xw (m 1 2) = xw 2 := by rw [h2.isK.1, hk]
      have hx : xix (C : Int) = C := by rw [b_ix (by omega)]; exact Int.toNat_natCast _
      rw [if_pos k1, show n' + (k + 1) + 2 = (n' + k + 2) + 1 by omega]
      rcases noise_one (m := xvw [1, 2] m) (n' + k + 2) C h2 hk hM (by omega) with ⟨V, q, M', s', e', c0, c1, v1, v2, c2, c3, c4, c5, c6, c7, c8, c9⟩ | ⟨q, M', c1, c2, c3, c4, c, r, u1, u2⟩ | ⟨_, q, M', c1, c0, c2, c3, c4, c, r, u1, u2⟩
      · obtain ⟨n1, w1, w2, w3, w4, w5, w6⟩ := R_mg m q c3
        rw [c1, Option.bind_some]
        dsimp only
        rw [if_pos (b_ib (by omega)), w1, hx, c2, show (C : Int) + 1 = ((C + 1 : Nat) : Int) by omega]
        obtain ⟨Y, hY⟩ : ∃ Y, Y = xu (xu n1 7 C V) 3 5 ((C + 1 : Nat) : Int) := ⟨_, rfl⟩
        rw [← hY]
        have y1 : Y 1 = q 0 := by rw [hY, xu_K (by omega), xu_K (by omega), w2]
        have y2 : Y 2 = q 1 := by rw [hY, xu_K (by omega), xu_K (by omega), w3]
        have yk : ∀ k, k ≠ 1 → k ≠ 3 → k ≠ 7 → Y k = m k := fun k a1 a3 a7 => by rw [hY, xu_K a3, xu_K a7, w4 k a1]
        have y3 : ∀ i, i ≠ 5 → Y 3 i = m 3 i := fun i hi => by rw [hY, xu_d hi, xu_K (by omega), w4 3 (by omega)]
        have yF : bFR m Y := ⟨fun k hk => yk k (by omega) (by omega) (by omega), by rw [hY, xu_k (by omega), xu_k (by omega), w5], by rw [hY, xu_k (by omega), xu_k (by omega), w6]⟩
        obtain ⟨m1, M1, M2, d1, d2, d3, d4, d5, d6, d7⟩ := ih (C + 1) Y M' (by omega) (by omega) ⟨s', e', by omega, by rw [y1, y2]; exact c9⟩ c6 (by rw [hY, xu_s rfl]) (fun i hi2 => by
          by_cases hic : i = C
          · rw [hic, c5, hY, xu_k (by omega), xu_s rfl]; exact ⟨rfl, v1, v2⟩
          · rw [c7 _ (by omega) (by omega), hY, xu_k (by omega), xu_d hic, w4 7 (by omega)]; exact hi i (by omega))
        refine ⟨m1, M1, M2, d1, d2, d3, yF.trans d4, c4.trans d5, fun i a1 a2 => by rw [d6 i a1 a2, c7 i (by omega) a1], ?_⟩
        rcases d7 with ⟨s2, e2, f1, f2, f3, f4, f5⟩ | f2
        · exact Or.inl ⟨s2, e2, f1, f2, fun k a1 a3 a7 => by rw [f3 k a1 a3 a7, yk k a1 a3 a7], fun i hi => by rw [f4 i hi, y3 i hi], f5⟩
        · exact Or.inr f2
      · obtain ⟨n1, w1, w2, w3, w4, w5, w6⟩ := R_mg m q c3
        have ht : f_T_takeNumber 0 9 (xvw [1, 2] m) = some (-1, q) := by
          unfold f_T_takeNumber
          rw [c1, Option.bind_some]
          dsimp only
          rw [if_pos (show xw 0 = 0 by decide)]
        rw [ht, Option.bind_some]
        dsimp only
        rw [if_pos (b_ib (by omega)), w1, hx, c2, show n' + k + 2 = (n' + k + 1) + 1 by omega, no_noise u2]
        obtain ⟨Y, hY⟩ : ∃ Y, Y = xu (xu n1 7 C (-1)) 3 5 ((C : Int) + 1) := ⟨_, rfl⟩
        rw [← hY]
        have y1 : Y 1 = q 0 := by rw [hY, xu_K (by omega), xu_K (by omega), w2]
        have hno : bNo c r ((xvw [1, 2] Y) 0) := by rw [show xvw [1, 2] Y 0 = q 0 from y1]; exact u1
        have hk4 : ¬ xw (Y 1 2) = xw 2 := by rw [show Y 1 2 = 4 from hno.1]; decide
        have e76 : f_R_noises_76 Y = some Y := by
          unfold f_R_noises_76 f_R_noises_109
          rw [if_neg hk4, hno.takeSign, Option.bind_some]
          dsimp only
          rw [xmg_self [1, 2] 2 (by omega) Y]
        rw [f_R_noises_30, e76]
        have e77 : (if xw ((C : Int) + 1) < xw 10 then (if xw (Y 1 2) = xw 2 then (Option.bind (f_T_takeNumber 0 9 (xvw [1, 2] Y)) fun q5 => (if xib ((C : Int) + 1) 10 then f_R_noises_30 (n + k) (((C : Int) + 1) + 1) (xu (xu (xmg [1, 2] 2 Y q5.2) 7 (xix ((C : Int) + 1)) q5.1) 3 5 (((C : Int) + 1) + 1)) else none)) else some Y) else some Y) = some Y := by
          rw [if_neg hk4]
          split <;> rfl
        refine ⟨Y, M', M', e77, rfl, u2.expect, ⟨fun k hk => by rw [hY, xu_K (by omega), xu_K (by omega), w4 k (by omega)], by rw [hY, xu_k (by omega), xu_k (by omega), w5], by rw [hY, xu_k (by omega), xu_k (by omega), w6]⟩, c4.to, fun i _ _ => by rw [c4.1 2 (by omega)], Or.inr ⟨c, r, hno, u2⟩⟩
      · omega
    · have k1 : ¬ xw (m 1 2) = xw 2 := by
        have kin := bK_in B L s
        rw [h2.isK.1, b_xw (by omega)]; exact hk
      rw [if_neg k1]
      exact fin C m M (n' + (k + 1) + 1) (by omega) ⟨s, e, h1, h2, hk⟩ hM hm hi
theorem R_noises_no {m n0 q : xM} {c : Int} {r : Nat} (hh : f_T_hasNumber 0 9 (xvw [1, 2] n0) = some (0, q)) (hq : bFc (xvw [1, 2] n0) q) (u1 : bNo c r (q 0)) (hF : bFR m n0) : ∃ m' : xM, (Option.bind (f_T_takeNumber 0 9 (xvw [1, 2] n0)) fun q1 => (if xib 0 10 then f_R_noises_30 fu 1 (xu (xu (xmg [1, 2] 2 n0 q1.2) 7 0 q1.1) 3 5 1) else none)) = some m' ∧ bFR m m' ∧ m' 1 = q 0 := by
  obtain ⟨n1, w1, w2, w3, w4, w5, w6⟩ := R_mg n0 q hq
  have ht : f_T_takeNumber 0 9 (xvw [1, 2] n0) = some (-1, q) := by
    unfold f_T_takeNumber
    rw [hh, Option.bind_some]
    dsimp only
    rw [if_pos (show xw 0 = 0 by decide)]
  rw [ht, Option.bind_some]
  dsimp only
  rw [if_pos (b_ib (by omega)), w1]
  obtain ⟨Y, hY⟩ : ∃ Y, Y = xu (xu n1 7 0 (-1)) 3 5 1 := ⟨_, rfl⟩
  rw [← hY]
  have y1 : Y 1 = q 0 := by rw [hY, xu_K (by omega), xu_K (by omega), w2]
  have hno : bNo c r ((xvw [1, 2] Y) 0) := by rw [show xvw [1, 2] Y 0 = q 0 from y1]; exact u1
  have hk4 : ¬ xw (Y 1 2) = xw 2 := by rw [show Y 1 2 = 4 from hno.1]; decide
  have e76 : f_R_noises_76 Y = some Y := by
    unfold f_R_noises_76 f_R_noises_109
    rw [if_neg hk4, hno.takeSign, Option.bind_some]
    dsimp only
    rw [xmg_self [1, 2] 2 (by omega) Y]
  have e30 : f_R_noises_30 (4999 + 1) 1 Y = some Y := by
    rw [f_R_noises_30, e76, if_neg hk4]
    split <;> rfl
  exact ⟨Y, e30, hF.trans ⟨fun k hk => by rw [hY, xu_K (by omega), xu_K (by omega), w4 k (by omega)], by rw [hY, xu_k (by omega), xu_k (by omega), w5], by rw [hY, xu_k (by omega), xu_k (by omega), w6]⟩, y1⟩
/-- the clause noise -/
theorem R_noises_sp {B : Nat → Int} {L f0 : Nat} {m q6 M M6 : xM} (hn : f_T_next (xvw [1, 2] m) = some q6) (hq : bFc (xvw [1, 2] m) q6) (hM : bFm M M6) (h : ∃ s e, f0 ≤ s ∧ bGo B L s e (q6 0) (q6 1) M6) (hd : bDr m M) : ∃ (m' M1 M' : xM), f_R_noises m = some m' ∧ f_m_readNoise M6 = some M1 ∧ f_m_expect 59 M1 = some M' ∧ bFR m m' ∧ bF2 M M' ∧ ((∃ s' e', f0 < s' ∧ bGo B L s' e' (m' 1) (m' 2) M' ∧ bDr m' M') ∨ bEr B L (m' 1) M') := by
  obtain ⟨n0, e1, e2, e3, e4, e5, e6⟩ := R_mg m q6 hq
  obtain ⟨s, e, hf, hg⟩ := h
  unfold f_R_noises f_m_readNoise
  rw [hn, Option.bind_some, e1]
  obtain ⟨M7, hM7⟩ : ∃ Z, Z = xu M6 2 19 0 := ⟨_, rfl⟩
  rw [if_pos (b_ib (by omega)), ← hM7]
  have F7 : bF2 M M7 := by rw [hM7]; exact hM.to.trans (bF2.put (by decide))
  have g7 : bGo B L s e ((xvw [1, 2] n0) 0) ((xvw [1, 2] n0) 1) M7 := by
    rw [show xvw [1, 2] n0 0 = q6 0 from e2, show xvw [1, 2] n0 1 = q6 1 from e3]
    exact hg.cgM (by rw [hM7, xu_K (by omega)]) (by rw [hM7, xu_K (by omega)])
  have w0 : xw (M6 0 18) = 0 := by rw [hg.err]; decide
  have kin := bK_in B L s
  rw [if_pos w0]
  unfold f_R_noises_28
  by_cases hk : bK B L s = 2
  · rw [if_pos (show xw (M6 0 17) = xw 2 by rw [hg.isK.2, hk])]
    unfold f_m_readNoise_24 f_m_readNoise_29
    rw [m_check_1, Option.bind_some]
    rcases noise_one (m := xvw [1, 2] n0) 4999 0 g7 hk (by rw [hM7, xu_s rfl]; rfl) (by omega) with ⟨V, q, M', s', e', c0, c1, v1, v2, c2, c3, c4, c5, c6, c7, c8, c9⟩ | ⟨q, M', c1, c2, c3, c4, c, r, u1, u2⟩ | ⟨hbad, _⟩
    · obtain ⟨n1, w1, w2, w3, w4, w5, w6⟩ := R_mg n0 q c3
      rw [c1, Option.bind_some]
      dsimp only
      rw [if_pos (b_ib (by omega)), w1]
      obtain ⟨Y, hY⟩ : ∃ Y, Y = xu (xu n1 7 0 V) 3 5 1 := ⟨_, rfl⟩
      rw [← hY]
      have y1 : Y 1 = q 0 := by rw [hY, xu_K (by omega), xu_K (by omega), w2]
      have y2 : Y 2 = q 1 := by rw [hY, xu_K (by omega), xu_K (by omega), w3]
      have yk : ∀ k, k ≠ 1 → k ≠ 3 → k ≠ 7 → Y k = m k := fun k a1 a3 a7 => by rw [hY, xu_K a3, xu_K a7, w4 k a1, e4 k a1]
      have y3 : ∀ i, i ≠ 5 → Y 3 i = m 3 i := fun i hi => by rw [hY, xu_d hi, xu_K (by omega), w4 3 (by omega), e4 3 (by omega)]
      have yF : bFR m Y := ⟨fun k hk => yk k (by omega) (by omega) (by omega), by rw [hY, xu_k (by omega), xu_k (by omega), w5, e5], by rw [hY, xu_k (by omega), xu_k (by omega), w6, e6]⟩
      obtain ⟨m1, M1, M2, d1, d2, d3, d4, d5, d6, d7⟩ := R_noises_30_sp (f0 := f0) (B := B) (L := L) 4990 4988 9 1 Y M' (by omega) (by omega) ⟨s', e', by omega, by rw [y1, y2]; exact c9⟩ c6 (by rw [hY, xu_s rfl]; rfl) (fun i hi2 => by
        have hic : i = 0 := by omega
        rw [hic]
        rw [show M' 2 (25 + 0) = V from c5, hY, xu_k (by omega), xu_s rfl]; exact ⟨rfl, v1, v2⟩)
      have d1' : f_R_noises_30 fu 1 Y = some m1 := d1
      have c2' : f_m_readNoise_33 fu M7 = f_m_readNoise_33 4999 M' := c2
      rw [c2', d1']
      have d2' : f_m_readNoise_33 4999 M' = some M1 := d2
      refine ⟨m1, M1, M2, rfl, d2', d3, yF.trans d4, (F7.trans c4).trans d5, ?_⟩
      rcases d7 with ⟨s2, e2', f1, f2, f3, f4, C', f5, f6, f7, f8, f9⟩ | f2
      · refine Or.inl ⟨s2, e2', f1, f2, ?_⟩
        obtain ⟨⟨r1, r2, r3, r4, r5, r6, r7, r8, r9, k1', l1, n2'⟩, r10, r11⟩ := hd
        have m2 : ∀ i, i ≠ 19 → (i < 25 ∨ 35 ≤ i) → M2 2 i = M 2 i := fun i h1 h2 => by rw [d6 i h1 h2, c7 i (by omega) h1, hM7, xu_d h1, hM.1 2 (by omega)]
        have z3 : ∀ i, i ≠ 5 → m1 3 i = m 3 i := fun i hi => by rw [f4 i hi, y3 i hi]
        have zk : ∀ k, k ≠ 1 → k ≠ 3 → k ≠ 7 → m1 k = m k := fun k a1 a3 a7 => by rw [f3 k a1 a3 a7, yk k a1 a3 a7]
        refine ⟨?_, by rw [m2 2 (by omega) (by omega), z3 6 (by omega)]; exact r10, by rw [z3 6 (by omega)]; exact r11⟩
        have x34 : bUp m1 34 = bUp m 34 := zk 4 (by omega) (by omega) (by omega)
        have x35 : bUp m1 35 = bUp m 35 := zk 5 (by omega) (by omega) (by omega)
        have x36 : bUp m1 36 = bUp m 36 := zk 6 (by omega) (by omega) (by omega)
        have x3 : ∀ i, i ≠ 5 → bUp m1 33 i = bUp m 33 i := z3
        have x5 : bUp m1 33 5 = C' := f8
        unfold bRP
        rw [x34, x35, x36, x5, f7, x3 4 (by omega), x3 7 (by omega), x3 8 (by omega), x3 9 (by omega), x3 10 (by omega), x3 11 (by omega), x3 12 (by omega), x3 13 (by omega), m2 11 (by omega) (by omega), m2 12 (by omega) (by omega), m2 13 (by omega) (by omega), m2 14 (by omega) (by omega), m2 15 (by omega) (by omega), m2 16 (by omega) (by omega), m2 17 (by omega) (by omega), m2 18 (by omega) (by omega)]
        exact ⟨r1, r2, r3, r4, r5, r6, r7, r8, ⟨rfl, by omega, by omega⟩, fun i hi => by rw [m2 _ (by omega) (by omega)]; exact k1' i hi, fun i hi => f9 i (by omega), fun i hi => by
          have hi5 : i < 5 := by have := r1.2.2; omega
          rw [m2 _ (by omega) (by omega), m2 _ (by omega) (by omega)]; exact n2' i hi⟩
      · exact Or.inr f2
    · have c2' : f_m_readNoise_33 fu M7 = f_m_readNoise_33 4999 M' := c2
      rw [c2', show f_m_readNoise_33 4999 M' = some M' from no_noise u2 4998]
      obtain ⟨m', k1, k2, k3⟩ := R_noises_no c1 c3 u1 (m := m) ⟨fun k hk => e4 k (by omega), e5, e6⟩
      exact ⟨m', M', M', k1, rfl, u2.expect, k2, F7.trans c4.to, Or.inr ⟨c, r, by rw [k3]; exact u1, u2⟩⟩
    · omega
  · rw [if_neg (show ¬ xw (M6 0 17) = xw 2 by rw [hg.isK.2, b_xw (by omega)]; exact hk)]
    unfold f_m_readNoise_29
    obtain ⟨q, M', b1, b2, b3, b4, b5⟩ := g7.fail 1 0 (by omega) rfl
    obtain ⟨c, r, u1, u2⟩ := b3
    rw [b2, Option.bind_some]
    have hh : f_T_hasNumber 0 9 (xvw [1, 2] n0) = some (0, q) := by
      unfold f_T_hasNumber
      rw [if_neg (show ¬ xw ((xvw [1, 2] n0) 0 2) = xw 2 by rw [g7.isK.1, b_xw (by omega)]; exact hk), b1, Option.bind_some]
      rfl
    have c2 : f_m_readNoise_33 fu M' = some M' := no_noise u2 4999
    rw [c2]
    obtain ⟨m', k1, k2, k3⟩ := R_noises_no hh b4 u1 (m := m) ⟨fun k hk => e4 k (by omega), e5, e6⟩
    exact ⟨m', M', M', k1, rfl, u2.expect, k2, F7.trans b5.to, Or.inr ⟨c, r, by rw [k3]; exact u1, u2⟩⟩

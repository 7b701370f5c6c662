/-! ===== rows of numbers moved down ===== -/
def bMv (d a z : Nat) (N N' : Nat → Int) : Prop := (∀ i, a ≤ i → i < z → N' i = N (i + d)) ∧ ∀ i, (i < a ∨ z ≤ i) → N' i = N i
theorem bMv.step {d a z : Nat} {M : xM} {N' : Nat → Int} (hd : 0 < d) (ha : a < z) (h : bMv d (a + 1) z (xu M 1 a (M 1 (a + d)) 1) N') : bMv d a z (M 1) N' := by
  refine ⟨fun i h1 h2 => ?_, fun i hi => ?_⟩
  · by_cases h3 : i = a
    · rw [h3, h.2 a (by omega), xu_s rfl]
    · rw [h.1 i (by omega) h2, xu_d (by omega)]
  · rw [h.2 i (by omega), xu_d (by omega)]
theorem bMv.none {d a : Nat} {N : Nat → Int} : bMv d a a N N := ⟨fun i h1 h2 => by omega, fun _ _ => rfl⟩
theorem forget_21 (e : Nat) (p : Int) (o C' : Nat) (he : e < 2) (ho : o = 56 + 717 * e) (hC : C' ≤ 7) : ∀ (k a n : Nat) (M : xM), M 1 (o + 1) = C' → a + k = o + 26 + 13 * C' → o + 26 ≤ a → k < n → ∃ M' : xM, f_m_forget_21 (e : Int) p n (a : Int) M = some M' ∧ bMv 13 a (o + 26 + 13 * C') (M 1) (M' 1) ∧ ∀ k, k ≠ 1 → M' k = M k := by
  intro k
  induction k with
  | zero =>
    intro a n M hM h1 h2 h3
    obtain ⟨n, rfl⟩ : ∃ n', n = n' + 1 := ⟨n - 1, by omega⟩
    rw [f_m_forget_21, m_of (i := o + 1) M (by omega) (by omega), b_bs, hM, m_frameAt (i := o + 26 + 13 * C') _ (by omega), b_bs, if_neg (by rw [b_xw (by omega), b_xw (by omega)]; omega)]
    refine ⟨M, rfl, ?_, fun _ _ => rfl⟩
    rw [show o + 26 + 13 * C' = a by omega]
    exact bMv.none
  | succ k ih =>
    intro a n M hM h1 h2 h3
    obtain ⟨n, rfl⟩ : ∃ n', n = n' + 1 := ⟨n - 1, by omega⟩
    rw [f_m_forget_21, m_of (i := o + 1) M (by omega) (by omega), b_bs, hM, m_frameAt (i := o + 26 + 13 * C') _ (by omega), b_bs, if_pos (by rw [b_xw (by omega), b_xw (by omega)]; omega), if_pos (b_ib (by omega)), if_pos (b_ib (by omega)), b_ix (by omega), b_ix (by omega), Int.toNat_natCast, show ((a : Int) + 13).toNat = a + 13 by omega, show (a : Int) + 1 = ((a + 1 : Nat) : Int) by omega]
    obtain ⟨M', e1, e2, e3⟩ := ih (a + 1) n (xu M 1 a (M 1 (a + 13))) (by rw [xu_d (by omega), hM]) (by omega) (by omega) (by omega)
    exact ⟨M', e1, bMv.step (by omega) (by omega) e2, fun k hk => by rw [e3 k hk, xu_K hk]⟩
theorem b_xu_same {m : xM} {k j : Nat} {x : Int} (h : m k j = x) : xu m k j x = m := by
  funext a b
  by_cases h1 : a = k
  · subst h1
    by_cases h2 : b = j
    · subst h2; rw [xu_s rfl, h]
    · rw [xu_d h2]
  · rw [xu_k h1]
/-- the first frame is forgotten -/
theorem RF_forget (m M : xM) (e o : Nat) (he : e < 2) (ho : o = 56 + 717 * e) (h : bRF 0 m o (M 1)) (hC : 0 < m 0 4) :
    ∃ m' M' : xM, f_F_forget1 m = some m' ∧ f_m_forget (e : Int) 0 M = some M' ∧ bRF 0 m' o (M' 1) ∧ (m' 0 3 = m 0 3 + 1 ∧ m' 0 4 = m 0 4 - 1 ∧ m' 0 5 = (if m 0 5 = 0 then 0 else m 0 5 - 1) ∧ ∀ k, k ≠ 0 → m' k = m k) ∧ (∀ i, i ≠ o + 1 → (i < o + 26 ∨ o + 117 ≤ i) → M' 1 i = M 1 i) ∧ ∀ k, k ≠ 1 → M' k = M k := by
  obtain ⟨F, C, S, a1, a2, a3, a4, a5, a6, a7, a8, a9⟩ := h
  rw [a2] at hC
  obtain ⟨M', e1, e2, e3⟩ := forget_21 e 0 o (C - 1) he ho (by omega) (13 * (C - 1)) (o + 26) fu (xu M 1 (o + 1) (((C - 1 : Nat)) : Int)) (by rw [xu_s rfl]) (by omega) (by omega) (by show _ < 5000; omega)
  have hF : f_F_forget1 m = some (xu (xu (xu m 0 3 ((F : Int) + 1)) 0 4 ((C : Int) - 1)) 0 5 ((S - 1 : Nat) : Int)) := by
    unfold f_F_forget1
    rw [a1, a2, a3]
    by_cases h0 : S = 0
    · rw [if_neg (by rw [b_xw (by omega)]; omega), b_xu_same (m := xu (xu m 0 3 ((F : Int) + 1)) 0 4 ((C : Int) - 1)) (by rw [xu_d (by omega), xu_d (by omega), a3]; omega)]
    · rw [if_pos (by rw [b_xw (by omega)]; omega), show (S : Int) - 1 = ((S - 1 : Nat) : Int) by omega]
  rw [hF, a1, a2, a3]
  unfold f_m_forget
  rw [m_endAt (i := o + 1) _ (by omega), b_bs, if_pos (b_ib (by omega)), if_pos (b_ib (by omega)), b_ix (by omega), Int.toNat_natCast, a7, show (C : Int) - 1 = ((C - 1 : Nat) : Int) by omega, m_frameAt (i := o + 26) _ (by omega), b_bs, e1]
  refine ⟨_, M', rfl, rfl, ⟨F + 1, C - 1, S - 1, ?_, ?_, ?_, by omega, by omega, by omega, ?_, ?_, fun p hp => ?_⟩, ⟨?_, ?_, ?_, fun k hk => ?_⟩, fun i h1 h2 => ?_, fun k hk => ?_⟩
  · rw [xu_d (by omega), xu_d (by omega), xu_s rfl]; omega
  · rw [xu_d (by omega), xu_s rfl]
  · rw [xu_s rfl]
  · rw [e2.2 _ (by omega), xu_s rfl]
  · rw [e2.2 _ (by omega), xu_d (by omega), a8]; omega
  · obtain ⟨c1, c2, c3, c4, c5, c6⟩ := a9 (p + 1) (by omega)
    unfold bFr
    rw [show F + 1 + p = F + (p + 1) by omega, xu_K (by omega), xu_K (by omega), xu_K (by omega), xu_K (by omega), xu_K (by omega), xu_K (by omega), xu_K (by omega), xu_K (by omega), xu_K (by omega)]
    refine ⟨?_, ?_, c3, ?_, ?_, fun j hj hj2 => ?_⟩
    · rw [e2.1 _ (by omega) (by omega), xu_d (by omega), show o + 26 + 13 * p + 13 = o + 26 + 13 * (p + 1) by omega, c1]
    · rw [e2.1 _ (by omega) (by omega), xu_d (by omega), show o + 26 + 13 * p + 1 + 13 = o + 26 + 13 * (p + 1) + 1 by omega, c2]
    · rw [e2.1 _ (by omega) (by omega), xu_d (by omega), show o + 26 + 13 * p + 2 + 13 = o + 26 + 13 * (p + 1) + 2 by omega, c4]
    · rw [e2.1 _ (by omega) (by omega), xu_d (by omega), show o + 26 + 13 * p + 3 + 13 = o + 26 + 13 * (p + 1) + 3 by omega, c5]
      split <;> split <;> omega
    · rw [e2.1 _ (by omega) (by omega), xu_d (by omega), show o + 26 + 13 * p + 4 + j + 13 = o + 26 + 13 * (p + 1) + 4 + j by omega, c6 j hj hj2]
  · rw [xu_d (by omega), xu_d (by omega), xu_s rfl]
  · rw [xu_d (by omega), xu_s rfl]
  · rw [xu_s rfl]; split <;> omega
  · rw [xu_K hk, xu_K hk, xu_K hk]
  · rw [e2.2 _ (by omega), xu_d h1]
  · rw [e3 k hk, xu_K hk]
/-! ===== events ===== -/
theorem tellEvent_16 (kd en : Int) : ∀ (k a n : Nat) (M : xM), a + k = 1726 → 1490 ≤ a → k < n → ∃ M' : xM, f_m_tellEvent_16 kd en n (a : Int) M = f_m_tellEvent_43 kd en M' ∧ bMv 4 a 1726 (M 1) (M' 1) ∧ ∀ k, k ≠ 1 → M' k = M k := by
  intro k
  induction k with
  | zero =>
    intro a n M h1 h2 h3
    obtain ⟨n, rfl⟩ : ∃ n', n = n' + 1 := ⟨n - 1, by omega⟩
    rw [f_m_tellEvent_16, if_neg (by rw [b_xw (by omega), b_xw (by omega)]; omega)]
    refine ⟨M, rfl, ?_, fun _ _ => rfl⟩
    rw [show 1726 = a by omega]
    exact bMv.none
  | succ k ih =>
    intro a n M h1 h2 h3
    obtain ⟨n, rfl⟩ : ∃ n', n = n' + 1 := ⟨n - 1, by omega⟩
    rw [f_m_tellEvent_16, if_pos (by rw [b_xw (by omega), b_xw (by omega)]; omega), if_pos (b_ib (by omega)), if_pos (b_ib (by omega)), b_ix (by omega), b_ix (by omega), Int.toNat_natCast, show ((a : Int) + 4).toNat = a + 4 by omega, show (a : Int) + 1 = ((a + 1 : Nat) : Int) by omega]
    obtain ⟨M', e1, e2, e3⟩ := ih (a + 1) n (xu M 1 a (M 1 (a + 4))) (by omega) (by omega) (by omega)
    exact ⟨M', e1, bMv.step (by omega) (by omega) e2, fun k hk => by rw [e3 k hk, xu_K hk]⟩
/-- the rate of an event as both have it -/
def bEvR (N : Nat → Int) : Int := if N 1 = 2 then N 3 else -1
theorem m_isPhase (z : Int) (M : xM) (h1 : 0 ≤ M 1 1 ∧ M 1 1 ≤ 3) (hz : 0 ≤ z ∧ z ≤ 3) : f_m_isPhase z M = some (if M 1 1 = z then 1 else 0) := by
  unfold f_m_isPhase
  rw [if_pos (b_ib (by omega)), b_xw (by omega), b_xw (by omega)]
  split <;> rfl
theorem m_rateNow (M : xM) (h1 : 0 ≤ M 1 1 ∧ M 1 1 ≤ 3) : f_m_rateNow M = some (bEvR (M 1)) := by
  unfold f_m_rateNow bEvR
  rw [m_isPhase 2 M h1 (by omega), b_bs]
  by_cases h : M 1 1 = 2
  · rw [if_pos h, if_neg (by rw [b_xw (by omega)]; omega), if_pos (b_ib (by omega)), if_pos h]
  · rw [if_neg h, if_pos (by rw [b_xw (by omega)]), if_neg h]
theorem tellEvent_54 (kd en : Int) (M : xM) (c : Nat) (hc : c < 60) (h10 : M 1 10 = c) (h1 : 0 ≤ M 1 1 ∧ M 1 1 ≤ 3) : ∃ M' : xM, f_m_tellEvent_54 kd en M = some M' ∧ M' 1 10 = ((c + 1 : Nat) : Int) ∧ M' 1 (1490 + 4 * c) = M 1 0 ∧ M' 1 (1490 + 4 * c + 1) = kd ∧ M' 1 (1490 + 4 * c + 2) = en ∧ M' 1 (1490 + 4 * c + 3) = bEvR (M 1) ∧ (∀ i, i ≠ 10 → (i < 1490 + 4 * c ∨ 1490 + 4 * c + 4 ≤ i) → M' 1 i = M 1 i) ∧ ∀ k, k ≠ 1 → M' k = M k := by
  unfold f_m_tellEvent_54 f_m_tellEvent_89
  rw [h10, if_pos (b_ib (by omega)), if_pos (b_ib (by omega)), if_pos (b_ib (by omega)), if_pos (b_ib (by omega)), if_pos (b_ib (by omega)), b_ix (by omega), b_ix (by omega), b_ix (by omega), show ((1490 : Int) + 4 * (c : Int)).toNat = 1490 + 4 * c by omega, show ((1490 : Int) + 4 * (c : Int) + 1).toNat = 1490 + 4 * c + 1 by omega, show ((1490 : Int) + 4 * (c : Int) + 2).toNat = 1490 + 4 * c + 2 by omega,
    m_rateNow _ (by rw [xu_d (by omega), xu_d (by omega), xu_d (by omega)]; exact h1), b_bs, if_pos (b_ib (by omega)), if_pos (b_ib (by omega)), if_pos (b_ib (by omega)), b_ix (by omega), show ((1490 : Int) + 4 * (c : Int) + 3).toNat = 1490 + 4 * c + 3 by omega]
  have hr : bEvR (xu (xu (xu M 1 (1490 + 4 * c) (M 1 0)) 1 (1490 + 4 * c + 1) kd) 1 (1490 + 4 * c + 2) en 1) = bEvR (M 1) := by
    unfold bEvR
    rw [xu_d (by omega), xu_d (by omega), xu_d (by omega), xu_d (by omega), xu_d (by omega), xu_d (by omega)]
  rw [hr]
  refine ⟨_, rfl, ?_, ?_, ?_, ?_, ?_, fun i h1 h2 => ?_, fun k hk => ?_⟩
  · rw [xu_s rfl, xu_d (by omega), xu_d (by omega), xu_d (by omega), xu_d (by omega), h10]; omega
  · rw [xu_d (by omega), xu_d (by omega), xu_d (by omega), xu_d (by omega), xu_s rfl]
  · rw [xu_d (by omega), xu_d (by omega), xu_d (by omega), xu_s rfl]
  · rw [xu_d (by omega), xu_d (by omega), xu_s rfl]
  · rw [xu_d (by omega), xu_s rfl]
  · rw [xu_d h1, xu_d (by omega), xu_d (by omega), xu_d (by omega), xu_d (by omega)]
  · rw [xu_K hk, xu_K hk, xu_K hk, xu_K hk, xu_K hk]
/-- the reference's log, a new event behind the others -/
theorem tellEvent_sp (kd en : Int) (M : xM) (c : Nat) (hc : c ≤ 60) (h10 : M 1 10 = c) (h1 : 0 ≤ M 1 1 ∧ M 1 1 ≤ 3) : ∃ M' : xM, f_m_tellEvent kd en M = some M' ∧ (∀ c' s : Nat, (c' = c ∧ s = 0 ∧ c < 60) ∨ (c' = 59 ∧ s = 1 ∧ c = 60) → M' 1 10 = ((c' + 1 : Nat) : Int) ∧ (∀ i w, i < c' → w < 4 → M' 1 (1490 + 4 * i + w) = M 1 (1490 + 4 * (i + s) + w)) ∧ M' 1 (1490 + 4 * c') = M 1 0 ∧ M' 1 (1490 + 4 * c' + 1) = kd ∧ M' 1 (1490 + 4 * c' + 2) = en ∧ M' 1 (1490 + 4 * c' + 3) = bEvR (M 1)) ∧ (∀ i, i ≠ 10 → (i < 1490 ∨ 1730 ≤ i) → M' 1 i = M 1 i) ∧ ∀ k, k ≠ 1 → M' k = M k := by
  unfold f_m_tellEvent
  rw [if_pos (b_ib (by omega)), h10]
  by_cases h : c = 60
  · rw [if_pos (by rw [b_xw (by omega), b_xw (by omega)]; omega)]
    obtain ⟨P, e1, e2, e3⟩ := tellEvent_16 kd en 236 1490 fu M rfl (Nat.le_refl _) (by show 236 < 5000; omega)
    rw [show (1490 : Int) = ((1490 : Nat) : Int) from rfl, e1]
    unfold f_m_tellEvent_43
    rw [if_pos (b_ib (by omega)), if_pos (b_ib (by omega)), e2.2 10 (by omega), h10]
    obtain ⟨M', q1, q2, q3, q4, q5, q6, q7, q8⟩ := tellEvent_54 kd en (xu P 1 10 ((c : Int) - 1)) 59 (by omega) (by rw [xu_s rfl]; omega) (by rw [xu_d (by omega), e2.2 1 (by omega)]; exact h1)
    refine ⟨M', q1, fun c' s hcs => ?_, fun i hi hi2 => by rw [q7 i hi (by omega), xu_d hi, e2.2 i (by omega)], fun k hk => by rw [q8 k hk, xu_K hk, e3 k hk]⟩
    obtain ⟨rfl, rfl⟩ : c' = 59 ∧ s = 1 := by omega
    have hr : bEvR (xu P 1 10 ((c : Int) - 1) 1) = bEvR (M 1) := by
      unfold bEvR
      rw [xu_d (by omega), xu_d (by omega), e2.2 _ (by omega), e2.2 _ (by omega)]
    rw [hr] at q6
    refine ⟨q2, fun i w hi hw => ?_, by rw [q3, xu_d (by omega), e2.2 _ (by omega)], q4, q5, q6⟩
    rw [q7 _ (by omega) (by omega), xu_d (by omega), e2.1 _ (by omega) (by omega), show 1490 + 4 * i + w + 4 = 1490 + 4 * (i + 1) + w by omega]
  · rw [if_neg (by rw [b_xw (by omega), b_xw (by omega)]; omega)]
    obtain ⟨M', q1, q2, q3, q4, q5, q6, q7, q8⟩ := tellEvent_54 kd en M c (by omega) h10 h1
    refine ⟨M', q1, fun c' s hcs => ?_, fun i hi hi2 => q7 i hi (by omega), q8⟩
    obtain ⟨rfl, rfl⟩ : c' = c ∧ s = 0 := by omega
    exact ⟨q2, fun i w hi hw => q7 _ (by omega) (by omega), q3, q4, q5, q6⟩

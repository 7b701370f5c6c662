/-! ===== the reference's arrivals ===== -/
theorem getD_A (A B : List (List Int)) {i : Nat} (h : i < A.length) : (A ++ B).getD i [] = A.getD i [] := by
  rw [List.getD_eq_getElem?_getD, List.getElem?_append_left h, List.getD_eq_getElem?_getD]
theorem getD_B (A B : List (List Int)) {i : Nat} (h : A.length ≤ i) : (A ++ B).getD i [] = B.getD (i - A.length) [] := by
  rw [List.getD_eq_getElem?_getD, List.getElem?_append_right h, List.getD_eq_getElem?_getD]
section
variable {s : aS} {B : Int}
/-- what arrived is taken out of the row -/
theorem RA.rmfly {M : xM} {P R : List (List Int)} {x : List Int} (h : RA (M 1) s) (hf : (s.2.2 1730) = P ++ x :: R) (hl : ((s.2.2 1730)).length ≤ 119) : ∃ M' : xM, f_m_land (P.length : Int) M = some M' ∧ RA (M' 1) (aF s 1730 (P ++ R)) ∧ ∀ k, k ≠ 1 → M' k = M k := by
  obtain ⟨c1, c2, c3⟩ := h.2.2.1
  have hlen : ((s.2.2 1730)).length = P.length + (R.length + 1) := by rw [hf, List.length_append]; rfl
  have hlen' : (s.2.2 1730).length = P.length + (R.length + 1) := hlen
  unfold f_m_land
  rw [if_pos (by decide), if_pos (by decide), m_flyAt (i := 1730 + 15 * P.length) _ (by omega), Option.bind_some]
  obtain ⟨M1, hM1⟩ : ∃ Z, Z = xu M 1 20 (M 1 20 - 1) := ⟨_, rfl⟩
  rw [← hM1]
  have e20 : M1 1 20 = ((P.length + R.length : Nat) : Int) := by rw [hM1, xu_s rfl, c2, hlen']; omega
  have g1 : ∀ i, i ≠ 20 → M1 1 i = M 1 i := fun i hi => by rw [hM1, xu_d hi]
  obtain ⟨M', m1, ⟨m2, m3⟩, m4⟩ := land_17 (P.length : Int) (P.length + R.length) (by omega) (15 * R.length) (1730 + 15 * P.length) fu M1 e20 (by omega) (by omega) (by show _ < 5000; omega)
  have gg : ∀ i, i ≠ 20 → (i < 1730 + 15 * P.length ∨ 1730 + 15 * (P.length + R.length) ≤ i) → M' 1 i = M 1 i := fun i i1 i2 => by rw [m3 i i2, g1 i i1]
  refine ⟨M', m1, ⟨fun j hj => ?_, fun e he => ((h.2.1 e he).cg fun i i1 i2 _ _ _ _ _ _ => gg i (by omega) (by omega)).other (fun _ _ => rfl) (by rw [aF_3, if_neg (by omega)]), ?_, ?_⟩, fun k hk => by rw [m4 k hk, hM1, xu_K hk]⟩
  · have hj2 := hj
    unfold aIx at hj2
    rw [gg j (by omega) (by omega)]
    exact h.1 j hj
  · rw [aF_3, if_pos rfl]
    refine ⟨by rw [List.length_append]; omega, by rw [m3 _ (by omega), e20, List.length_append], fun p hp => ?_⟩
    rw [List.length_append] at hp
    by_cases cp : p < P.length
    · have hh := c3 p (by omega)
      rw [show s.2.2 1730 = P ++ x :: R from hf, getD_A _ _ cp] at hh
      rw [getD_A _ _ cp]
      exact hh.cg fun i i1 i2 => gg i (by omega) (by omega)
    · have hh := c3 (p + 1) (by omega)
      rw [show s.2.2 1730 = P ++ x :: R from hf, getD_B _ _ (by omega), show p + 1 - P.length = (p - P.length) + 1 by omega, List.getD_cons_succ] at hh
      rw [getD_B _ _ (by omega)]
      exact hh.mv fun i hi => by
        rw [m2 _ (by omega) (by omega), g1 _ (by omega)]
        congr 1
        omega
  · rw [aF_3, if_neg (by omega)]
    exact h.2.2.2.cg (gg _ (by omega) (by omega)) fun i i1 i2 => gg i (by omega) (by omega)
/-- a frame is taken out -/
theorem RA.rmframe {M : xM} {P R : List (List Int)} {x : List Int} {e : Nat} (he : e < 2) (h : RA (M 1) s) (hf : (s.2.2 (56 + 717 * e + 26)) = P ++ x :: R) : ∃ M' : xM, f_m_forget (e : Int) (P.length : Int) M = some M' ∧ RA (M' 1) (aF s ((56 + 717 * e) + 26) (P ++ R)) ∧ ∀ k, k ≠ 1 → M' k = M k := by
  have he2 : e = 0 ∨ e = 1 := by omega
  obtain ⟨⟨b1, b2, b3⟩, ⟨b4, b5⟩, c1, c2, c3⟩ := h.2.1 e he
  have b4' : (s.2.1 ((56 + 717 * e) + 317)).length ≤ 400 := b4
  have hlen : (s.2.2 ((56 + 717 * e) + 26)).length = P.length + (R.length + 1) := by rw [show s.2.2 ((56 + 717 * e) + 26) = P ++ x :: R from hf, List.length_append]; rfl
  unfold f_m_forget
  rw [m_endAt (i := (56 + 717 * e) + 1) _ (by omega), Option.bind_some, if_pos (b_ib (by omega)), if_pos (b_ib (by omega)), xix_nat (by omega), m_frameAt (i := (56 + 717 * e) + 26 + 13 * P.length) _ (by omega), Option.bind_some]
  obtain ⟨M1, hM1⟩ : ∃ Z, Z = xu M 1 ((56 + 717 * e) + 1) (M 1 ((56 + 717 * e) + 1) - 1) := ⟨_, rfl⟩
  rw [← hM1]
  have e1 : M1 1 ((56 + 717 * e) + 1) = ((P.length + R.length : Nat) : Int) := by rw [hM1, xu_s rfl, c2, hlen]; omega
  have g1 : ∀ i, i ≠ (56 + 717 * e) + 1 → M1 1 i = M 1 i := fun i hi => by rw [hM1, xu_d hi]
  obtain ⟨M', m1, ⟨m2, m3⟩, m4⟩ := forget_21 e (P.length : Int) ((56 + 717 * e)) (P.length + R.length) he rfl (by omega) (13 * R.length) ((56 + 717 * e) + 26 + 13 * P.length) fu M1 e1 (by omega) (by omega) (by show _ < 5000; omega)
  have gg : ∀ i, i ≠ (56 + 717 * e) + 1 → (i < (56 + 717 * e) + 26 + 13 * P.length ∨ (56 + 717 * e) + 26 + 13 * (P.length + R.length) ≤ i) → M' 1 i = M 1 i := fun i i1 i2 => by rw [m3 i i2, g1 i i1]
  refine ⟨M', m1, ⟨fun j hj => ?_, fun e' he' => ?_, ?_, ?_⟩, fun k hk => by rw [m4 k hk, hM1, xu_K hk]⟩
  · have hj2 := hj
    unfold aIx at hj2
    rw [gg j (by omega) (by omega)]
    exact h.1 j hj
  · by_cases ce : e' = e
    · subst ce
      unfold rE
      rw [aF_3, if_pos rfl]
      refine ⟨⟨b1.cg (gg _ (by omega) (by omega)) (fun i i1 i2 => gg _ (by omega) (by omega)), b2.cg (gg _ (by omega) (by omega)) (fun i i1 i2 => gg _ (by omega) (by omega)), b3.cg (gg _ (by omega) (by omega)) (fun i i1 i2 => gg _ (by omega) (by omega))⟩, ⟨b4, fun i hi' => ?_⟩, by rw [List.length_append]; omega, by rw [m3 _ (by omega), e1, List.length_append], fun p hp => ?_⟩
      · have hi2 : i < (s.2.1 ((56 + 717 * e') + 317)).length := hi'
        rw [gg _ (by omega) (by omega), b5 i hi2]
        rfl
      · rw [List.length_append] at hp
        by_cases cp : p < P.length
        · have hh := c3 p (by omega)
          rw [show s.2.2 ((56 + 717 * e') + 26) = P ++ x :: R from hf, getD_A _ _ cp] at hh
          rw [getD_A _ _ cp]
          exact hh.cg fun i i1 i2 => gg i (by omega) (by omega)
        · have hh := c3 (p + 1) (by omega)
          rw [show s.2.2 ((56 + 717 * e') + 26) = P ++ x :: R from hf, getD_B _ _ (by omega), show p + 1 - P.length = (p - P.length) + 1 by omega, List.getD_cons_succ] at hh
          rw [getD_B _ _ (by omega)]
          exact hh.mv fun i hi => by
            rw [m2 _ (by omega) (by omega), g1 _ (by omega)]
            congr 1
            omega
    · exact ((h.2.1 e' he').cg fun i i1 i2 _ _ _ _ _ _ => gg i (by omega) (by omega)).other (fun _ _ => rfl) (by rw [aF_3, if_neg (by omega)])
  · rw [aF_3, if_neg (by omega)]
    exact h.2.2.1.cg (gg _ (by omega) (by omega)) fun i i1 i2 => gg i (by omega) (by omega)
  · rw [aF_3, if_neg (by omega)]
    exact h.2.2.2.cg (gg _ (by omega) (by omega)) fun i i1 i2 => gg i (by omega) (by omega)
theorem r_ackend {M : xM} (h : RA (M 1) s) (p : Int) : ∃ M' : xM, f_m_arriveAck_61 p M = some M' ∧ RA (M' 1) (aN (aN s 8 0) 9 (s.1 9 + 1)) ∧ ∀ k, k ≠ 1 → M' k = M k := by
  unfold f_m_arriveAck_61
  rw [if_pos (by decide), if_pos (by decide), if_pos (by decide)]
  refine ⟨_, rfl, ?_, fun k hk => by rw [xu_K hk, xu_K hk]⟩
  have h2 := (h.num (j := 8) (by unfold aIx; omega) 0).num (j := 9) (by unfold aIx; omega) (s.1 9 + 1)
  have e9 := h.n 9 (by unfold aIx; omega)
  rw [← e9] at h2
  rw [← e9]
  exact h2
theorem r_ack25 (p num : Int) {e : Nat} (he : e < 2) {B : Int} (hB : B ≤ 2147483647) (hnum : aB B num) : ∀ (m : Nat) (R P : List (List Int)) (n : Nat) (M : xM) (s : aS), R.length ≤ m → RA (M 1) s → (s.2.2 (56 + 717 * e + 26)) = P ++ R → (∀ f, f ∈ R → aB B (f.getD 0 0)) → R.Pairwise (fun f g => f.getD 0 0 < g.getD 0 0) → R.length < n → ∃ M' : xM, f_m_arriveAck_25 p n (e : Int) num (P.length : Int) M = some M' ∧ RA (M' 1) (aN (aN (aF s ((56 + 717 * e) + 26) (P ++ R.filter fun f => decide (f.getD 0 0 ≠ num))) 8 0) 9 (s.1 9 + 1)) ∧ ∀ k, k ≠ 1 → M' k = M k := by
  intro m
  induction m with
  | zero =>
    intro R P n M s hm h hf hr hpw hn
    obtain ⟨n, rfl⟩ : ∃ z, n = z + 1 := ⟨n - 1, by omega⟩
    have hR : R = [] := List.length_eq_zero_iff.mp (by omega)
    subst hR
    have hlen : (s.2.2 ((56 + 717 * e) + 26)).length = P.length := by rw [show s.2.2 ((56 + 717 * e) + 26) = P ++ [] from hf, List.append_nil]
    have h7 := (h.2.1 e he).2.2.1
    have h7' : (s.2.2 ((56 + 717 * e) + 26)).length ≤ 7 := h7
    obtain ⟨M', m1, m2, m3⟩ := r_ackend h p
    refine ⟨M', ?_, ?_, m3⟩
    · rw [f_m_arriveAck_25, m_of (i := (56 + 717 * e) + 1) M (by omega) (by omega), Option.bind_some, (h.2.1 e he).2.2.2.1, if_neg (by rw [xw_nat (by omega), xw_nat (by omega)]; omega), m1]
    · rw [List.filter_nil, ← hf, aF_self]
      exact m2
  | succ m ih =>
    intro R P n M s hm h hf hr hpw hn
    obtain ⟨n, rfl⟩ : ∃ z, n = z + 1 := ⟨n - 1, by omega⟩
    cases R with
    | nil => exact ih [] P (n + 1) M s (Nat.zero_le _) h hf hr hpw hn
    | cons f R =>
      have hlen : (s.2.2 ((56 + 717 * e) + 26)).length = P.length + (R.length + 1) := by rw [show s.2.2 ((56 + 717 * e) + 26) = P ++ f :: R from hf, List.length_append]; rfl
      obtain ⟨c1, c2, c3⟩ := (h.2.1 e he).2.2
      have h7' : (s.2.2 ((56 + 717 * e) + 26)).length ≤ 7 := c1
      have hg := (c3 P.length (by omega)).2.1
      rw [show s.2.2 ((56 + 717 * e) + 26) = P ++ f :: R from hf, getD_mid] at hg
      have hpw2 := List.pairwise_cons.mp hpw
      rw [f_m_arriveAck_25, m_of (i := (56 + 717 * e) + 1) M (by omega) (by omega), Option.bind_some, c2, if_pos (by rw [xw_nat (by omega), xw_nat (by omega)]; omega), m_ofFrame (i := (56 + 717 * e) + 26 + 13 * P.length) M (by omega) (by omega), Option.bind_some, hg, (hr f List.mem_cons_self).xw hB, hnum.xw hB]
      unfold f_m_arriveAck_55
      rw [List.length_cons] at hn hm
      by_cases c : f.getD 0 0 = num
      · rw [if_pos c, List.filter_cons_of_neg (by rw [decide_eq_true_eq]; exact fun w => w c)]
        obtain ⟨M1, a1, a2, a3⟩ := h.rmframe he hf
        rw [a1, Option.bind_some]
        have hno : R.filter (fun f => decide (f.getD 0 0 ≠ num)) = R := List.filter_eq_self.mpr fun g hg' => by
          rw [decide_eq_true_eq]
          have := hpw2.1 g hg'
          omega
        rw [hno]
        have efr : (aF s ((56 + 717 * e) + 26) (P ++ R)).2.2 ((56 + 717 * e) + 26) = P ++ R := by rw [aF_3, if_pos rfl]
        cases R with
        | nil =>
          obtain ⟨n, rfl⟩ : ∃ z, n = z + 1 := ⟨n - 1, by omega⟩
          have e1 := (a2.2.1 e he).2.2.2.1
          rw [efr, List.append_nil] at e1
          obtain ⟨M', m1, m2, m3⟩ := r_ackend a2 p
          refine ⟨M', ?_, m2, fun k hk => by rw [m3 k hk, a3 k hk]⟩
          rw [f_m_arriveAck_25, m_of (i := (56 + 717 * e) + 1) M1 (by omega) (by omega), Option.bind_some, e1, if_neg (by rw [xw_id (x := (P.length : Int) + 1) (by omega) (by omega), xw_nat (by omega)]; omega), m1]
        | cons g R2 =>
          have hpw3 := List.pairwise_cons.mp hpw2.2
          obtain ⟨M', m1, m2, m3⟩ := ih R2 (P ++ [g]) n M1 (aF s ((56 + 717 * e) + 26) (P ++ g :: R2)) (by rw [List.length_cons] at hm; omega) a2 (by rw [efr, List.append_assoc]; rfl) (fun f' hf' => hr f' (List.mem_cons_of_mem _ (List.mem_cons_of_mem _ hf'))) hpw3.2 (by rw [List.length_cons] at hn; omega)
          have hno2 : R2.filter (fun f => decide (f.getD 0 0 ≠ num)) = R2 := List.filter_eq_self.mpr fun g' hg' => by
            rw [decide_eq_true_eq]
            have := hpw2.1 g' (List.mem_cons_of_mem _ hg')
            omega
          rw [hno2, aF_aF, List.append_assoc] at m2
          have elen : ((P ++ [g]).length : Int) = (P.length : Int) + 1 := by rw [List.length_append]; rfl
          rw [elen] at m1
          exact ⟨M', m1, m2, fun k hk => by rw [m3 k hk, a3 k hk]⟩
      · rw [if_neg c, List.filter_cons_of_pos (by rw [decide_eq_true_eq]; exact c)]
        obtain ⟨M', m1, m2, m3⟩ := ih R (P ++ [f]) n M s (by omega) h (by rw [hf, List.append_assoc]; rfl) (fun f' hf' => hr f' (List.mem_cons_of_mem _ hf')) hpw2.2 (by omega)
        have elen : ((P ++ [f]).length : Int) = (P.length : Int) + 1 := by rw [List.length_append]; rfl
        rw [elen] at m1
        rw [List.append_assoc] at m2
        exact ⟨M', m1, m2, m3⟩
theorem aU.land (h : aU s) {it : List Int} (he : (it.getD 2 0).toNat < 2) : aU (aLand it s) := by
  have hcg : ∀ (t t' : aS), t'.2.1 = t.2.1 → (∀ e, e < 2 → t'.1 ((56 + 717 * e) + 4) = t.1 ((56 + 717 * e) + 4)) → aU t → aU t' := fun t t' h1 h2 h3 e' he' => by
    have := h3 e' he'
    rw [h1, h2 e' he']
    exact this
  have hrec : ∀ (e : Nat), e < 2 → ∀ (q : List Int) (t : aS), aU t → aU (aRecvs e q t) := fun e he q => by
    induction q with
    | nil => intro t ht; exact ht
    | cons v q ih => intro t ht; exact ih _ (ht.recv he v)
  unfold aLand
  by_cases h1 : it.getD 1 0 = 1
  · rw [if_pos h1]
    exact hcg s _ rfl (fun e he => by unfold aAck; rw [aN_1, if_neg (by omega), aN_1, if_neg (by omega)]; rfl) h
  · rw [if_neg h1]
    by_cases h2 : it.getD 4 0 = 1 ∨ it.getD 3 0 ≠ s.1 ((56 + 717 * (it.getD 2 0).toNat) + 3)
    · rw [if_pos h2]
      exact hcg s _ rfl (fun e he => by rw [aN_1, if_neg (by omega)]) h
    · rw [if_neg h2]
      have hU : aU (if it.getD 5 0 = 1 then aTell 7 (((it.getD 2 0).toNat : Nat) : Int) (aL s ((56 + 717 * (it.getD 2 0).toNat) + 18) []) else s) := by
        by_cases h5 : it.getD 5 0 = 1
        · rw [if_pos h5]
          intro e' he'
          obtain ⟨⟨g1, g2⟩, g3, g4⟩ := h e' he'
          rw [aTell_L, aTell_sc]
          have l10 : (aL s ((56 + 717 * (it.getD 2 0).toNat) + 18) []).2.1 ((56 + 717 * e') + 10) = s.2.1 ((56 + 717 * e') + 10) := by rw [aL_2, if_neg (by omega)]
          have l117 : (aL s ((56 + 717 * (it.getD 2 0).toNat) + 18) []).2.1 ((56 + 717 * e') + 117) = s.2.1 ((56 + 717 * e') + 117) := by rw [aL_2, if_neg (by omega)]
          have l317 : (aL s ((56 + 717 * (it.getD 2 0).toNat) + 18) []).2.1 ((56 + 717 * e') + 317) = s.2.1 ((56 + 717 * e') + 317) := by rw [aL_2, if_neg (by omega)]
          rw [l10, l117, l317]
          refine ⟨⟨g1, ?_⟩, g3, g4⟩
          rw [aL_2]
          by_cases c : (56 + 717 * e') + 18 = (56 + 717 * (it.getD 2 0).toNat) + 18
          · rw [if_pos c]; exact List.nodup_nil
          · rw [if_neg c]; exact g2
        · rw [if_neg h5]; exact h
      have hR := hrec (it.getD 2 0).toNat he (it.drop 6) _ hU
      obtain ⟨V, hV⟩ : ∃ V, V = aRecvs (it.getD 2 0).toNat (it.drop 6) (if it.getD 5 0 = 1 then aTell 7 (((it.getD 2 0).toNat : Nat) : Int) (aL s ((56 + 717 * (it.getD 2 0).toNat) + 18) []) else s) := ⟨_, rfl⟩
      rw [← hV] at hR
      unfold aTake
      dsimp only
      rw [← hV]
      exact hcg V _ rfl (fun e he => by rw [aF_1, aN_1, if_neg (by omega)]) hR
/-- one arrival, as both reckon it -/
theorem r_arrive {M : xM} {P R : List (List Int)} {it : List Int} (h : RA (M 1) s) (hi : aI B s) (hu : aU s) (hB : B ≤ 700000000) (h8 : 8 ≤ B) (hf : (s.2.2 1730) = P ++ it :: R) (hl : ((s.2.2 1730)).length ≤ 100) (hit : aItOk it) : ∃ M' : xM, (if it.getD 1 0 = 1 then f_m_arriveAck (P.length : Int) M else f_m_arriveFrame (P.length : Int) M) = some M' ∧ RA (M' 1) (aLand it s) ∧ aU (aLand it s) ∧ ∀ k, k ≠ 1 → M' k = M k := by
  obtain ⟨e, he⟩ : ∃ e, e = (it.getD 2 0).toNat := ⟨_, rfl⟩
  have i2 := hit.1.1.2
  have hz : it.getD 2 0 = (e : Int) := by rcases i2 with q | q <;> rw [he, q] <;> rfl
  have he2 : e < 2 := by omega
  have hu' := hu.land (it := it) (by omega)
  have hlen : (s.2.2 1730).length = P.length + (R.length + 1) := by rw [show s.2.2 1730 = P ++ it :: R from hf, List.length_append]; rfl
  have hl' : (s.2.2 1730).length ≤ 100 := hl
  obtain ⟨c1, c2, c3⟩ := h.2.2.1
  have hY := c3 P.length (by omega)
  rw [show s.2.2 1730 = P ++ it :: R from hf, getD_mid] at hY
  obtain ⟨y0, y1, y2, y3, y4, y5⟩ := hY
  have hmem : it ∈ (s.2.2 1730) := by rw [hf]; exact List.mem_append_right _ List.mem_cons_self
  have hri := hi.2.1.2.2 1730 it hmem
  have hg := fun i => aRl_get hri (by omega) i
  by_cases h1 : it.getD 1 0 = 1
  · rw [if_pos h1]
    have hfr := (hi.2.2.2.1 e he2).1
    obtain ⟨M', m1, m2, m3⟩ := r_ack25 (P.length : Int) (it.getD 3 0) he2 (by omega : B ≤ 2147483647) (hg 3) ((s.2.2 (56 + 717 * e + 26))).length ((s.2.2 (56 + 717 * e + 26))) [] fu M s (Nat.le_refl _) h rfl (fun f hf' => aRl_get (hi.2.1.2.2 _ f hf') (by omega) 0) hfr.2.2 (by have := hfr.1; show _ < 5000; omega)
    refine ⟨M', ?_, ?_, hu', m3⟩
    · unfold f_m_arriveAck
      rw [m_flyAt (i := 1730 + 15 * P.length + 2) _ (by omega), Option.bind_some, if_pos (b_ib (by omega)), m_flyAt (i := 1730 + 15 * P.length + 3) _ (by omega), Option.bind_some, if_pos (b_ib (by omega)), xix_nat (by omega), xix_nat (by omega), y3, y4, hz]
      exact m1
    · unfold aLand
      rw [if_pos h1, ← he]
      exact m2
  · have hk : it.getD 1 0 = 0 ∧ 6 ≤ it.length := by rcases hit.1.2 with q | q; exact absurd q.1 h1; exact q
    obtain ⟨z1, z2, z3, z4⟩ := y5 hk.1
    have n3 := h.n ((56 + 717 * e) + 3) (by unfold aIx; omega)
    have n47 := h.n 47 (by unfold aIx; omega)
    rw [if_neg h1]
    unfold f_m_arriveFrame
    rw [m_flyAt (i := 1730 + 15 * P.length + 2) _ (by omega), Option.bind_some, if_pos (b_ib (by omega)), m_flyAt (i := 1730 + 15 * P.length + 3) _ (by omega), Option.bind_some, if_pos (b_ib (by omega)), m_flyAt (i := 1730 + 15 * P.length + 5) _ (by omega), Option.bind_some, if_pos (b_ib (by omega)), xix_nat (by omega), xix_nat (by omega), xix_nat (by omega), y3, y4, z2, hz, (hg 4).xw (by omega), show xw 1 = 1 by decide]
    unfold aLand at hu' ⊢
    rw [if_neg h1, ← he] at hu' ⊢
    have thrown : ∃ M' : xM, f_m_arriveFrame_46 (P.length : Int) M = some M' ∧ RA (M' 1) (aN s 47 (s.1 47 + 1)) ∧ ∀ k, k ≠ 1 → M' k = M k := by
      unfold f_m_arriveFrame_46
      rw [if_pos (by decide), if_pos (by decide), n47]
      exact ⟨_, rfl, h.num (j := 47) (by unfold aIx; omega) _, fun k hk => xu_K hk⟩
    by_cases h4 : it.getD 4 0 = 1
    · rw [if_pos h4]
      rw [if_pos (Or.inl h4)] at hu' ⊢
      obtain ⟨M', m1, m2, m3⟩ := thrown
      exact ⟨M', m1, m2, hu', m3⟩
    · rw [if_neg h4, m_of (i := (56 + 717 * e) + 3) M (by omega) (by omega), Option.bind_some, n3, (hg 3).xw (by omega), (hi.2.1.1 ((56 + 717 * e) + 3)).xw (by omega)]
      by_cases h3 : it.getD 3 0 = s.1 ((56 + 717 * e) + 3)
      · rw [if_pos h3]
        rw [if_neg (fun w => w.elim h4 (fun w => w h3))] at hu' ⊢
        rw [m_flyAt (i := 1730 + 15 * P.length + 6) _ (by omega), Option.bind_some, if_pos (b_ib (by omega)), xix_nat (by omega), z3, (hg 5).xw (by omega)]
        have hdl : (it.drop 6).length = it.length - 6 := List.length_drop ..
        have hrd : aRl B (it.drop 6) := fun x hx => hri x (List.mem_of_mem_drop hx)
        have fin : ∀ (t : aS) (M2 : xM), RA (M2 1) t → aI B t → aU t → (t.2.2 1730) = (s.2.2 1730) → (∀ i, 1730 ≤ i → M2 1 i = M 1 i) → (∀ k, k ≠ 1 → M2 k = M k) → ∃ M' : xM, f_m_arriveFrame_92 (P.length : Int) (e : Int) (it.getD 3 0) M2 = some M' ∧ RA (M' 1) (aF (aN (aRecvs e (it.drop 6) t) ((56 + 717 * e) + 3) ((aRecvs e (it.drop 6) t).1 ((56 + 717 * e) + 3) + 1)) 1730 (((aRecvs e (it.drop 6) t).2.2 1730) ++ [[(aRecvs e (it.drop 6) t).1 0 + (aRecvs e (it.drop 6) t).1 15, 1, 1 - (e : Int), it.getD 3 0]])) ∧ ∀ k, k ≠ 1 → M' k = M k := fun t M2 ht hit' hut hft g1 g2 => by
          unfold f_m_arriveFrame_92
          obtain ⟨M3, a1, a2, a3, a4, a5⟩ := r_recvs he2 (p := P.length) (by omega) (num := it.getD 3 0) (l := it.drop 6) (by omega) (by omega : B ≤ 800000000) (by omega) hrd (it.drop 6) [] fu M2 t rfl (by show _ < 5000; omega) ht (hit'.le (by show B ≤ B + ((0 : Nat) : Int); omega)) hut (by rw [g1 _ (by omega), z1, hdl]; omega) (fun i hi' => by
            rw [g1 _ (by omega), z4 i (by omega), List.getD_eq_getElem?_getD, List.getD_eq_getElem?_getD, List.getElem?_drop])
          have a1' : f_m_arriveFrame_95 (P.length : Int) fu (e : Int) (it.getD 3 0) 0 M2 = _ := a1
          rw [a1']
          have hfl3 : ((aRecvs e (it.drop 6) t).2.2 1730) = (s.2.2 1730) := by rw [aRecvs_F]; exact hft
          have k3 := a2.n ((56 + 717 * e) + 3) (by unfold aIx; omega)
          have h4' := a2.num (j := (56 + 717 * e) + 3) (by unfold aIx; omega) ((aRecvs e (it.drop 6) t).1 ((56 + 717 * e) + 3) + 1)
          obtain ⟨M4, hM4⟩ : ∃ Z, Z = xu M3 1 ((56 + 717 * e) + 3) ((aRecvs e (it.drop 6) t).1 ((56 + 717 * e) + 3) + 1) := ⟨_, rfl⟩
          have h5 : RA (M4 1) (aN (aRecvs e (it.drop 6) t) ((56 + 717 * e) + 3) ((aRecvs e (it.drop 6) t).1 ((56 + 717 * e) + 3) + 1)) := by rw [hM4]; exact h4'
          obtain ⟨M5, d1, d2, d3⟩ := h5.fly (by show (((aRecvs e (it.drop 6) t).2.2 1730)).length < 119; rw [hfl3]; show (s.2.2 1730).length < 119; omega) (1 - (e : Int)) (it.getD 3 0)
          unfold f_m_arriveFrame_135
          rw [m_endAt (i := (56 + 717 * e) + 3) _ (by omega), Option.bind_some, if_pos (b_ib (by omega)), if_pos (b_ib (by omega)), xix_nat (by omega), k3, ← hM4, d1, Option.bind_some]
          have q0 : (aN (aRecvs e (it.drop 6) t) ((56 + 717 * e) + 3) ((aRecvs e (it.drop 6) t).1 ((56 + 717 * e) + 3) + 1)).1 0 = (aRecvs e (it.drop 6) t).1 0 := by rw [aN_1, if_neg (by omega)]
          have q15 : (aN (aRecvs e (it.drop 6) t) ((56 + 717 * e) + 3) ((aRecvs e (it.drop 6) t).1 ((56 + 717 * e) + 3) + 1)).1 15 = (aRecvs e (it.drop 6) t).1 15 := by rw [aN_1, if_neg (by omega)]
          rw [q0, q15] at d2
          exact ⟨M5, rfl, d2, fun k hk => by rw [d3 k hk, hM4, xu_K hk, a5 k hk, g2 k hk]⟩
        unfold aTake at hu' ⊢
        by_cases h5 : it.getD 5 0 = 1
        · rw [if_pos h5]
          rw [if_pos h5] at hu' ⊢
          rw [m_endAt (i := (56 + 717 * e) + 8) _ (by omega), Option.bind_some, if_pos (b_ib (by omega)), xix_nat (by omega)]
          have hL : RA ((xu M 1 ((56 + 717 * e) + 8) 0) 1) (aL s ((56 + 717 * e) + 18) []) := by
            have g : ∀ i, i ≠ (56 + 717 * e) + 8 → (xu M 1 ((56 + 717 * e) + 8) 0) 1 i = M 1 i := fun i hi => xu_d hi
            refine ⟨fun j hj => by unfold aIx at hj; rw [g j (by omega)]; exact h.1 j hj, fun e' he' => ?_, h.2.2.1.cg (g _ (by omega)) fun i i1 i2 => g i (by omega), h.2.2.2.cg (g _ (by omega)) fun i i1 i2 => g i (by omega)⟩
            by_cases ce : e' = e
            · subst ce
              obtain ⟨⟨b1, b2, b3⟩, ⟨b4, b5⟩, b6⟩ := h.2.1 e' he'
              unfold rE
              have l117 : (aL s ((56 + 717 * e') + 18) []).2.1 ((56 + 717 * e') + 117) = s.2.1 ((56 + 717 * e') + 117) := by rw [aL_2, if_neg (by omega)]
              have l10 : (aL s ((56 + 717 * e') + 18) []).2.1 ((56 + 717 * e') + 10) = s.2.1 ((56 + 717 * e') + 10) := by rw [aL_2, if_neg (by omega)]
              have l18 : (aL s ((56 + 717 * e') + 18) []).2.1 ((56 + 717 * e') + 18) = [] := by rw [aL_2, if_pos rfl]
              have l317 : (aL s ((56 + 717 * e') + 18) []).2.1 ((56 + 717 * e') + 317) = s.2.1 ((56 + 717 * e') + 317) := by rw [aL_2, if_neg (by omega)]
              rw [l117, l10, l18, l317]
              exact ⟨⟨b1.cg (g _ (by omega)) (fun i i1 i2 => g _ (by omega)), b2.cg (g _ (by omega)) (fun i i1 i2 => g _ (by omega)), ⟨Nat.zero_le _, by rw [xu_s rfl]; rfl, fun i hi' => absurd hi' (Nat.not_lt_zero _)⟩⟩, ⟨b4, fun i hi' => by rw [g _ (by omega), b5 i hi']⟩, b6.cg (g _ (by omega)) (fun i i1 i2 => g _ (by omega))⟩
            · exact ((h.2.1 e' he').cg fun i i1 i2 _ _ _ _ _ _ => g i (by omega)).other (fun j hj => by rw [aL_2, if_neg (by omega)]) rfl
          have hphase := hi.1.2.1
          obtain ⟨M2, m1, m2, m3⟩ := r_tell hL (by exact hphase) 7 (e : Int)
          have hev := m2
          rw [m1, Option.bind_some]
          have hiL : aI B (aTell 7 e (aL s ((56 + 717 * e) + 18) [])) := (hi.L (fun x hx => absurd hx List.not_mem_nil) (fun _ _ => ⟨fun _ => Nat.zero_le _, fun _ => Nat.zero_le _, fun _ => Nat.zero_le _, fun _ => Nat.zero_le _⟩)).tell (by unfold aB; omega) (by unfold aB; omega) (by omega)
          have huL : aU (aTell 7 e (aL s ((56 + 717 * e) + 18) [])) := by
            intro e' he'
            obtain ⟨⟨g1, g2⟩, g3, g4⟩ := hu e' he'
            rw [aTell_L, aTell_sc]
            have l10 : (aL s ((56 + 717 * e) + 18) []).2.1 ((56 + 717 * e') + 10) = s.2.1 ((56 + 717 * e') + 10) := by rw [aL_2, if_neg (by omega)]
            have l117 : (aL s ((56 + 717 * e) + 18) []).2.1 ((56 + 717 * e') + 117) = s.2.1 ((56 + 717 * e') + 117) := by rw [aL_2, if_neg (by omega)]
            have l317 : (aL s ((56 + 717 * e) + 18) []).2.1 ((56 + 717 * e') + 317) = s.2.1 ((56 + 717 * e') + 317) := by rw [aL_2, if_neg (by omega)]
            rw [l10, l117, l317]
            refine ⟨⟨g1, ?_⟩, g3, g4⟩
            rw [aL_2]
            by_cases c : (56 + 717 * e') + 18 = (56 + 717 * e) + 18
            · rw [if_pos c]; exact List.nodup_nil
            · rw [if_neg c]; exact g2
          have hsame : ∀ i, 1730 ≤ i → M2 1 i = M 1 i := fun i i1 => by
            obtain ⟨M2', t1, t2, t3, t4⟩ := tellEvent_sp 7 (e : Int) (xu M 1 ((56 + 717 * e) + 8) 0) ((s.2.2 1490)).length h.2.2.2.1 (by rw [xu_d (by omega)]; exact h.2.2.2.2.1) (by rw [xu_d (by omega), h.n 1 (by unfold aIx; omega)]; exact hphase)
            rw [m1] at t1
            have t1' := Option.some.inj t1
            rw [t1', t3 i (by omega) (by omega), xu_d (by omega)]
          obtain ⟨M', n1, n2, n3⟩ := fin _ M2 m2 hiL huL (aTell_fl _ _ _) hsame (fun k hk => by rw [m3 k hk, xu_K hk])
          exact ⟨M', n1, n2, hu', n3⟩
        · rw [if_neg h5]
          rw [if_neg h5] at hu' ⊢
          obtain ⟨M', n1, n2, n3⟩ := fin s M h hi hu rfl (fun _ _ => rfl) (fun _ _ => rfl)
          exact ⟨M', n1, n2, hu', n3⟩
      · rw [if_neg h3]
        rw [if_pos (Or.inr h3)] at hu' ⊢
        obtain ⟨M', m1, m2, m3⟩ := thrown
        exact ⟨M', m1, m2, hu', m3⟩
end

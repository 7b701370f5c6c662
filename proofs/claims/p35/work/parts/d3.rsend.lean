/-! ===== the reference sends ===== -/
theorem aDict_nd {e : Nat} (he : e < 2) {s : aS} (h : aU s) : (aDict e s).Nodup := by
  unfold aDict
  by_cases c : s.1 ((56 + 717 * e) + 9) = 0
  · rw [if_pos c]; exact (h e he).1.1
  · rw [if_neg c]; exact List.nodup_nil
theorem aLaunch_at (e : Nat) (he : e < 2) (num : Int) (b : List Int) (s : aS) (j : Nat) : (aLaunch e num b s).1 j = if j = 54 then s.1 54 + aCost e b s else if j = 46 then s.1 46 + aBad s else if j = 45 then s.1 45 + 1 else if j = (56 + 717 * e) + 9 then 0 else if j = (56 + 717 * e) + 5 then s.1 ((56 + 717 * e) + 5) - aCost e b s else s.1 j := rfl
theorem aLaunch_Lat (e : Nat) (num : Int) (b : List Int) (s : aS) (j : Nat) : (aLaunch e num b s).2.1 j = if j = (56 + 717 * e) + 10 then aWr (aDict e s) b else s.2.1 j := rfl
theorem aU.launch {s : aS} (h : aU s) {e : Nat} (he : e < 2) (num : Int) (b : List Int) : aU (aLaunch e num b s) := fun e' he' => by
  obtain ⟨⟨h1, h2⟩, h3, h4⟩ := h e' he'
  rw [aLaunch_L e num b s ((56 + 717 * e') + 18) (by omega), aLaunch_L e num b s ((56 + 717 * e') + 117) (by omega), aLaunch_L e num b s ((56 + 717 * e') + 317) (by omega), aLaunch_sc e num b s ((56 + 717 * e') + 4) (by omega) (by omega) (by omega) (by omega) (by omega), aLaunch_Lat]
  refine ⟨⟨?_, h2⟩, h3, h4⟩
  by_cases c : (56 + 717 * e') + 10 = (56 + 717 * e) + 10
  · rw [if_pos c]; exact aWr_nodup b (aDict_nd he h)
  · rw [if_neg c]; exact h1
theorem getD_app (p q : List Int) (j : Nat) : (p ++ q).getD (p.length + j) 0 = q.getD j 0 := by
  rw [List.getD_eq_getElem?_getD, List.getElem?_append_right (by omega), Nat.add_sub_cancel_left, List.getD_eq_getElem?_getD]
theorem getD_snoc (p : List (List Int)) (x : List Int) {i : Nat} (h : i < p.length) : (p ++ [x]).getD i [] = p.getD i [] := by
  rw [List.getD_eq_getElem?_getD, List.getElem?_append_left h, List.getD_eq_getElem?_getD]
theorem r_launch {s : aS} {e : Nat} (he : e < 2) {fr : Nat} {l : List Int} {B : Int} (hB : B ≤ 900000000) (hi : aI B s) (hu : aU s) {M : xM} (h : RA (M 1) s) (hrl : aRl B l) (hl : 1 ≤ l.length ∧ l.length ≤ 8) (hfr : (56 + 717 * e) + 18 ≤ fr ∧ fr + l.length ≤ 1490) (hs : ∀ i, i < l.length → M 1 (fr + i) = l.getD i 0) (hfl : ((s.2.2 1730)).length ≤ 100) (num : Int) :
    (s.1 ((56 + 717 * e) + 5) < aCost e l s ∧ ∃ M' : xM, f_m_launch (e : Int) num (fr : Int) (l.length : Int) M = some (0, M') ∧ (∀ i, M' 1 i = M 1 i) ∧ bMK M M') ∨
    (¬ s.1 ((56 + 717 * e) + 5) < aCost e l s ∧ ∃ M' : xM, f_m_launch (e : Int) num (fr : Int) (l.length : Int) M = some (1, M') ∧ RA (M' 1) (aLaunch e num l s) ∧ bMK M M') := by
  have he2 : e = 0 ∨ e = 1 := by omega
  obtain ⟨M0, k1, k2, k3, k4, k5⟩ := keepWords_sp e ((56 + 717 * e)) M he rfl
  have k01 : M0 1 = M 1 := k5 1 (by omega) (by omega)
  have hmk := (hi.2.2.2.1 e he).2.2.2.2
  have cr := (hi.2.2.2.1 e he).2.2.1
  have hco := aCost_le e l s
  obtain ⟨Mw, w1, w2, w3, w4⟩ := r_write e fr he (by omega : B ≤ 2147483647) hi hu (M := M0) (by rw [k01]; exact h) hrl hl.2 hfr (fun i hi => by rw [k01]; exact hs i hi)
  rw [k01] at w3
  have h5 : Mw 1 ((56 + 717 * e) + 5) = s.1 ((56 + 717 * e) + 5) := by rw [w3 _ (by omega) (by omega)]; exact h.n _ (by unfold aIx; omega)
  have h9 : M0 1 ((56 + 717 * e) + 9) = s.1 ((56 + 717 * e) + 9) := by rw [k01]; exact h.n _ (by unfold aIx; omega)
  unfold f_m_launch
  rw [k1, Option.bind_some, m_of (i := (56 + 717 * e) + 9) M0 (by omega) (by omega), Option.bind_some, w1, Option.bind_some]
  dsimp only
  rw [m_of (i := (56 + 717 * e) + 5) Mw (by omega) (by omega), Option.bind_some, h5, xw_id (x := s.1 ((56 + 717 * e) + 5)) (by omega) (by omega), xw_id (x := aCost e l s) (by omega) (by omega)]
  have mk0 : ∀ X : xM, (∀ k, k ≠ 1 → X k = Mw k) → bMK M X := fun X hX => ⟨fun k h0 h1 h6 => by rw [hX k h1, w4 k h1, k5 k h0 h6], fun j hj => by rw [hX 0 (by omega), w4 0 (by omega), k4 j hj]⟩
  by_cases hc : s.1 ((56 + 717 * e) + 5) < aCost e l s
  · refine Or.inl ⟨hc, ?_⟩
    rw [if_pos hc]
    obtain ⟨M', t1, t2, t3, t4, t5⟩ := takeWords_sp e ((56 + 717 * e)) Mw he rfl
    rw [t1, Option.bind_some]
    refine ⟨M', rfl, fun i => ?_, mk0 M' t5⟩
    by_cases c7 : i = (56 + 717 * e) + 7
    · rw [c7, t2, w4 0 (by omega), k2]
    · by_cases c10 : (56 + 717 * e) + 10 ≤ i ∧ i < (56 + 717 * e) + 18
      · have := t3 (i - ((56 + 717 * e) + 10)) (by omega)
        rw [show (56 + 717 * e) + 10 + (i - ((56 + 717 * e) + 10)) = i by omega] at this
        rw [this, w4 6 (by omega), k3 _ (by omega)]
        congr 1
        omega
      · rw [t4 i c7 (by omega), w3 i c7 (by omega)]
  · refine Or.inr ⟨hc, ?_⟩
    rw [if_neg hc]
    have hx5 : xix (56 + 717 * (e : Int) + 5) = (56 + 717 * e) + 5 := by rw [b_ix (by omega)]; omega
    rw [m_endAt (i := (56 + 717 * e) + 5) _ (by omega), Option.bind_some, if_pos (b_ib (by omega)), if_pos (b_ib (by omega)), m_endAt (i := (56 + 717 * e) + 9) _ (by omega), Option.bind_some, if_pos (b_ib (by omega)), xix_nat (by omega), xix_nat (by omega), h5, h9]
    obtain ⟨M2, hM2⟩ : ∃ Z, Z = xu (xu Mw 1 ((56 + 717 * e) + 5) (s.1 ((56 + 717 * e) + 5) - aCost e l s)) 1 ((56 + 717 * e) + 9) 0 := ⟨_, rfl⟩
    rw [← hM2]
    have g2 : ∀ i, i ≠ (56 + 717 * e) + 5 → i ≠ (56 + 717 * e) + 9 → M2 1 i = Mw 1 i := fun i i5 i9 => by rw [hM2, xu_d i9, xu_d i5]
    have gs : ∀ j, aIx j → j ≠ (56 + 717 * e) + 5 → j ≠ (56 + 717 * e) + 9 → M2 1 j = s.1 j := fun j hj j5 j9 => by
      unfold aIx at hj
      rw [g2 j j5 j9, w3 j (by omega) (by omega)]
      exact h.1 j hj
    have hsm := hi.1.1.1
    have h45 := hi.1.2.2.2.2.2
    have r45 := hi.2.1.1 45
    unfold aB at r45
    have e20 : M2 1 20 = (((s.2.2 1730)).length : Int) := by rw [g2 _ (by omega) (by omega), w3 _ (by omega) (by omega)]; exact h.2.2.1.2.1
    have e45 : M2 1 45 = (((s.1 45).toNat : Nat) : Int) := by rw [gs 45 (by unfold aIx; omega) (by omega) (by omega), Int.toNat_of_nonneg h45]
    have e19 : M2 1 19 = (((s.1 19).toNat : Nat) : Int) := by rw [gs 19 (by unfold aIx; omega) (by omega) (by omega), Int.toNat_of_nonneg (by omega)]
    obtain ⟨M', l1, l2, ⟨l3, l4, l5⟩, ⟨q0, q1, q2, q3, q4, q5, q6, q7⟩, l6, l7⟩ := m_launch_69 e ((56 + 717 * e)) ((s.2.2 1730)).length fr l.length (s.1 45).toNat (s.1 19).toNat num (s.1 ((56 + 717 * e) + 9)) (aCost e l s) M2 he rfl hfr.2 hfr.1 hl.2 hfl e20 e45 (by omega) e19 (by omega)
    have hmod : (s.1 45 % s.1 19).toNat = (s.1 45).toNat % (s.1 19).toNat := by
      obtain ⟨a, ha⟩ := Int.eq_ofNat_of_zero_le h45
      obtain ⟨b, hb⟩ := Int.eq_ofNat_of_zero_le (by omega : 0 ≤ s.1 19)
      rw [ha, hb]
      rfl
    have hmlt : (s.1 45).toNat % (s.1 19).toNat < (s.1 19).toNat := Nat.mod_lt _ (by omega)
    have hbad : bDm (M2 1) (s.1 45).toNat (s.1 19).toNat = aBad s := by
      have n2 := gs 2 (by unfold aIx; omega) (by omega) (by omega)
      have n3 := gs 3 (by unfold aIx; omega) (by omega) (by omega)
      have nn := gs (25 + (s.1 45).toNat % (s.1 19).toNat) (by unfold aIx; omega) (by omega) (by omega)
      have r2 := hi.2.1.1 2
      have r3 := hi.2.1.1 3
      have rn := hi.2.1.1 (25 + (s.1 45).toNat % (s.1 19).toNat)
      unfold aB at r2 r3 rn
      unfold bDm aBad
      rw [n2, n3, nn, hmod, xw_id (x := s.1 2) (by omega) (by omega), xw_id (x := s.1 (25 + (s.1 45).toNat % (s.1 19).toNat) + s.1 3) (by omega) (by omega)]
    rw [hbad] at l4 q5
    refine ⟨M', l1, ?_, mk0 M' (fun k hk => by rw [l7 k hk, hM2, xu_K hk, xu_K hk])⟩
    have g' : ∀ i, i ≠ (56 + 717 * e) + 5 → i ≠ (56 + 717 * e) + 9 → i ≠ (56 + 717 * e) + 7 → (i < (56 + 717 * e) + 10 ∨ (56 + 717 * e) + 18 ≤ i) → i ≠ 20 → i ≠ 45 → i ≠ 46 → i ≠ 54 → (i < 1730 + 15 * ((s.2.2 1730)).length ∨ 1745 + 15 * ((s.2.2 1730)).length ≤ i) → M' 1 i = M 1 i := fun i i5 i9 i7 i10 i20 i45 i46 i54 iw => by
      rw [l6 i i20 i45 i46 i54 iw, g2 i i5 i9, w3 i i7 i10]
    refine ⟨fun j hj => ?_, fun e' he' => ?_, ?_, ?_⟩
    · rw [aLaunch_at e he]
      by_cases c54 : j = 54
      · rw [if_pos c54, c54, l5, gs 54 (by unfold aIx; omega) (by omega) (by omega)]
      · rw [if_neg c54]
        by_cases c46 : j = 46
        · rw [if_pos c46, c46, l4, gs 46 (by unfold aIx; omega) (by omega) (by omega)]
        · rw [if_neg c46]
          by_cases c45 : j = 45
          · rw [if_pos c45, c45, l3, gs 45 (by unfold aIx; omega) (by omega) (by omega)]
          · rw [if_neg c45]
            by_cases c9 : j = (56 + 717 * e) + 9
            · rw [if_pos c9, c9, l6 _ (by omega) (by omega) (by omega) (by omega) (by omega), hM2, xu_s rfl]
            · rw [if_neg c9]
              by_cases c5 : j = (56 + 717 * e) + 5
              · rw [if_pos c5, c5, l6 _ (by omega) (by omega) (by omega) (by omega) (by omega), hM2, xu_d (by omega), xu_s rfl]
              · rw [if_neg c5]
                have hj2 := hj
                unfold aIx at hj2
                rw [g' j c5 c9 (by omega) (by omega) (by omega) c45 c46 c54 (by omega)]
                exact h.1 j hj
    · by_cases ce : e' = e
      · subst ce
        obtain ⟨⟨b1, b2, b3⟩, ⟨b4, b5⟩, b6⟩ := h.2.1 e' he'
        unfold rE
        rw [aLaunch_L e' num l s ((56 + 717 * e') + 117) (by omega), aLaunch_L e' num l s ((56 + 717 * e') + 18) (by omega), aLaunch_L e' num l s ((56 + 717 * e') + 317) (by omega), aLaunch_F e' num l s _ (by omega), aLaunch_Lat, if_pos rfl]
        refine ⟨⟨b1.cg (g' _ (by omega) (by omega) (by omega) (by omega) (by omega) (by omega) (by omega) (by omega) (by omega)) (fun i i1 i2 => g' _ (by omega) (by omega) (by omega) (by omega) (by omega) (by omega) (by omega) (by omega) (by omega)), w2.cg ?_ ?_, b3.cg (g' _ (by omega) (by omega) (by omega) (by omega) (by omega) (by omega) (by omega) (by omega) (by omega)) (fun i i1 i2 => g' _ (by omega) (by omega) (by omega) (by omega) (by omega) (by omega) (by omega) (by omega) (by omega))⟩, ⟨b4, fun i hi => by rw [g' _ (by omega) (by omega) (by omega) (by omega) (by omega) (by omega) (by omega) (by omega) (by omega), b5 i hi]⟩, b6.cg (g' _ (by omega) (by omega) (by omega) (by omega) (by omega) (by omega) (by omega) (by omega) (by omega)) (fun i i1 i2 => g' _ (by omega) (by omega) (by omega) (by omega) (by omega) (by omega) (by omega) (by omega) (by omega))⟩
        · rw [l6 _ (by omega) (by omega) (by omega) (by omega) (by omega), g2 _ (by omega) (by omega)]
        · intro i i1 i2
          rw [l6 _ (by omega) (by omega) (by omega) (by omega) (by omega), g2 _ (by omega) (by omega)]
      · exact ((h.2.1 e' he').cg fun i i1 i2 _ _ _ _ _ _ => g' i (by omega) (by omega) (by omega) (by omega) (by omega) (by omega) (by omega) (by omega) (by omega)).other (fun j hj => aLaunch_L e num l s j (by omega)) (aLaunch_F e num l s _ (by omega))
    · rw [aLaunch_fl]
      obtain ⟨c1, c2, c3⟩ := h.2.2.1
      have c1' : (s.2.2 1730).length ≤ 120 := c1
      refine ⟨by rw [List.length_append, List.length_singleton]; omega, by rw [l2, List.length_append, List.length_singleton], fun p hp => ?_⟩
      rw [List.length_append, List.length_singleton] at hp
      by_cases cp : p < ((s.2.2 1730)).length
      · rw [getD_snoc _ _ cp]
        exact (c3 p cp).cg fun i i1 i2 => g' i (by omega) (by omega) (by omega) (by omega) (by omega) (by omega) (by omega) (by omega) (by omega)
      · have ep : p = ((s.2.2 1730)).length := by omega
        rw [ep, getD_mid]
        have hlen : (aItem e num l s).length = 6 + l.length := by unfold aItem; rw [List.length_append]; rfl
        refine ⟨by rw [hlen]; omega, ?_, q1, q2, q3, fun _ => ⟨by rw [hlen, q4]; omega, q5, ?_, fun j hj => ?_⟩⟩
        · rw [q0, gs 0 (by unfold aIx; omega) (by omega) (by omega), gs 15 (by unfold aIx; omega) (by omega) (by omega)]
          rfl
        · rw [q6]
          show s.1 ((56 + 717 * e) + 9) = if s.1 ((56 + 717 * e) + 9) = 0 then 0 else 1
          by_cases c9 : s.1 ((56 + 717 * e) + 9) = 0
          · rw [if_pos c9, c9]
          · rw [if_neg c9]; omega
        · rw [hlen] at hj
          rw [q7 j (by omega), g2 _ (by omega) (by omega), w3 _ (by omega) (by omega), hs j (by omega)]
          unfold aItem
          exact (getD_app [s.1 0 + s.1 15, 0, 1 - (e : Int), num, aBad s, if s.1 ((56 + 717 * e) + 9) = 0 then 0 else 1] l j).symm
    · rw [aLaunch_F e num l s _ (by omega)]
      exact h.2.2.2.cg (g' _ (by omega) (by omega) (by omega) (by omega) (by omega) (by omega) (by omega) (by omega) (by omega)) fun i i1 i2 => g' i (by omega) (by omega) (by omega) (by omega) (by omega) (by omega) (by omega) (by omega) (by omega)

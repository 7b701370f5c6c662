/-! ===== the reference's tick ===== -/
section
variable {s : aS} {B : Int}
theorem r_arr_loop {T : Int} {Bq : Int} {N0 n0 : Nat} (hB : Bq ≤ 600000000) (h8 : 8 ≤ Bq) (hn0 : n0 ≤ 100) : ∀ (r P Q : List (List Int)) (n : Nat) (M : xM) (t : aS), aJ T Bq N0 n0 r t → aU t → RA (M 1) (aF t 1730 (P ++ (r ++ Q))) → (t.2.2 1730) = P ++ ((r.filter fun it => decide (it.getD 0 0 ≠ T)) ++ Q) → (∀ a, a ∈ Q → a.getD 0 0 ≠ T) → P.length + r.length + Q.length ≤ 100 → r.length + 200 < n → ∃ M' : xM, f_m_arrivals_2 n (P.length : Int) M = some M' ∧ RA (M' 1) (aLands T r t) ∧ aU (aLands T r t) ∧ ∀ k, k ≠ 1 → M' k = M k
  | [], P, Q, n, M, t, hj, hu, h, hf, hQ, hl, hn => by
    have hr := hj.2.1.2.1
    rw [List.filter_nil, List.nil_append] at hf
    rw [List.nil_append, ← hf, aF_self] at h
    obtain ⟨c1, c2, c3⟩ := h.2.2.1
    have hlen : (t.2.2 1730).length = P.length + Q.length := by rw [show t.2.2 1730 = P ++ Q from hf, List.length_append]
    have n0' := h.n 0 (by unfold aIx; omega)
    refine ⟨M, ?_, h, hu, fun _ _ => rfl⟩
    refine arrivals_no M (P.length + Q.length) (by omega) (by rw [c2, hlen]) Q.length P.length n (by omega) (by omega) (by omega) (fun i i1 i2 => ?_)
    have hY := (c3 i (by omega)).2.1
    rw [hY, n0', hj.1]
    have hm : (t.2.2 1730).getD i [] ∈ Q := by
      rw [show t.2.2 1730 = P ++ Q from hf, getD_B _ _ i1, List.getD_eq_getElem?_getD, List.getElem?_eq_getElem (by omega)]
      exact List.getElem_mem _
    have hm2 : (t.2.2 1730).getD i [] ∈ t.2.2 1730 := by rw [show t.2.2 1730 = P ++ Q from hf] at hm ⊢; exact List.mem_append_right _ hm
    have hx := aRl_get (hr.2.2 1730 _ hm2) (by rw [List.length_nil]; omega) 0
    have h0 := hr.1 0
    rw [hj.1] at h0
    rw [hx.xw (by rw [List.length_nil]; omega), h0.xw (by rw [List.length_nil]; omega)]
    exact hQ _ hm
  | it :: r, P, Q, 0, M, t, hj, hu, h, hf, hQ, hl, hn => by omega
  | it :: r, P, Q, n + 1, M, t, hj, hu, h, hf, hQ, hl, hn => by
    obtain ⟨j1, j2⟩ := hj.step h8
    obtain ⟨q1, q2, q3, q4, q5⟩ := id hj
    obtain ⟨i1, i2⟩ := q4 it List.mem_cons_self
    rw [List.length_cons] at hl hn q2 q5
    have hx0 := aRl_get i2 (by omega) 0
    have hT := q2.2.1.1 0
    rw [q1] at hT
    obtain ⟨c1, c2, c3⟩ := h.2.2.1
    have efl : (aF t 1730 (P ++ (it :: r ++ Q))).2.2 1730 = P ++ (it :: (r ++ Q)) := by rw [aF_3, if_pos rfl]; rfl
    rw [efl] at c1 c2 c3
    have hlen : (P ++ it :: (r ++ Q)).length = P.length + (r.length + Q.length + 1) := by rw [List.length_append, List.length_cons, List.length_append]
    have hY := c3 P.length (by omega)
    rw [getD_mid] at hY
    obtain ⟨y0, y1, y2, y3, y4, y5⟩ := hY
    have n0' := h.n 0 (by unfold aIx; omega)
    have n0'' : M 1 0 = T := by rw [n0', aF_1]; exact q1
    rw [f_m_arrivals_2, if_pos (by decide), c2, hlen, if_pos (by rw [xw_nat (by omega), xw_nat (by omega)]; omega), m_flyAt (i := 1730 + 15 * P.length) _ (by omega), Option.bind_some, if_pos (b_ib (by omega)), if_pos (by decide), xix_nat (by omega), y1, n0'', hx0.xw (by omega), hT.xw (by omega), aLands]
    by_cases c : it.getD 0 0 = T
    · rw [if_pos c, if_pos c, m_flyAt (i := 1730 + 15 * P.length + 1) _ (by omega), Option.bind_some, if_pos (b_ib (by omega)), xix_nat (by omega), y2, (aRl_get i2 (by omega) 1).xw (by omega), show xw 1 = 1 by decide]
      rw [List.filter_cons_of_neg (by rw [decide_eq_true_eq]; exact fun w => w c)] at hf
      have hiu : aI (Bq + 30 * ((n0 : Int) - (r.length + 1 : Nat))) (aF t 1730 (P ++ (it :: r ++ Q))) := by
        refine q2.Fl fun x hx => ?_
        have hin : ∀ y, y ∈ (t.2.2 1730) → aItOk y ∧ aRl (Bq + 30 * ((n0 : Int) - (r.length + 1 : Nat))) y := fun y hy => ⟨q2.2.2.2.2 y hy, q2.2.1.2.2 1730 y hy⟩
        rcases List.mem_append.mp hx with hx | hx
        · exact hin x (by rw [hf]; exact List.mem_append_left _ hx)
        · rcases List.mem_append.mp hx with hx | hx
          · obtain ⟨w1, w2⟩ := q4 x hx
            exact ⟨w1, w2.le (by omega)⟩
          · exact hin x (by rw [hf]; exact List.mem_append_right _ (List.mem_append_right _ hx))
      obtain ⟨M1, a1, a2, a3, a4⟩ := r_arrive (P := P) (R := r ++ Q) (it := it) h hiu (by exact hu) (by omega) (by omega) efl (by rw [efl, hlen]; omega) i1
      obtain ⟨k1, k2⟩ := aLand_c it t (P ++ (it :: r ++ Q))
      rw [k1] at a2
      have hnewl : (aNewA it t).length ≤ 1 := by
        unfold aNewA
        by_cases d1 : it.getD 1 0 = 1
        · rw [if_pos d1]; exact Nat.zero_le _
        · rw [if_neg d1]
          by_cases d2 : it.getD 4 0 = 1 ∨ it.getD 3 0 ≠ t.1 ((56 + 717 * (it.getD 2 0).toNat) + 3)
          · rw [if_pos d2]; exact Nat.zero_le _
          · rw [if_neg d2]; exact Nat.le_refl _
      have hnewT : ∀ a, a ∈ aNewA it t → a.getD 0 0 ≠ T := fun a ha => by
        have hd := q2.1.1.2.1.2.1
        unfold aNewA at ha
        by_cases d1 : it.getD 1 0 = 1
        · rw [if_pos d1] at ha; exact absurd ha List.not_mem_nil
        · rw [if_neg d1] at ha
          by_cases d2 : it.getD 4 0 = 1 ∨ it.getD 3 0 ≠ t.1 ((56 + 717 * (it.getD 2 0).toNat) + 3)
          · rw [if_pos d2] at ha; exact absurd ha List.not_mem_nil
          · rw [if_neg d2, List.mem_singleton] at ha
            rw [ha]
            show t.1 0 + t.1 15 ≠ T
            omega
      have e2 : (aF (aLand it t) 1730 (P ++ (it :: r ++ Q) ++ aNewA it t)).2.2 1730 = P ++ it :: (r ++ (Q ++ aNewA it t)) := by
        rw [aF_3, if_pos rfl]
        simp only [List.append_assoc, List.cons_append]
      have hlen2 : (P ++ it :: (r ++ (Q ++ aNewA it t))).length ≤ 119 := by
        rw [List.length_append, List.length_cons, List.length_append, List.length_append]
        omega
      obtain ⟨M2, b1, b2, b3⟩ := a2.rmfly e2 (by rw [e2]; exact hlen2)
      rw [aF_aF] at b2
      have hjn := j1 (by rw [q1]; exact c)
      have hlQ : P.length + r.length + (Q ++ aNewA it t).length ≤ 100 := by rw [List.length_append]; omega
      obtain ⟨M', d1, d2, d3, d4⟩ := r_arr_loop hB h8 hn0 r P (Q ++ aNewA it t) n M2 (aLand it t) hjn (hu.land (by rcases i1.1.1.2 with w | w <;> rw [w] <;> decide)) b2 (by rw [k2, hf, List.append_assoc, List.append_assoc]) (fun a ha => by
        rcases List.mem_append.mp ha with ha | ha
        · exact hQ a ha
        · exact hnewT a ha) hlQ (by omega)
      refine ⟨M', ?_, d2, d3, fun k hk => by rw [d4 k hk, b3 k hk, a4 k hk]⟩
      unfold f_m_arrivals_65
      by_cases d : it.getD 1 0 = 1
      · rw [if_pos d] at a1
        rw [if_pos d, a1, Option.bind_some, b1, Option.bind_some, d1]
      · rw [if_neg d] at a1
        rw [if_neg d, a1, Option.bind_some, b1, Option.bind_some, d1]
    · rw [if_neg c, if_neg c]
      rw [List.filter_cons_of_pos (by rw [decide_eq_true_eq]; exact c)] at hf
      have e3 : P ++ (it :: r ++ Q) = (P ++ [it]) ++ (r ++ Q) := by rw [List.append_assoc]; rfl
      rw [e3] at h
      obtain ⟨M', d1, d2, d3, d4⟩ := r_arr_loop hB h8 hn0 r (P ++ [it]) Q n M t (j2 (by rw [q1]; exact c)) hu h (by rw [hf, List.append_assoc]; rfl) hQ (by rw [List.length_append, List.length_singleton]; omega) (by omega)
      have elen : ((P ++ [it]).length : Int) = (P.length : Int) + 1 := by rw [List.length_append]; rfl
      rw [elen] at d1
      exact ⟨M', d1, d2, d3, d4⟩
theorem r_arrivals {M : xM} (h : RA (M 1) s) (hi : aI B s) (hu : aU s) (hB : B ≤ 500000000) (h8 : 8 ≤ B) (hl : ((s.2.2 1730)).length ≤ 50) : ∃ M' : xM, f_m_arrivals M = some M' ∧ RA (M' 1) (aArr s) ∧ aU (aArr s) ∧ ∀ k, k ≠ 1 → M' k = M k := by
  have h1 : RA (M 1) (aF (aF s 1730 (((s.2.2 1730)).filter fun it => decide (it.getD 0 0 ≠ s.1 0))) 1730 ([] ++ ((s.2.2 1730) ++ []))) := by
    rw [aF_aF, List.nil_append, List.append_nil, aF_self]
    exact h
  exact r_arr_loop (by omega : B ≤ 600000000) h8 (by omega) ((s.2.2 1730)) [] [] fu M _ (aJ.begin hi) hu h1 (by rw [aF_3, if_pos rfl, List.nil_append, List.append_nil]) (fun a ha => absurd ha List.not_mem_nil) (by show 0 + _ + 0 ≤ 100; omega) (by show _ < 5000; omega)
/-- all frames of an end are marked -/
theorem RA.mark {N N' : Nat → Int} (h : RA N s) {e : Nat} (he : e < 2) (h1 : ∀ p, p < ((s.2.2 (56 + 717 * e + 26))).length → N' ((56 + 717 * e) + 26 + 13 * p + 3) = 1) (h2 : ∀ i, (∀ p, p < ((s.2.2 (56 + 717 * e + 26))).length → i ≠ (56 + 717 * e) + 26 + 13 * p + 3) → N' i = N i) : RA N' (aF s ((56 + 717 * e) + 26) (aMark ((s.2.2 (56 + 717 * e + 26))))) := by
  have he2 : e = 0 ∨ e = 1 := by omega
  obtain ⟨a1, a2, a3, a4⟩ := h
  have hl7 := (a2 e he).2.2.1
  have hl7' : (s.2.2 ((56 + 717 * e) + 26)).length ≤ 7 := hl7
  have g : ∀ i, (i < (56 + 717 * e) + 26 ∨ (56 + 717 * e) + 117 ≤ i) → N' i = N i := fun i hi => h2 i fun p hp => by omega
  refine ⟨fun j hj => by unfold aIx at hj; rw [g j (by omega)]; exact a1 j hj, fun e' he' => ?_, by rw [aF_3, if_neg (by omega)]; exact a3.cg (g _ (by omega)) fun i i1 i2 => g i (by omega), by rw [aF_3, if_neg (by omega)]; exact a4.cg (g _ (by omega)) fun i i1 i2 => g i (by omega)⟩
  by_cases ce : e' = e
  · subst ce
    obtain ⟨⟨b1, b2, b3⟩, ⟨b4, b5⟩, b6, b7, b8⟩ := a2 e' he'
    have b4' : (s.2.1 ((56 + 717 * e') + 317)).length ≤ 400 := b4
    have hml : (aMark ((s.2.2 (56 + 717 * e' + 26)))).length = ((s.2.2 (56 + 717 * e' + 26))).length := List.length_map _
    unfold rE
    rw [aF_3, if_pos rfl]
    refine ⟨⟨b1.cg (g _ (by omega)) (fun i i1 i2 => g _ (by omega)), b2.cg (g _ (by omega)) (fun i i1 i2 => g _ (by omega)), b3.cg (g _ (by omega)) (fun i i1 i2 => g _ (by omega))⟩, ⟨b4, fun i hi' => ?_⟩, by rw [hml]; exact b6, by rw [hml, g _ (by omega), b7], fun p hp => ?_⟩
    · have hi2 : i < (s.2.1 ((56 + 717 * e') + 317)).length := hi'
      rw [g _ (by omega), b5 i hi2]
      rfl
    · rw [hml] at hp
      have hb := b8 p hp
      have eg : (aMark ((s.2.2 (56 + 717 * e' + 26)))).getD p [] = (((s.2.2 (56 + 717 * e' + 26))).getD p []).set 2 1 := by
        unfold aMark
        rw [List.getD_eq_getElem?_getD, List.getElem?_map, List.getD_eq_getElem?_getD, List.getElem?_eq_getElem hp]
        rfl
      rw [eg]
      obtain ⟨f, hf⟩ : ∃ f, f = ((s.2.2 (56 + 717 * e' + 26))).getD p [] := ⟨_, rfl⟩
      rw [← hf] at hb ⊢
      obtain ⟨⟨c1, c1'⟩, c2, c3, c4, c5, c6⟩ := hb
      have gd : ∀ i, i ≠ 2 → (f.set 2 1).getD i 0 = f.getD i 0 := fun i i2 => by
        rw [List.getD_eq_getElem?_getD, List.getElem?_set_ne (by omega), List.getD_eq_getElem?_getD]
      have gq : ∀ i, i < 13 → i ≠ 3 → N' ((56 + 717 * e') + 26 + 13 * p + i) = N ((56 + 717 * e') + 26 + 13 * p + i) := fun i i1 i2 => h2 _ fun q hq => by omega
      refine ⟨by rw [List.length_set]; exact ⟨c1, c1'⟩, by have := gq 0 (by omega) (by omega); rw [Nat.add_zero] at this; rw [this, gd 0 (by omega), c2], by rw [List.length_set, gq 1 (by omega) (by omega), c3], by rw [gq 2 (by omega) (by omega), gd 1 (by omega), c4], ?_, fun j hj => ?_⟩
      · rw [h1 p hp, List.getD_eq_getElem?_getD, List.getElem?_set_self (by omega)]
        rfl
      · rw [List.length_set] at hj
        rw [Nat.add_assoc, gq (4 + j) (by omega) (by omega), ← Nat.add_assoc, gd (3 + j) (by omega), c6 j hj]
  · exact ((a2 e' he').cg fun i i1 i2 _ _ _ _ _ _ => g i (by omega)).other (fun _ _ => rfl) (by rw [aF_3, if_neg (by omega)])
theorem aU.same {t : aS} (h : aU s) (h1 : t.2.1 = s.2.1) (h2 : ∀ e, e < 2 → t.1 ((56 + 717 * e) + 4) = s.1 ((56 + 717 * e) + 4)) : aU t := fun e' he' => by
  have := h e' he'
  rw [h1, h2 e' he']
  exact this
theorem aU.off (h : aU s) (e : Nat) (he : e < 2) : aU (aOff e s) := fun e' he' => by
  obtain ⟨⟨g1, g2⟩, g3, g4⟩ := h e' he'
  have l : ∀ j, j ≠ (56 + 717 * e) + 117 → (aOff e s).2.1 j = s.2.1 j := fun j hj => by unfold aOff; rw [aF_2, aL_2, if_neg hj]
  have l4 : (aOff e s).1 ((56 + 717 * e') + 4) = s.1 ((56 + 717 * e') + 4) := rfl
  rw [l ((56 + 717 * e') + 10) (by omega), l ((56 + 717 * e') + 18) (by omega), l ((56 + 717 * e') + 317) (by omega), l4]
  refine ⟨⟨g1, g2⟩, ?_, g4⟩
  by_cases c : (56 + 717 * e') + 117 = (56 + 717 * e) + 117
  · unfold aOff
    rw [aF_2, aL_2, if_pos c]
    exact Nat.zero_le _
  · rw [l _ c]; exact g3
theorem aU.hang (h : aU s) : aU (aHang s) := by
  have h1 : aU (aF (aN s 1 0) 1730 []) := h.same rfl (fun e he => by rw [aF_1, aN_1, if_neg (by omega)])
  have h2 := (h1.off 0 (by omega)).off 1 (by omega)
  unfold aHang
  dsimp only
  exact h2.same rfl (fun e he => by rw [aTell_sc, aN_1, if_neg (by omega)])
theorem aN_self (s : aS) {j : Nat} {x : Int} (h : s.1 j = x) : aN s j x = s := by
  refine Prod.ext (funext fun k => ?_) rfl
  rw [aN_1]
  by_cases c : k = j
  · rw [if_pos c, c, h]
  · rw [if_neg c]
theorem r_fall {M : xM} (h : RA (M 1) s) (hi : aI B s) (hu : aU s) (hB : B ≤ 900000000) (h9 : s.1 9 = 0) : ∃ M' : xM, f_m_fall M = some M' ∧ RA (M' 1) (aFall s) ∧ aU (aFall s) ∧ ∀ k, k ≠ 1 → M' k = M k := by
  have n3 := h.n 3 (by unfold aIx; omega)
  have n49 := h.n 49 (by unfold aIx; omega)
  unfold f_m_fall aFall
  rw [if_pos (by decide), n3, (hi.2.1.1 3).xw (by omega)]
  by_cases c : s.1 3 = 0
  · rw [if_pos c, if_pos c]
    obtain ⟨M', m1, m2, m3⟩ := r_hang h
    rw [m1, Option.bind_some]
    exact ⟨M', rfl, m2, hu.hang, m3⟩
  · rw [if_neg c, if_neg c, if_pos (by decide), if_pos (by decide), if_pos (by decide), if_pos (by decide), if_pos (by decide), if_pos (by decide), n49]
    have h2 : RA ((xu (xu (xu (xu M 1 3 (s.1 3 - 1)) 1 8 0) 1 9 0) 1 49 (s.1 49 + 1)) 1) (aN (aN (aN (aN s 3 (s.1 3 - 1)) 8 0) 9 0) 49 (s.1 49 + 1)) := (((h.num (j := 3) (by unfold aIx; omega) _).num (j := 8) (by unfold aIx; omega) _).num (j := 9) (by unfold aIx; omega) _).num (j := 49) (by unfold aIx; omega) _
    rw [aN_self (aN (aN s 3 (s.1 3 - 1)) 8 0) (j := 9) (x := 0) (by rw [aN_1, if_neg (by omega), aN_1, if_neg (by omega)]; exact h9)] at h2
    obtain ⟨M', m1, m2, m3⟩ := r_tell h2 (by exact hi.1.2.1) 2 (-1)
    unfold f_m_fall_51
    rw [m1, Option.bind_some]
    exact ⟨M', rfl, m2, hu.same rfl (fun e he => by rw [aTell_sc, aN_1, if_neg (by omega), aN_1, if_neg (by omega), aN_1, if_neg (by omega)]), fun k hk => by rw [m3 k hk, xu_K hk, xu_K hk, xu_K hk, xu_K hk]⟩
theorem r_timer {M : xM} (h : RA (M 1) s) (hi : aI B s) (hu : aU s) (hB : B ≤ 800000000) (h6 : 6 ≤ B) {e : Nat} (he : e < 2) : ∃ M' : xM, f_m_timer (e : Int) M = some M' ∧ RA (M' 1) (aTimer e s) ∧ aU (aTimer e s) ∧ ∀ k, k ≠ 1 → M' k = M k := by
  obtain ⟨c1, c2, c3⟩ := (h.2.1 e he).2.2
  have c1' : (s.2.2 ((56 + 717 * e) + 26)).length ≤ 7 := c1
  have n0 := h.n 0 (by unfold aIx; omega)
  have n16 := h.n 16 (by unfold aIx; omega)
  have r0 := hi.2.1.1 0
  have r16 := hi.1.1.2.1.2.2.1
  have r15 := hi.1.1.2.1.2.1
  unfold aB at r0
  unfold f_m_timer
  rw [r_firstThat h hi he (Or.inl rfl), Option.bind_some]
  unfold aTimer
  by_cases hp : aFst 0 ((s.2.2 (56 + 717 * e + 26))) < ((s.2.2 (56 + 717 * e + 26))).length
  · obtain ⟨g1, g2, g3, g4, g5, g6⟩ := c3 _ hp
    have hfm := (aFst_at hp).2
    have hr1 := aRl_get (hi.2.1.2.2 _ _ hfm) (by omega) 1
    unfold aB at hr1
    rw [if_pos hp, if_neg (by rw [xw_nat (by omega), show xw (-1) = -1 by decide]; omega), if_pos (by decide), m_ofFrame (i := (56 + 717 * e) + 26 + 13 * aFst 0 ((s.2.2 (56 + 717 * e + 26))) + 2) M (by omega) (by omega), Option.bind_some, if_pos (by decide), g4, n0, n16, xw_id (x := s.1 0 - (((s.2.2 (56 + 717 * e + 26))).getD (aFst 0 ((s.2.2 (56 + 717 * e + 26)))) []).getD 1 0) (by omega) (by omega), xw_id (x := s.1 16) (by omega) (by omega)]
    by_cases c : s.1 0 - (((s.2.2 (56 + 717 * e + 26))).getD (aFst 0 ((s.2.2 (56 + 717 * e + 26)))) []).getD 1 0 < s.1 16
    · rw [if_pos c, if_neg (fun w => by omega)]
      exact ⟨M, rfl, h, hu, fun _ _ => rfl⟩
    · rw [if_neg c, if_pos ⟨hp, by omega⟩]
      obtain ⟨M1, a1, a2, a3, a4⟩ := timer_39 e ((56 + 717 * e)) ((s.2.2 (56 + 717 * e + 26))).length he rfl c1 ((s.2.2 (56 + 717 * e + 26))).length 0 fu M c2 (by omega) (by show _ < 5000; omega)
      have hmk : RA (M1 1) (aF s ((56 + 717 * e) + 26) (aMark ((s.2.2 (56 + 717 * e + 26))))) := h.mark he (fun p hp => a2 p (by omega) hp) (fun i hi => a3 i (fun p _ hp => hi p hp))
      have a1' : f_m_timer_39 (e : Int) fu 0 M = f_m_timer_67 (e : Int) M1 := a1
      rw [a1']
      unfold f_m_timer_67 f_m_timer_90
      have n48 := hmk.n 48 (by unfold aIx; omega)
      have n8 := hmk.n 8 (by unfold aIx; omega)
      have x48 : (xu M1 1 ((56 + 717 * e) + 9) 1) 1 48 = s.1 48 := by rw [xu_d (by omega), n48]; rfl
      have x8 : (xu (xu M1 1 ((56 + 717 * e) + 9) 1) 1 48 (s.1 48 + 1)) 1 8 = s.1 8 := by rw [xu_d (by omega), xu_d (by omega), n8]; rfl
      rw [m_endAt (i := (56 + 717 * e) + 9) _ (by omega), Option.bind_some, if_pos (b_ib (by omega)), if_pos (by decide), if_pos (by decide), xix_nat (by omega), x48, if_pos (by decide), if_pos (by decide), if_pos (by decide), x8]
      have h2 : RA ((xu (xu (xu (xu M1 1 ((56 + 717 * e) + 9) 1) 1 48 (s.1 48 + 1)) 1 8 (s.1 8 + 1)) 1 9 0) 1) (aN (aN (aN (aN (aF s ((56 + 717 * e) + 26) (aMark ((s.2.2 (56 + 717 * e + 26))))) ((56 + 717 * e) + 9) 1) 48 (s.1 48 + 1)) 8 (s.1 8 + 1)) 9 0) := (((hmk.num (j := (56 + 717 * e) + 9) (by unfold aIx; omega) _).num (j := 48) (by unfold aIx; omega) _).num (j := 8) (by unfold aIx; omega) _).num (j := 9) (by unfold aIx; omega) _
      obtain ⟨M2, m1, m2, m3⟩ := r_tell h2 (by rw [aN_1, if_neg (by omega), aN_1, if_neg (by omega), aN_1, if_neg (by omega), aN_1, if_neg (by omega)]; exact hi.1.2.1) 6 (e : Int)
      have m2' : RA (M2 1) (aFail e s) := m2
      have hif := hi.fail he h6
      have huf : aU (aFail e s) := hu.same rfl (fun e' he' => by
        unfold aFail
        rw [aTell_sc, aN_1, if_neg (by omega), aN_1, if_neg (by omega), aN_1, if_neg (by omega), aN_1, if_neg (by omega)]
        rfl)
      have k8 := m2'.n 8 (by unfold aIx; omega)
      have k17 := m2'.n 17 (by unfold aIx; omega)
      have hk2 : ∀ k, k ≠ 1 → M2 k = M k := fun k hk => by rw [m3 k hk, xu_K hk, xu_K hk, xu_K hk, xu_K hk, a4 k hk]
      rw [m1, Option.bind_some, if_pos (by decide), if_pos (by decide), k8, k17, (hif.2.1.1 8).xw (by omega), (hif.2.1.1 17).xw (by omega)]
      by_cases d : (aFail e s).1 8 < (aFail e s).1 17
      · rw [if_pos d, if_pos d]
        exact ⟨M2, rfl, m2', huf, hk2⟩
      · rw [if_neg d, if_neg d]
        obtain ⟨M3, f1, f2, f3, f4⟩ := r_fall m2' hif huf (by omega) rfl
        rw [f1, Option.bind_some]
        exact ⟨M3, rfl, f2, f3, fun k hk => by rw [f4 k hk, hk2 k hk]⟩
  · rw [if_neg hp, if_pos (by decide), if_neg (fun w => hp w.1)]
    exact ⟨M, rfl, h, hu, fun _ _ => rfl⟩
theorem r_rise {M : xM} (h : RA (M 1) s) (hi : aI B s) (hu : aU s) (hB : B ≤ 800000000) : ∃ M' : xM, f_m_rise M = some M' ∧ RA (M' 1) (aRise s) ∧ aU (aRise s) ∧ ∀ k, k ≠ 1 → M' k = M k := by
  have n3 := h.n 3 (by unfold aIx; omega)
  have n9 := h.n 9 (by unfold aIx; omega)
  have n18 := h.n 18 (by unfold aIx; omega)
  have n11 := h.n 11 (by unfold aIx; omega)
  have n2 := h.n 2 (by unfold aIx; omega)
  have n50 := h.n 50 (by unfold aIx; omega)
  have r3 := hi.1.2.2.2.1
  have r11 := hi.1.1.1.1
  have r9 := hi.2.1.1 9
  unfold aB at r9
  have r18 := hi.1.1.2.1.2.2.2.2.1
  unfold f_m_rise aRise
  rw [if_pos (by decide), if_pos (by decide), if_pos (by decide), n9, n18, n3, xw_id (x := s.1 9) (by omega) (by omega), xw_id (x := s.1 18) (by omega) (by omega)]
  by_cases c1 : s.1 9 < s.1 18
  · rw [if_pos c1, if_neg (fun w => by omega)]
    exact ⟨M, rfl, h, hu, fun _ _ => rfl⟩
  · rw [if_neg c1]
    unfold f_m_isRate
    rw [if_pos (by decide), n11, m_inR _ _ _ _ (by omega) (by omega) (by omega), Option.bind_some]
    by_cases c2 : s.1 3 + 1 < s.1 11
    · have n4 := h.n (40 + (s.1 3 + 1).toNat) (by unfold aIx; omega)
      have r4 := (hi.1.1.2.2.2.2 (s.1 3 + 1).toNat (by omega)).2
      have r2 := hi.1.2.2.1
      have hx : xix (40 + (s.1 3 + 1)) = 40 + (s.1 3 + 1).toNat := by rw [b_ix (by omega)]; omega
      have hin : (if 0 ≤ s.1 3 + 1 ∧ s.1 3 + 1 ≤ s.1 11 - 1 then (1 : Int) else 0) = 1 := if_pos ⟨by omega, by omega⟩
      rw [hin, if_pos (show xbz 1 by decide), Option.bind_some, if_neg (show ¬ xw 1 = 0 by decide), if_pos (b_ib (by omega)), if_pos (by decide), hx, n2, n4, xw_id (x := s.1 2) (by omega) (by omega), xw_id (x := s.1 (40 + (s.1 3 + 1).toNat)) (by omega) (by omega)]
      by_cases c3 : s.1 2 < s.1 (40 + (s.1 3 + 1).toNat)
      · rw [if_pos c3, if_neg (fun w => by omega)]
        exact ⟨M, rfl, h, hu, fun _ _ => rfl⟩
      · rw [if_neg c3, if_pos (by decide), if_pos (by decide), if_pos (by decide), if_pos (by decide), if_pos ⟨by omega, c2, by omega⟩, n50]
        have h2 : RA ((xu (xu (xu M 1 3 (s.1 3 + 1)) 1 9 0) 1 50 (s.1 50 + 1)) 1) (aN (aN (aN s 3 (s.1 3 + 1)) 9 0) 50 (s.1 50 + 1)) := ((h.num (j := 3) (by unfold aIx; omega) _).num (j := 9) (by unfold aIx; omega) _).num (j := 50) (by unfold aIx; omega) _
        obtain ⟨M', m1, m2, m3⟩ := r_tell h2 (by exact hi.1.2.1) 3 (-1)
        rw [m1, Option.bind_some]
        exact ⟨M', rfl, m2, hu.same rfl (fun e he => by rw [aTell_sc, aN_1, if_neg (by omega), aN_1, if_neg (by omega), aN_1, if_neg (by omega)]), fun k hk => by rw [m3 k hk, xu_K hk, xu_K hk, xu_K hk]⟩
    · have hin0 : (if 0 ≤ s.1 3 + 1 ∧ s.1 3 + 1 ≤ s.1 11 - 1 then (1 : Int) else 0) = 0 := if_neg (fun w => by omega)
      rw [hin0, if_pos (show xbz 0 by decide), Option.bind_some, if_pos (show xw 0 = 0 by decide), if_neg (fun w => c2 w.2.1)]
      exact ⟨M, rfl, h, hu, fun _ _ => rfl⟩
theorem r_rate_4 {M : xM} (h : RA (M 1) s) (hi : aI B s) (hB : B ≤ 800000000) {q : Int} (hq : aB B q) : ∀ (k x n : Nat), x + k = (s.1 11).toNat → k < n → f_m_greatestRate_4 q M n (aRt s q x) (x : Int) = some (aRt s q (s.1 11).toNat)
  | 0, x, n + 1, hx, _ => by
    have r11 := hi.1.1.1.1
    have n11 := h.n 11 (by unfold aIx; omega)
    rw [f_m_greatestRate_4, if_pos (by decide), n11, if_neg (by rw [xw_nat (by omega), xw_id (by omega) (by omega)]; omega), show x = (s.1 11).toNat by omega]
  | k + 1, x, n + 1, hx, hn => by
    have r11 := hi.1.1.1.1
    have n11 := h.n 11 (by unfold aIx; omega)
    have n4 := h.n (40 + x) (by unfold aIx; omega)
    have hxx : xix (40 + (x : Int)) = 40 + x := by rw [b_ix (by omega)]; omega
    have ih := r_rate_4 h hi hB hq k (x + 1) n (by omega) (by omega)
    rw [f_m_greatestRate_4, if_pos (by decide), n11, if_pos (by rw [xw_nat (by omega), xw_id (by omega) (by omega)]; omega), if_pos (b_ib (by omega)), hxx, n4, hq.xw (by omega), (hi.2.1.1 (40 + x)).xw (by omega)]
    unfold f_m_greatestRate_33
    by_cases hc : q < s.1 (40 + x)
    · rw [aRt, if_neg (by omega)] at ih
      rw [if_pos hc]
      exact ih
    · rw [aRt, if_pos (by omega)] at ih
      rw [if_neg hc]
      exact ih
  | _, _, 0, _, hn => by omega
theorem r_again0 {e : Nat} (he : e < 2) {X : Int} (hB : B ≤ 800000000) : ∀ (l : List (List Int)) (n : Nat) (M : xM) (t : aS), RA (M 1) t → aI B t → t.1 ((56 + 717 * (1 - e)) + 3) = X → (t.2.2 (56 + 717 * e + 26)) = l → l.length < n → ∃ M' : xM, f_m_beginAgain_0 (e : Int) n M = f_m_beginAgain_36 (e : Int) M' ∧ RA (M' 1) (aF t ((56 + 717 * e) + 26) (l.filter fun f => decide (X ≤ f.getD 0 0))) ∧ ∀ k, k ≠ 1 → M' k = M k
  | [], 0, _, _, _, _, _, _, hn => by omega
  | [], n + 1, M, t, h, hi, hX, hf, hn => by
    have c2 := (h.2.1 e he).2.2.2.1
    rw [hf] at c2
    refine ⟨M, ?_, ?_, fun _ _ => rfl⟩
    · rw [f_m_beginAgain_0, m_of (i := (56 + 717 * e) + 1) M (by omega) (by omega), Option.bind_some, c2, if_neg (by decide)]
    · rw [List.filter_nil, ← hf, aF_self]; exact h
  | f :: l, 0, _, _, _, _, _, _, hn => by omega
  | f :: l, n + 1, M, t, h, hi, hX, hf, hn => by
    have he2 : e = 0 ∨ e = 1 := by omega
    obtain ⟨c1, c2, c3⟩ := (h.2.1 e he).2.2
    have hg := (c3 0 (by rw [show t.2.2 ((56 + 717 * e) + 26) = f :: l from hf, List.length_cons]; omega)).2.1
    rw [show t.2.2 ((56 + 717 * e) + 26) = f :: l from hf] at c1 c2 hg
    have hg' : M 1 ((56 + 717 * e) + 26 + 13 * 0) = f.getD 0 0 := hg
    have hfr := (hi.2.2.2.1 e he).1
    have hm : f ∈ (t.2.2 (56 + 717 * e + 26)) := by rw [hf]; exact List.mem_cons_self
    have hr0 := aRl_get (hi.2.1.2.2 _ f hm) (by have := hi.2.1.1 0; unfold aB at this; omega) 0
    have nX := h.n ((56 + 717 * (1 - e)) + 3) (by unfold aIx; omega)
    have hXr := hi.2.1.1 ((56 + 717 * (1 - e)) + 3)
    rw [hX] at nX hXr
    rw [List.length_cons] at c1 c2 hn
    rw [f_m_beginAgain_0, m_of (i := (56 + 717 * e) + 1) M (by omega) (by omega), Option.bind_some, c2, if_pos (by rw [xw_nat (by omega)]; omega), m_ofFrame (i := (56 + 717 * e) + 26 + 13 * 0) M (by omega) (by omega), Option.bind_some, m_of (i := (56 + 717 * (1 - e)) + 3) M (by omega) (by omega), Option.bind_some, nX, hg', hr0.xw (by omega), hXr.xw (by omega)]
    by_cases c : f.getD 0 0 < X
    · rw [if_pos c, List.filter_cons_of_neg (by rw [decide_eq_true_eq]; omega)]
      obtain ⟨M1, a1, a2, a3⟩ := h.rmframe he (P := []) (x := f) (R := l) hf
      have a1' : f_m_forget (e : Int) 0 M = some M1 := a1
      have efr : (aF t ((56 + 717 * e) + 26) ([] ++ l)).2.2 ((56 + 717 * e) + 26) = l := by rw [aF_3, if_pos rfl]; rfl
      have hi2 : aI B (aF t ((56 + 717 * e) + 26) ([] ++ l)) := hi.Fr he (by
        rw [hf] at hfr
        exact ⟨by have := hfr.1; rw [List.length_cons] at this; show l.length ≤ 7; omega, fun g hg => hfr.2.1 g (List.mem_cons_of_mem _ hg), (List.pairwise_cons.mp hfr.2.2).2⟩) (fun g hg => hi.2.1.2.2 _ g (by rw [hf]; exact List.mem_cons_of_mem _ hg))
      rw [a1', Option.bind_some]
      obtain ⟨M', b1, b2, b3⟩ := r_again0 he hB l n M1 _ a2 hi2 hX efr (by omega)
      rw [aF_aF] at b2
      exact ⟨M', b1, b2, fun k hk => by rw [b3 k hk, a3 k hk]⟩
    · rw [if_neg c]
      have hall : (f :: l).filter (fun f => decide (X ≤ f.getD 0 0)) = f :: l := List.filter_eq_self.mpr fun g hg => by
        rw [decide_eq_true_eq]
        rcases List.mem_cons.mp hg with rfl | hg
        · omega
        · rw [hf] at hfr
          have := (List.pairwise_cons.mp hfr.2.2).1 g hg
          omega
      refine ⟨M, rfl, ?_, fun _ _ => rfl⟩
      rw [hall, ← hf, aF_self]; exact h
theorem r_on {M : xM} (h : RA (M 1) s) (hi : aI B s) (hu : aU s) (hB : B ≤ 800000000) (h1 : 1 ≤ B) {e : Nat} (he : e < 2) : ∃ M' : xM, f_m_beginAgain (e : Int) M = some M' ∧ RA (M' 1) (aOn e s) ∧ aU (aOn e s) ∧ ∀ k, k ≠ 1 → M' k = M k := by
  have c1 := (h.2.1 e he).2.2.1
  have c1' : (s.2.2 ((56 + 717 * e) + 26)).length ≤ 7 := c1
  obtain ⟨M1, a1, a2, a3⟩ := r_again0 he hB ((s.2.2 (56 + 717 * e + 26))) fu M s h hi rfl rfl (by show _ < 5000; omega)
  unfold f_m_beginAgain
  rw [a1]
  unfold f_m_beginAgain_36
  obtain ⟨L, hL⟩ : ∃ L, L = ((s.2.2 (56 + 717 * e + 26))).filter fun f => decide (s.1 ((56 + 717 * (1 - e)) + 3) ≤ f.getD 0 0) := ⟨_, rfl⟩
  rw [← hL] at a2
  have efr : (aF s ((56 + 717 * e) + 26) L).2.2 ((56 + 717 * e) + 26) = L := by rw [aF_3, if_pos rfl]
  obtain ⟨d1, d2, d3⟩ := (a2.2.1 e he).2.2
  rw [efr] at d1 d2 d3
  obtain ⟨M2, b1, b2, b3, b4⟩ := beginAgain_38 e ((56 + 717 * e)) L.length he rfl d1 L.length 0 fu M1 d2 (by omega) (by show _ < 5000; omega)
  have b1' : f_m_beginAgain_38 (e : Int) fu 0 M1 = f_m_beginAgain_66 (e : Int) M2 := b1
  rw [b1']
  have hmk := a2.mark (N' := M2 1) he (by rw [efr]; exact fun p hp => b2 p (by omega) hp) (by rw [efr]; exact fun i hi => b3 i (fun p _ hp => hi p hp))
  rw [efr, aF_aF, hL] at hmk
  unfold f_m_beginAgain_66
  rw [m_endAt (i := (56 + 717 * e) + 5) _ (by omega), Option.bind_some, if_pos (b_ib (by omega)), m_endAt (i := (56 + 717 * e) + 6) _ (by omega), Option.bind_some, if_pos (b_ib (by omega)), m_endAt (i := (56 + 717 * e) + 9) _ (by omega), Option.bind_some, if_pos (b_ib (by omega)), xix_nat (by omega), xix_nat (by omega), xix_nat (by omega)]
  refine ⟨_, rfl, ((hmk.num (j := (56 + 717 * e) + 5) (by unfold aIx; omega) 0).num (j := (56 + 717 * e) + 6) (by unfold aIx; omega) 0).num (j := (56 + 717 * e) + 9) (by unfold aIx; omega) 1, hu.same rfl (fun e' he' => aOn_sc e s _ (by omega) (by omega) (by omega)), fun k hk => by rw [xu_K hk, xu_K hk, xu_K hk, b4 k hk, a3 k hk]⟩
theorem r_online {M : xM} (h : RA (M 1) s) (hi : aI B s) (hu : aU s) (hB : B ≤ 800000000) (h1 : 5 ≤ B) : ∃ M' : xM, f_m_comeOnline M = some M' ∧ RA (M' 1) (aOnline s) ∧ aU (aOnline s) ∧ ∀ k, k ≠ 1 → M' k = M k := by
  have n2 := h.n 2 (by unfold aIx; omega)
  have r11 := hi.1.1.1.1
  have hb := aRt_le s (s.1 2) (s.1 11).toNat
  have hg : f_m_greatestRate (s.1 2) M = some (aRt s (s.1 2) (s.1 11).toNat) := r_rate_4 h hi hB (hi.2.1.1 2) (s.1 11).toNat 0 fu (by omega) (by show _ < 5000; omega)
  unfold f_m_comeOnline aOnline
  rw [if_pos (by decide), n2, hg, Option.bind_some, xw_id (x := aRt s (s.1 2) (s.1 11).toNat) (by omega) (by omega), show xw (-1) = -1 by decide]
  obtain ⟨r, hr⟩ : ∃ r, r = aRt s (s.1 2) (s.1 11).toNat := ⟨_, rfl⟩
  rw [← hr] at hb ⊢
  by_cases c : r < 0
  · rw [if_pos c, if_pos (by omega)]
    obtain ⟨M', m1, m2, m3⟩ := r_hang h
    rw [m1, Option.bind_some]
    exact ⟨M', rfl, m2, hu.hang, m3⟩
  · rw [if_neg c, if_neg (by omega), if_pos (by decide), if_pos (by decide), if_pos (by decide), if_pos (by decide), if_pos (by decide)]
    obtain ⟨M0, hM0⟩ : ∃ Z, Z = xu (xu (xu (xu (xu M 1 1 2) 1 3 r) 1 8 0) 1 9 0) 1 20 0 := ⟨_, rfl⟩
    obtain ⟨T, hT⟩ : ∃ T, T = aF (aN (aN (aN (aN s 1 2) 3 r) 8 0) 9 0) 1730 [] := ⟨_, rfl⟩
    have h0 : RA (M0 1) T := by
      rw [hM0, hT]
      exact ((((h.num (j := 1) (by unfold aIx; omega) 2).num (j := 3) (by unfold aIx; omega) r).num (j := 8) (by unfold aIx; omega) 0).num (j := 9) (by unfold aIx; omega) 0).fl0
    have e11 : (aN s 1 2).1 11 = s.1 11 := rfl
    have hi0 : aI B T := by
      rw [hT]
      have h2 := (hi.N 1 2 (by unfold aB; omega) (by omega) (by omega) (fun e he => by omega)).N 3 r (by unfold aB; omega) (by omega) ⟨by omega, by omega, fun _ => by rw [e11]; omega, by omega, by omega⟩ (fun e he => by omega)
      exact ((h2.N 8 0 (by unfold aB; omega) (by omega) (by omega) (fun e he => by omega)).N 9 0 (by unfold aB; omega) (by omega) (by omega) (fun e he => by omega)).Fl (l := []) fun f hf => absurd hf List.not_mem_nil
    have hu0 : aU T := by
      rw [hT]
      exact hu.same rfl (fun e he => by rw [aF_1, aN_1, if_neg (by omega), aN_1, if_neg (by omega), aN_1, if_neg (by omega), aN_1, if_neg (by omega)])
    rw [← hM0]
    have hk0 : ∀ k, k ≠ 1 → M0 k = M k := fun k hk => by rw [hM0, xu_K hk, xu_K hk, xu_K hk, xu_K hk, xu_K hk]
    obtain ⟨M1, a1, a2, a3, a4⟩ := r_on h0 hi0 hu0 hB (by omega) (e := 0) (by omega)
    obtain ⟨M2, b1, b2, b3, b4⟩ := r_on a2 (hi0.on (e := 0) (by omega) (by omega)) a3 hB (by omega) (e := 1) (by omega)
    have a1' : f_m_beginAgain 0 M0 = some M1 := a1
    have b1' : f_m_beginAgain 1 M1 = some M2 := b1
    have l0 : f_m_comeOnline_61 fu 0 M0 = f_m_comeOnline_77 M2 := by
      show f_m_comeOnline_61 (4997 + 1 + 1 + 1) 0 M0 = _
      rw [f_m_comeOnline_61, if_pos (by decide), a1', Option.bind_some, f_m_comeOnline_61, if_pos (by decide)]
      show Option.bind (f_m_beginAgain 1 M1) _ = _
      rw [b1', Option.bind_some, f_m_comeOnline_61, if_neg (by decide)]
    rw [l0]
    unfold f_m_comeOnline_77
    have n53 := b2.n 53 (by unfold aIx; omega)
    rw [if_pos (by decide), if_pos (by decide), n53]
    have h3 := b2.num (j := 53) (by unfold aIx; omega) ((aOn 1 (aOn 0 T)).1 53 + 1)
    obtain ⟨M3, hM3⟩ : ∃ Z, Z = xu M2 1 53 ((aOn 1 (aOn 0 T)).1 53 + 1) := ⟨_, rfl⟩
    have h3' : RA (M3 1) (aN (aOn 1 (aOn 0 T)) 53 ((aOn 1 (aOn 0 T)).1 53 + 1)) := by rw [hM3]; exact h3
    have hp : (aN (aOn 1 (aOn 0 T)) 53 ((aOn 1 (aOn 0 T)).1 53 + 1)).1 1 = 2 := by
      rw [aN_1, if_neg (by omega), aOn_sc 1 _ 1 (by omega) (by omega) (by omega), aOn_sc 0 _ 1 (by omega) (by omega) (by omega), hT]; rfl
    obtain ⟨M', m1, m2, m3⟩ := r_tell h3' (by rw [hp]; omega) 1 (-1)
    rw [← hM3, m1, Option.bind_some]
    refine ⟨M', rfl, ?_, ?_, fun k hk => by rw [m3 k hk, hM3, xu_K hk, b4 k hk, a4 k hk, hk0 k hk]⟩
    · unfold aUp
      dsimp only
      rw [← hT]
      exact m2
    · unfold aUp
      dsimp only
      rw [← hT]
      exact b3.same rfl (fun e he => by rw [aTell_sc, aN_1, if_neg (by omega)])
theorem r_train {M : xM} (h : RA (M 1) s) (hi : aI B s) (hu : aU s) (hB : B ≤ 700000000) (h1 : 20 ≤ B) : ∃ M' : xM, f_m_passTraining M = some M' ∧ RA (M' 1) (aTrain s) ∧ aU (aTrain s) ∧ ∀ k, k ≠ 1 → M' k = M k := by
  have n2 := h.n 2 (by unfold aIx; omega)
  have n4 := h.n 4 (by unfold aIx; omega)
  have n5 := h.n 5 (by unfold aIx; omega)
  have n6 := h.n 6 (by unfold aIx; omega)
  have n12 := h.n 12 (by unfold aIx; omega)
  have r4 := hi.1.2.2.2.2.1
  have x6 := hi.2.1.1 6
  have x5 := hi.2.1.1 5
  unfold aB at x6 x5
  unfold f_m_passTraining aTrain
  rw [if_pos (by decide), n2, (hi.2.1.1 2).xw (by omega)]
  by_cases c : s.1 2 = 0
  · have nt := h.n (21 + (s.1 4).toNat) (by unfold aIx; omega)
    have hx : xix (21 + s.1 4) = 21 + (s.1 4).toNat := by rw [b_ix (by omega)]; omega
    rw [if_pos c, if_pos c, if_pos (by decide), n4, if_pos (b_ib (by omega)), if_pos (by decide), if_pos (by decide), if_pos (by decide), if_pos (by decide), if_pos (by decide), n12, n6, hx, nt, (hi.2.1.1 12).xw (by omega), xw_id (x := s.1 6 + 1) (by omega) (by omega)]
    dsimp only
    have h2 : RA ((xu (xu M 1 5 (s.1 (21 + (s.1 4).toNat))) 1 6 (s.1 6 + 1)) 1) (aN (aN s 5 (s.1 (21 + (s.1 4).toNat))) 6 (s.1 6 + 1)) := (h.num (j := 5) (by unfold aIx; omega) _).num (j := 6) (by unfold aIx; omega) _
    have hu2 : aU (aN (aN s 5 (s.1 (21 + (s.1 4).toNat))) 6 (s.1 6 + 1)) := hu.same rfl (fun e he => by rw [aN_1, if_neg (by omega), aN_1, if_neg (by omega)])
    have e12 : (aN (aN s 5 (s.1 (21 + (s.1 4).toNat))) 6 (s.1 6 + 1)).1 12 = s.1 12 := rfl
    have e66 : (aN (aN s 5 (s.1 (21 + (s.1 4).toNat))) 6 (s.1 6 + 1)).1 6 = s.1 6 + 1 := rfl
    rw [e12, e66]
    by_cases d : s.1 12 < s.1 6 + 1
    · rw [if_pos d, if_pos d]
      obtain ⟨M', m1, m2, m3⟩ := r_hang h2
      rw [m1, Option.bind_some]
      exact ⟨M', rfl, m2, hu2.hang, fun k hk => by rw [m3 k hk, xu_K hk, xu_K hk]⟩
    · rw [if_neg d, if_neg d]
      exact ⟨_, rfl, h2, hu2, fun k hk => by rw [xu_K hk, xu_K hk]⟩
  · rw [if_neg c, if_neg c, if_pos (by decide), if_pos (by decide), if_pos (by decide), n5, xw_id (x := s.1 5 - 1) (by omega) (by omega)]
    dsimp only
    have h2 : RA ((xu M 1 5 (s.1 5 - 1)) 1) (aN s 5 (s.1 5 - 1)) := h.num (j := 5) (by unfold aIx; omega) _
    have hu2 : aU (aN s 5 (s.1 5 - 1)) := hu.same rfl (fun e he => by rw [aN_1, if_neg (by omega)])
    have e5 : (aN s 5 (s.1 5 - 1)).1 5 = s.1 5 - 1 := rfl
    have e4 : (aN s 5 (s.1 5 - 1)).1 4 = s.1 4 := rfl
    rw [e5, e4]
    by_cases d : 0 < s.1 5 - 1
    · rw [if_pos d, if_pos d]
      exact ⟨_, rfl, h2, hu2, fun k hk => xu_K hk⟩
    · rw [if_neg d, if_neg d, if_pos (by decide), n4, (hi.2.1.1 4).xw (by omega), show xw 3 = 3 by decide]
      by_cases f : s.1 4 = 3
      · rw [if_pos f, if_pos f]
        have hi2 : aI (B + 1) (aN s 5 (s.1 5 - 1)) := (hi.le (by omega : B ≤ B + 1)).N 5 (s.1 5 - 1) (by unfold aB; omega) (by omega) (by omega) (fun e he => by omega)
        obtain ⟨M', m1, m2, m3, m4⟩ := r_online h2 hi2 hu2 (by omega) (by omega)
        rw [m1, Option.bind_some]
        exact ⟨M', rfl, m2, m3, fun k hk => by rw [m4 k hk, xu_K hk]⟩
      · have hx : xix (21 + (s.1 4 + 1)) = 21 + (s.1 4 + 1).toNat := by rw [b_ix (by omega)]; omega
        have h3 := h2.num (j := 4) (by unfold aIx; omega) (s.1 4 + 1)
        have nt : xup (xup (M 1) 5 (s.1 5 - 1)) 4 (s.1 4 + 1) (21 + (s.1 4 + 1).toNat) = (aN s 5 (s.1 5 - 1)).1 (21 + (s.1 4 + 1).toNat) := by
          have := h3.n (21 + (s.1 4 + 1).toNat) (by unfold aIx; omega)
          rw [aN_1, if_neg (by omega)] at this
          exact this
        have nt' : (xu (xu M 1 5 (s.1 5 - 1)) 1 4 (s.1 4 + 1)) 1 (21 + (s.1 4 + 1).toNat) = (aN s 5 (s.1 5 - 1)).1 (21 + (s.1 4 + 1).toNat) := nt
        rw [if_neg f, if_neg f, if_pos (by decide), if_pos (by decide), if_pos (by decide), if_pos (b_ib (by omega)), if_pos (by decide), hx, nt']
        refine ⟨_, rfl, h3.num (j := 5) (by unfold aIx; omega) _, hu.same rfl (fun e he => by rw [aN_1, if_neg (by omega), aN_1, if_neg (by omega), aN_1, if_neg (by omega)]), fun k hk => by rw [xu_K hk, xu_K hk, xu_K hk]⟩
theorem r_wait {M : xM} (h : RA (M 1) s) (hi : aI B s) (hu : aU s) (hB : B ≤ 700000000) : ∃ M' : xM, f_m_passLoss M = some M' ∧ RA (M' 1) (aWait s) ∧ aU (aWait s) ∧ ∀ k, k ≠ 1 → M' k = M k := by
  have n2 := h.n 2 (by unfold aIx; omega)
  have n7 := h.n 7 (by unfold aIx; omega)
  have n13 := h.n 13 (by unfold aIx; omega)
  have n23 := h.n 23 (by unfold aIx; omega)
  have x7 := hi.2.1.1 7
  unfold aB at x7
  unfold f_m_passLoss aWait
  rw [if_pos (by decide), n2, (hi.2.1.1 2).xw (by omega)]
  by_cases c : 0 < s.1 2
  · rw [if_pos c, if_pos c]
    unfold f_m_train f_m_train_29
    have hx : xix (21 + 2) = 23 := by decide
    have n23' : (xu (xu M 1 1 1) 1 4 2) 1 23 = s.1 23 := by rw [xu_d (by omega), xu_d (by omega), n23]
    rw [if_pos (by decide), if_pos (by decide), if_pos (by decide), if_pos (by decide), if_pos (by decide), hx, n23', Option.bind_some]
    exact ⟨_, rfl, (((h.num (j := 1) (by unfold aIx; omega) 1).num (j := 4) (by unfold aIx; omega) 2).num (j := 5) (by unfold aIx; omega) _).num (j := 6) (by unfold aIx; omega) 0, hu.same rfl (fun e he => by rw [aN_1, if_neg (by omega), aN_1, if_neg (by omega), aN_1, if_neg (by omega), aN_1, if_neg (by omega)]), fun k hk => by rw [xu_K hk, xu_K hk, xu_K hk, xu_K hk]⟩
  · rw [if_neg c, if_neg c, if_pos (by decide), if_pos (by decide), if_pos (by decide), if_pos (by decide), n13, n7, (hi.2.1.1 13).xw (by omega), xw_id (x := s.1 7 + 1) (by omega) (by omega)]
    dsimp only
    have h2 : RA ((xu M 1 7 (s.1 7 + 1)) 1) (aN s 7 (s.1 7 + 1)) := h.num (j := 7) (by unfold aIx; omega) _
    have hu2 : aU (aN s 7 (s.1 7 + 1)) := hu.same rfl (fun e he => by rw [aN_1, if_neg (by omega)])
    have e13 : (aN s 7 (s.1 7 + 1)).1 13 = s.1 13 := rfl
    have e77 : (aN s 7 (s.1 7 + 1)).1 7 = s.1 7 + 1 := rfl
    rw [e13, e77]
    by_cases d : s.1 13 < s.1 7 + 1
    · rw [if_pos d, if_pos d]
      obtain ⟨M', m1, m2, m3⟩ := r_hang h2
      rw [m1, Option.bind_some]
      exact ⟨M', rfl, m2, hu2.hang, fun k hk => by rw [m3 k hk, xu_K hk]⟩
    · rw [if_neg d, if_neg d]
      exact ⟨_, rfl, h2, hu2, fun k hk => xu_K hk⟩
theorem r_lose {M : xM} (h : RA (M 1) s) (hi : aI B s) (hu : aU s) (hB : B ≤ 700000000) : ∃ M' : xM, f_m_loseCarrier M = some M' ∧ RA (M' 1) (aLose s) ∧ aU (aLose s) ∧ ∀ k, k ≠ 1 → M' k = M k := by
  have n51 := h.n 51 (by unfold aIx; omega)
  have r13 := hi.1.1.2.1.2.2.2.2.2.2
  unfold f_m_loseCarrier aLose
  rw [if_pos (by decide), if_pos (by decide), if_pos (by decide), if_pos (by decide), if_pos (by decide), n51]
  have h2 : RA ((xu (xu (xu (xu M 1 1 3) 1 7 1) 1 20 0) 1 51 (s.1 51 + 1)) 1) (aN (aF (aN (aN s 1 3) 7 1) 1730 []) 51 (s.1 51 + 1)) := (((h.num (j := 1) (by unfold aIx; omega) 3).num (j := 7) (by unfold aIx; omega) 1).fl0).num (j := 51) (by unfold aIx; omega) _
  obtain ⟨M1, m1, m2, m3⟩ := r_tell h2 (by show 0 ≤ (3 : Int) ∧ (3 : Int) ≤ 3; omega) 4 (-1)
  have hk : ∀ k, k ≠ 1 → M1 k = M k := fun k hk => by rw [m3 k hk, xu_K hk, xu_K hk, xu_K hk, xu_K hk]
  have n13 := m2.n 13 (by unfold aIx; omega)
  have e13 : (aTell 4 (-1) (aN (aF (aN (aN s 1 3) 7 1) 1730 []) 51 (s.1 51 + 1))).1 13 = s.1 13 := rfl
  have hu2 : aU (aTell 4 (-1) (aN (aF (aN (aN s 1 3) 7 1) 1730 []) 51 (s.1 51 + 1))) := hu.same rfl (fun e he => by rw [aTell_sc, aN_1, if_neg (by omega), aF_1, aN_1, if_neg (by omega), aN_1, if_neg (by omega)])
  rw [m1, Option.bind_some, if_pos (by decide), n13]
  dsimp only
  rw [e13, xw_id (x := s.1 13) (by omega) (by omega), show xw 1 = 1 by decide]
  by_cases c : s.1 13 = 0
  · rw [if_pos c, if_pos (by omega)]
    obtain ⟨M', a1, a2, a3⟩ := r_hang m2
    rw [a1, Option.bind_some]
    exact ⟨M', rfl, a2, hu2.hang, fun k hk' => by rw [a3 k hk', hk k hk']⟩
  · rw [if_neg c, if_neg (by omega)]
    exact ⟨M1, rfl, m2, hu2, hk⟩
end

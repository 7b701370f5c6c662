/-! ===== the reference's other calls, over states ===== -/
section
variable {s : aS} {B : Int} {M : xM} {H : List aS} {S : Option aS} {bf : List Int}
theorem rX.z06 (h : rX B M s H S bf) : rX B (xu M 0 6 0) s H S bf := h.cg (by rw [xu06]; exact h.1) (xu_K (by omega)) (xu_K (by omega)) (xu_K (by omega)) (fun j hj => xu_d (by omega))
theorem aN_comm (s : aS) {j k : Nat} (x y : Int) (h : j ≠ k) : aN (aN s j x) k y = aN (aN s k y) j x := by
  refine Prod.ext (funext fun i => ?_) rfl
  rw [aN_1, aN_1, aN_1, aN_1]
  by_cases c : i = k
  · rw [if_pos c, if_neg (by omega), if_pos c]
  · rw [if_neg c]
    by_cases d : i = j
    · rw [if_pos d, if_pos d]
    · rw [if_neg d, if_neg d, if_neg c]
/-- without frames the numbers can begin anew -/
theorem aI.next0 (h : aI B s) {e : Nat} (he : e < 2) (hf : (s.2.2 (56 + 717 * e + 26)) = []) : aI B (aN s ((56 + 717 * e) + 2) 0) := by
  obtain ⟨⟨h2, h3⟩, h4, h5, h6, h7⟩ := h
  have h0 : 0 ≤ B := by have := h4.1 0; unfold aB at this; omega
  refine ⟨⟨h2.cg fun k k1 k2 => by rw [aN_1, if_neg (by omega)], ?_⟩, h4.N (by unfold aB; omega), h5, fun e' he' => ?_, h7⟩
  · unfold aSc
    rw [aN_1, if_neg (by omega), aN_1, if_neg (by omega), aN_1, if_neg (by omega), aN_1, if_neg (by omega), aN_1, if_neg (by omega), aN_1, if_neg (by omega)]
    exact h3
  · by_cases c : e' = e
    · subst c
      have a := h6 e' he'
      unfold aEnd at a ⊢
      have hf' : s.2.2 ((56 + 717 * e') + 26) = [] := hf
      rw [aN_2, hf']
      rw [hf'] at a
      rw [aN_1, if_pos rfl, aN_1, if_neg (by omega), aN_1, if_neg (by omega), aN_1, if_neg (by omega)]
      exact ⟨⟨Nat.zero_le _, fun f hf => absurd hf List.not_mem_nil, List.Pairwise.nil⟩, a.2⟩
    · exact (h6 e' he').cg (fun j hj => by rw [aN_1, if_neg (by omega)]) (fun _ _ => rfl) rfl
theorem bLine.off {y : xM} (hb : bLine y M) (h : RA (M 1) s) (h1 : s.1 1 = 0) : ∀ e, e < 2 → (s.2.2 (56 + 717 * e + 26)) = [] ∧ (s.2.1 (56 + 717 * e + 117)) = [] := fun e he => by
  have n1 := h.n 1 (by unfold aIx; omega)
  have m1 : M 1 1 = y 0 8 := hb.1.2.2.2.2.2.2.1
  have y8 : y 0 8 = 0 := by omega
  obtain ⟨-, -, ⟨-, -, -, -, b5, -⟩, ⟨-, -, -, -, c5, -⟩, -⟩ := hb.2.1
  obtain ⟨b5, b6⟩ := b5 y8
  obtain ⟨c5, c6⟩ := c5 y8
  obtain ⟨⟨⟨q1, q2, q3⟩, -, -⟩, -, ⟨f1, f2, f3⟩⟩ := h.2.1 e he
  rcases (by omega : e = 0 ∨ e = 1) with rfl | rfl
  · obtain ⟨F, C, Sn, d1, d2, d3, d4, d5, d6, d7, -⟩ := hb.1.1.1
    obtain ⟨q, g1, g2, g3, -⟩ := hb.1.1.2.2.2.1
    have e7 : M 1 57 = C := d7
    have d2' : y 4 4 = C := d2
    have f2' : M 1 57 = (((s.2.2 (56 + 717 * 0 + 26))).length : Int) := f2
    have g2' : y 1 5 = q := g2
    have g3' : M 1 56 = q := g3
    have q2' : M 1 56 = (((s.2.1 (56 + 717 * 0 + 117))).length : Int) := q2
    exact ⟨List.eq_nil_of_length_eq_zero (by omega), List.eq_nil_of_length_eq_zero (by omega)⟩
  · obtain ⟨F, C, Sn, d1, d2, d3, d4, d5, d6, d7, -⟩ := hb.1.2.1.1
    obtain ⟨q, g1, g2, g3, -⟩ := hb.1.2.1.2.2.2.1
    have e7 : M 1 774 = C := d7
    have d2' : y 15 4 = C := d2
    have f2' : M 1 774 = (((s.2.2 (56 + 717 * 1 + 26))).length : Int) := f2
    have g2' : y 12 5 = q := g2
    have g3' : M 1 773 = q := g3
    have q2' : M 1 773 = (((s.2.1 (56 + 717 * 1 + 117))).length : Int) := q2
    exact ⟨List.eq_nil_of_length_eq_zero (by omega), List.eq_nil_of_length_eq_zero (by omega)⟩
theorem aI.dial (h : aI B s) (hf : ∀ e, e < 2 → (s.2.2 (56 + 717 * e + 26)) = []) (h1 : 1 ≤ B) : aI B (aDial s) := by
  have hs := hf 0 (by omega)
  have hs1 := hf 1 (by omega)
  have a1 := h.N 1 1 (by unfold aB; omega) (by omega) (by omega) (fun e he => by omega)
  have a2 := a1.N 4 0 (by unfold aB; omega) (by omega) (by omega) (fun e he => by omega)
  have a3 := a2.N 5 (s.1 21) (h.2.1.1 21) (by omega) (by omega) (fun e he => by omega)
  have a4 := a3.N 6 0 (by unfold aB; omega) (by omega) (by omega) (fun e he => by omega)
  have a5 := a4.next0 (e := 0) (by omega) hs
  have a6 := a5.next0 (e := 1) (by omega) hs1
  have a7 := a6.N ((56 + 717 * 0) + 3) 0 (by unfold aB; omega) (by omega) (by omega) (fun e he => by omega)
  exact a7.N ((56 + 717 * 1) + 3) 0 (by unfold aB; omega) (by omega) (by omega) (fun e he => by omega)
theorem aU.dial (h : aU s) : aU (aDial s) := h.same rfl (fun e he => by
  unfold aDial
  rw [aN_1, if_neg (by omega), aN_1, if_neg (by omega), aN_1, if_neg (by omega), aN_1, if_neg (by omega), aN_1, if_neg (by omega), aN_1, if_neg (by omega), aN_1, if_neg (by omega), aN_1, if_neg (by omega)])
theorem r_dial {y : xM} (h : rX B M s H S bf) (hb : bLine y M) (hp : s.1 1 = 0) (h1 : 1 ≤ B) (hB : B ≤ 1000000000) : ∃ M' : xM, f_m_dial M = some (s.1 21 + s.1 22 + s.1 23 + s.1 24, M') ∧ M' 0 6 = 0 ∧ rX B M' (aDial s) (aPush H s) S bf := by
  have h0 := h.z06
  have hp0 : f_m_isPhase 0 (xu M 0 6 0) = some 1 := by rw [r_phase h0.1.1 h0.1.2.1 0 (by omega), if_pos hp]
  obtain ⟨M1, a1, a2, a3, a4⟩ := r_record h0
  rw [xu06] at a4
  have t := h.1.2.1.1.1.2.2.1
  obtain ⟨M2, hM2⟩ : ∃ Z, Z = xu (xu (xu (xu M1 1 1 1) 1 4 0) 1 5 (s.1 21)) 1 6 0 := ⟨_, rfl⟩
  obtain ⟨M3, hM3⟩ : ∃ Z, Z = xu (xu (xu (xu M2 1 58 0) 1 59 0) 1 775 0) 1 776 0 := ⟨_, rfl⟩
  have r2 : RA (M2 1) (aN (aN (aN (aN s 1 1) 4 0) 5 (s.1 21)) 6 0) := by
    rw [hM2]
    exact (((a2.1.1.num (j := 1) (by unfold aIx; omega) 1).num (j := 4) (by unfold aIx; omega) 0).num (j := 5) (by unfold aIx; omega) _).num (j := 6) (by unfold aIx; omega) 0
  have r3 : RA (M3 1) (aDial s) := by
    have := (((r2.num (j := 58) (by unfold aIx; omega) 0).num (j := 59) (by unfold aIx; omega) 0).num (j := 775) (by unfold aIx; omega) 0).num (j := 776) (by unfold aIx; omega) 0
    rw [aN_comm _ (j := 59) (k := 775) 0 0 (by omega)] at this
    rw [hM3]
    exact this
  have n : ∀ k, k < 4 → M2 1 (21 + k) = s.1 (21 + k) := fun k hk => by
    rw [r2.n (21 + k) (by unfold aIx; omega), aN_1, if_neg (by omega), aN_1, if_neg (by omega), aN_1, if_neg (by omega), aN_1, if_neg (by omega)]
  have e1 : f_m_train 0 M1 = some M2 := by
    have x21 : xix (21 + 0) = 21 := by decide
    have v21 : (xu (xu M1 1 1 1) 1 4 0) 1 21 = s.1 21 := by rw [xu_d (by omega), xu_d (by omega)]; exact a2.1.1.n 21 (by unfold aIx; omega)
    unfold f_m_train f_m_train_29
    rw [if_pos (by decide), if_pos (by decide), if_pos (by decide), if_pos (by decide), if_pos (by decide), x21, v21, ← hM2]
  have e2 : f_m_dial_29 fu 0 0 M2 = f_m_dial_52 (0 + s.1 21 + s.1 22 + s.1 23 + s.1 24) M2 := by
    have st : ∀ (n' : Nat) (x : Int) (k : Nat), k < 4 → f_m_dial_29 (n' + 1) x (k : Int) M2 = f_m_dial_29 n' (x + s.1 (21 + k)) ((k + 1 : Nat) : Int) M2 := fun n' x k hk => by
      rw [f_m_dial_29, if_pos (by rw [xw_nat (by omega), xw_id (x := 4) (by omega) (by omega)]; omega), if_pos (b_ib (by omega)), show xix (21 + (k : Int)) = 21 + k by rw [b_ix (by omega)]; omega, n k hk, show (k : Int) + 1 = ((k + 1 : Nat) : Int) by omega]
    show f_m_dial_29 (4995 + 1 + 1 + 1 + 1 + 1) 0 ((0 : Nat) : Int) M2 = _
    rw [st _ 0 0 (by omega), st _ _ 1 (by omega), st _ _ 2 (by omega), st _ _ 3 (by omega), f_m_dial_29, if_neg (by decide)]
  have e3 : f_m_dial_52 (0 + s.1 21 + s.1 22 + s.1 23 + s.1 24) M2 = some (0 + s.1 21 + s.1 22 + s.1 23 + s.1 24, M3) := by
    unfold f_m_dial_52
    show f_m_dial_54 (4997 + 1 + 1 + 1) _ 0 M2 = _
    rw [f_m_dial_54, if_pos (by decide), m_endAt (i := 58) _ (by omega), Option.bind_some, if_pos (b_ib (by omega)), b_ix (by omega), Int.toNat_natCast, m_endAt (i := 59) _ (by omega), Option.bind_some, if_pos (b_ib (by omega)), b_ix (by omega), Int.toNat_natCast, f_m_dial_54, if_pos (by decide), m_endAt (i := 775) _ (by omega), Option.bind_some, if_pos (b_ib (by omega)), b_ix (by omega), Int.toNat_natCast, m_endAt (i := 776) _ (by omega), Option.bind_some, if_pos (b_ib (by omega)), b_ix (by omega), Int.toNat_natCast, f_m_dial_54, if_neg (by decide), ← hM3]
  have k3 : ∀ k, k ≠ 1 → M3 k = M1 k := fun k hk => by rw [hM3, xu_K hk, xu_K hk, xu_K hk, xu_K hk, hM2, xu_K hk, xu_K hk, xu_K hk, xu_K hk]
  refine ⟨M3, ?_, by rw [k3 0 (by omega), a3 6 (by omega), xu_s rfl], a2.cg ⟨r3, h.1.2.1.dial (fun e he => (hb.off h.1.1 hp e he).1) h1, h.1.2.2.dial⟩ (k3 4 (by omega)) (k3 5 (by omega)) (k3 8 (by omega)) (fun j hj => by rw [k3 0 (by omega)])⟩
  unfold f_m_dial
  rw [hp0, Option.bind_some, if_neg (by decide), a1, Option.bind_some, e1, Option.bind_some, e2, e3, Int.zero_add]
theorem r_dialN (h : rX B M s H S bf) (hp : s.1 1 ≠ 0) : f_m_dial M = some (-2, xu M 0 6 0) ∧ rX B (xu M 0 6 0) s H S bf := by
  have h0 := h.z06
  refine ⟨?_, h0⟩
  unfold f_m_dial
  rw [r_phase h0.1.1 h0.1.2.1 0 (by omega), Option.bind_some, if_neg hp, if_pos (by decide)]
theorem r_losing (h : RA (M 1) s) (hi : aI B s) (hB : B ≤ 1000000000) : f_m_losing M = some (aLosing s) := by
  have h0 : 0 ≤ B := by have := hi.2.1.1 0; unfold aB at this; omega
  have key : ∀ (e : Nat), e < 2 → ∀ (k4 : Int → Int → Option Int) (k p n : Nat) (x : Int), p + k = ((s.2.2 (56 + 717 * e + 26))).length → k < n → f_m_losing_20 M k4 n x (e : Int) (p : Int) = k4 (x + aLostF (s.1 ((56 + 717 * (1 - e)) + 3)) (((s.2.2 (56 + 717 * e + 26))).drop p)) ((e : Int) + 1) := by
    intro e he k4 k
    obtain ⟨c1, c2, c3⟩ := (h.2.1 e he).2.2
    have c1' : ((s.2.2 (56 + 717 * e + 26))).length ≤ 7 := c1
    have n3 := h.n ((56 + 717 * (1 - e)) + 3) (by unfold aIx; omega)
    have x3 := hi.2.1.1 ((56 + 717 * (1 - e)) + 3)
    induction k with
    | zero =>
      intro p n x h1 h2
      obtain ⟨n, rfl⟩ : ∃ z, n = z + 1 := ⟨n - 1, by omega⟩
      rw [f_m_losing_20, m_of (i := (56 + 717 * e) + 1) M (by omega) (by omega), Option.bind_some, c2, if_neg (by rw [xw_nat (by omega), xw_nat (by omega)]; omega), List.drop_of_length_le (by omega), aLostF, Int.add_zero]
      rfl
    | succ k ih =>
      intro p n x h1 h2
      obtain ⟨n, rfl⟩ : ∃ z, n = z + 1 := ⟨n - 1, by omega⟩
      have hp : p < ((s.2.2 (56 + 717 * e + 26))).length := by omega
      have hq := c3 p hp
      have hm : M 1 ((56 + 717 * e) + 26 + 13 * p) = (((s.2.2 (56 + 717 * e + 26))).getD p []).getD 0 0 := hq.2.1
      have hm1 : M 1 ((56 + 717 * e) + 26 + 13 * p + 1) = ((((s.2.2 (56 + 717 * e + 26))).getD p []).length : Int) - 3 := hq.2.2.1
      have hf : ((s.2.2 (56 + 717 * e + 26))).getD p [] ∈ (s.2.2 (56 + 717 * e + 26)) := by
        rw [List.getD_eq_getElem?_getD, List.getElem?_eq_getElem hp]; exact List.getElem_mem _
      have hx := aRl_get (hi.2.1.2.2 _ _ hf) h0 0
      have hc : ∀ y : Int, f_m_losing_20 M k4 n y (e : Int) ((p : Int) + 1) = _ := fun y => ih (p + 1) n y (by omega) (by omega)
      rw [f_m_losing_20, m_of (i := (56 + 717 * e) + 1) M (by omega) (by omega), Option.bind_some, c2, if_pos (by rw [xw_nat (by omega), xw_nat (by omega)]; omega), m_ofFrame (i := (56 + 717 * e) + 26 + 13 * p) M (by omega) (by omega), Option.bind_some, m_of (i := (56 + 717 * (1 - e)) + 3) M (by omega) (by omega), Option.bind_some, hm, n3, hx.xw (by omega), x3.xw (by omega), drop_D _ hp, aLostF]
      unfold f_m_losing_60
      by_cases c : (((s.2.2 (56 + 717 * e + 26))).getD p []).getD 0 0 < s.1 ((56 + 717 * (1 - e)) + 3)
      · rw [if_pos c, if_pos c, hc, Int.add_zero, Int.zero_add]
      · rw [if_neg c, if_neg c, m_ofFrame (i := (56 + 717 * e) + 26 + 13 * p + 1) M (by omega) (by omega), Option.bind_some, hm1, hc, Int.add_assoc]
  obtain ⟨⟨⟨q1, q2, q3⟩, -, -⟩, -, ⟨f1, f2, f3⟩⟩ := h.2.1 0 (by omega)
  obtain ⟨⟨⟨p1, p2, p3⟩, -, -⟩, -, ⟨g1, g2, g3⟩⟩ := h.2.1 1 (by omega)
  have f1' : ((s.2.2 (56 + 717 * 0 + 26))).length ≤ 7 := f1
  have g1' : ((s.2.2 (56 + 717 * 1 + 26))).length ≤ 7 := g1
  have k0 : ∀ (k4 : Int → Int → Option Int) (x : Int), f_m_losing_20 M k4 fu x 0 0 = k4 (x + aLostF (s.1 ((56 + 717 * 1) + 3)) ((s.2.2 (56 + 717 * 0 + 26)))) 1 := fun k4 x => key 0 (by omega) k4 ((s.2.2 (56 + 717 * 0 + 26))).length 0 fu x (by omega) (by show _ < 5000; omega)
  have k1 : ∀ (k4 : Int → Int → Option Int) (x : Int), f_m_losing_20 M k4 fu x 1 0 = k4 (x + aLostF (s.1 ((56 + 717 * 0) + 3)) ((s.2.2 (56 + 717 * 1 + 26)))) 2 := fun k4 x => key 1 (by omega) k4 ((s.2.2 (56 + 717 * 1 + 26))).length 0 fu x (by omega) (by show _ < 5000; omega)
  unfold f_m_losing
  show f_m_losing_4 M (4997 + 1 + 1 + 1) 0 0 = _
  rw [f_m_losing_4, if_pos (by decide), m_of (i := (56 + 717 * 0)) M (by omega) (by omega), Option.bind_some, q2, k0, f_m_losing_4, if_pos (by decide), m_of (i := (56 + 717 * 1)) M (by omega) (by omega), Option.bind_some, p2, k1, f_m_losing_4, if_neg (by decide)]
  unfold aLosing
  congr 1
  omega
theorem r_hangUp (h : rX B M s H S bf) (hp : s.1 1 ≠ 0) (h1 : 5 ≤ B) (hB : B ≤ 900000000) : ∃ M' : xM, f_m_hangUp M = some (aLosing s, M') ∧ M' 0 6 = 0 ∧ rX (B + 1) M' (aHang s) (aPush H s) S bf := by
  have h0 := h.z06
  obtain ⟨M1, a1, a2, a3, a4⟩ := r_record h0
  obtain ⟨M2, b1, b2, b3⟩ := r_hang a2.1.1
  refine ⟨M2, ?_, by rw [b3 0 (by omega), a3 6 (by omega), xu_s rfl], (a2.le (by omega)).cg ⟨b2, h.1.2.1.hang h1, h.1.2.2.hang⟩ (b3 4 (by omega)) (b3 5 (by omega)) (b3 8 (by omega)) (fun j hj => by rw [b3 0 (by omega)])⟩
  unfold f_m_hangUp
  rw [r_phase h0.1.1 h0.1.2.1 0 (by omega), Option.bind_some, if_neg hp, if_pos (by decide), a1, Option.bind_some, r_losing a2.1.1 a2.1.2.1 (by omega), Option.bind_some, b1, Option.bind_some]
theorem r_setQ (h : rX B M s H S bf) {q : Int} (hq : 0 ≤ q ∧ q ≤ 9) (h1 : 9 ≤ B) : ∃ M' : xM, f_m_setQuality q M = some (s.1 2, M') ∧ M' 0 6 = 0 ∧ rX B M' (aN s 2 q) (aPush H s) S bf := by
  have h0 := h.z06
  obtain ⟨M1, a1, a2, a3, a4⟩ := r_record h0
  have n2 := a2.1.1.n 2 (by unfold aIx; omega)
  refine ⟨xu M1 1 2 q, ?_, by rw [xu_K (by omega), a3 6 (by omega), xu_s rfl], a2.cg ⟨a2.1.1.num (j := 2) (by unfold aIx; omega) q, h.1.2.1.N 2 q (by unfold aB; omega) (by omega) (by omega) (fun e he => by omega), h.1.2.2.same rfl (fun e he => by rw [aN_1, if_neg (by omega)])⟩ (xu_K (by omega)) (xu_K (by omega)) (xu_K (by omega)) (fun j hj => by rw [xu_K (by omega)])⟩
  unfold f_m_setQuality
  rw [r_inR (v := q) (a := 0) (b := 9) (by unfold bI; omega) (by unfold bI; omega) (by unfold bI; omega) hq, Option.bind_some, if_neg (by decide), a1, Option.bind_some, if_pos (by decide), if_pos (by decide), n2]
/-- an end escapes or resumes: what is answered, and the state behind -/
theorem r_esc {e : Nat} (he : e < 2) (h : rX B M s H S bf) {z : Int} (hz : z = 0 ∨ z = 1) (h1 : 1 ≤ B) (hB : B ≤ 1000000000) : ∃ M' : xM, f_m_setEscaped (e : Int) z M = some (if s.1 1 = 2 then (if s.1 ((56 + 717 * e) + 6) = z then -3 else (((s.2.1 (56 + 717 * e + 117))).length : Int)) else -2, M') ∧ M' 0 6 = 0 ∧ rX B M' (if s.1 1 = 2 ∧ s.1 ((56 + 717 * e) + 6) ≠ z then aN s ((56 + 717 * e) + 6) z else s) (if s.1 1 = 2 ∧ s.1 ((56 + 717 * e) + 6) ≠ z then aPush H s else H) S bf := by
  have h0 := h.z06
  have n6 := h0.1.1.n ((56 + 717 * e) + 6) (by unfold aIx; omega)
  have x6 := h.1.2.1.2.1.1 ((56 + 717 * e) + 6)
  unfold f_m_setEscaped
  rw [r_isEnd he, Option.bind_some, if_neg (by decide), r_phase h0.1.1 h0.1.2.1 2 (by omega), Option.bind_some]
  by_cases c : s.1 1 = 2
  · rw [if_pos c, if_neg (by decide), if_pos c, m_of (i := (56 + 717 * e) + 6) _ (by omega) (by omega), Option.bind_some, n6, x6.xw (by omega), xw_id (x := z) (by omega) (by omega)]
    by_cases d : s.1 ((56 + 717 * e) + 6) = z
    · rw [if_pos d, if_pos d, if_neg (fun w => w.2 d), if_neg (fun w => w.2 d)]
      exact ⟨_, rfl, xu_s rfl, h0⟩
    · rw [if_neg d, if_neg d, if_pos ⟨c, d⟩, if_pos ⟨c, d⟩]
      obtain ⟨M1, a1, a2, a3, a4⟩ := r_record h0
      have h2 := a2.1.1.num (j := (56 + 717 * e) + 6) (by unfold aIx; omega) z
      have hq := (h2.2.1 e he).1.1.2.1
      have hx : xix (((56 + 717 * e) + 6 : Nat) : Int) = (56 + 717 * e) + 6 := xix_nat (by omega)
      rw [a1, Option.bind_some, m_endAt (i := (56 + 717 * e) + 6) _ (by omega), Option.bind_some, if_pos (b_ib (by omega)), hx, m_of (i := (56 + 717 * e)) _ (by omega) (by omega), Option.bind_some]
      refine ⟨xu M1 1 ((56 + 717 * e) + 6) z, ?_, by rw [xu_K (by omega), a3 6 (by omega), xu_s rfl], a2.cg ⟨h2, h.1.2.1.N ((56 + 717 * e) + 6) z (by unfold aB; omega) (by omega) (by omega) (fun e' he' => by omega), h.1.2.2.same rfl (fun e' he' => by rw [aN_1, if_neg (by omega)])⟩ (xu_K (by omega)) (xu_K (by omega)) (xu_K (by omega)) (fun j hj => by rw [xu_K (by omega)])⟩
      have hq' : (xu M1 1 ((56 + 717 * e) + 6) z) 1 ((56 + 717 * e)) = (((s.2.1 (56 + 717 * e + 117))).length : Int) := hq
      rw [hq']
  · rw [if_neg c, if_pos (by decide), if_neg c, if_neg (fun w => c w.1), if_neg (fun w => c w.1)]
    exact ⟨_, rfl, xu_s rfl, h0⟩
theorem getD_app2 (p q : List Int) (j : Nat) : (p ++ q).getD j 0 = if j < p.length then p.getD j 0 else q.getD (j - p.length) 0 := by
  by_cases c : j < p.length
  · rw [if_pos c, List.getD_eq_getElem?_getD, List.getElem?_append_left c, List.getD_eq_getElem?_getD]
  · rw [if_neg c, List.getD_eq_getElem?_getD, List.getElem?_append_right (by omega), List.getD_eq_getElem?_getD]
/-- bytes to send: what is answered -/
def aSendN (e z : Nat) (s : aS) : Int := if s.1 1 = 0 then -2 else if 200 < ((s.2.1 (56 + 717 * e + 117))).length + z then -3 else ((((s.2.1 (56 + 717 * e + 117))).length + z : Nat) : Int)
theorem r_sendX {e : Nat} (he : e < 2) (h : rX B M s H S bf) (hbf : ∀ x, x ∈ bf → 0 ≤ x ∧ x ≤ 255) {z : Nat} (hz : z ≤ bf.length) (h1 : 255 ≤ B) (hB : B ≤ 1000000000) : ∃ M' : xM, f_m_send (e : Int) (z : Int) M = some (aSendN e z s, M') ∧ M' 0 6 = 0 ∧ rX B M' (if aSendN e z s < 0 then s else aL s ((56 + 717 * e) + 117) ((s.2.1 (56 + 717 * e + 117)) ++ bf.take z)) (if aSendN e z s < 0 then H else aPush H s) S [] := by
  obtain ⟨c1, c2, c3⟩ := h.2.2.2
  obtain ⟨M0, hM0⟩ : ∃ Z, Z = xu (xu M 0 6 0) 0 13 0 := ⟨_, rfl⟩
  have k0 : ∀ k, k ≠ 0 → M0 k = M k := fun k hk => by rw [hM0, xu_K hk, xu_K hk]
  have h0 : rX B M0 s H S [] := by
    obtain ⟨b1, ⟨b2, b3, b4⟩, b5, b6⟩ := h
    refine ⟨by rw [k0 1 (by omega)]; exact b1, ⟨by rw [hM0, xu_d (by omega), xu_d (by omega), b2], b3, by rw [k0 5 (by omega)]; exact b4⟩, fun t ht => ⟨by rw [hM0, xu_d (by omega), xu_d (by omega), (b5 t ht).1], by rw [k0 4 (by omega)]; exact (b5 t ht).2⟩, by rw [hM0, xu_s rfl]; rfl, Nat.zero_le _, fun i hi => absurd hi (Nat.not_lt_zero _)⟩
  have t0 : M0 0 6 = 0 := by rw [hM0, xu_d (by omega), xu_s rfl]
  obtain ⟨⟨⟨q1, q2, q3⟩, -, -⟩, -, -⟩ := h0.1.1.2.1 e he
  have q1' : ((s.2.1 (56 + 717 * e + 117))).length ≤ 200 := q1
  have hsend : f_m_send (e : Int) (z : Int) M = (if xw (if s.1 1 = 0 then (1 : Int) else 0) = 0 then (if xw 200 < xw ((((s.2.1 (56 + 717 * e + 117))).length : Int) + z) then some ((-3), M0) else (Option.bind (f_m_record M0) fun q4 => f_m_send_80 (e : Int) (z : Int) fu 0 q4)) else some ((-2), M0)) := by
    unfold f_m_send f_m_send_29
    rw [r_isEnd he, Option.bind_some, if_neg (by decide), c1, r_inR (v := (z : Int)) (a := 0) (by unfold bI; omega) (by unfold bI; omega) (by unfold bI; omega) (by omega), Option.bind_some, if_neg (by decide), if_pos (by decide), ← hM0, r_phase h0.1.1 h0.1.2.1 0 (by omega), Option.bind_some, m_of (i := (56 + 717 * e)) _ (by omega) (by omega), Option.bind_some, q2]
  rw [hsend]
  unfold aSendN
  by_cases c : s.1 1 = 0
  · rw [if_pos c, if_pos c, if_neg (by decide), if_pos (by decide), if_pos (by decide)]
    exact ⟨M0, rfl, t0, h0⟩
  · rw [if_neg c, if_neg c, if_pos (by decide), xw_id (x := (((s.2.1 (56 + 717 * e + 117))).length : Int) + z) (by omega) (by omega), xw_id (x := 200) (by omega) (by omega)]
    by_cases d : 200 < ((s.2.1 (56 + 717 * e + 117))).length + z
    · rw [if_pos (by omega), if_pos d, if_pos (by decide), if_pos (by decide)]
      exact ⟨M0, rfl, t0, h0⟩
    · rw [if_neg (by omega), if_neg d, if_neg (by omega), if_neg (by omega)]
      obtain ⟨M1, a1, a2, a3, a4⟩ := r_record h0
      have hq1 : M1 1 ((56 + 717 * e)) = ((((s.2.1 (56 + 717 * e + 117))).length + 0 : Nat) : Int) := by rw [a4, q2]; rfl
      have g8 : M1 8 = M 8 := by
        obtain ⟨M1', w1, w2⟩ := record_sp H.length M0 h0.2.1.2.1 h0.2.1.1
        rw [w1] at a1
        cases a1
        rw [w2.2.2 8 (by omega) (by omega), k0 8 (by omega)]
      obtain ⟨M2, b1, b2, b3, b4, b5⟩ := m_send_80 (e : Int) z e ((56 + 717 * e)) ((s.2.1 (56 + 717 * e + 117))).length (fun i => bf.getD i 0) rfl he rfl (by omega) z 0 fu M1 (by omega) (by show _ < 5000; omega) (by omega) hq1 (fun i hi => by
        have hi2 : i < bf.length := by omega
        have hm : bf.getD i 0 ∈ bf := by rw [List.getD_eq_getElem?_getD, List.getElem?_eq_getElem hi2]; exact List.getElem_mem _
        exact ⟨by rw [g8]; exact c3 i hi2, hbf _ hm⟩)
      have b1' : f_m_send_80 (e : Int) (z : Int) fu 0 M1 = _ := b1
      rw [a1, Option.bind_some, b1']
      have hl : ((s.2.1 (56 + 717 * e + 117)) ++ bf.take z).length = ((s.2.1 (56 + 717 * e + 117))).length + z := by rw [List.length_append, List.length_take]; omega
      have g : ∀ i, i ≠ (56 + 717 * e) → (i < (56 + 717 * e) + 117 ∨ (56 + 717 * e) + 317 ≤ i) → M2 1 i = M1 1 i := fun i i1 i2 => b4 i i1 (by omega)
      refine ⟨M2, rfl, by rw [b5 0 (by omega), a3 6 (by omega), t0], a2.cg ⟨?_, ?_, ?_⟩ (b5 4 (by omega)) (b5 5 (by omega)) (b5 8 (by omega)) (fun j hj => by rw [b5 0 (by omega)])⟩
      · obtain ⟨w1, w2, w3, w4⟩ := a2.1.1
        refine ⟨fun j hj => by rw [g j (by unfold aIx at hj; omega) (by unfold aIx at hj; omega)]; exact w1 j hj, fun e' he' => ?_, w3.cg (g _ (by omega) (by omega)) (fun i i1 i2 => g i (by omega) (by omega)), w4.cg (g _ (by omega) (by omega)) (fun i i1 i2 => g i (by omega) (by omega))⟩
        by_cases ce : e' = e
        · subst ce
          obtain ⟨⟨x1, x2, x3⟩, ⟨x4, x5⟩, x6⟩ := w2 e' he'
          unfold rE
          rw [aL_2, if_pos rfl, aL_2, if_neg (by omega), aL_2, if_neg (by omega), aL_2, if_neg (by omega), aL_3]
          refine ⟨⟨⟨by rw [hl]; omega, by rw [b2, hl], fun i hi => ?_⟩, x2.cg (g _ (by omega) (by omega)) (fun i i1 i2 => g i (by omega) (by omega)), x3.cg (g _ (by omega) (by omega)) (fun i i1 i2 => g i (by omega) (by omega))⟩, ⟨x4, fun i hi => by rw [g _ (by omega) (by omega), x5 i hi]⟩, x6.cg (g _ (by omega) (by omega)) (fun i i1 i2 => g i (by omega) (by omega))⟩
          rw [getD_app2]
          by_cases ci : i < ((s.2.1 (56 + 717 * e' + 117))).length
          · rw [if_pos ci, b4 _ (by omega) (by omega)]
            exact x1.2.2 i ci
          · rw [if_neg ci]
            rw [hl] at hi
            have := b3 (i - ((s.2.1 (56 + 717 * e' + 117))).length) (by omega) (by omega)
            rw [show (56 + 717 * e') + 117 + ((s.2.1 (56 + 717 * e' + 117))).length + (i - ((s.2.1 (56 + 717 * e' + 117))).length) = (56 + 717 * e') + 117 + i by omega] at this
            rw [this, getD_take _ _ _ (by omega)]
        · exact ((w2 e' he').cg fun i i1 i2 _ _ _ _ _ _ => g i (by omega) (by omega)).other (fun j hj => by rw [aL_2, if_neg (by omega)]) rfl
      · have hr := h.1.2.1
        refine hr.L ?_ (fun e' he' => ⟨fun _ => by omega, by omega, by omega, by omega⟩)
        intro x hx
        rcases List.mem_append.mp hx with hx | hx
        · exact hr.2.1.2.1 _ x hx
        · have := hbf x (List.mem_of_mem_take hx)
          unfold aB
          omega
      · intro e' he'
        have w := h.1.2.2 e' he'
        have u1 : (aL s ((56 + 717 * e) + 117) ((s.2.1 (56 + 717 * e + 117)) ++ bf.take z)).2.1 ((56 + 717 * e') + 10) = s.2.1 ((56 + 717 * e') + 10) := by rw [aL_2, if_neg (by omega)]
        have u2 : (aL s ((56 + 717 * e) + 117) ((s.2.1 (56 + 717 * e + 117)) ++ bf.take z)).2.1 ((56 + 717 * e') + 18) = s.2.1 ((56 + 717 * e') + 18) := by rw [aL_2, if_neg (by omega)]
        have u3 : (aL s ((56 + 717 * e) + 117) ((s.2.1 (56 + 717 * e + 117)) ++ bf.take z)).2.1 ((56 + 717 * e') + 317) = s.2.1 ((56 + 717 * e') + 317) := by rw [aL_2, if_neg (by omega)]
        rw [u1, u2, u3, aL_1]
        refine ⟨w.1, ?_, w.2.2⟩
        rw [aL_2]
        by_cases ce : (56 + 717 * e') + 117 = (56 + 717 * e) + 117
        · rw [if_pos ce, hl]; omega
        · rw [if_neg ce]; exact w.2.1
theorem r_undo {t : aS} {H' : List aS} (h : rX B M s (H' ++ [t]) S bf) : ∃ M' : xM, f_m_undo M = some ((H'.length : Int), M') ∧ M' 0 6 = 0 ∧ rX B M' t H' S bf := by
  obtain ⟨a1, ⟨a2, a3, a4⟩, a5, a6⟩ := id h
  rw [List.length_append, List.length_singleton] at a2 a3
  obtain ⟨M0, hM0⟩ : ∃ Z, Z = xu (xu M 0 6 0) 0 5 (M 0 5 - 1) := ⟨_, rfl⟩
  have E0 : ∀ k, k ≠ 0 → M0 k = M k := fun k hk => by rw [hM0, xu_K hk, xu_K hk]
  have J0 : ∀ j, j ≠ 5 → j ≠ 6 → M0 0 j = M 0 j := fun j j5 j6 => by rw [hM0, xu_d j5, xu_d j6]
  have J6 : M0 0 6 = 0 := by rw [hM0, xu_d (by omega), xu_s rfl]
  have J5 : M0 0 5 = (H'.length : Int) := by rw [hM0, xu_s rfl]; omega
  obtain ⟨Q, c1, c2, c3, c4⟩ := copyC_sp H'.length 0 (by omega) (by omega) (xvw [5, 1] M0)
  obtain ⟨M1, hM1⟩ : ∃ Z, Z = xmg [5, 1] 2 M0 Q := ⟨_, rfl⟩
  have G1 : ∀ j, j < 3530 → M1 1 j = M 5 (3530 * H'.length + j) := fun j hj => by
    have e : M1 1 = Q 1 := by rw [hM1]; rfl
    have := c2 j hj
    rw [Nat.mul_zero, Nat.zero_add] at this
    rw [e, this]
    show M0 5 _ = _
    rw [E0 5 (by omega)]
  have GK : ∀ k, k ≠ 1 → M1 k = M0 k := fun k h1 => by
    by_cases h5 : k = 5
    · rw [h5, hM1]; show Q 0 = _; rw [c4 0 (by omega)]; rfl
    · rw [hM1]; exact xmg_no _ _ (xpos_not (by simp [h1, h5]))
  refine ⟨M1, ?_, by rw [GK 0 (by omega), J6], ?_⟩
  · have c0 : ¬ xw (M 0 5) = 0 := by rw [a2, xw_id (by omega) (by omega)]; omega
    have c1' : f_m_copyC (M 0 5 - 1) 0 (xvw [5, 1] M0) = some Q := by
      rw [show M 0 5 - 1 = (H'.length : Int) by omega]; exact c1
    unfold f_m_undo
    rw [if_neg c0, ← hM0, c1', Option.bind_some, ← hM1, GK 0 (by omega), J5]
  · refine ⟨(a4 H'.length t ?_).cg fun j hj => G1 j hj, ⟨by rw [GK 0 (by omega), J5], by omega, fun i t' ht' => ?_⟩, fun t' ht' => ⟨by rw [GK 0 (by omega), J0 7 (by omega) (by omega), (a5 t' ht').1], by rw [GK 4 (by omega), E0 4 (by omega)]; exact (a5 t' ht').2⟩, by rw [GK 0 (by omega), J0 13 (by omega) (by omega), a6.1], a6.2.1, by rw [GK 8 (by omega), E0 8 (by omega)]; exact a6.2.2⟩
    · rw [List.getElem?_append_right (Nat.le_refl _), Nat.sub_self]; rfl
    · rw [GK 5 (by omega), E0 5 (by omega)]
      exact a4 i t' (by rw [List.getElem?_append_left (List.getElem?_eq_some_iff.mp ht').1]; exact ht')
theorem r_undoN (h : rX B M s [] S bf) : f_m_undo M = some (-1, xu M 0 6 0) ∧ rX B (xu M 0 6 0) s [] S bf := by
  have a2 : M 0 5 = 0 := h.2.1.1
  refine ⟨?_, h.z06⟩
  unfold f_m_undo
  rw [a2, if_pos (by decide)]
theorem r_save (h : rX B M s H S bf) : ∃ M' : xM, f_m_saveSnapshot M = some M' ∧ M' 0 6 = 0 ∧ rX B M' s H (some s) bf := by
  obtain ⟨Q, c1, c2, c3⟩ := copyA_row 1 4 (xu M 0 6 0) (by omega) (Or.inl ⟨rfl, Or.inr rfl⟩)
  obtain ⟨M1, hM1⟩ : ∃ Z, Z = xmg [1, 4] 2 (xu M 0 6 0) Q := ⟨_, rfl⟩
  rw [← hM1] at c2 c3
  obtain ⟨a1, ⟨a2, a3, a4⟩, a5, a6, a7, a8⟩ := h
  refine ⟨xu M1 0 7 1, ?_, by rw [xu_d (by omega), c3 0 (by omega), xu_s rfl], by rw [xu_K (by omega), c3 1 (by omega), xu06]; exact a1, ⟨by rw [xu_d (by omega), c3 0 (by omega), xu_d (by omega), a2], a3, by rw [xu_K (by omega), c3 5 (by omega), xu_K (by omega)]; exact a4⟩, fun t ht => ⟨xu_s rfl, ?_⟩, by rw [xu_d (by omega), c3 0 (by omega), xu_d (by omega), a6], a7, by rw [xu_K (by omega), c3 8 (by omega), xu_K (by omega)]; exact a8⟩
  · unfold f_m_saveSnapshot
    rw [c1, Option.bind_some, ← hM1]
  · cases ht
    exact a1.cg fun i hi => by rw [xu_K (by omega), c2 i hi, xu06]
theorem r_restore {t : aS} (h : rX B M s H (some t) bf) : ∃ M' : xM, f_m_restoreSnapshot M = some (1, M') ∧ M' 0 6 = 0 ∧ rX B M' t [] (some t) bf := by
  obtain ⟨Q, c1, c2, c3⟩ := copyA_row 4 1 (xu M 0 6 0) (by omega) (Or.inr ⟨rfl, Or.inr rfl⟩)
  obtain ⟨M1, hM1⟩ : ∃ Z, Z = xmg [4, 1] 2 (xu M 0 6 0) Q := ⟨_, rfl⟩
  rw [← hM1] at c2 c3
  obtain ⟨a1, ⟨a2, a3, a4⟩, a5, a6, a7, a8⟩ := h
  obtain ⟨a5, a5'⟩ := a5 t rfl
  have e4 : (xu M 0 6 0) 4 = M 4 := xu_K (by omega)
  refine ⟨xu M1 0 5 0, ?_, by rw [xu_d (by omega), c3 0 (by omega), xu_s rfl], a5'.cg fun i hi => by rw [xu_K (by omega), c2 i hi, e4], ⟨by rw [xu_s rfl]; rfl, Nat.zero_le _, fun i t' ht' => by rw [List.getElem?_nil] at ht'; cases ht'⟩, fun t' ht' => ⟨by rw [xu_d (by omega), c3 0 (by omega), xu_d (by omega), a5], ?_⟩, by rw [xu_d (by omega), c3 0 (by omega), xu_d (by omega), a6], a7, by rw [xu_K (by omega), c3 8 (by omega), xu_K (by omega)]; exact a8⟩
  · unfold f_m_restoreSnapshot
    rw [a5, if_neg (by decide), c1, Option.bind_some, ← hM1]
  · cases ht'
    rw [xu_K (by omega), c3 4 (by omega), e4]
    exact a5'
/-- what the next frame would cost -/
def aNextC (e : Nat) (s : aS) : Int := if s.1 1 = 2 ∧ ((s.2.1 (56 + 717 * e + 117))).length ≠ 0 then aCost e (((s.2.1 (56 + 717 * e + 117))).take 8) s else 0
theorem r_cost {e : Nat} (he : e < 2) (h : rX B M s H S bf) (hB : B ≤ 1000000000) : ∃ M' : xM, f_m_nextCost (e : Int) M = some (aNextC e s, M') ∧ M' 0 6 = 0 ∧ rX B M' s H S bf := by
  have h0 := h.z06
  obtain ⟨⟨⟨q1, q2, q3⟩, ⟨w1, w2, w3⟩, -⟩, -, -⟩ := h0.1.1.2.1 e he
  have q1' : ((s.2.1 (56 + 717 * e + 117))).length ≤ 200 := q1
  unfold f_m_nextCost aNextC
  rw [r_isEnd he, Option.bind_some, if_neg (by decide), r_phase h0.1.1 h0.1.2.1 2 (by omega), Option.bind_some]
  by_cases c : s.1 1 = 2
  · rw [if_pos c, if_neg (by decide), m_of (i := (56 + 717 * e)) _ (by omega) (by omega), Option.bind_some, q2, xw_nat (by omega)]
    by_cases d : ((s.2.1 (56 + 717 * e + 117))).length = 0
    · rw [if_pos (by omega), if_neg (fun w => w.2 d)]
      exact ⟨_, rfl, xu_s rfl, h0⟩
    · rw [if_neg (by omega), if_pos ⟨c, d⟩]
      obtain ⟨M1, a1, a2, a3, a4, a5⟩ := keepWords_sp e ((56 + 717 * e)) (xu M 0 6 0) he rfl
      have k1 : M1 1 = (xu M 0 6 0) 1 := a5 1 (by omega) (by omega)
      have h1 : RA (M1 1) s := by rw [k1]; exact h0.1.1
      have hl : (((s.2.1 (56 + 717 * e + 117))).take 8).length = min 8 ((s.2.1 (56 + 717 * e + 117))).length := List.length_take
      obtain ⟨M2, b1, b2, b3, b4⟩ := r_write e ((56 + 717 * e) + 117) he (l := ((s.2.1 (56 + 717 * e + 117))).take 8) (by omega) h.1.2.1 h.1.2.2 h1 (fun x hx => h.1.2.1.2.1.2.1 _ x (List.mem_of_mem_take hx)) (by omega) (by omega) (fun i hi => by rw [getD_take _ _ _ (by omega), k1]; exact q3 i (by show i < ((s.2.1 (56 + 717 * e + 117))).length; omega))
      obtain ⟨M3, d1, d2, d3, d4, d5⟩ := takeWords_sp e ((56 + 717 * e)) M2 he rfl
      have hmin : (if xw (((s.2.1 (56 + 717 * e + 117))).length : Int) < xw 8 then (((s.2.1 (56 + 717 * e + 117))).length : Int) else 8) = ((((s.2.1 (56 + 717 * e + 117))).take 8).length : Int) := by
        rw [xw_nat (by omega), xw_id (x := 8) (by omega) (by omega), hl]
        split <;> omega
      have hrow : ∀ i, i < 3530 → M3 1 i = M 1 i := fun i hi => by
        by_cases i7 : i = (56 + 717 * e) + 7
        · rw [i7, d2, b4 0 (by omega), a2, xu06]
        · by_cases iw : i < (56 + 717 * e) + 10 ∨ (56 + 717 * e) + 18 ≤ i
          · rw [d4 i i7 iw, b3 i i7 iw, k1, xu06]
          · have := d3 (i - ((56 + 717 * e) + 10)) (by omega)
            have t2 := a3 (i - ((56 + 717 * e) + 10)) (by omega)
            rw [show (56 + 717 * e) + 10 + (i - ((56 + 717 * e) + 10)) = i by omega] at this t2
            rw [this, b4 6 (by omega), t2, xu06]
      have kk : ∀ k, k ≠ 0 → k ≠ 1 → k ≠ 6 → M3 k = M k := fun k k0 k1' k6 => by rw [d5 k k1', b4 k k1', a5 k k0 k6, xu_K k0]
      have kj : ∀ j, j ≠ 9 → M3 0 j = (xu M 0 6 0) 0 j := fun j hj => by rw [d5 0 (by omega), b4 0 (by omega), a4 j hj]
      have hq5 : f_m_of (e : Int) 0 M1 = some (((s.2.1 (56 + 717 * e + 117))).length : Int) := by rw [m_of (i := (56 + 717 * e)) _ (by omega) (by omega), k1, q2]
      have b1' : f_m_write (e : Int) (((56 + 717 * e) + 117 : Nat) : Int) ((((s.2.1 (56 + 717 * e + 117))).take 8).length : Int) M1 = _ := b1
      rw [a1, Option.bind_some, m_endAt (i := (56 + 717 * e) + 117) _ (by omega), Option.bind_some, hq5, Option.bind_some, hmin, b1', Option.bind_some]
      dsimp only
      rw [d1, Option.bind_some]
      exact ⟨M3, rfl, by rw [kj 6 (by omega), xu_s rfl], h.cg (h.1.cg hrow) (kk 4 (by omega) (by omega) (by omega)) (kk 5 (by omega) (by omega) (by omega)) (kk 8 (by omega) (by omega) (by omega)) (fun j hj => by rw [kj j (by omega), xu_d (by omega)])⟩
  · rw [if_neg c, if_pos (by decide), if_neg (fun w => c w.1)]
    exact ⟨_, rfl, xu_s rfl, h0⟩
/-- the least quality with which all comes through -/
def aLeast (s : aS) : Nat → Int → Int
  | 0, _ => -1
  | k + 1, q => if aFin 401 0 (aN s 2 q) = -1 then aLeast s k (q + 1) else q
end

/-! ===== what arrives at the reference's ends ===== -/
theorem aF_comm (s : aS) {j k : Nat} (h : j ≠ k) (a b : List (List Int)) : aF (aF s j a) k b = aF (aF s k b) j a := by
  unfold aF
  refine Prod.ext rfl (Prod.ext rfl (funext fun i => ?_))
  dsimp only
  by_cases c1 : i = k
  · rw [if_pos c1, if_neg (by omega), if_pos c1]
  · rw [if_neg c1]
    by_cases c2 : i = j
    · rw [if_pos c2, if_pos c2]
    · rw [if_neg c2, if_neg c2, if_neg c1]
theorem aTell_c (k e : Int) (s : aS) (L : List (List Int)) : aTell k e (aF s 1730 L) = aF (aTell k e s) 1730 L := by
  unfold aTell
  have e9 : (aF s 1730 L).2.2 1490 = s.2.2 1490 := by rw [aF_3, if_neg (by omega)]
  rw [e9, aF_comm s (by omega : 1730 ≠ 1490)]
  rfl
theorem aRecv_c (e : Nat) (v : Int) (s : aS) (L : List (List Int)) : aRecv e v (aF s 1730 L) = aF (aRecv e v s) 1730 L := by
  unfold aRecv
  rw [aF_2]
  by_cases c : ((s.2.1 (56 + 717 * e + 317))).length < 400
  · rw [if_pos c, if_pos c]; rfl
  · rw [if_neg c, if_neg c]; rfl
theorem aRecvs_c (e : Nat) : ∀ (q : List Int) (s : aS) (L : List (List Int)), aRecvs e q (aF s 1730 L) = aF (aRecvs e q s) 1730 L
  | [], _, _ => rfl
  | v :: q, s, L => by rw [aRecvs, aRecv_c, aRecvs_c e q, aRecvs]
/-- the acknowledgement that an arrival sends -/
def aNewA (it : List Int) (s : aS) : List (List Int) :=
  if it.getD 1 0 = 1 then [] else if it.getD 4 0 = 1 ∨ it.getD 3 0 ≠ s.1 ((56 + 717 * (it.getD 2 0).toNat) + 3) then [] else [[s.1 0 + s.1 15, 1, 1 - ((it.getD 2 0).toNat : Int), it.getD 3 0]]
theorem aLand_c (it : List Int) (s : aS) (L : List (List Int)) : aLand it (aF s 1730 L) = aF (aLand it s) 1730 (L ++ aNewA it s) ∧ ((aLand it s).2.2 1730) = (s.2.2 1730) ++ aNewA it s := by
  unfold aLand aNewA
  by_cases h1 : it.getD 1 0 = 1
  · rw [if_pos h1, if_pos h1, if_pos h1, List.append_nil, List.append_nil]
    unfold aAck
    rw [aF_3, if_neg (by omega), aF_comm s (by omega : 1730 ≠ (56 + 717 * (it.getD 2 0).toNat) + 26)]
    exact ⟨rfl, by rw [aN_2, aN_2, aF_3, if_neg (by omega)]⟩
  · rw [if_neg h1, if_neg h1, if_neg h1, aF_1]
    by_cases h2 : it.getD 4 0 = 1 ∨ it.getD 3 0 ≠ s.1 ((56 + 717 * (it.getD 2 0).toNat) + 3)
    · rw [if_pos h2, if_pos h2, if_pos h2, List.append_nil, List.append_nil]
      exact ⟨rfl, rfl⟩
    · rw [if_neg h2, if_neg h2, if_neg h2]
      unfold aTake
      dsimp only
      have e1 : (if it.getD 5 0 = 1 then aTell 7 (((it.getD 2 0).toNat : Nat) : Int) (aL (aF s 1730 L) ((56 + 717 * (it.getD 2 0).toNat) + 18) []) else aF s 1730 L) = aF (if it.getD 5 0 = 1 then aTell 7 (((it.getD 2 0).toNat : Nat) : Int) (aL s ((56 + 717 * (it.getD 2 0).toNat) + 18) []) else s) 1730 L := by
        by_cases h5 : it.getD 5 0 = 1
        · rw [if_pos h5, if_pos h5]
          exact aTell_c _ _ (aL s ((56 + 717 * (it.getD 2 0).toNat) + 18) []) L
        · rw [if_neg h5, if_neg h5]
      rw [e1, aRecvs_c]
      obtain ⟨U, hU⟩ : ∃ U, U = (if it.getD 5 0 = 1 then aTell 7 (((it.getD 2 0).toNat : Nat) : Int) (aL s ((56 + 717 * (it.getD 2 0).toNat) + 18) []) else s) := ⟨_, rfl⟩
      rw [← hU]
      have u0 : ∀ j, U.1 j = s.1 j := fun j => by
        rw [hU]
        by_cases h5 : it.getD 5 0 = 1
        · rw [if_pos h5]; rfl
        · rw [if_neg h5]
      have uf : U.2.2 1730 = s.2.2 1730 := by
        rw [hU]
        by_cases h5 : it.getD 5 0 = 1
        · rw [if_pos h5, aTell_fl]; rfl
        · rw [if_neg h5]
      have t0 : (aRecvs (it.getD 2 0).toNat (it.drop 6) U).1 0 = s.1 0 := by rw [aRecvs_sc _ _ _ _ (by omega) (by omega), u0]
      have t15 : (aRecvs (it.getD 2 0).toNat (it.drop 6) U).1 15 = s.1 15 := by rw [aRecvs_sc _ _ _ _ (by omega) (by omega), u0]
      rw [aF_1, aF_3, if_pos rfl, t0, t15]
      refine ⟨?_, ?_⟩
      · rw [aF_aF]
        exact aF_aF (aN (aRecvs (it.getD 2 0).toNat (it.drop 6) U) ((56 + 717 * (it.getD 2 0).toNat) + 3) ((aRecvs (it.getD 2 0).toNat (it.drop 6) U).1 ((56 + 717 * (it.getD 2 0).toNat) + 3) + 1)) 1730 L _
      · rw [aF_3, if_pos rfl, aRecvs_F, uf]
section
variable {s : aS} {B : Int}
theorem aU.recv (h : aU s) {e : Nat} (he : e < 2) (v : Int) : aU (aRecv e v s) := fun e' he' => by
  obtain ⟨⟨h1, h2⟩, h3, h4⟩ := h e' he'
  have hL := fun j => aRecv_L e he v s j
  have h4' := (h e he).2.2
  have sc4 : (aRecv e v s).1 ((56 + 717 * e') + 4) = if e' = e then s.1 ((56 + 717 * e) + 4) + 1 else s.1 ((56 + 717 * e') + 4) := by
    unfold aRecv
    rw [aN_1, if_neg (by omega), aN_1]
    by_cases c : e' = e
    · rw [if_pos (by omega), if_pos c]
    · rw [if_neg (by omega), if_neg c]
      by_cases d : ((s.2.1 (56 + 717 * e + 317))).length < 400
      · rw [if_pos d]; rfl
      · rw [if_neg d]; rfl
  have l10 : (aRecv e v s).2.1 ((56 + 717 * e') + 10) = s.2.1 ((56 + 717 * e') + 10) := by rw [hL, if_neg (by omega), if_neg (by omega)]
  have l117 : (aRecv e v s).2.1 ((56 + 717 * e') + 117) = s.2.1 ((56 + 717 * e') + 117) := by rw [hL, if_neg (by omega), if_neg (by omega)]
  have l18 : (aRecv e v s).2.1 ((56 + 717 * e') + 18) = if e' = e then aUse v ((s.2.1 (56 + 717 * e + 18))) else s.2.1 ((56 + 717 * e') + 18) := by
    rw [hL]
    by_cases c : e' = e
    · rw [if_pos (by omega), if_pos c]
    · rw [if_neg (by omega), if_neg (by omega), if_neg c]
  have l317 : (aRecv e v s).2.1 ((56 + 717 * e') + 317) = if e' = e ∧ ((s.2.1 (56 + 717 * e + 317))).length < 400 then (s.2.1 (56 + 717 * e + 317)) ++ [v] else s.2.1 ((56 + 717 * e') + 317) := by
    rw [hL, if_neg (by omega)]
    by_cases c : e' = e ∧ ((s.2.1 (56 + 717 * e + 317))).length < 400
    · rw [if_pos c, if_pos ⟨by omega, c.2⟩]
    · rw [if_neg c, if_neg (fun w => c ⟨by omega, w.2⟩)]
  rw [l10, l18, l117, l317, sc4]
  refine ⟨⟨h1, ?_⟩, h3, ?_⟩
  · by_cases c : e' = e
    · rw [if_pos c]; exact aUse_nodup v (h e he).1.2
    · rw [if_neg c]; exact h2
  · by_cases c : e' = e
    · subst c
      rw [if_pos rfl]
      by_cases d : ((s.2.1 (56 + 717 * e' + 317))).length < 400
      · rw [if_pos ⟨rfl, d⟩, List.length_append, List.length_singleton]
        left
        omega
      · rw [if_neg (fun w => d w.2)]
        right
        omega
    · rw [if_neg c, if_neg (fun w => c w.1)]
      exact h4
theorem r_receive {M : xM} (h : RA (M 1) s) (hi : aI B s) (hu : aU s) (hB : B ≤ 900000000) {e : Nat} (he : e < 2) {v : Int} (hv : aB B v) : ∃ M' : xM, f_m_receive (e : Int) v M = some M' ∧ RA (M' 1) (aRecv e v s) ∧ (∀ i, 1730 ≤ i → M' 1 i = M 1 i) ∧ ∀ k, k ≠ 1 → M' k = M k := by
  have he2 : e = 0 ∨ e = 1 := by omega
  obtain ⟨⟨b1, b2, b3⟩, ⟨b4, b5⟩, b6⟩ := h.2.1 e he
  have b4' : (s.2.1 ((56 + 717 * e) + 317)).length ≤ 400 := b4
  have hr := hi.2.1.2.1 ((56 + 717 * e) + 18)
  obtain ⟨M1, u1, u2, u3, u4⟩ := r_use (e : Int) 0 v M (by omega : B ≤ 2147483647) hv hr b3 (hu e he).1.2 (by omega) (by omega) (by omega) (m_wordsAt _ (Or.inl ⟨rfl, by omega⟩)) (m_countAt _ (Or.inl ⟨rfl, by omega⟩))
  have h4 := (hu e he).2.2
  have r4 := hi.2.1.1 ((56 + 717 * e) + 4)
  unfold aB at r4
  have n4 : M1 1 ((56 + 717 * e) + 4) = s.1 ((56 + 717 * e) + 4) := by rw [u3 _ (by omega) (by omega)]; exact h.n _ (by unfold aIx; omega)
  have n55 : M1 1 55 = s.1 55 := by rw [u3 _ (by omega) (by omega)]; exact h.n _ (by unfold aIx; omega)
  have hpay := aPay_le v ((s.2.1 (56 + 717 * e + 18)))
  unfold f_m_receive
  rw [u1, Option.bind_some]
  dsimp only
  rw [m_of (i := (56 + 717 * e) + 4) M1 (by omega) (by omega), Option.bind_some, n4, xw_id (x := s.1 ((56 + 717 * e) + 4)) (by omega) (by omega), show xw 400 = 400 by decide]
  have fin : ∀ M2 : xM, (∀ i, i ≠ (56 + 717 * e) + 317 + ((s.2.1 (56 + 717 * e + 317))).length → M2 1 i = M1 1 i) → (∀ k, k ≠ 1 → M2 k = M1 k) → (((s.2.1 (56 + 717 * e + 317))).length < 400 → M2 1 ((56 + 717 * e) + 317 + ((s.2.1 (56 + 717 * e + 317))).length) = v) → (¬ ((s.2.1 (56 + 717 * e + 317))).length < 400 → M2 = M1) → ∃ M' : xM, f_m_receive_40 (e : Int) v (aPay v ((s.2.1 (56 + 717 * e + 18)))) M2 = some M' ∧ RA (M' 1) (aRecv e v s) ∧ (∀ i, 1730 ≤ i → M' 1 i = M 1 i) ∧ ∀ k, k ≠ 1 → M' k = M k := fun M2 g1 g2 g3 g4 => by
    have m4 : M2 1 ((56 + 717 * e) + 4) = s.1 ((56 + 717 * e) + 4) := by rw [g1 _ (by omega), n4]
    have m55 : M2 1 55 = s.1 55 := by rw [g1 _ (by omega), n55]
    unfold f_m_receive_40
    have hpx : xw (aPay v ((s.2.1 (56 + 717 * e + 18)))) = aPay v ((s.2.1 (56 + 717 * e + 18))) := xw_id (by omega) (by omega)
    rw [m_endAt (i := (56 + 717 * e) + 4) _ (by omega), Option.bind_some, if_pos (b_ib (by omega)), hpx, if_pos (by omega), xix_nat (by omega), m4]
    unfold f_m_receive_60
    rw [if_pos (b_ib (by omega)), if_pos (by decide), if_pos (by decide), xix_nat (by omega), xu_d (by omega), m55]
    have hM' : ∀ i, i ≠ (56 + 717 * e) + 4 → i ≠ 55 → (xu (xu M2 1 ((56 + 717 * e) + 4) (s.1 ((56 + 717 * e) + 4) + 1)) 1 55 (s.1 55 + 1)) 1 i = M2 1 i := fun i i4 i55 => by rw [xu_d i55, xu_d i4]
    have gg : ∀ i, i ≠ (56 + 717 * e) + 4 → i ≠ 55 → i ≠ (56 + 717 * e) + 8 → (i < (56 + 717 * e) + 18 ∨ (56 + 717 * e) + 26 ≤ i) → (i < (56 + 717 * e) + 317 ∨ (56 + 717 * e) + 717 ≤ i) → (xu (xu M2 1 ((56 + 717 * e) + 4) (s.1 ((56 + 717 * e) + 4) + 1)) 1 55 (s.1 55 + 1)) 1 i = M 1 i := fun i i4 i55 i8 i18 i317 => by
      rw [hM' i i4 i55]
      by_cases d : ((s.2.1 (56 + 717 * e + 317))).length < 400
      · rw [g1 i (by omega), u3 i i8 i18]
      · rw [g4 d, u3 i i8 i18]
    refine ⟨_, rfl, ⟨fun j hj => ?_, fun e' he' => ?_, ?_, ?_⟩, fun i i1 => ?_, fun k hk => by rw [xu_K hk, xu_K hk, g2 k hk, u4 k hk]⟩
    · have hj2 := hj
      unfold aIx at hj2
      have ea : (aRecv e v s).1 j = if j = 55 then s.1 55 + 1 else if j = (56 + 717 * e) + 4 then s.1 ((56 + 717 * e) + 4) + 1 else s.1 j := by
        unfold aRecv
        by_cases d : ((s.2.1 (56 + 717 * e + 317))).length < 400
        · rw [if_pos d]; rfl
        · rw [if_neg d]; rfl
      rw [ea]
      by_cases c55 : j = 55
      · rw [if_pos c55, c55, xu_s rfl]
      · rw [if_neg c55]
        by_cases c4 : j = (56 + 717 * e) + 4
        · rw [if_pos c4, c4, xu_d (by omega), xu_s rfl]
        · rw [if_neg c4, gg j c4 c55 (by omega) (by omega) (by omega)]
          exact h.1 j hj
    · by_cases ce : e' = e
      · subst ce
        have hL := fun j => aRecv_L e' he' v s j
        unfold rE
        rw [aRecv_F, hL ((56 + 717 * e') + 117), if_neg (by omega), if_neg (by omega), hL ((56 + 717 * e') + 10), if_neg (by omega), if_neg (by omega), hL ((56 + 717 * e') + 18), if_pos rfl, hL ((56 + 717 * e') + 317), if_neg (by omega)]
        refine ⟨⟨b1.cg (gg _ (by omega) (by omega) (by omega) (by omega) (by omega)) (fun i i1 i2 => gg _ (by omega) (by omega) (by omega) (by omega) (by omega)), b2.cg (gg _ (by omega) (by omega) (by omega) (by omega) (by omega)) (fun i i1 i2 => gg _ (by omega) (by omega) (by omega) (by omega) (by omega)), u2.cg (by rw [hM' _ (by omega) (by omega), g1 _ (by omega)]) (fun i i1 i2 => by rw [hM' _ (by omega) (by omega), g1 _ (by omega)])⟩, ?_, b6.cg (gg _ (by omega) (by omega) (by omega) (by omega) (by omega)) (fun i i1 i2 => gg _ (by omega) (by omega) (by omega) (by omega) (by omega))⟩
        by_cases d : ((s.2.1 (56 + 717 * e' + 317))).length < 400
        · rw [if_pos ⟨rfl, d⟩]
          refine ⟨by rw [List.length_append, List.length_singleton]; omega, fun i hi' => ?_⟩
          rw [List.length_append, List.length_singleton] at hi'
          rw [hM' _ (by omega) (by omega)]
          by_cases c : i < ((s.2.1 (56 + 717 * e' + 317))).length
          · rw [g1 _ (by omega), u3 _ (by omega) (by omega), b5 i c, List.getD_eq_getElem?_getD, List.getD_eq_getElem?_getD, List.getElem?_append_left c]
          · have ei : i = ((s.2.1 (56 + 717 * e' + 317))).length := by omega
            rw [ei, g3 d, getD_mid]
        · rw [if_neg (fun w => d w.2)]
          exact ⟨b4, fun i hi' => by rw [hM' _ (by omega) (by omega), g4 d, u3 _ (by omega) (by omega), b5 i hi']⟩
      · exact ((h.2.1 e' he').cg fun i i1 i2 _ _ _ _ _ _ => gg i (by omega) (by omega) (by omega) (by omega) (by omega)).other (fun j hj => by rw [aRecv_L e he, if_neg (by omega), if_neg (by omega)]) (by rw [aRecv_F])
    · rw [aRecv_F]
      exact h.2.2.1.cg (gg _ (by omega) (by omega) (by omega) (by omega) (by omega)) fun i i1 i2 => gg i (by omega) (by omega) (by omega) (by omega) (by omega)
    · rw [aRecv_F]
      exact h.2.2.2.cg (gg _ (by omega) (by omega) (by omega) (by omega) (by omega)) fun i i1 i2 => gg i (by omega) (by omega) (by omega) (by omega) (by omega)
    · exact gg i (by omega) (by omega) (by omega) (by omega) (by omega)
  by_cases d : ((s.2.1 (56 + 717 * e + 317))).length < 400
  · have ed : s.1 ((56 + 717 * e) + 4) = (((s.2.1 (56 + 717 * e + 317))).length : Int) := by rcases h4 with w | w <;> omega
    rw [if_pos (by omega), ed, m_endAt (i := (56 + 717 * e) + 317 + ((s.2.1 (56 + 717 * e + 317))).length) _ (by omega), Option.bind_some, if_pos (b_ib (by omega)), xix_nat (by omega)]
    exact fin _ (fun i i1 => xu_d i1) (fun k hk => xu_K hk) (fun _ => xu_s rfl) (fun w => absurd d w)
  · rw [if_neg (by rcases h4 with w | w <;> omega)]
    exact fin M1 (fun _ _ => rfl) (fun _ _ => rfl) (fun w => absurd w d) (fun _ => rfl)
theorem r_recvs {e : Nat} (he : e < 2) {p : Nat} (hp : p ≤ 119) {num : Int} {l : List Int} (hl : l.length ≤ 8) (hB : B ≤ 800000000) (h1 : 1 ≤ B) (hrl : aRl B l) : ∀ (q pf : List Int) (n : Nat) (M : xM) (s : aS), l = pf ++ q → q.length < n → RA (M 1) s → aI (B + pf.length) s → aU s → M 1 (1730 + 15 * p + 4) = (l.length : Int) → (∀ i, i < l.length → M 1 (1730 + 15 * p + 7 + i) = l.getD i 0) → ∃ M' : xM, f_m_arriveFrame_95 (p : Int) n (e : Int) num (pf.length : Int) M = f_m_arriveFrame_135 (p : Int) (e : Int) num M' ∧ RA (M' 1) (aRecvs e q s) ∧ aU (aRecvs e q s) ∧ aI (B + l.length) (aRecvs e q s) ∧ ∀ k, k ≠ 1 → M' k = M k
  | [], pf, n + 1, M, s, e1, hn, h, hi, hu, hm, hb => by
    rw [List.append_nil] at e1
    subst e1
    refine ⟨M, ?_, h, hu, hi, fun _ _ => rfl⟩
    rw [f_m_arriveFrame_95, m_flyAt (i := 1730 + 15 * p + 4) _ (by omega), Option.bind_some, if_pos (b_ib (by omega)), xix_nat (by omega), hm, if_neg (by omega)]
  | v :: q, pf, n + 1, M, s, e1, hn, h, hi, hu, hm, hb => by
    have e2 : l.length = pf.length + (q.length + 1) := by rw [e1, List.length_append]; rfl
    have e5 : l.getD pf.length 0 = v := by rw [e1, getD_mid]
    have e6 : l = (pf ++ [v]) ++ q := by rw [e1, List.append_assoc]; rfl
    have hv : aB B v := hrl v (by rw [e1]; exact List.mem_append_right _ List.mem_cons_self)
    obtain ⟨M1, a1, a2, a3, a4⟩ := r_receive h hi hu (by omega) he (hv.le (by omega))
    have hi2 : aI (B + (pf ++ [v]).length) (aRecv e v s) := by
      have := hi.recvs he (q := [v]) (fun x hx => by rw [List.mem_singleton] at hx; rw [hx]; exact hv.le (by omega)) (by omega)
      exact this.le (by rw [List.length_append, List.length_singleton]; omega)
    obtain ⟨M', b1, b2, b3, b4, b5⟩ := r_recvs he hp hl hB h1 hrl q (pf ++ [v]) n M1 (aRecv e v s) e6 (by simp only [List.length_cons] at hn; omega) a2 hi2 (hu.recv he v) (by rw [a3 _ (by omega)]; exact hm) (fun i hi' => by rw [a3 _ (by omega)]; exact hb i hi')
    rw [len_snoc] at b1
    refine ⟨M', ?_, b2, b3, b4, fun k hk => by rw [b5 k hk, a4 k hk]⟩
    rw [f_m_arriveFrame_95, m_flyAt (i := 1730 + 15 * p + 4) _ (by omega), Option.bind_some, if_pos (b_ib (by omega)), xix_nat (by omega), hm, if_pos (by rw [xw_nat (by omega), xw_nat (by omega)]; omega), m_flyAt (i := 1730 + 15 * p + 7 + pf.length) _ (by omega), Option.bind_some, if_pos (b_ib (by omega)), xix_nat (by omega), hb _ (by omega), e5, a1, Option.bind_some]
    exact b1
  | _, _, 0, _, _, _, hn, _, _, _, _, _ => by omega
/-- an acknowledgement flies off -/
theorem RA.fly {M : xM} (h : RA (M 1) s) (hl : ((s.2.2 1730)).length < 119) (t b : Int) : ∃ M' : xM, f_m_fly 1 t b M = some ((((s.2.2 1730)).length : Int), M') ∧ RA (M' 1) (aF s 1730 ((s.2.2 1730) ++ [[s.1 0 + s.1 15, 1, t, b]])) ∧ ∀ k, k ≠ 1 → M' k = M k := by
  obtain ⟨c1, c2, c3⟩ := h.2.2.1
  obtain ⟨M', m1, m2, m3, m4, m5, m6, m7, m8⟩ := m_fly_sp 1 t b M ((s.2.2 1730)).length hl c2
  refine ⟨M', m1, ⟨fun j hj => ?_, fun e he => ((h.2.1 e he).cg fun i i1 i2 _ _ _ _ _ _ => m7 i (by omega) (by omega)).other (fun _ _ => rfl) (by rw [aF_3, if_neg (by omega)]), ?_, ?_⟩, m8⟩
  · have hj2 := hj
    unfold aIx at hj2
    rw [m7 j (by omega) (by omega)]
    exact h.1 j hj
  · rw [aF_3, if_pos rfl]
    refine ⟨by rw [List.length_append, List.length_singleton]; omega, by rw [m6, List.length_append, List.length_singleton], fun p hp => ?_⟩
    rw [List.length_append, List.length_singleton] at hp
    by_cases cp : p < ((s.2.2 1730)).length
    · rw [getD_snoc _ _ cp]
      exact (c3 p cp).cg fun i i1 i2 => m7 i (by omega) (by omega)
    · have ep : p = ((s.2.2 1730)).length := by omega
      rw [ep, getD_mid]
      refine ⟨Nat.le_of_ble_eq_true rfl, ?_, m3, m4, m5, fun w => absurd w (by show ¬ (1 : Int) = 0; omega)⟩
      rw [m2, h.n 0 (by unfold aIx; omega), h.n 15 (by unfold aIx; omega)]
      rfl
  · rw [aF_3, if_neg (by omega)]
    exact h.2.2.2.cg (m7 _ (by omega) (by omega)) fun i i1 i2 => m7 i (by omega) (by omega)
end

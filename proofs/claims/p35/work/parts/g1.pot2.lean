/-! ===== the potential: arrivals, hanging up, timers ===== -/
section
variable {s t : aS} {B : Int}
theorem pP_e {e : Nat} (he : e < 2) (s : aS) : pP s = pEnd s e + pEnd s (1 - e) + pRest s ∧ pX s = pXe s e + pXe s (1 - e) := by
  rcases (by omega : e = 0 ∨ e = 1) with q | q
  · subst q
    exact ⟨rfl, rfl⟩
  · subst q
    have e1 : pP s = pEnd s 0 + pEnd s 1 + pRest s := rfl
    have e2 : pX s = pXe s 0 + pXe s 1 := rfl
    rw [e1, e2]
    show _ = pEnd s 1 + pEnd s 0 + pRest s ∧ _ = pXe s 1 + pXe s 0
    omega
theorem p_tell (k e : Int) (s : aS) : pP (aTell k e s) = pP s ∧ pX (aTell k e s) = pX s := pP.cg (fun j hj => rfl) (fun e' he => aTell_F k e s _ (by omega)) (fun e he => rfl) (aTell_fl k e s)
theorem pI.tell (h : pI s) (k e : Int) : pI (aTell k e s) := h.cg (fun j hj => rfl) fun e' he => aTell_F k e s _ (by omega)
theorem aRecvs_Q {e : Nat} (he : e < 2) {e' : Nat} (he' : e' < 2) : ∀ (q : List Int) (s : aS), ((aRecvs e q s).2.1 (56 + 717 * e' + 117)) = (s.2.1 (56 + 717 * e' + 117))
  | [], s => rfl
  | v :: q, s => by
    have ih := aRecvs_Q he he' q (aRecv e v s)
    have h1 := aRecv_L e he v s ((56 + 717 * e') + 117)
    rw [if_neg (by omega), if_neg (by omega)] at h1
    show (aRecvs e q (aRecv e v s)).2.1 ((56 + 717 * e') + 117) = _
    exact ih.trans h1
theorem pIx_4 {e : Nat} (he : e < 2) : ∀ j, pIx j → j ≠ (56 + 717 * e) + 4 ∧ j ≠ 55 ∧ j ≠ 47 ∧ j ≠ 52 ∧ j ≠ 48 ∧ j ≠ 49 ∧ j ≠ 50 ∧ j ≠ 51 ∧ j ≠ 53 ∧ j ≠ 45 ∧ j ≠ 46 ∧ j ≠ 54 ∧ j ≠ (56 + 717 * e) + 5 ∧ j ≠ (56 + 717 * e) + 6 ∧ j ≠ 4 ∧ j ≠ 5 ∧ j ≠ 6 ∧ j ≠ 7 := fun j hj => by
  unfold pIx at hj
  omega
theorem p_recvs {e : Nat} (he : e < 2) (q : List Int) (s : aS) : (pP (aRecvs e q s) = pP s ∧ pX (aRecvs e q s) = pX s) ∧ (pI s → pI (aRecvs e q s)) := by
  have g : ∀ j, pIx j → (aRecvs e q s).1 j = s.1 j := fun j hj => by
    have := pIx_4 he j hj
    exact aRecvs_sc e q s j (by omega) (by omega)
  have F := aRecvs_F e q s
  have hf : ∀ e', e' < 2 → ((aRecvs e q s).2.2 (56 + 717 * e' + 26)) = (s.2.2 (56 + 717 * e' + 26)) := fun e' he' => by
    show (aRecvs e q s).2.2 _ = _
    rw [F]
  refine ⟨pP.cg g hf (fun e' he' => aRecvs_Q he he' q s) ?_, fun hi => hi.cg g hf⟩
  show (aRecvs e q s).2.2 1730 = _
  rw [F]
/-- a frame counts as received, its acknowledgement goes off -/
theorem p_take3 {e : Nat} (he : e < 2) (u : aS) {a : List Int} (ha : a.getD 1 0 = 1) : pP (aF (aN u ((56 + 717 * e) + 3) (u.1 ((56 + 717 * e) + 3) + 1)) 1730 ((u.2.2 1730) ++ [a])) = pP u - 75 ∧ pX (aF (aN u ((56 + 717 * e) + 3) (u.1 ((56 + 717 * e) + 3) + 1)) 1730 ((u.2.2 1730) ++ [a])) = pX u - 3340 := by
  obtain ⟨t, ht⟩ : ∃ t, t = aF (aN u ((56 + 717 * e) + 3) (u.1 ((56 + 717 * e) + 3) + 1)) 1730 ((u.2.2 1730) ++ [a]) := ⟨_, rfl⟩
  rw [← ht]
  have g : ∀ j, j ≠ (56 + 717 * e) + 3 → t.1 j = u.1 j := fun j hj => by rw [ht, aF_1, aN_1, if_neg hj]
  have g3 : t.1 ((56 + 717 * e) + 3) = u.1 ((56 + 717 * e) + 3) + 1 := by rw [ht, aF_1, aN_1, if_pos rfl]
  have hf : ∀ e', e' < 2 → (t.2.2 (56 + 717 * e' + 26)) = (u.2.2 (56 + 717 * e' + 26)) := fun e' he' => by
    show t.2.2 _ = _
    rw [ht, aF_3, if_neg (by omega)]
    rfl
  have hq : ∀ e', (t.2.1 (56 + 717 * e' + 117)) = (u.2.1 (56 + 717 * e' + 117)) := fun e' => by rw [ht]; rfl
  have hl : (t.2.2 1730) = (u.2.2 1730) ++ [a] := by
    show t.2.2 1730 = _
    rw [ht, aF_3, if_pos rfl]
  have a1 : pEnd t e = pEnd u e := pEnd.cg (fun j hj => g j (by omega)) (hf e he) (hq e)
  have a2 : pXe t e = pXe u e := pXe.cg (fun j hj => g j (by omega)) (hq e)
  have i : 1 - (1 - e) = e := by omega
  have b1 : pEnd t (1 - e) = pEnd u (1 - e) - 1667 := by
    unfold pEnd
    rw [i, g3, g 14 (by omega), g ((56 + 717 * (1 - e)) + 9) (by omega), g 0 (by omega), g ((56 + 717 * (1 - e)) + 2) (by omega), hf (1 - e) (by omega), hq (1 - e)]
    omega
  have b2 : pXe t (1 - e) = pXe u (1 - e) - 3340 := by
    unfold pXe
    rw [i, g3, g ((56 + 717 * (1 - e)) + 2) (by omega), hq (1 - e)]
    omega
  have c1 : pRest t = pRest u + 1592 := by
    unfold pRest
    rw [pVw.cg (s := u) (t := t) fun j hj => g j (by omega), pOn.cg (s := u) (t := t) fun j hj => g j (by omega), hl, pAcks_app]
    have : pAcks [a] = 1 := by rw [pAcks, if_pos ha]; rfl
    rw [this]
    omega
  rw [(pP_e he t).1, (pP_e he t).2, (pP_e he u).1, (pP_e he u).2, a1, a2, b1, b2, c1]
  omega
theorem p_take {e : Nat} (he : e < 2) (hi : pI s) (num mk : Int) {b : List Int} (hb : b.length ≤ 8) : pQ (3 + 9 * b.length) (8 + 500 * b.length) 0 0 s (aTake e num mk b s) ∧ pI (aTake e num mk b s) := by
  obtain ⟨t0, h0⟩ : ∃ t0, t0 = if mk = 1 then aTell 7 e (aL s ((56 + 717 * e) + 18) []) else s := ⟨_, rfl⟩
  have p0 : (pP t0 = pP s ∧ pX t0 = pX s) ∧ pI t0 := by
    rw [h0]
    split
    · have k : pP (aL s ((56 + 717 * e) + 18) []) = pP s ∧ pX (aL s ((56 + 717 * e) + 18) []) = pX s := pP.cg (fun j hj => rfl) (fun e' he' => rfl) (fun e' he' => by
        show (aL s ((56 + 717 * e) + 18) []).2.1 _ = _
        rw [aL_2, if_neg (by omega)]) rfl
      have k2 := p_tell 7 e (aL s ((56 + 717 * e) + 18) [])
      exact ⟨⟨by rw [k2.1, k.1], by rw [k2.2, k.2]⟩, pI.tell (hi.cg (fun j hj => rfl) fun e' he' => rfl) _ _⟩
    · exact ⟨⟨rfl, rfl⟩, hi⟩
  obtain ⟨p1, i1⟩ := p_recvs he b t0
  obtain ⟨u, hu⟩ : ∃ u, u = aRecvs e b t0 := ⟨_, rfl⟩
  have p2 := p_take3 he u (a := [u.1 0 + u.1 15, 1, 1 - (e : Int), num]) rfl
  have e1 : aTake e num mk b s = aF (aN u ((56 + 717 * e) + 3) (u.1 ((56 + 717 * e) + 3) + 1)) 1730 ((u.2.2 1730) ++ [[u.1 0 + u.1 15, 1, 1 - (e : Int), num]]) := by rw [hu, h0]; rfl
  rw [← hu] at p1 i1
  rw [e1]
  refine ⟨⟨75, 3333, by omega, by omega, by omega, by omega⟩, ?_⟩
  have iu := i1 p0.2
  obtain ⟨k1, k2, k3⟩ := iu
  have g : ∀ j, j ≠ (56 + 717 * e) + 3 → (aF (aN u ((56 + 717 * e) + 3) (u.1 ((56 + 717 * e) + 3) + 1)) 1730 ((u.2.2 1730) ++ [[u.1 0 + u.1 15, 1, 1 - (e : Int), num]])).1 j = u.1 j := fun j hj => by rw [aF_1, aN_1, if_neg hj]
  unfold pI
  rw [g 8 (by omega), g 9 (by omega), g 1 (by omega), g 17 (by omega), g 11 (by omega), g 14 (by omega), g 18 (by omega)]
  refine ⟨k1, k2, fun e' he' => ?_⟩
  have : ((aF (aN u ((56 + 717 * e) + 3) (u.1 ((56 + 717 * e) + 3) + 1)) 1730 ((u.2.2 1730) ++ [[u.1 0 + u.1 15, 1, 1 - (e : Int), num]])).2.2 (56 + 717 * e' + 26)) = (u.2.2 (56 + 717 * e' + 26)) := by
    show (aF _ 1730 _).2.2 _ = _
    rw [aF_3, if_neg (by omega)]
    rfl
  rw [this]
  exact k3 e' he'
theorem pPs_filter (w mk : Int) (P : List Int → Bool) (l : List (List Int)) : pPs w mk (aCnt 1 (l.filter P)) ((l.filter P).length) ≤ pPs w mk (aCnt 1 l) (l.length) + 64 := by
  have h1 := aCnt_filter 1 P l
  have h2 := List.length_filter_le P l
  obtain ⟨a1, a2, a3⟩ := pPs_nn w mk (aCnt 1 (l.filter P)) ((l.filter P).length)
  obtain ⟨b1, b2, b3⟩ := pPs_nn w mk (aCnt 1 l) (l.length)
  by_cases c : aCnt 1 (l.filter P) < 1
  · rw [a2 c]; omega
  · rw [a3 (by omega), b3 (by omega)]
    have x1 : (if w ≤ (l.length : Int) then (64 : Int) else 0) ≤ 64 := by split <;> omega
    have x2 : 0 ≤ (if w ≤ ((l.filter P).length : Int) then (64 : Int) else 0) := by split <;> omega
    omega
theorem p_ack {e : Nat} (he : e < 2) (hi : pI s) (hp : s.1 1 = 2) (num : Int) : pQ 9 64 1592 0 s (aAck e num s) ∧ pI (aAck e num s) := by
  obtain ⟨t, ht⟩ : ∃ t, t = aAck e num s := ⟨_, rfl⟩
  rw [← ht]
  have g : ∀ j, j ≠ 8 → j ≠ 9 → t.1 j = s.1 j := fun j h8 h9 => by rw [ht]; unfold aAck; rw [aN_1, if_neg h9, aN_1, if_neg h8, aF_1]
  have g8 : t.1 8 = 0 := by rw [ht]; rfl
  have g9 : t.1 9 = s.1 9 + 1 := by rw [ht]; rfl
  have hf : (t.2.2 (56 + 717 * e + 26)) = ((s.2.2 (56 + 717 * e + 26))).filter fun f => decide (f.getD 0 0 ≠ num) := by
    show t.2.2 _ = _
    rw [ht]; unfold aAck
    rw [aN_2, aN_2, aF_3, if_pos rfl]
  have hf' : ∀ e', e' < 2 → e' ≠ e → (t.2.2 (56 + 717 * e' + 26)) = (s.2.2 (56 + 717 * e' + 26)) := fun e' he' hne => by
    show t.2.2 _ = _
    rw [ht]; unfold aAck
    rw [aN_2, aN_2, aF_3, if_neg (by omega)]
  have hq : ∀ e', (t.2.1 (56 + 717 * e' + 117)) = (s.2.1 (56 + 717 * e' + 117)) := fun e' => by rw [ht]; rfl
  have hl : (t.2.2 1730) = (s.2.2 1730) := by
    show t.2.2 1730 = _
    rw [ht]; unfold aAck
    rw [aN_2, aN_2, aF_3, if_neg (by omega)]
  obtain ⟨⟨⟨k1, k2⟩, k3, k4, k5⟩, ⟨l1, l2, l3, l4⟩, l5⟩ := hi
  have k5 := k5 hp
  have a1 : pEnd t (1 - e) = pEnd s (1 - e) := pEnd.cg (fun j hj => g j (by omega) (by omega)) (hf' _ (by omega) (by omega)) (hq _)
  have a2 : pXe t (1 - e) = pXe s (1 - e) := pXe.cg (fun j hj => g j (by omega) (by omega)) (hq _)
  have b2 : pXe t e = pXe s e := pXe.cg (fun j hj => g j (by omega) (by omega)) (hq _)
  have b1 : pEnd t e ≤ pEnd s e + 64 := by
    unfold pEnd
    rw [g 14 (by omega) (by omega), g ((56 + 717 * e) + 9) (by omega) (by omega), g 0 (by omega) (by omega), g ((56 + 717 * e) + 2) (by omega) (by omega), g ((56 + 717 * (1 - e)) + 3) (by omega) (by omega), hf, hq e]
    have := pPs_filter (s.1 14) (s.1 ((56 + 717 * e) + 9)) (fun f => decide (f.getD 0 0 ≠ num)) ((s.2.2 (56 + 717 * e + 26)))
    have := pAge_filter (s.1 0) (fun f => decide (f.getD 0 0 ≠ num)) ((s.2.2 (56 + 717 * e + 26)))
    omega
  have v : pVw t ≤ pVw s + 1519 := by
    unfold pVw pVv pH
    rw [g8, g9, g 18 (by omega) (by omega), g 3 (by omega) (by omega)]
    by_cases c : s.1 18 = 1
    · rw [if_pos c, if_pos c, if_pos c, if_pos c, if_pos (by omega)]
      split <;> omega
    · rw [if_neg c, if_neg c, if_neg c, if_neg c, if_neg (by omega)]
      by_cases d : s.1 9 < 1
      · rw [if_pos d, if_pos (by omega)]
        omega
      · have := k4 (by omega)
        rw [if_neg d]
        by_cases d2 : s.1 9 = 1
        · rw [if_pos d2, if_neg (by omega)]
          omega
        · rw [if_neg d2, if_neg (by omega)]
          omega
  have c1 : pRest t ≤ pRest s + 1519 := by
    unfold pRest
    rw [pOn.cg (s := s) (t := t) fun j hj => g j (by omega) (by omega), hl]
    omega
  refine ⟨pQ.mk 9 (by omega) (by omega) ?_ ?_, ?_⟩
  · rw [(pP_e he t).1, (pP_e he s).1, a1]
    omega
  · rw [(pP_e he t).2, (pP_e he s).2, a2, b2]
    omega
  · unfold pI
    rw [g8, g9, g 1 (by omega) (by omega), g 17 (by omega) (by omega), g 11 (by omega) (by omega), g 14 (by omega) (by omega), g 18 (by omega) (by omega)]
    refine ⟨⟨⟨by omega, by omega⟩, by omega, fun _ => rfl, fun _ => by omega⟩, ⟨l1, l2, l3, l4⟩, fun e' he' => ?_⟩
    by_cases c : e' = e
    · rw [c, hf]
      have := l5 e he
      have := List.length_filter_le (fun f : List Int => decide (f.getD 0 0 ≠ num)) ((s.2.2 (56 + 717 * e + 26)))
      omega
    · rw [hf' e' he' c]
      exact l5 e' he'
theorem p_land (hi : pI s) (hp : s.1 1 = 2) {it : List Int} (hit : aItOk it) : pQ (aLc it s) (aLz it s) (1592 * pAcks [it]) 0 s (aLand it s) ∧ pI (aLand it s) := by
  obtain ⟨⟨⟨i1, i2⟩, i3⟩, -⟩ := hit
  have he : (it.getD 2 0).toNat < 2 := by omega
  have ea : pAcks [it] = if it.getD 1 0 = 1 then 1 else 0 := by
    rw [pAcks]
    show _ + (0 : Int) = _
    omega
  unfold aLand aLc aLz
  rw [ea]
  by_cases h1 : it.getD 1 0 = 1
  · rw [if_pos h1, if_pos h1, if_pos h1, if_pos h1]
    exact p_ack he hi hp _
  · rw [if_neg h1, if_neg h1, if_neg h1, if_neg h1]
    by_cases h2 : it.getD 4 0 = 1 ∨ it.getD 3 0 ≠ s.1 ((56 + 717 * (it.getD 2 0).toNat) + 3)
    · rw [if_pos h2, if_pos h2, if_pos h2]
      have g : ∀ j, pIx j → (aN s 47 (s.1 47 + 1)).1 j = s.1 j := fun j hj => by
        have := pIx_4 he j hj
        rw [aN_1, if_neg (by omega)]
      exact ⟨pQ.of (pP.cg g (fun _ _ => rfl) (fun _ _ => rfl) rfl), hi.cg g fun _ _ => rfl⟩
    · rw [if_neg h2, if_neg h2, if_neg h2]
      have hl : (it.drop 6).length = it.length - 6 := List.length_drop
      have := p_take he hi (it.getD 3 0) (it.getD 5 0) (b := it.drop 6) (by omega)
      rw [hl] at this
      exact this
theorem p_lands (T : Int) : ∀ (l : List (List Int)) {s : aS}, pI s → s.1 1 = 2 → (∀ it, it ∈ l → aItOk it) → pQ (aLcs T l s) (aLzs T l s) (1592 * pAcks (l.filter fun x => !decide (x.getD 0 0 ≠ T))) 0 s (aLands T l s) ∧ pI (aLands T l s)
  | [], s, hi, hp, _ => ⟨pQ.of ⟨rfl, rfl⟩, hi⟩
  | it :: l, s, hi, hp, hl => by
    have hit := hl it List.mem_cons_self
    rw [aLcs, aLzs, aLands]
    by_cases c : it.getD 0 0 = T
    · rw [if_pos c, if_pos c, if_pos c, List.filter_cons_of_pos (by rw [decide_eq_false (fun w => w c)]; rfl)]
      obtain ⟨q1, i1⟩ := p_land hi hp hit
      have hp1 : (aLand it s).1 1 = 2 := by rw [aLand_sc13 hit.1.1.2 s 1 (by omega), hp]
      obtain ⟨q2, i2⟩ := p_lands T l i1 hp1 fun x hx => hl x (List.mem_cons_of_mem _ hx)
      refine ⟨(q1.tr q2).le (Nat.le_refl _) (Nat.le_refl _) ?_ (by omega), i2⟩
      have : pAcks (it :: l.filter fun x => !decide (x.getD 0 0 ≠ T)) = pAcks [it] + pAcks (l.filter fun x => !decide (x.getD 0 0 ≠ T)) := by
        rw [pAcks, pAcks]
        show _ = _ + (0 : Int) + _
        omega
      rw [this]
      omega
    · rw [if_neg c, if_neg c, if_neg c, List.filter_cons_of_neg (by rw [decide_eq_true (p := it.getD 0 0 ≠ T) c]; decide)]
      obtain ⟨q2, i2⟩ := p_lands T l hi hp fun x hx => hl x (List.mem_cons_of_mem _ hx)
      exact ⟨q2.le (by omega) (by omega) (by omega) (by omega), i2⟩
theorem p_arr (hi : pI s) (ha : aI B s) (hp : s.1 1 = 2) : pQ (1 + aLcs (s.1 0) ((s.2.2 1730)) (aF s 1730 (((s.2.2 1730)).filter fun it => decide (it.getD 0 0 ≠ s.1 0)))) (200 + aLzs (s.1 0) ((s.2.2 1730)) (aF s 1730 (((s.2.2 1730)).filter fun it => decide (it.getD 0 0 ≠ s.1 0)))) 1 200 s (aArr s) ∧ pI (aArr s) := by
  obtain ⟨t, ht⟩ : ∃ t, t = aF s 1730 (((s.2.2 1730)).filter fun it => decide (it.getD 0 0 ≠ s.1 0)) := ⟨_, rfl⟩
  have hf : ∀ e', e' < 2 → (t.2.2 (56 + 717 * e' + 26)) = (s.2.2 (56 + 717 * e' + 26)) := fun e' he' => by
    show t.2.2 _ = _
    rw [ht, aF_3, if_neg (by omega)]
  have hq : ∀ e', (t.2.1 (56 + 717 * e' + 117)) = (s.2.1 (56 + 717 * e' + 117)) := fun e' => by rw [ht]; rfl
  have g : ∀ j, t.1 j = s.1 j := fun j => by rw [ht]; rfl
  have hl : (t.2.2 1730) = ((s.2.2 1730)).filter fun it => decide (it.getD 0 0 ≠ s.1 0) := by
    show t.2.2 1730 = _
    rw [ht, aF_3, if_pos rfl]
  have it : pI t := hi.cg (fun j _ => g j) hf
  have hsp := pAcks_split (fun it => decide (it.getD 0 0 ≠ s.1 0)) ((s.2.2 1730))
  have ee : ∀ e, e < 2 → pEnd t e = pEnd s e ∧ pXe t e = pXe s e := fun e he => ⟨pEnd.cg (fun j _ => g j) (hf e he) (hq e), pXe.cg (fun j _ => g j) (hq e)⟩
  have er : pRest t = pRest s - 1592 * pAcks (((s.2.2 1730)).filter fun x => !decide (x.getD 0 0 ≠ s.1 0)) := by
    unfold pRest
    rw [pVw.cg (s := s) (t := t) fun j _ => g j, pOn.cg (s := s) (t := t) fun j _ => g j, hl]
    omega
  have q1 : pQ 1 200 (1 - 1592 * pAcks (((s.2.2 1730)).filter fun x => !decide (x.getD 0 0 ≠ s.1 0))) 200 s t := by
    refine ⟨1, 200, by omega, by omega, ?_, ?_⟩
    · show 1 + (pEnd t 0 + pEnd t 1 + pRest t) ≤ (pEnd s 0 + pEnd s 1 + pRest s) + _
      rw [(ee 0 (by omega)).1, (ee 1 (by omega)).1, er]
      omega
    · show 200 + (pXe t 0 + pXe t 1) ≤ (pXe s 0 + pXe s 1) + _
      rw [(ee 0 (by omega)).2, (ee 1 (by omega)).2]
      omega
  obtain ⟨q2, i2⟩ := p_lands (s.1 0) ((s.2.2 1730)) it (by rw [g, hp]) ha.2.2.2.2
  rw [← ht]
  have e9 : aArr s = aLands (s.1 0) ((s.2.2 1730)) t := by rw [ht]; rfl
  rw [e9]
  exact ⟨(q1.tr q2).le (Nat.le_refl _) (Nat.le_refl _) (by omega) (by omega), i2⟩
/-- hanging up -/
theorem p_hang (hi : pI0 s) : pQ 0 0 0 0 s (aHang s) ∧ pI (aHang s) := by
  obtain ⟨t, ht⟩ : ∃ t, t = aHang s := ⟨_, rfl⟩
  rw [← ht]
  have g : ∀ j, j ≠ 1 → j ≠ 52 → t.1 j = s.1 j := fun j h1 h2 => by rw [ht]; exact aHang_sc s j h1 h2
  have g1 : t.1 1 = 0 := by rw [ht]; rfl
  have hf : ∀ e', e' < 2 → (t.2.2 (56 + 717 * e' + 26)) = [] := fun e' he' => by
    rcases (by omega : e' = 0 ∨ e' = 1) with q | q <;> (subst q; rw [ht]; rfl)
  have hq : ∀ e', e' < 2 → (t.2.1 (56 + 717 * e' + 117)) = [] := fun e' he' => by
    rcases (by omega : e' = 0 ∨ e' = 1) with q | q <;> (subst q; rw [ht]; rfl)
  have hl : (t.2.2 1730) = [] := by rw [ht]; exact aHang_fl s
  have ee : ∀ e, e < 2 → pEnd t e ≤ pEnd s e ∧ pXe t e ≤ pXe s e := fun e he => by
    unfold pEnd pXe
    rw [hf e he, hq e he, g ((56 + 717 * e) + 2) (by omega) (by omega), g ((56 + 717 * (1 - e)) + 3) (by omega) (by omega)]
    have a1 := (pPs_nn (s.1 14) (s.1 ((56 + 717 * e) + 9)) (aCnt 1 ((s.2.2 (56 + 717 * e + 26)))) (((s.2.2 (56 + 717 * e + 26))).length)).1
    have a2 := (pPs_nn (t.1 14) (t.1 ((56 + 717 * e) + 9)) (aCnt 1 []) (([] : List (List Int)).length)).2.1 (show aCnt 1 [] < 1 by decide)
    have a3 := pAge_nn (s.1 0) ((s.2.2 (56 + 717 * e + 26)))
    have a4 : pAge (t.1 0) [] = 0 := rfl
    have a5 : pCl [] = 0 := rfl
    have a6 : 0 ≤ pCl ((s.2.1 (56 + 717 * e + 117))) := by unfold pCl; omega
    rw [a2, a4, a5]
    exact ⟨by omega, by omega⟩
  have er : pRest t ≤ pRest s := by
    unfold pRest
    have o1 : pOn t = 0 := by
      unfold pOn
      rw [g1, if_neg (by omega)]
    have o2 : 0 ≤ pOn s := by unfold pOn; split <;> omega
    have a7 := pAcks_nn ((s.2.2 1730))
    rw [pVw.cg (s := s) (t := t) fun j hj => g j (by omega) (by omega), o1, hl]
    show pVw s + 1592 * 0 + 8660 * 0 ≤ _
    omega
  obtain ⟨x1, x2⟩ := ee 0 (by omega)
  obtain ⟨y1, y2⟩ := ee 1 (by omega)
  refine ⟨pQ.mk 0 (by omega) (by omega) ?_ ?_, ?_⟩
  · show 0 + (pEnd t 0 + pEnd t 1 + pRest t) ≤ (pEnd s 0 + pEnd s 1 + pRest s) + 0
    omega
  · show (pXe t 0 + pXe t 1) ≤ (pXe s 0 + pXe s 1) + 0
    omega
  · obtain ⟨⟨k1, k3, k4⟩, ⟨l1, l2, l3, l4⟩, l5⟩ := hi
    unfold pI
    rw [g1, g 8 (by omega) (by omega), g 9 (by omega) (by omega), g 17 (by omega) (by omega), g 11 (by omega) (by omega), g 14 (by omega) (by omega), g 18 (by omega) (by omega)]
    refine ⟨⟨k1, k3, k4, fun w => absurd w (by decide)⟩, ⟨l1, l2, l3, l4⟩, fun e' he' => ?_⟩
    rw [hf e' he']
    have := l5 e' he'
    show (0 : Int) ≤ _
    omega
end

/-! ===== the own line: new numbers at a call ===== -/
section
variable {u : Nat} {A ρ : Nat → Nat} {R : Nat → List Nat} {a b : Int} {h : gH} {s : aS}
theorem OR.newp22 (o : OR u A R ρ a b h s) (hm : oSm s) : ∃ (A' ρ' : Nat → Nat) (h' : gH), gpt (h ++ [.inl (0, [0, 0])]) u 22 (.inr (.inr (some (2000 + h.length)))) = some h' ∧ OR u A' R ρ' a b h' (aN (aN s 58 0) 775 0) ∧ hC 1 2 ρ h ρ' h' := by
  obtain ⟨x, hx⟩ : ∃ x, x = 2000 + h.length := ⟨_, rfl⟩
  obtain ⟨s', hs'⟩ : ∃ s', s' = aN (aN s 58 0) 775 0 := ⟨_, rfl⟩
  have hA22 : A 22 < 2000 + h.length := by
    obtain ⟨-, -, ⟨n1, n2, n3, n4, n5, n6, n7⟩, -⟩ := o
    exact (gat_in n2).2
  have hlen : (h ++ [Sum.inl (0, [0, 0])] : gH).length = h.length + 1 := by rw [List.length_append]; rfl
  have o1 : OR u A R (fun y => if y = x then 22 else ρ y) a b (h ++ [.inl (0, [0, 0])]) s := o.rhoA _ (fun y hy => by rw [if_neg (by omega)]) (fun y hy => by rw [if_neg (by omega)]; exact o.1.2.2.2.1 y (by omega)) (fun y => by
    by_cases c : y = x
    · rw [if_pos c]; omega
    · rw [if_neg c]; exact o.1.2.2.2.2 y)
  have rA22 := o.1.2.2.1 22 (by omega) (by omega)
  obtain ⟨⟨p1, r⟩, p2, p3, ⟨p4, p5, p6, p7⟩, p8, p9, p10⟩ := o1
  obtain ⟨h', e, wr⟩ := gpt_W (j := 22) (.inr (.inr (some x))) p1 (by show _ < 31; omega)
  have p := wr.P (ρ := fun y => if y = x then 22 else ρ y) (k := 1) r.1
  have hnew : gat (h ++ [.inl (0, [0, 0])]) x = some (.inl (0, [0, 0])) := by rw [hx]; exact gat_nw _ _ []
  have hux : u ≠ x := by
    have := (gat_in o.1.1).2
    omega
  have hu22 : u ≠ A 22 := fun w => by
    have := o.1.2.1
    rw [w, rA22] at this
    omega
  have hxa : x ≠ A 22 := by omega
  have r2 : ∀ y k, k ≠ 22 → (if y = x then 22 else ρ y) = k → (if y = x then 22 else if y = A 22 then 0 else ρ y) = k := fun y k hk hy => by
    by_cases c : y = x
    · rw [if_pos c] at hy ⊢; exact hy
    · rw [if_neg c] at hy ⊢
      by_cases c2 : y = A 22
      · rw [c2, rA22] at hy; omega
      · rw [if_neg c2]; exact hy
  have hI : ∀ y l, oI (h ++ [.inl (0, [0, 0])]) (fun y => if y = x then 22 else ρ y) y l → oI h' (fun y => if y = x then 22 else if y = A 22 then 0 else ρ y) y l := fun y l w => by
    have w2 := w.kp p (by omega)
    exact ⟨w2.1, r2 y 0 (by omega) w2.2⟩
  have hR : ∀ y l, oRow (h ++ [.inl (0, [0, 0])]) (fun y => if y = x then 22 else ρ y) y l → oRow h' (fun y => if y = x then 22 else if y = A 22 then 0 else ρ y) y l := fun y l w => by
    have w2 := w.kp p (by omega)
    exact ⟨w2.1, r2 y 6 (by omega) w2.2⟩
  have hL : ∀ k d, (12 ≤ k ∧ k ≤ 30 ∧ k ≠ 22) → oLs A (fun y => if y = x then 22 else ρ y) (h ++ [.inl (0, [0, 0])]) s k d → oLs (fun k => if k = 22 then x else A k) (fun y => if y = x then 22 else if y = A 22 then 0 else ρ y) h' s' k d := fun k d hk ⟨x0, x1, e1, e2, e3⟩ => ⟨x0, x1, by
    dsimp only
    rw [if_neg hk.2.2]
    exact p _ _ (r.la ⟨hk.1, hk.2.1⟩ (by omega)) e1, by rw [hs']; exact hI _ _ e2, by rw [hs']; exact hI _ _ e3⟩
  have hrr : (s.1 11).toNat ≤ 5 ∧ (s.1 19).toNat ≤ 10 := by
    obtain ⟨m1, m2⟩ := hm
    omega
  have q1 := (p2.kp r p (by omega)).N (j := 58) (x := 0) (by omega) hrr.1 hrr.2
  have q2 := oSet.N (s := aN s 58 0) (j := 775) (x := 0) (by omega) hrr.1 hrr.2 q1
  rw [← hs'] at q2 ⊢
  rw [← hx]
  have hA : ∀ k, k ≠ 22 → (fun k => if k = 22 then x else A k) k = A k := fun k hk => if_neg hk
  have hN : ∀ b n, (b + n ≤ 58 ∨ 775 < b) → aAr s' b n = aAr s b n := fun b n hb => by rw [hs', aAr_N (by omega), aAr_N (by omega)]
  have hP2 : ∀ k, k ≠ 2 → k < 10 → aPr s' k = aPr s k := fun k hk hk2 => by rw [hs', aPr_N (by omega), aPr_N (by omega)]
  have hP1 : aPr s' 2 = [0, 0] := by rw [hs']; rfl
  refine ⟨fun k => if k = 22 then x else A k, fun y => if y = x then 22 else if y = A 22 then 0 else ρ y, h', e, ⟨⟨by rw [hs']; exact wr.1, ?_, ?_, ?_, ?_⟩, ?_, ?_, ⟨hL _ _ (by omega) p4, hL _ _ (by omega) p5, hL _ _ (by omega) p6, hL _ _ (by omega) p7⟩, ?_, ?_, ?_⟩, ⟨⟨by rw [wr.2.2.1, hlen]; omega, by rw [wr.2.2.1, hlen]; omega, by rw [wr.2.2.2, gsl_push]; exact Nat.le_refl _⟩, fun y c hy ey => ?_⟩⟩
  · dsimp only
    rw [if_neg hux, if_neg hu22]
    exact o.1.2.1
  · intro k k1 k2
    dsimp only
    by_cases ck : k = 22
    · rw [if_pos ck, if_pos rfl, ck]
    · rw [if_neg ck]
      have h3 := o.1.2.2.1 k k1 k2
      refine r2 _ _ ck ?_
      by_cases c : A k = x
      · have : ρ (A k) = 0 := o.1.2.2.2.1 _ (by omega)
        omega
      · rw [if_neg c]; exact h3
  · intro y hy
    rw [wr.2.2.1, hlen] at hy
    dsimp only
    rw [if_neg (by omega), if_neg (by omega)]
    exact o.1.2.2.2.1 y (by omega)
  · intro y
    dsimp only
    by_cases c : y = x
    · rw [if_pos c]; omega
    · rw [if_neg c]
      by_cases c2 : y = A 22
      · rw [if_pos c2]; omega
      · rw [if_neg c2]; exact o.1.2.2.2.2 y
  · obtain ⟨t1, t2, t3, t4, t5⟩ := q2
    exact ⟨t1, t2, t3, t4, t5⟩
  · obtain ⟨n1, n2, n3, n4, n5, n6, n7⟩ := p3
    unfold oNum
    rw [hN 45 11 (by omega), hP2 3 (by omega) (by omega), hP2 4 (by omega) (by omega), hP2 5 (by omega) (by omega), hP2 6 (by omega) (by omega), hP2 9 (by omega) (by omega), hP1]
    refine ⟨p _ _ (r.la (j := 17) (by omega) (by omega)) n1, by dsimp only; rw [if_pos rfl, wr.2.1 x (fun w => hux w.symm)]; exact hnew, p _ _ (r.la (j := 23) (by omega) (by omega)) n3, p _ _ (r.la (j := 24) (by omega) (by omega)) n4, p _ _ (r.la (j := 25) (by omega) (by omega)) n5, p _ _ (r.la (j := 26) (by omega) (by omega)) n6, p _ _ (r.la (j := 27) (by omega) (by omega)) n7⟩
  · obtain ⟨⟨y0, y1, e1, ⟨e2, e2'⟩, ⟨e3, e3'⟩⟩, e4, e5, e6⟩ := p8
    rw [hs']
    exact ⟨⟨y0, y1, p _ _ (r.la (by omega) (by omega)) e1, ⟨p _ _ (by dsimp only at e2' ⊢; rw [e2']; omega) e2, r2 y0 0 (by omega) e2'⟩, ⟨p _ _ (by dsimp only at e3' ⊢; rw [e3']; omega) e3, r2 y1 0 (by omega) e3'⟩⟩, aFa_mono hR e4, aFa_mono hR e5, e6⟩
  · obtain ⟨rr, q, e1, e2, e3, e4⟩ := p9
    rw [hs']
    exact ⟨rr, q, p _ _ (r.la (by omega) (by omega)) e1, e2, e3, aFa_mono hI e4⟩
  · obtain ⟨rr, q, e1, e2, e3, e4⟩ := p10
    rw [hs']
    exact ⟨rr, q, p _ _ (r.la (by omega) (by omega)) e1, e2, e3, aFa_mono hI e4⟩
  · have hy2 := (gat_in ey).2
    constructor
    · rw [wr.2.1 y (fun w => by rw [w, o.1.2.1] at hy; omega)]
      exact gat_lt ey _
    · dsimp only
      rw [if_neg (by omega), if_neg (fun w => by rw [w, rA22] at hy; omega)]
theorem OR.newp23 (o : OR u A R ρ a b h s) (hm : oSm s) : ∃ (A' ρ' : Nat → Nat) (h' : gH), gpt (h ++ [.inl (0, [0, 0])]) u 23 (.inr (.inr (some (2000 + h.length)))) = some h' ∧ OR u A' R ρ' a b h' (aN (aN s 59 0) 776 0) ∧ hC 1 2 ρ h ρ' h' := by
  obtain ⟨x, hx⟩ : ∃ x, x = 2000 + h.length := ⟨_, rfl⟩
  obtain ⟨s', hs'⟩ : ∃ s', s' = aN (aN s 59 0) 776 0 := ⟨_, rfl⟩
  have hA22 : A 23 < 2000 + h.length := by
    obtain ⟨-, -, ⟨n1, n2, n3, n4, n5, n6, n7⟩, -⟩ := o
    exact (gat_in n3).2
  have hlen : (h ++ [Sum.inl (0, [0, 0])] : gH).length = h.length + 1 := by rw [List.length_append]; rfl
  have o1 : OR u A R (fun y => if y = x then 23 else ρ y) a b (h ++ [.inl (0, [0, 0])]) s := o.rhoA _ (fun y hy => by rw [if_neg (by omega)]) (fun y hy => by rw [if_neg (by omega)]; exact o.1.2.2.2.1 y (by omega)) (fun y => by
    by_cases c : y = x
    · rw [if_pos c]; omega
    · rw [if_neg c]; exact o.1.2.2.2.2 y)
  have rA22 := o.1.2.2.1 23 (by omega) (by omega)
  obtain ⟨⟨p1, r⟩, p2, p3, ⟨p4, p5, p6, p7⟩, p8, p9, p10⟩ := o1
  obtain ⟨h', e, wr⟩ := gpt_W (j := 23) (.inr (.inr (some x))) p1 (by show _ < 31; omega)
  have p := wr.P (ρ := fun y => if y = x then 23 else ρ y) (k := 1) r.1
  have hnew : gat (h ++ [.inl (0, [0, 0])]) x = some (.inl (0, [0, 0])) := by rw [hx]; exact gat_nw _ _ []
  have hux : u ≠ x := by
    have := (gat_in o.1.1).2
    omega
  have hu22 : u ≠ A 23 := fun w => by
    have := o.1.2.1
    rw [w, rA22] at this
    omega
  have hxa : x ≠ A 23 := by omega
  have r2 : ∀ y k, k ≠ 23 → (if y = x then 23 else ρ y) = k → (if y = x then 23 else if y = A 23 then 0 else ρ y) = k := fun y k hk hy => by
    by_cases c : y = x
    · rw [if_pos c] at hy ⊢; exact hy
    · rw [if_neg c] at hy ⊢
      by_cases c2 : y = A 23
      · rw [c2, rA22] at hy; omega
      · rw [if_neg c2]; exact hy
  have hI : ∀ y l, oI (h ++ [.inl (0, [0, 0])]) (fun y => if y = x then 23 else ρ y) y l → oI h' (fun y => if y = x then 23 else if y = A 23 then 0 else ρ y) y l := fun y l w => by
    have w2 := w.kp p (by omega)
    exact ⟨w2.1, r2 y 0 (by omega) w2.2⟩
  have hR : ∀ y l, oRow (h ++ [.inl (0, [0, 0])]) (fun y => if y = x then 23 else ρ y) y l → oRow h' (fun y => if y = x then 23 else if y = A 23 then 0 else ρ y) y l := fun y l w => by
    have w2 := w.kp p (by omega)
    exact ⟨w2.1, r2 y 6 (by omega) w2.2⟩
  have hL : ∀ k d, (12 ≤ k ∧ k ≤ 30 ∧ k ≠ 23) → oLs A (fun y => if y = x then 23 else ρ y) (h ++ [.inl (0, [0, 0])]) s k d → oLs (fun k => if k = 23 then x else A k) (fun y => if y = x then 23 else if y = A 23 then 0 else ρ y) h' s' k d := fun k d hk ⟨x0, x1, e1, e2, e3⟩ => ⟨x0, x1, by
    dsimp only
    rw [if_neg hk.2.2]
    exact p _ _ (r.la ⟨hk.1, hk.2.1⟩ (by omega)) e1, by rw [hs']; exact hI _ _ e2, by rw [hs']; exact hI _ _ e3⟩
  have hrr : (s.1 11).toNat ≤ 5 ∧ (s.1 19).toNat ≤ 10 := by
    obtain ⟨m1, m2⟩ := hm
    omega
  have q1 := (p2.kp r p (by omega)).N (j := 59) (x := 0) (by omega) hrr.1 hrr.2
  have q2 := oSet.N (s := aN s 59 0) (j := 776) (x := 0) (by omega) hrr.1 hrr.2 q1
  rw [← hs'] at q2 ⊢
  rw [← hx]
  have hA : ∀ k, k ≠ 23 → (fun k => if k = 23 then x else A k) k = A k := fun k hk => if_neg hk
  have hN : ∀ b n, (b + n ≤ 59 ∨ 776 < b) → aAr s' b n = aAr s b n := fun b n hb => by rw [hs', aAr_N (by omega), aAr_N (by omega)]
  have hP2 : ∀ k, k ≠ 3 → k < 10 → aPr s' k = aPr s k := fun k hk hk2 => by rw [hs', aPr_N (by omega), aPr_N (by omega)]
  have hP1 : aPr s' 3 = [0, 0] := by rw [hs']; rfl
  refine ⟨fun k => if k = 23 then x else A k, fun y => if y = x then 23 else if y = A 23 then 0 else ρ y, h', e, ⟨⟨by rw [hs']; exact wr.1, ?_, ?_, ?_, ?_⟩, ?_, ?_, ⟨hL _ _ (by omega) p4, hL _ _ (by omega) p5, hL _ _ (by omega) p6, hL _ _ (by omega) p7⟩, ?_, ?_, ?_⟩, ⟨⟨by rw [wr.2.2.1, hlen]; omega, by rw [wr.2.2.1, hlen]; omega, by rw [wr.2.2.2, gsl_push]; exact Nat.le_refl _⟩, fun y c hy ey => ?_⟩⟩
  · dsimp only
    rw [if_neg hux, if_neg hu22]
    exact o.1.2.1
  · intro k k1 k2
    dsimp only
    by_cases ck : k = 23
    · rw [if_pos ck, if_pos rfl, ck]
    · rw [if_neg ck]
      have h3 := o.1.2.2.1 k k1 k2
      refine r2 _ _ ck ?_
      by_cases c : A k = x
      · have : ρ (A k) = 0 := o.1.2.2.2.1 _ (by omega)
        omega
      · rw [if_neg c]; exact h3
  · intro y hy
    rw [wr.2.2.1, hlen] at hy
    dsimp only
    rw [if_neg (by omega), if_neg (by omega)]
    exact o.1.2.2.2.1 y (by omega)
  · intro y
    dsimp only
    by_cases c : y = x
    · rw [if_pos c]; omega
    · rw [if_neg c]
      by_cases c2 : y = A 23
      · rw [if_pos c2]; omega
      · rw [if_neg c2]; exact o.1.2.2.2.2 y
  · obtain ⟨t1, t2, t3, t4, t5⟩ := q2
    exact ⟨t1, t2, t3, t4, t5⟩
  · obtain ⟨n1, n2, n3, n4, n5, n6, n7⟩ := p3
    unfold oNum
    rw [hN 45 11 (by omega), hP2 2 (by omega) (by omega), hP2 4 (by omega) (by omega), hP2 5 (by omega) (by omega), hP2 6 (by omega) (by omega), hP2 9 (by omega) (by omega), hP1]
    refine ⟨p _ _ (r.la (j := 17) (by omega) (by omega)) n1, p _ _ (r.la (j := 22) (by omega) (by omega)) n2, by dsimp only; rw [if_pos rfl, wr.2.1 x (fun w => hux w.symm)]; exact hnew, p _ _ (r.la (j := 24) (by omega) (by omega)) n4, p _ _ (r.la (j := 25) (by omega) (by omega)) n5, p _ _ (r.la (j := 26) (by omega) (by omega)) n6, p _ _ (r.la (j := 27) (by omega) (by omega)) n7⟩
  · obtain ⟨⟨y0, y1, e1, ⟨e2, e2'⟩, ⟨e3, e3'⟩⟩, e4, e5, e6⟩ := p8
    rw [hs']
    exact ⟨⟨y0, y1, p _ _ (r.la (by omega) (by omega)) e1, ⟨p _ _ (by dsimp only at e2' ⊢; rw [e2']; omega) e2, r2 y0 0 (by omega) e2'⟩, ⟨p _ _ (by dsimp only at e3' ⊢; rw [e3']; omega) e3, r2 y1 0 (by omega) e3'⟩⟩, aFa_mono hR e4, aFa_mono hR e5, e6⟩
  · obtain ⟨rr, q, e1, e2, e3, e4⟩ := p9
    rw [hs']
    exact ⟨rr, q, p _ _ (r.la (by omega) (by omega)) e1, e2, e3, aFa_mono hI e4⟩
  · obtain ⟨rr, q, e1, e2, e3, e4⟩ := p10
    rw [hs']
    exact ⟨rr, q, p _ _ (r.la (by omega) (by omega)) e1, e2, e3, aFa_mono hI e4⟩
  · have hy2 := (gat_in ey).2
    constructor
    · rw [wr.2.1 y (fun w => by rw [w, o.1.2.1] at hy; omega)]
      exact gat_lt ey _
    · dsimp only
      rw [if_neg (by omega), if_neg (fun w => by rw [w, rA22] at hy; omega)]
end

/-! ===== both texts are read ===== -/
def cx (i : Nat) (L R : List Nat) : List Nat := wb i ++ (sep L ++ (59 :: R))
theorem tk_cx {i : Nat} (hi : 10 ≤ i ∧ i < 20) (L R : List Nat) : tk (cx i L R) 1 (wb i) (sep L ++ (59 :: R)) := tk_word hi (hd_sep1 L R)
def kN (l : List (Nat × Int)) (j : Nat) : Prop := ∀ p, p ∈ l → p.1 ≠ j
theorem kN.app {l r : List (Nat × Int)} {j : Nat} (h : kN l j) (h' : kN r j) : kN (l ++ r) j := fun p hp => by
  rcases List.mem_append.mp hp with w | w
  · exact h p w
  · exact h' p w
theorem kN.one {a j : Nat} {x : Int} (h : a ≠ j) : kN [(a, x)] j := fun p hp => by
  rw [List.mem_singleton.mp hp]; exact h
theorem kN.cons {a j : Nat} {x : Int} {l : List (Nat × Int)} (h : a ≠ j) (h' : kN l j) : kN ((a, x) :: l) j := kN.app (l := [(a, x)]) (kN.one h) h'
theorem ups_l {D : Nat → Int} {l r : List (Nat × Int)} {j : Nat} (h : kN r j) : ups D (l ++ r) j = ups D l j := by
  rw [ups_app]
  exact ups_ne r _ h
section
variable {q : Nat} {p : Nat × Nat} {Q : List (Nat × Nat)} {tr N : List Nat} {re ho wi de ti li pa : Nat} {M : xM}
def txM (q : Nat) (p : Nat × Nat) (Q : List (Nat × Nat)) (tr : List Nat) (re ho wi de ti li pa : Nat) (N : List Nat) : List Nat := txH q p Q (cx 12 tr (cx 13 [re] (cx 14 [ho] (cx 15 [wi] (cx 16 [de, ti] (cx 17 [li] (cx 18 [pa] (cx 19 N []))))))))
def uM (q : Nat) (p : Nat × Nat) (Q : List (Nat × Nat)) (tr : List Nat) (re ho wi de ti li pa : Nat) (N : List Nat) : List (Nat × Int) := ((2, (q : Int)) :: rl (p :: Q) 0) ++ (trU tr 0 ++ ([(12, (re : Int))] ++ ([(13, (ho : Int))] ++ ([(14, (wi : Int))] ++ ([(15, (de : Int)), (16, (ti : Int))] ++ ([(17, (li : Int))] ++ ([(18, (pa : Int))] ++ ((19, 0) :: noU N 0))))))))
theorem uM_val (h : sOk q (p :: Q) tr [re, ho, wi, de, ti, li, pa] N) {j : Nat} (hj : j < 3530) : ups dDef (uM q p Q tr re ho wi de ti li pa N) j = dV q (p :: Q) tr [re, ho, wi, de, ti, li, pa] N j := by
  obtain ⟨h1, ⟨h2, h3, h4⟩, ⟨h5, h6⟩, -, h8, h9⟩ := h
  have kR := rl_keys (p :: Q) 0
  have kT := trU_keys tr 0
  have kO := noU_keys N 0
  have nT : ∀ j, ¬ (21 ≤ j ∧ j < 25) → kN (trU tr 0) j := fun j hj p hp => by have := kT p hp; omega
  have nO : ∀ j, j ≠ 19 → ¬ (25 ≤ j ∧ j < 35) → kN ((19, 0) :: noU N 0) j := fun j h19 hj => kN.cons (by omega) fun p hp => by have := kO p hp; omega
  have nR : ∀ j, j ≠ 11 → ¬ (35 ≤ j ∧ j < 45) → kN (rl (p :: Q) 0) j := fun j h11 hj p hp => by have := kR p hp; omega
  obtain ⟨v1, v2⟩ := rl_val (p :: Q) 0 (xup dDef 2 (q : Int)) (by omega)
  have v2 := v2 (by intro w; cases w)
  have d0 : ∀ j, 45 ≤ j ∨ (25 ≤ j ∧ j < 45) ∨ j < 12 ∨ j = 20 → dDef j = 0 := fun j hj => by
    unfold dDef
    rw [if_neg (by omega), if_neg (by omega), if_neg (by omega), if_neg (by omega), if_neg (by omega), if_neg (by omega), if_neg (by omega), if_neg (by omega), if_neg (by omega)]
  unfold uM
  -- segments behind the head
  have nrest : ∀ j, (j < 12 ∨ 35 ≤ j ∨ j = 20) → kN (trU tr 0 ++ ([(12, (re : Int))] ++ ([(13, (ho : Int))] ++ ([(14, (wi : Int))] ++ ([(15, (de : Int)), (16, (ti : Int))] ++ ([(17, (li : Int))] ++ ([(18, (pa : Int))] ++ ((19, 0) :: noU N 0)))))))) j := fun j hj => (nT j (by omega)).app ((kN.one (by omega)).app ((kN.one (by omega)).app ((kN.one (by omega)).app ((kN.cons (by omega) (kN.one (by omega))).app ((kN.one (by omega)).app ((kN.one (by omega)).app (nO j (by omega) (by omega))))))))
  by_cases c1 : j < 12 ∨ 35 ≤ j ∨ j = 20
  · rw [ups_l (nrest j c1), ups_cons]
    by_cases c2 : j = 2
    · subst c2
      rw [ups_ne _ _ (nR 2 (by omega) (by omega)), dV_2]
      unfold xup
      exact if_pos rfl
    · by_cases c11 : j = 11
      · subst c11
        have : ups (xup dDef (2, (q : Int)).1 (2, (q : Int)).2) (rl (p :: Q) 0) 11 = ((0 + (p :: Q).length : Nat) : Int) := v2
        rw [this, dV_11]
        congr 1
        omega
      · by_cases c35 : 35 ≤ j ∧ j < 40
        · by_cases ci : j - 35 < (p :: Q).length
          · have e := (v1 (j - 35) ci).1
            rw [show 35 + 0 + (j - 35) = j by omega] at e
            have e' : ups (xup dDef (2, (q : Int)).1 (2, (q : Int)).2) (rl (p :: Q) 0) j = _ := e
            rw [e', show j = 35 + (j - 35) by omega, dV_s (by omega), show 35 + (j - 35) - 35 = j - 35 by omega]
          · rw [ups_ne _ _ (fun x hx => by have := kR x hx; omega)]
            unfold xup
            rw [if_neg (show ¬ j = 2 by omega), d0 j (by omega), show j = 35 + (j - 35) by omega, dV_s (by omega), List.getD_eq_getElem?_getD, List.getElem?_eq_none (by omega)]
            rfl
        · by_cases c40 : 40 ≤ j ∧ j < 45
          · by_cases ci : j - 40 < (p :: Q).length
            · have e := (v1 (j - 40) ci).2
              rw [show 40 + 0 + (j - 40) = j by omega] at e
              have e' : ups (xup dDef (2, (q : Int)).1 (2, (q : Int)).2) (rl (p :: Q) 0) j = _ := e
              rw [e', show j = 40 + (j - 40) by omega, dV_n (by omega), show 40 + (j - 40) - 40 = j - 40 by omega]
            · rw [ups_ne _ _ (fun x hx => by have := kR x hx; omega)]
              unfold xup
              rw [if_neg (show ¬ j = 2 by omega), d0 j (by omega), show j = 40 + (j - 40) by omega, dV_n (by omega), List.getD_eq_getElem?_getD, List.getElem?_eq_none (by omega)]
              rfl
          · rw [ups_ne _ _ (nR j (by omega) (by omega))]
            unfold xup
            rw [if_neg (show ¬ j = 2 by omega), d0 j (by omega), dV_0 (by omega)]
  · by_cases c21 : 21 ≤ j ∧ j < 25
    · rw [ups_app, ups_l ((kN.one (by omega)).app ((kN.one (by omega)).app ((kN.one (by omega)).app ((kN.cons (by omega) (kN.one (by omega))).app ((kN.one (by omega)).app ((kN.one (by omega)).app (nO j (by omega) (by omega))))))))]
      have e := trU_val tr 0 (ups dDef ((2, (q : Int)) :: rl (p :: Q) 0)) (j - 21) (by omega)
      rw [show 21 + 0 + (j - 21) = j by omega] at e
      rw [e, show j = 21 + (j - 21) by omega, dV_tr (by omega), show 21 + (j - 21) - 21 = j - 21 by omega]
    · by_cases c12 : j < 19
      · rw [ups_app, ups_app]
        rcases (by omega : j = 12 ∨ j = 13 ∨ j = 14 ∨ j = 15 ∨ j = 16 ∨ j = 17 ∨ j = 18) with r | r | r | r | r | r | r
        · subst r
          rw [ups_l ((kN.one (by omega)).app ((kN.one (by omega)).app ((kN.cons (by omega) (kN.one (by omega))).app ((kN.one (by omega)).app ((kN.one (by omega)).app (nO 12 (by omega) (by omega)))))))]
          rfl
        · subst r
          rw [ups_app, ups_l ((kN.one (by omega)).app ((kN.cons (by omega) (kN.one (by omega))).app ((kN.one (by omega)).app ((kN.one (by omega)).app (nO 13 (by omega) (by omega))))))]
          rfl
        · subst r
          rw [ups_app, ups_app, ups_l ((kN.cons (by omega) (kN.one (by omega))).app ((kN.one (by omega)).app ((kN.one (by omega)).app (nO 14 (by omega) (by omega)))))]
          rfl
        · subst r
          rw [ups_app, ups_app, ups_app, ups_l ((kN.one (by omega)).app ((kN.one (by omega)).app (nO 15 (by omega) (by omega))))]
          rfl
        · subst r
          rw [ups_app, ups_app, ups_app, ups_l ((kN.one (by omega)).app ((kN.one (by omega)).app (nO 16 (by omega) (by omega))))]
          rfl
        · subst r
          rw [ups_app, ups_app, ups_app, ups_app, ups_l ((kN.one (by omega)).app (nO 17 (by omega) (by omega)))]
          rfl
        · subst r
          rw [ups_app, ups_app, ups_app, ups_app, ups_app, ups_l (nO 18 (by omega) (by omega))]
          rfl
      · rw [ups_app, ups_app, ups_app, ups_app, ups_app, ups_app, ups_app, ups_app, ups_cons]
        obtain ⟨w1, w2⟩ := noU_val N 0 (xup (ups (ups (ups (ups (ups (ups (ups (ups dDef ((2, (q : Int)) :: rl (p :: Q) 0)) (trU tr 0)) [(12, (re : Int))]) [(13, (ho : Int))]) [(14, (wi : Int))]) [(15, (de : Int)), (16, (ti : Int))]) [(17, (li : Int))]) [(18, (pa : Int))]) 19 0)
        by_cases c19 : j = 19
        · subst c19
          have e := w2 (by omega) (by intro w; rw [w] at h8; exact absurd h8.1 (by decide))
          have e' := e
          show ups (xup _ 19 0) (noU N 0) 19 = _
          rw [e', dV_19]
          congr 1
          omega
        · by_cases ci : j - 25 < N.length
          · have e := w1 (j - 25) ci
            rw [show 25 + 0 + (j - 25) = j by omega] at e
            show ups (xup _ 19 0) (noU N 0) j = _
            rw [e, show j = 25 + (j - 25) by omega, dV_N (by omega), show 25 + (j - 25) - 25 = j - 25 by omega]
          · rw [ups_ne _ _ (fun x hx => by have := kO x hx; omega)]
            unfold xup
            rw [if_neg (show ¬ j = 19 by omega), ups_ne _ _ (kN.one (by omega)), ups_ne _ _ (kN.one (by omega)), ups_ne _ _ (kN.cons (by omega) (kN.one (by omega))), ups_ne _ _ (kN.one (by omega)), ups_ne _ _ (kN.one (by omega)), ups_ne _ _ (kN.one (by omega)), ups_ne _ _ (nT j (by omega)), ups_ne _ _ (kN.cons (by omega) (nR j (by omega) (by omega))), d0 j (by omega), show j = 25 + (j - 25) by omega, dV_N (by omega), List.getD_eq_getElem?_getD, List.getElem?_eq_none (by omega)]
            rfl
theorem txM_read (h : sOk q (p :: Q) tr [re, ho, wi, de, ti, li, pa] N) {r0 : List Nat} (hr0 : r0 = sep [q] ++ (59 :: (wb 11 ++ (32 :: (dgN p.1 ++ (32 :: (dgN p.2 ++ (rtx Q ++ (59 :: (cx 12 tr (cx 13 [re] (cx 14 [ho] (cx 15 [wi] (cx 16 [de, ti] (cx 17 [li] (cx 18 [pa] (cx 19 N []))))))))))))))))) (hC : rC (txM q p Q tr re ho wi de ti li pa N) M 1 (wb 10) r0) (hD : ∀ j, j < 3530 → M 2 j = dDef j) : ∃ M3 : xM, f_m_readAll M = some M3 ∧ M3 0 18 = 0 ∧ sM M M3 ∧ ∀ j, j < 3530 → M3 2 j = dV q (p :: Q) tr [re, ho, wi, de, ti, li, pa] N j := by
  have hh := h
  obtain ⟨h1, ⟨h2, h3, h4⟩, ⟨h5, h6⟩, ⟨re', ho', wi', de', ti', li', pa', e, s1, s2, s3, s4, s5, s6, s7⟩, h8, h9⟩ := h
  injection e with e1 e
  injection e with e2 e
  injection e with e3 e
  injection e with e4 e
  injection e with e5 e
  injection e with e6 e
  injection e with e7 e
  subst e1 e2 e3 e4 e5 e6 e7
  rw [hr0] at hC
  obtain ⟨t0, trs, rfl⟩ : ∃ t0 trs, tr = t0 :: trs := by
    cases tr with
    | nil => exact absurd h5 (by decide)
    | cons a b => exact ⟨a, b, rfl⟩
  obtain ⟨n0, ns, rfl⟩ : ∃ n0 ns, N = n0 :: ns := by
    cases N with
    | nil => exact absurd h8.1 (by decide)
    | cons a b => exact ⟨a, b, rfl⟩
  rw [List.length_cons] at h4 h5 h8
  obtain ⟨Ma, a1, a2, a3, a4⟩ := r_head (R := cx 12 (t0 :: trs) (cx 13 [re] (cx 14 [ho] (cx 15 [wi] (cx 16 [de, ti] (cx 17 [li] (cx 18 [pa] (cx 19 (n0 :: ns) [])))))))) hC h1 h2 (by omega) (by rw [hD 11 (by omega)]; rfl) (tk_cx (i := 12) (by omega) _ _)
  obtain ⟨Mb, b1, b2, b3, b4⟩ := c_12 a2 (by omega) h6 (tk_cx (i := 13) (by omega) _ _)
  obtain ⟨Mc, c1, c2, c3, c4⟩ := c_13 b2 (by omega) (tk_cx (i := 14) (by omega) _ _)
  obtain ⟨Md, d1, d2, d3, d4⟩ := c_14 c2 (by omega) (tk_cx (i := 15) (by omega) _ _)
  obtain ⟨Me, e1, e2, e3, e4⟩ := c_15 d2 (by omega) (tk_cx (i := 16) (by omega) _ _)
  obtain ⟨Mf, f1, f2, f3, f4⟩ := c_16 e2 (by omega) (by omega) (tk_cx (i := 17) (by omega) _ _)
  obtain ⟨Mg, g1, g2, g3, g4⟩ := c_17 f2 (by omega) (tk_cx (i := 18) (by omega) _ _)
  obtain ⟨Mh, i1, i2, i3, i4⟩ := c_18 g2 (by omega) (tk_cx (i := 19) (by omega) _ _)
  obtain ⟨Mi, k1, k2, k3, k4⟩ := c_19 i2 (by omega) h9 tk_end
  obtain ⟨z, hz⟩ : ∃ z, fu = z + 9 := ⟨4991, rfl⟩
  refine ⟨Mi, ?_, k2.e18.1, (((((((a4.tr b4).tr c4).tr d4).tr e4).tr f4).tr g4).tr i4).tr k4, fun j hj => ?_⟩
  · rw [a1, hz, r_86 a2 b1, r_86 b2 c1, r_86 c2 d1, r_86 d2 e1, r_86 e2 f1, r_86 f2 g1, r_86 g2 i1, r_86 i2 k1, r_86e k2]
  · have e : Mi 2 = ups (M 2) (uM q p Q (t0 :: trs) re ho wi de ti li pa (n0 :: ns)) := by
      rw [k3, i3, g3, f3, e3, d3, c3, b3, a3]
      unfold uM
      rw [ups_app, ups_app, ups_app, ups_app, ups_app, ups_app, ups_app, ups_app]
    rw [e, ups_cg _ _ _ hD j hj]
    exact uM_val hh hj
/-- the fixed text -/
theorem tx26 : wb 26 = txH 9 (8, 1) [(20, 9)] (cx 12 [1, 1, 1, 1] (cx 18 [2] [])) := by decide +kernel
def uF : List (Nat × Int) := ((2, ((9 : Nat) : Int)) :: rl [(8, 1), (20, 9)] 0) ++ (trU [1, 1, 1, 1] 0 ++ [(18, ((2 : Nat) : Int))])
theorem uF_val {j : Nat} (hj : j < 3530) : ups dDef uF j = dV 9 [(8, 1), (20, 9)] [1, 1, 1, 1] [2, 5, 4, 1, 3, 2, 2] [0] j := by
  by_cases c : j < 45
  · have : ∀ j, j < 45 → ups dDef uF j = dV 9 [(8, 1), (20, 9)] [1, 1, 1, 1] [2, 5, 4, 1, 3, 2, 2] [0] j := by decide +kernel
    exact this j c
  · have : ∀ x, x ∈ uF → x.1 < 45 := by decide +kernel
    rw [ups_ne _ _ (fun x hx => by have := this x hx; omega), dV_0 (by omega)]
    unfold dDef
    rw [if_neg (by omega), if_neg (by omega), if_neg (by omega), if_neg (by omega), if_neg (by omega), if_neg (by omega), if_neg (by omega), if_neg (by omega), if_neg (by omega)]
theorem sF : sOk 9 [(8, 1), (20, 9)] [1, 1, 1, 1] [2, 5, 4, 1, 3, 2, 2] [0] := by
  refine ⟨by omega, ⟨⟨⟨by decide, by decide, by decide⟩, ⟨by decide, by decide, by decide⟩, ⟨by decide, by decide, by decide⟩, ⟨by decide, by decide, by decide⟩, trivial⟩, by decide, by decide⟩, ⟨rfl, by decide⟩, ⟨2, 5, 4, 1, 3, 2, 2, rfl, by omega, by omega, by omega, by omega, by omega, by omega, by omega, by omega⟩, ⟨by decide, by decide⟩, by decide⟩
theorem tx26_read {r0 : List Nat} (hr0 : r0 = sep [9] ++ (59 :: (wb 11 ++ (32 :: (dgN 8 ++ (32 :: (dgN 1 ++ (rtx [(20, 9)] ++ (59 :: (cx 12 [1, 1, 1, 1] (cx 18 [2] []))))))))))) (hC : rC (wb 26) M 1 (wb 10) r0) (hD : ∀ j, j < 3530 → M 2 j = dDef j) : ∃ M3 : xM, f_m_readAll M = some M3 ∧ M3 0 18 = 0 ∧ sM M M3 ∧ ∀ j, j < 3530 → M3 2 j = dV 9 [(8, 1), (20, 9)] [1, 1, 1, 1] [2, 5, 4, 1, 3, 2, 2] [0] j := by
  rw [tx26, hr0] at hC
  obtain ⟨Ma, a1, a2, a3, a4⟩ := r_head (q := 9) (p := (8, 1)) (Q := [(20, 9)]) (R := cx 12 [1, 1, 1, 1] (cx 18 [2] [])) hC (by omega) sF.2.1.1 (by decide) (by rw [hD 11 (by omega)]; rfl) (tk_cx (i := 12) (by omega) _ _)
  obtain ⟨Mb, b1, b2, b3, b4⟩ := c_12 (v := 1) (L := [1, 1, 1]) a2 rfl (by decide) (tk_cx (i := 18) (by omega) _ _)
  obtain ⟨Mc, c1, c2, c3, c4⟩ := c_18 (v := 2) b2 (by omega) tk_end
  obtain ⟨z, hz⟩ : ∃ z, fu = z + 3 := ⟨4997, rfl⟩
  refine ⟨Mc, ?_, c2.e18.1, (a4.tr b4).tr c4, fun j hj => ?_⟩
  · rw [a1, hz, r_86 a2 b1, r_86 b2 c1, r_86e c2]
  · have e : Mc 2 = ups (M 2) uF := by
      rw [c3, b3, a3]
      unfold uF
      rw [ups_app, ups_app]
    rw [e, ups_cg _ _ _ hD j hj]
    exact uF_val hj
end

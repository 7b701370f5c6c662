/-! ===== the own line: a failure, a fall; what arrives ===== -/
theorem aHang_sc (s : aS) (j : Nat) (h1 : j ≠ 1) (h2 : j ≠ 52) : (aHang s).1 j = s.1 j := by
  unfold aHang aTell aOff
  show (aN (aF (aL (aF (aL (aF (aN s 1 0) 1730 []) _ _) _ _) _ _) _ _) _ _).1 j = _
  rw [aN_1, if_neg h2]
  show (aN s 1 0).1 j = _
  rw [aN_1, if_neg h1]
theorem aTell_sc (k e : Int) (s : aS) : (aTell k e s).1 = s.1 := rfl
theorem aTell_L (k e : Int) (s : aS) : (aTell k e s).2.1 = s.2.1 := rfl
theorem aTell_F (k e : Int) (s : aS) (j : Nat) (h : j ≠ 1490) : (aTell k e s).2.2 j = s.2.2 j := by
  unfold aTell
  rw [aF_3, if_neg h]
theorem aTell_len (k e : Int) (s : aS) (h : ((s.2.2 1490)).length ≤ 60) : (((aTell k e s).2.2 1490)).length ≤ 60 := by
  unfold aTell
  rw [aF_3, if_pos rfl, List.length_append]
  by_cases h6 : ((s.2.2 1490)).length = 60
  · rw [if_pos h6, List.length_drop]
    show _ + 1 ≤ _
    omega
  · rw [if_neg h6]
    show _ + 1 ≤ _
    omega
theorem aTell_R {B k e : Int} {s : aS} (h : aR B s) (hk : aB B k) (he : aB B e) (h1 : 1 ≤ B) : aR B (aTell k e s) := by
  unfold aTell
  refine h.F fun f hf => ?_
  rcases List.mem_append.mp hf with hf | hf
  · refine h.2.2 1490 f ?_
    by_cases h6 : ((s.2.2 1490)).length = 60
    · rw [if_pos h6] at hf; exact List.mem_of_mem_drop hf
    · rw [if_neg h6] at hf; exact hf
  · rw [List.mem_singleton] at hf
    subst hf
    intro x hx
    simp only [List.mem_cons, List.not_mem_nil, or_false] at hx
    rcases hx with rfl | rfl | rfl | rfl
    · exact h.1 0
    · exact hk
    · exact he
    · by_cases h2 : s.1 1 = 2
      · rw [if_pos h2]; exact h.1 3
      · rw [if_neg h2]; unfold aB; omega
section
variable {u : Nat} {A ρ : Nat → Nat} {R : Nat → List Nat} {a b : Int} {h : gH} {s : aS}
theorem O_timer_100 (e : Nat) {z : Int} (he : e < 2) {y : Nat} (hL : (R e).length ≤ 100) (hy0 : ρ y = 0) (hl : ((s.2.2 (56 + 717 * e + 26))).length = (R e).length) (hf : ∀ f, f ∈ (s.2.2 (56 + 717 * e + 26)) → 3 ≤ f.length ∧ f.length ≤ 100) : ∀ (lq lp : List (List Int)) (n : Nat) (h : gH), (s.2.2 (56 + 717 * e + 26)) = lp ++ lq → gat h y = some (.inr (.inl (4, (R e).map some))) → OR u A R ρ a b h (aF s ((56 + 717 * e) + 26) (aMark lp ++ lq)) → lq.length < n → ∃ h' : gH, f_O_timer_100 u z n y ((R e).length : Int) (lp.length : Int) h = f_O_timer_125 u z h' ∧ OR u A R ρ a b h' (aF s ((56 + 717 * e) + 26) (aMark ((s.2.2 (56 + 717 * e + 26))))) ∧ hC 0 0 ρ h ρ h'
  | [], lp, n + 1, h, e1, hy, o, hn => by
    rw [List.append_nil] at e1
    rw [List.append_nil] at o
    refine ⟨h, ?_, by rw [e1]; exact o, hC.rf⟩
    rw [e1] at hl
    rw [f_O_timer_100, ← hl, if_neg (by omega)]
  | f :: lq, lp, n + 1, h, e1, hy, o, hn => by
    have e2 : ((s.2.2 (56 + 717 * e + 26))).length = lp.length + (lq.length + 1) := by rw [e1, List.length_append]; rfl
    have hml : ((R e).map some).length = (R e).length := List.length_map _
    have hg : ((R e).map some).getD lp.length none = some ((R e).getD lp.length 0) := by
      rw [List.getD_eq_getElem?_getD, List.getElem?_map, List.getD_eq_getElem?_getD, List.getElem?_eq_getElem (by omega)]
      rfl
    have hmk : (aMark lp).length = lp.length := List.length_map _
    have hat : (aF s ((56 + 717 * e) + 26) (aMark lp ++ f :: lq)).2.2 ((56 + 717 * e) + 26) = aMark lp ++ f :: lq := by rw [aF_3, if_pos rfl]
    have hgd : (aMark lp ++ f :: lq).getD lp.length [] = f := by
      rw [← hmk]
      exact getD_mid _ _ _ _
    obtain ⟨f1, f2⟩ := hf f (by rw [e1]; exact List.mem_append_right _ List.mem_cons_self)
    obtain ⟨h1, w1, w2, w3⟩ := o.wrow e lp.length 2 (z := 2) rfl he (by rw [hat, List.length_append, hmk, List.length_cons]; omega) (by rw [hat, hgd]; omega) (by rw [hat, hgd]; omega) 1
    rw [hat, hgd, aF_aF] at w2
    have e7 : (aMark lp ++ f :: lq).set lp.length (f.set 2 1) = aMark (lp ++ [f]) ++ lq := by
      unfold aMark
      rw [List.map_append, List.set_append_right _ _ (by rw [List.length_map]; exact Nat.le_refl _), List.length_map, Nat.sub_self, List.append_assoc]
      rfl
    rw [e7] at w2
    obtain ⟨h2, k1, k2, k3⟩ := O_timer_100 e (z := z) he (y := y) hL hy0 hl hf lq (lp ++ [f]) n h1 (by rw [e1, List.append_assoc]; rfl) ((w3.2 y _ (Or.inl hy0) hy).1) w2 (by simp only [List.length_cons] at hn; omega)
    rw [len_snoc] at k1
    refine ⟨h2, ?_, k2, (w3.tr k3).le (by omega) (by omega)⟩
    rw [f_O_timer_100, if_pos (by rw [xw_nat (by omega), xw_nat (by omega)]; omega), gaK_N hy (by omega) (by omega), hg, Option.bind_some, w1, Option.bind_some]
    exact k1
  | _, _, 0, _, _, _, _, hn => by omega
theorem OO.fail {e : Nat} (o : OR u A R ρ (((s.2.2 1490)).length : Int) (((s.2.2 1730)).length : Int) h (aF s ((56 + 717 * e) + 26) (aMark ((s.2.2 (56 + 717 * e + 26)))))) (hm : oSm s) {z : Int} (hz : z = (e : Int)) (he : e < 2) {B : Int} (hB : B ≤ 900000000) (hB2 : 6 ≤ B) (hr : aR B s) (hev : ((s.2.2 1490)).length ≤ 60) : ∃ h', f_O_timer_125 u z h = some h' ∧ OO u A ρ h' (if (aFail e s).1 8 < (aFail e s).1 17 then aFail e s else aFall (aFail e s)) ∧ hC 6 8 ρ h ρ h' := by
  have he2 : e = 0 ∨ e = 1 := by omega
  unfold f_O_timer_125
  have m0 : oSm (aF s ((56 + 717 * e) + 26) (aMark ((s.2.2 (56 + 717 * e + 26))))) := hm
  rw [o.k27, Option.bind_some]
  obtain ⟨h1, a1, a2, a3⟩ := o.wmark m0 e hz he 1
  have m1 := m0.N (j := (56 + 717 * e) + 9) (x := 1) (by omega)
  rw [a1, Option.bind_some, a2.k17, Option.bind_some, a2.tot 3 (z := 3) rfl (by omega), Option.bind_some]
  have e1 : (aN (aF s ((56 + 717 * e) + 26) (aMark ((s.2.2 (56 + 717 * e + 26))))) ((56 + 717 * e) + 9) 1).1 (45 + 3) = s.1 48 := by rw [aN_1, if_neg (by omega)]; rfl
  rw [e1]
  obtain ⟨h2, b1, b2, b3⟩ := a2.wtot m1 3 (z := 3) rfl (by omega) (s.1 48 + 1)
  have m2 := m1.N (j := 45 + 3) (x := s.1 48 + 1) (by omega)
  rw [b1, Option.bind_some, b2.f8, Option.bind_some]
  have e2 : (aN (aN (aF s ((56 + 717 * e) + 26) (aMark ((s.2.2 (56 + 717 * e + 26))))) ((56 + 717 * e) + 9) 1) (45 + 3) (s.1 48 + 1)).1 8 = s.1 8 := by rw [aN_1, if_neg (by omega), aN_1, if_neg (by omega)]; rfl
  rw [e2]
  obtain ⟨h3, c1, c2, c3⟩ := b2.w8 m2 (s.1 8 + 1)
  have m3 := m2.N (j := 8) (x := s.1 8 + 1) (by omega)
  rw [c1, Option.bind_some]
  obtain ⟨h4, d1, d2, d3⟩ := c2.w9 m3 0
  have m4 := m3.N (j := 9) (x := 0) (by omega)
  rw [d1, Option.bind_some]
  have r48 := hr.1 48
  have r8 := hr.1 8
  unfold aB at r48 r8
  have r4 : aR (B + 1) (aN (aN (aN (aN (aF s ((56 + 717 * e) + 26) (aMark ((s.2.2 (56 + 717 * e + 26))))) ((56 + 717 * e) + 9) 1) (45 + 3) (s.1 48 + 1)) 8 (s.1 8 + 1)) 9 0) := ((((hr.F (aMark_R (by omega) fun f hf => hr.2.2 _ f hf)).le (by omega)).N (by unfold aB; omega)).N (by unfold aB; omega)).N (by unfold aB; omega) |>.N (by unfold aB; omega)
  obtain ⟨T, hT⟩ : ∃ T, T = aN (aN (aN (aN (aF s ((56 + 717 * e) + 26) (aMark ((s.2.2 (56 + 717 * e + 26))))) ((56 + 717 * e) + 9) 1) (45 + 3) (s.1 48 + 1)) 8 (s.1 8 + 1)) 9 0 := ⟨_, rfl⟩
  have evT : T.2.2 1490 = s.2.2 1490 := by rw [hT, aN_2, aN_2, aN_2, aN_2, aF_3, if_neg (by omega)]
  have flT : T.2.2 1730 = s.2.2 1730 := by rw [hT, aN_2, aN_2, aN_2, aN_2, aF_3, if_neg (by omega)]
  have eF : aFail e s = aTell 6 e T := by rw [hT]; rfl
  rw [← hT] at d2 m4 r4
  rw [← evT, ← flT] at d2
  obtain ⟨h5, f1, f2, f3⟩ := d2.tell (by rw [evT]; exact hev) (by omega) r4 6 z
  have c5 : hC 1 4 ρ h ρ h5 := ((((a3.tr b3).tr c3).tr d3).tr f3).le (by omega) (by omega)
  rw [f1, Option.bind_some, if_pos d2.ob, f2.f8, Option.bind_some, f2.k16, Option.bind_some, f2.set 5 (z := 5) rfl (by omega), Option.bind_some]
  rw [hz] at f2 ⊢
  rw [← eF] at f2 ⊢
  have r5 : aR (B + 1) (aFail e s) := by
    rw [eF]
    exact aTell_R r4 (by unfold aB; omega) (by unfold aB; omega) (by omega)
  have m5 : oSm (aFail e s) := by rw [eF]; exact m4
  have ev5 : (((aFail e s).2.2 1490)).length ≤ 60 := by rw [eF]; exact aTell_len 6 e T (by rw [evT]; exact hev)
  have fl5 : (aFail e s).2.2 1730 = T.2.2 1730 := by rw [eF]; exact aTell_F 6 e T 1730 (by omega)
  rw [(r5.1 8).xw (by omega), show (aFail e s).1 (12 + 5) = (aFail e s).1 17 from rfl, (r5.1 17).xw (by omega)]
  rw [← fl5] at f2
  have o5 : OO u A ρ h5 (aFail e s) := ⟨_, f2⟩
  by_cases hc : (aFail e s).1 8 < (aFail e s).1 17
  · rw [if_pos hc, if_pos hc]
    exact ⟨h5, rfl, o5, c5.le (by omega) (by omega)⟩
  · rw [if_neg hc, if_neg hc, f2.f3, Option.bind_some, (r5.1 3).xw (by omega)]
    unfold aFall
    by_cases h3 : (aFail e s).1 3 = 0
    · rw [if_pos h3, if_pos h3]
      obtain ⟨h6, g1, g2, g3⟩ := o5.hang m5 ev5 (by omega : B + 1 ≤ 1000000000) r5
      rw [g1, Option.bind_some, if_pos f2.ob]
      exact ⟨h6, rfl, g2, (c5.tr g3).le (by omega) (by omega)⟩
    · rw [if_neg h3, if_neg h3, Option.bind_some]
      obtain ⟨h6, g1, g2, g3⟩ := f2.w3 m5 ((aFail e s).1 3 - 1)
      have m6 := m5.N (j := 3) (x := (aFail e s).1 3 - 1) (by omega)
      rw [g1, Option.bind_some]
      obtain ⟨h7, i1, i2, i3⟩ := g2.w8 m6 0
      have m7 := m6.N (j := 8) (x := 0) (by omega)
      rw [i1, Option.bind_some, i2.k17, Option.bind_some, i2.tot 4 (z := 4) rfl (by omega), Option.bind_some]
      have e3 : (aN (aN (aFail e s) 3 ((aFail e s).1 3 - 1)) 8 0).1 (45 + 4) = (aFail e s).1 49 := rfl
      rw [e3]
      obtain ⟨h8, j1, j2, j3⟩ := i2.wtot m7 4 (z := 4) rfl (by omega) ((aFail e s).1 49 + 1)
      rw [j1, Option.bind_some]
      have x3 := r5.1 3
      have x49 := r5.1 49
      unfold aB at x3 x49
      have r8 : aR (B + 2) (aN (aN (aN (aFail e s) 3 ((aFail e s).1 3 - 1)) 8 0) (45 + 4) ((aFail e s).1 49 + 1)) := (((r5.le (by omega)).N (by unfold aB; omega)).N (by unfold aB; omega)).N (by unfold aB; omega)
      obtain ⟨h9, k1, k2, k3⟩ := j2.tell (by exact ev5) (by omega) r8 2 (-1)
      rw [k1, Option.bind_some, if_pos j2.ob]
      refine ⟨h9, rfl, ⟨R, ?_⟩, ((((c5.tr g3).tr i3).tr j3).tr k3).le (by omega) (by omega)⟩
      rw [aTell_fl]
      exact k2
/-- cells of a timer, at most -/
def aTimerC (e : Nat) (s : aS) : Nat := if aFst 0 ((s.2.2 (56 + 717 * e + 26))) < ((s.2.2 (56 + 717 * e + 26))).length ∧ s.1 16 ≤ s.1 0 - (((s.2.2 (56 + 717 * e + 26))).getD (aFst 0 ((s.2.2 (56 + 717 * e + 26)))) []).getD 1 0 then 6 else 0
theorem OO.timer (o : OO u A ρ h s) (hm : oSm s) (e : Nat) {z : Int} (hz : z = (e : Int)) (he : e < 2) {B : Int} (hB : B ≤ 900000000) (hB2 : 6 ≤ B) (hr : aR B s) (hev : ((s.2.2 1490)).length ≤ 60) (hf : oFw ((s.2.2 (56 + 717 * e + 26)))) : ∃ h', f_O_timer u z h = some h' ∧ OO u A ρ h' (aTimer e s) ∧ hC (aTimerC e s) (2 * aTimerC e s) ρ h ρ h' := by
  obtain ⟨R, o⟩ := o
  obtain ⟨y, f1, ⟨f2, f2'⟩, f3, f4⟩ := o.frs e hz he
  have hml : ((R e).map some).length = (R e).length := List.length_map _
  have hlen := aFa_len f3
  have hf' : ∀ f, f ∈ (s.2.2 (56 + 717 * e + 26)) → 3 ≤ f.length ∧ f.length ≤ 100 ∧ aRl B f := fun f h' => ⟨(hf.2 f h').1, by have := (hf.2 f h').2; omega, hr.2.2 _ f h'⟩
  unfold f_O_timer
  rw [o.k28, Option.bind_some, f1, Option.bind_some, glc_Q f2 (Or.inl rfl), Option.bind_some, hml]
  have ht := O_timer_A o z (by have := hf.1; omega) (by omega : B ≤ 1000000000) hr f2 (R e) ((s.2.2 (56 + 717 * e + 26))) [] fu rfl f3 hf' (by have := hf.1; show _ < 5000; omega)
  have ht' : f_O_timer_20 u z fu 0 1 y ((R e).length : Int) 0 h = _ := ht
  rw [ht']
  unfold f_O_timer_79 aTimer aLt aTimerC
  by_cases hc : aFst 0 ((s.2.2 (56 + 717 * e + 26))) < ((s.2.2 (56 + 717 * e + 26))).length ∧ s.1 16 ≤ s.1 0 - (((s.2.2 (56 + 717 * e + 26))).getD (aFst 0 ((s.2.2 (56 + 717 * e + 26)))) []).getD 1 0
  · rw [if_pos hc, if_pos hc, if_pos hc, if_neg (by decide), o.k28, Option.bind_some, f1, Option.bind_some, glc_Q f2 (Or.inl rfl), Option.bind_some, hml]
    obtain ⟨h1, k1, k2, k3⟩ := O_timer_100 (u := u) (A := A) (R := R) (ρ := ρ) (s := s) (z := z) e he (y := y) (by have := hf.1; omega) f2' hlen.symm (fun f h' => ⟨(hf' f h').1, (hf' f h').2.1⟩) ((s.2.2 (56 + 717 * e + 26))) [] fu h rfl f2 (by show OR u A R ρ _ _ h (aF s ((56 + 717 * e) + 26) ((s.2.2 (56 + 717 * e + 26)))); rw [aF_self]; exact o) (by have := hf.1; show _ < 5000; omega)
    have k1' : f_O_timer_100 u z fu y ((R e).length : Int) 0 h = _ := k1
    rw [k1']
    obtain ⟨h2, w1, w2, w3⟩ := OO.fail k2 hm hz he hB hB2 hr hev
    exact ⟨h2, w1, w2, (k3.tr w3).le (by omega) (by omega)⟩
  · rw [if_neg hc, if_neg hc, if_neg hc, if_pos (by decide)]
    exact ⟨h, rfl, ⟨R, o⟩, hC.rf⟩
/-- bytes that are received -/
theorem O_land_91 (e : Nat) {z : Int} (hz : z = (e : Int)) (he : e < 2) {x : Nat} {it : List Int} {B : Int} (hB : B ≤ 2147483647) (hil : it.length ≤ 100) : ∀ (q p : List Int) (n : Nat) (h : gH) (s : aS), OR u A R ρ a b h s → oSm s → oI h ρ x it → ((s.2.1 (56 + 717 * e + 18))).length ≤ 8 → aRl B ((s.2.1 (56 + 717 * e + 18))) → aRl B q → ((s.2.1 (56 + 717 * e + 317))).length ≤ 400 → it = p ++ q → q.length < n → ∃ h', f_O_land_91 u x n z (p.length : Int) h = f_O_land_173 u x z h' ∧ OR u A R ρ a b h' (aRecvs e q s) ∧ hC (9 * q.length) (500 * q.length) ρ h ρ h'
  | [], p, n + 1, h, s, o, hm, hx, h8, hw, hq, hg, e1, hn => by
    rw [List.append_nil] at e1
    refine ⟨h, ?_, o, hC.rf⟩
    rw [f_O_land_91, glc_N hx.1 (Or.inl rfl), Option.bind_some, if_neg (by rw [e1]; omega)]
  | v :: q, p, n + 1, h, s, o, hm, hx, h8, hw, hq, hg, e1, hn => by
    have he2 : e = 0 ∨ e = 1 := by omega
    have e2 : it.length = p.length + (q.length + 1) := by rw [e1, List.length_append]; rfl
    have e5 : it.getD p.length 0 = v := by rw [e1, getD_mid]
    have e6 : it = (p ++ [v]) ++ q := by rw [e1, List.append_assoc]; rfl
    have hn' : q.length < n := by simp only [List.length_cons] at hn; omega
    have hv : aB B v := hq v List.mem_cons_self
    have hq' : aRl B q := fun x hx => hq x (List.mem_cons_of_mem _ hx)
    obtain ⟨y, y1, y2⟩ := o.rea e hz he
    obtain ⟨r, g, k1, k2, k3, k4, k5⟩ := O_use (a := y) y2.1 (by omega) hB hv hw
    have k6 := aUse_len v ((s.2.1 (56 + 717 * e + 18)))
    rw [f_O_land_91, glc_N hx.1 (Or.inl rfl), Option.bind_some, if_pos (by rw [xw_nat (by omega), xw_nat (by omega)]; omega), o.k21, Option.bind_some, Option.bind_some, y1, Option.bind_some, gaN_N hx.1 (by omega) (by omega), Option.bind_some, e5, k1, Option.bind_some]
    dsimp only
    obtain ⟨h1, w1, w2, w3⟩ := (o.app g).wrea e hz he (x := r) (l := aUse v ((s.2.1 (56 + 717 * e + 18)))) ⟨k2, o.1.2.2.2.1 r k3⟩
    have c1 : hC 8 64 ρ h ρ h1 := ((hC.app ρ h g).tr w3).le (by omega) (by omega)
    rw [w1, Option.bind_some, w2.k19, Option.bind_some]
    obtain ⟨y', z1, z2⟩ := w2.got e hz he
    have eg : (aL s ((56 + 717 * e) + 18) (aUse v ((s.2.1 (56 + 717 * e + 18))))).2.1 ((56 + 717 * e) + 317) = (s.2.1 (56 + 717 * e + 317)) := by rw [aL_2, if_neg (by omega)]
    rw [eg] at z2
    rw [z1, Option.bind_some, glc_N z2.1 (Or.inl rfl), Option.bind_some, xw_nat (by omega), show xw 400 = 400 by decide]
    have fin : ∀ (h2 : gH) (t : aS), OR u A R ρ a b h2 t → oSm t → hC 9 500 ρ h ρ h2 → t.1 = s.1 → t.2.1 ((56 + 717 * e) + 18) = aUse v ((s.2.1 (56 + 717 * e + 18))) → (t.2.1 ((56 + 717 * e) + 317)).length ≤ 400 → ∃ h', f_O_land_146 u x (f_O_land_91 u x n) z (p.length : Int) h2 = f_O_land_173 u x z h' ∧ OR u A R ρ a b h' (aRecvs e q (aN (aN t ((56 + 717 * e) + 4) (s.1 ((56 + 717 * e) + 4) + 1)) 55 (s.1 55 + 1))) ∧ hC (9 + 9 * q.length) (500 + 500 * q.length) ρ h ρ h' := fun h2 t ot mt ct t1 t2 t3 => by
      unfold f_O_land_146
      rw [ot.k24, Option.bind_some, ot.rec e hz he, Option.bind_some, t1]
      obtain ⟨h3, a1, a2, a3⟩ := ot.wrec mt e hz he (s.1 ((56 + 717 * e) + 4) + 1)
      have m3 := mt.N (j := (56 + 717 * e) + 4) (x := s.1 ((56 + 717 * e) + 4) + 1) (by omega)
      rw [a1, Option.bind_some, a2.k17, Option.bind_some, a2.tot 10 (z := 10) rfl (by omega), Option.bind_some]
      have e10 : (aN t ((56 + 717 * e) + 4) (s.1 ((56 + 717 * e) + 4) + 1)).1 (45 + 10) = s.1 55 := by rw [aN_1, if_neg (by omega), t1]
      rw [e10]
      obtain ⟨h4, b1, b2, b3⟩ := a2.wtot m3 10 (z := 10) rfl (by omega) (s.1 55 + 1)
      have m4 := m3.N (j := 45 + 10) (x := s.1 55 + 1) (by omega)
      rw [b1, Option.bind_some, ← len_snoc p v]
      have c4 := (ct.tr a3).tr b3
      obtain ⟨h5, d1, d2, d3⟩ := O_land_91 e hz he hB hil q (p ++ [v]) n h4 _ b2 m4 (c4.oI hx) (by show (t.2.1 _).length ≤ 8; rw [t2]; exact k6) (by show aRl B (t.2.1 _); rw [t2]; exact aUse_R hv hw) hq' (by exact t3) e6 hn'
      exact ⟨h5, d1, d2, (c4.tr d3).le (by omega) (by omega)⟩
    rw [aRecvs, aRecv]
    by_cases hc : ((s.2.1 (56 + 717 * e + 317))).length < 400
    · rw [if_pos (by omega), if_pos hc, Option.bind_some, Option.bind_some, z1, Option.bind_some, gaN_N (c1.oI hx).1 (by omega) (by omega), Option.bind_some, e5, O_with v z2.1 (by omega), Option.bind_some]
      dsimp only
      obtain ⟨h2, a1, a2, a3⟩ := (w2.app [.inl (0, (s.2.1 (56 + 717 * e + 317)) ++ [v])]).wgot e hz he (x := 2000 + h1.length) (l := (s.2.1 (56 + 717 * e + 317)) ++ [v]) ⟨gat_nw _ _ [], w2.1.2.2.2.1 _ (Nat.le_refl _)⟩
      rw [a1, Option.bind_some]
      obtain ⟨h', v1, v2, v3⟩ := fin h2 _ a2 hm (((c1.tr (hC.app ρ h1 _)).tr a3).le (by show 8 + 1 + 0 ≤ 9; omega) (by show 64 + (((s.2.1 (56 + 717 * e + 317)) ++ [v]).length + 0) + 0 ≤ 500; rw [List.length_append, List.length_singleton]; omega)) rfl (by rw [aL_2, if_neg (by omega), aL_2, if_pos rfl]) (by rw [aL_2, if_pos rfl, List.length_append, List.length_singleton]; omega)
      exact ⟨h', v1, v2, v3.le (by rw [List.length_cons]; omega) (by rw [List.length_cons]; omega)⟩
    · rw [if_neg (by omega), if_neg hc]
      obtain ⟨h', v1, v2, v3⟩ := fin h1 _ w2 hm (c1.le (by omega) (by omega)) rfl (by rw [aL_2, if_pos rfl]) (by rw [aL_2, if_neg (by omega)]; exact hg)
      exact ⟨h', v1, v2, v3.le (by rw [List.length_cons]; omega) (by rw [List.length_cons]; omega)⟩
  | _, _, 0, _, _, _, _, _, _, _, _, _, _, hn => by omega
end

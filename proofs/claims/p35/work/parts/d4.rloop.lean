/-! ===== the reference sends all that it can ===== -/
theorem aFst_le (a : Int) : ∀ l : List (List Int), aFst a l ≤ l.length
  | [] => Nat.le_refl _
  | f :: l => by
    have := aFst_le a l
    rw [aFst_cons, List.length_cons]
    by_cases c : f.getD 2 0 = a
    · rw [if_pos c]; omega
    · rw [if_neg c]; omega
theorem aFst_lt (a : Int) : ∀ (l : List (List Int)) (p : Nat), p < aFst a l → (l.getD p []).getD 2 0 ≠ a
  | [], p, h => absurd h (Nat.not_lt_zero _)
  | f :: l, p, h => by
    rw [aFst_cons] at h
    by_cases c : f.getD 2 0 = a
    · rw [if_pos c] at h; exact absurd h (Nat.not_lt_zero _)
    · rw [if_neg c] at h
      cases p with
      | zero => exact c
      | succ p =>
        rw [List.getD_cons_succ]
        exact aFst_lt a l p (by omega)
section
variable {s : aS} {B : Int}
theorem r_firstThat {M : xM} (h : RA (M 1) s) (hi : aI B s) {e : Nat} (he : e < 2) {a : Int} (ha : a = 0 ∨ a = 1) : f_m_firstThat (e : Int) a M = some (if aFst a ((s.2.2 (56 + 717 * e + 26))) < ((s.2.2 (56 + 717 * e + 26))).length then (aFst a ((s.2.2 (56 + 717 * e + 26))) : Int) else -1) := by
  obtain ⟨f1, f2, f3⟩ := (h.2.1 e he).2.2
  refine firstThat_sp a e ((56 + 717 * e)) ((s.2.2 (56 + 717 * e + 26))).length (aFst a ((s.2.2 (56 + 717 * e + 26)))) M he rfl f1 f2 (aFst_le _ _) ha (fun p hp => ?_) (fun p hp => ?_) (fun hp => ?_)
  · obtain ⟨g1, g2, g3, g4, g5, g6⟩ := f3 p hp
    rw [g5]
    have hm : ((s.2.2 (56 + 717 * e + 26))).getD p [] ∈ (s.2.2 (56 + 717 * e + 26)) := by
      rw [List.getD_eq_getElem?_getD, List.getElem?_eq_getElem hp]
      exact List.getElem_mem _
    exact ((hi.2.2.2.1 e he).1.2.1 _ hm).2.1
  · have hp2 : p < ((s.2.2 (56 + 717 * e + 26))).length := by have := aFst_le a ((s.2.2 (56 + 717 * e + 26))); omega
    obtain ⟨g1, g2, g3, g4, g5, g6⟩ := f3 p hp2
    rw [g5]
    exact aFst_lt a _ p hp
  · obtain ⟨g1, g2, g3, g4, g5, g6⟩ := f3 _ hp
    rw [g5]
    exact (aFst_at hp).1
theorem aU.again (h : aU s) {e p : Nat} (he : e < 2) : aU (aAgain e p s) := (h.launch he _ _)
theorem aU.new (h : aU s) {e : Nat} (he : e < 2) : aU (aNew e s) := fun e' he' => by
  obtain ⟨⟨h1, h2⟩, h3, h4⟩ := h.launch he (s.1 ((56 + 717 * e) + 2)) (((s.2.1 (56 + 717 * e + 117))).take 8) e' he'
  have h3' := (h e' he').2.1
  have l : ∀ j, j ≠ (56 + 717 * e) + 117 → (aNew e s).2.1 j = (aLaunch e (s.1 ((56 + 717 * e) + 2)) (((s.2.1 (56 + 717 * e + 117))).take 8) s).2.1 j := fun j hj => by
    unfold aNew
    dsimp only
    rw [aL_2, if_neg hj]
    rfl
  have l4 : (aNew e s).1 ((56 + 717 * e') + 4) = (aLaunch e (s.1 ((56 + 717 * e) + 2)) (((s.2.1 (56 + 717 * e + 117))).take 8) s).1 ((56 + 717 * e') + 4) := by
    unfold aNew
    dsimp only
    rw [aL_1, aF_1, aN_1, if_neg (by omega)]
  rw [l ((56 + 717 * e') + 10) (by omega), l ((56 + 717 * e') + 18) (by omega), l ((56 + 717 * e') + 317) (by omega), l4]
  refine ⟨⟨h1, h2⟩, ?_, h4⟩
  by_cases c : e' = e
  · subst c
    unfold aNew
    dsimp only
    rw [aL_2, if_pos rfl, List.length_drop]
    omega
  · rw [l ((56 + 717 * e') + 117) (by omega)]; exact h3
theorem aU.step (h : aU s) {e : Nat} (he : e < 2) {t : aS} (ht : aStep e s = some t) : aU t := by
  unfold aStep at ht
  by_cases hp : aFst 1 ((s.2.2 (56 + 717 * e + 26))) < ((s.2.2 (56 + 717 * e + 26))).length
  · rw [if_pos hp] at ht
    by_cases hc : s.1 ((56 + 717 * e) + 5) < aCost e ((((s.2.2 (56 + 717 * e + 26))).getD (aFst 1 ((s.2.2 (56 + 717 * e + 26)))) []).drop 3) s
    · rw [if_pos hc] at ht; cases ht
    · rw [if_neg hc] at ht
      rw [← Option.some.inj ht]
      exact h.again he
  · rw [if_neg hp] at ht
    by_cases hn : ((s.2.1 (56 + 717 * e + 117))).length = 0 ∨ s.1 14 ≤ (((s.2.2 (56 + 717 * e + 26))).length : Int) ∨ s.1 ((56 + 717 * e) + 5) < aCost e (((s.2.1 (56 + 717 * e + 117))).take 8) s
    · rw [if_pos hn] at ht; cases ht
    · rw [if_neg hn] at ht
      rw [← Option.some.inj ht]
      exact h.new he
/-- a frame's marks are set -/
theorem RA.frset {N : Nat → Int} (h : RA N s) {e p : Nat} (he : e < 2) (hp : p < ((s.2.2 (56 + 717 * e + 26))).length) (t : Int) : RA (xup (xup N ((56 + 717 * e) + 26 + 13 * p + 3) 0) ((56 + 717 * e) + 26 + 13 * p + 2) t) (aF s ((56 + 717 * e) + 26) (((s.2.2 (56 + 717 * e + 26))).set p (((((s.2.2 (56 + 717 * e + 26))).getD p []).set 1 t).set 2 0))) := by
  obtain ⟨a1, a2, a3, a4⟩ := h
  have he2 : e = 0 ∨ e = 1 := by omega
  have hlen := (a2 e he).2.2.1
  have hlen' : (s.2.2 ((56 + 717 * e) + 26)).length ≤ 7 := hlen
  have g : ∀ i, i ≠ (56 + 717 * e) + 26 + 13 * p + 3 → i ≠ (56 + 717 * e) + 26 + 13 * p + 2 → xup (xup N ((56 + 717 * e) + 26 + 13 * p + 3) 0) ((56 + 717 * e) + 26 + 13 * p + 2) t i = N i := fun i h3 h2 => by unfold xup; rw [if_neg h2, if_neg h3]
  refine ⟨fun j hj => by unfold aIx at hj; rw [g j (by omega) (by omega)]; exact a1 j hj, fun e' he' => ?_, ?_, ?_⟩
  · by_cases ce : e' = e
    · subst ce
      obtain ⟨⟨b1, b2, b3⟩, ⟨b4, b5⟩, b6, b7, b8⟩ := a2 e' he'
      unfold rE
      rw [aF_3, if_pos rfl]
      refine ⟨⟨b1.cg (g _ (by omega) (by omega)) (fun i i1 i2 => g _ (by omega) (by omega)), b2.cg (g _ (by omega) (by omega)) (fun i i1 i2 => g _ (by omega) (by omega)), b3.cg (g _ (by omega) (by omega)) (fun i i1 i2 => g _ (by omega) (by omega))⟩, ⟨b4, fun i hi => by
        have hi2 : i < (s.2.1 ((56 + 717 * e') + 317)).length := hi
        have b42 : (s.2.1 ((56 + 717 * e') + 317)).length ≤ 400 := b4
        rw [g _ (by omega) (by omega), b5 i hi2]
        rfl⟩, by rw [List.length_set]; exact b6, by rw [List.length_set, g _ (by omega) (by omega), b7], fun p' hp' => ?_⟩
      rw [List.length_set] at hp'
      have hb := b8 p' hp'
      by_cases cp : p' = p
      · subst cp
        have e1 : (((s.2.2 (56 + 717 * e' + 26))).set p' (((((s.2.2 (56 + 717 * e' + 26))).getD p' []).set 1 t).set 2 0)).getD p' [] = ((((s.2.2 (56 + 717 * e' + 26))).getD p' []).set 1 t).set 2 0 := by rw [List.getD_eq_getElem?_getD, List.getElem?_set_self hp]; rfl
        rw [e1]
        obtain ⟨f, hf⟩ : ∃ f, f = ((s.2.2 (56 + 717 * e' + 26))).getD p' [] := ⟨_, rfl⟩
        rw [← hf] at hb ⊢
        obtain ⟨⟨c1, c1'⟩, c2, c3, c4, c5, c6⟩ := hb
        have gd : ∀ i, i ≠ 1 → i ≠ 2 → ((f.set 1 t).set 2 0).getD i 0 = f.getD i 0 := fun i i1 i2 => by
          rw [List.getD_eq_getElem?_getD, List.getElem?_set_ne (by omega), List.getElem?_set_ne (by omega), List.getD_eq_getElem?_getD]
        refine ⟨by rw [List.length_set, List.length_set]; exact ⟨c1, c1'⟩, by rw [g _ (by omega) (by omega), gd 0 (by omega) (by omega), c2], by rw [List.length_set, List.length_set, g _ (by omega) (by omega), c3], ?_, ?_, fun j hj => ?_⟩
        · rw [List.getD_eq_getElem?_getD, List.getElem?_set_ne (by omega), List.getElem?_set_self (by omega)]
          unfold xup
          rw [if_pos rfl]; rfl
        · rw [List.getD_eq_getElem?_getD, List.getElem?_set_self (by rw [List.length_set]; omega)]
          unfold xup
          rw [if_neg (by omega), if_pos rfl]; rfl
        · rw [List.length_set, List.length_set] at hj
          rw [g _ (by omega) (by omega), gd (3 + j) (by omega) (by omega), c6 j hj]
      · have e1 : (((s.2.2 (56 + 717 * e' + 26))).set p (((((s.2.2 (56 + 717 * e' + 26))).getD p []).set 1 t).set 2 0)).getD p' [] = ((s.2.2 (56 + 717 * e' + 26))).getD p' [] := by rw [List.getD_eq_getElem?_getD, List.getElem?_set_ne (by omega), List.getD_eq_getElem?_getD]
        rw [e1]
        exact hb.cg fun i i1 i2 => g i (by omega) (by omega)
    · exact ((a2 e' he').cg fun i i1 i2 _ _ _ _ _ _ => g i (by omega) (by omega)).other (fun _ _ => rfl) (by rw [aF_3, if_neg (by omega)])
  · rw [aF_3, if_neg (by omega)]
    exact a3.cg (g _ (by omega) (by omega)) fun i i1 i2 => g i (by omega) (by omega)
  · rw [aF_3, if_neg (by omega)]
    exact a4.cg (g _ (by omega) (by omega)) fun i i1 i2 => g i (by omega) (by omega)
theorem r_again {M : xM} (h : RA (M 1) s) (hB : B ≤ 900000000) (hi : aI B s) (hu : aU s) {e p : Nat} (he : e < 2) (hp : p < ((s.2.2 (56 + 717 * e + 26))).length) (hfl : ((s.2.2 1730)).length ≤ 100) :
    (s.1 ((56 + 717 * e) + 5) < aCost e ((((s.2.2 (56 + 717 * e + 26))).getD p []).drop 3) s ∧ ∃ M' : xM, f_m_sendAgain (e : Int) (p : Int) M = some (0, M') ∧ RA (M' 1) s ∧ bMK M M') ∨
    (¬ s.1 ((56 + 717 * e) + 5) < aCost e ((((s.2.2 (56 + 717 * e + 26))).getD p []).drop 3) s ∧ ∃ M' : xM, f_m_sendAgain (e : Int) (p : Int) M = some (1, M') ∧ RA (M' 1) (aAgain e p s) ∧ bMK M M') := by
  obtain ⟨f1, f2, f3⟩ := (h.2.1 e he).2.2
  have f1' : (s.2.2 ((56 + 717 * e) + 26)).length ≤ 7 := f1
  obtain ⟨⟨g0, g0'⟩, g1, g2, g3, g4, g5⟩ := f3 p hp
  have hm : ((s.2.2 (56 + 717 * e + 26))).getD p [] ∈ (s.2.2 (56 + 717 * e + 26)) := by
    rw [List.getD_eq_getElem?_getD, List.getElem?_eq_getElem hp]
    exact List.getElem_mem _
  have hr := hi.2.1.2.2 _ _ hm
  obtain ⟨f, hf⟩ : ∃ f, f = ((s.2.2 (56 + 717 * e + 26))).getD p [] := ⟨_, rfl⟩
  rw [← hf] at g0 g0' g1 g2 g3 g4 g5 hr ⊢
  have hdl : (f.drop 3).length = f.length - 3 := List.length_drop ..
  have hL := r_launch he hB hi hu h (fr := (56 + 717 * e) + 26 + 13 * p + 4) (l := f.drop 3) (fun x hx => hr x (List.mem_of_mem_drop hx)) ⟨by omega, by omega⟩ ⟨by omega, by omega⟩ (fun i hi' => by
    rw [g5 i (by omega), List.getD_eq_getElem?_getD, List.getD_eq_getElem?_getD, List.getElem?_drop]) hfl (f.getD 0 0)
  unfold f_m_sendAgain
  have ez : ((f.drop 3).length : Int) = (f.length : Int) - 3 := by omega
  rw [m_ofFrame (i := (56 + 717 * e) + 26 + 13 * p) M (by omega) (by omega), Option.bind_some, m_frameAt (i := (56 + 717 * e) + 26 + 13 * p + 4) _ (by omega), Option.bind_some, m_ofFrame (i := (56 + 717 * e) + 26 + 13 * p + 1) M (by omega) (by omega), Option.bind_some, g1, g2, ← ez]
  rcases hL with ⟨hc, M', m1, m2, m3⟩ | ⟨hc, M', m1, m2, m3⟩
  · refine Or.inl ⟨hc, M', ?_, h.cg fun i _ => m2 i, m3⟩
    rw [m1, Option.bind_some, if_pos (show xw 0 = 0 by decide)]
  · refine Or.inr ⟨hc, ?_⟩
    have e0 : M' 1 0 = s.1 0 := by rw [m2.n 0 (by unfold aIx; omega)]; exact aLaunch_sc e _ _ s 0 (by omega) (by omega) (by omega) (by omega) (by omega)
    have eF : (aLaunch e (f.getD 0 0) (f.drop 3) s).2.2 ((56 + 717 * e) + 26) = (s.2.2 (56 + 717 * e + 26)) := aLaunch_F e _ _ s _ (by omega)
    have hfs := m2.frset he (p := p) (by rw [eF]; exact hp) (s.1 0)
    rw [eF, ← hf] at hfs
    rw [m1, Option.bind_some, if_neg (show ¬ xw 1 = 0 by decide)]
    dsimp only
    rw [m_frameAt (i := (56 + 717 * e) + 26 + 13 * p + 3) _ (by omega), Option.bind_some, if_pos (b_ib (by omega)), m_frameAt (i := (56 + 717 * e) + 26 + 13 * p + 2) _ (by omega), Option.bind_some, if_pos (by decide), if_pos (b_ib (by omega)), xix_nat (by omega), xix_nat (by omega), xu_d (by omega), e0]
    refine ⟨_, rfl, ?_, m3.trans (bMK.of fun k hk => by rw [xu_K hk, xu_K hk])⟩
    unfold aAgain
    dsimp only
    rw [← hf]
    exact hfs
theorem r_new {M : xM} (h : RA (M 1) s) (hB : B ≤ 900000000) (hi : aI B s) (hu : aU s) {e : Nat} (he : e < 2) (hfl : ((s.2.2 1730)).length ≤ 100) :
    ((((s.2.1 (56 + 717 * e + 117))).length = 0 ∨ s.1 14 ≤ (((s.2.2 (56 + 717 * e + 26))).length : Int) ∨ s.1 ((56 + 717 * e) + 5) < aCost e (((s.2.1 (56 + 717 * e + 117))).take 8) s) ∧ ∃ M' : xM, f_m_sendNew (e : Int) M = some (0, M') ∧ RA (M' 1) s ∧ bMK M M') ∨
    (¬ (((s.2.1 (56 + 717 * e + 117))).length = 0 ∨ s.1 14 ≤ (((s.2.2 (56 + 717 * e + 26))).length : Int) ∨ s.1 ((56 + 717 * e) + 5) < aCost e (((s.2.1 (56 + 717 * e + 117))).take 8) s) ∧ ∃ M' : xM, f_m_sendNew (e : Int) M = some (1, M') ∧ RA (M' 1) (aNew e s) ∧ bMK M M') := by
  have he2 : e = 0 ∨ e = 1 := by omega
  obtain ⟨⟨⟨q1, q2, q3⟩, w1, w2⟩, ⟨gg1, gg2⟩, f1, f2, f3⟩ := h.2.1 e he
  have f1' : (s.2.2 ((56 + 717 * e) + 26)).length ≤ 7 := f1
  have q1' : (s.2.1 ((56 + 717 * e) + 117)).length ≤ 200 := q1
  have hlb : (((s.2.1 (56 + 717 * e + 117))).take 8).length = min 8 ((s.2.1 (56 + 717 * e + 117))).length := List.length_take
  have h14 := h.n 14 (by unfold aIx; omega)
  have hwin := hi.1.1.2.1.1
  have en : (if xw (((s.2.1 (56 + 717 * e + 117))).length : Int) < xw 8 then (((s.2.1 (56 + 717 * e + 117))).length : Int) else 8) = ((((s.2.1 (56 + 717 * e + 117))).take 8).length : Int) := by
    rw [xw_nat (by omega), show xw 8 = 8 by decide, hlb]
    by_cases c : (((s.2.1 (56 + 717 * e + 117))).length : Int) < 8
    · rw [if_pos c, Nat.min_eq_right (by omega)]
    · rw [if_neg c, Nat.min_eq_left (by omega)]; rfl
  unfold f_m_sendNew
  rw [m_of (i := (56 + 717 * e)) M (by omega) (by omega), Option.bind_some, m_of (i := (56 + 717 * e) + 1) M (by omega) (by omega), Option.bind_some, if_pos (by decide), q2, f2, h14, en, xw_nat (by omega), xw_id (x := s.1 14) (by omega) (by omega)]
  by_cases cw : s.1 14 ≤ (((s.2.2 (56 + 717 * e + 26))).length : Int)
  · rw [if_neg (by omega)]
    exact Or.inl ⟨Or.inr (Or.inl cw), M, rfl, h, bMK.refl M⟩
  · rw [if_pos (by omega), xw_nat (by omega)]
    by_cases cq : ((s.2.1 (56 + 717 * e + 117))).length = 0
    · rw [if_pos (by omega)]
      exact Or.inl ⟨Or.inl cq, M, rfl, h, bMK.refl M⟩
    · have rq := hi.2.1.2.1 ((56 + 717 * e) + 117)
      have hL := r_launch he hB hi hu h (fr := (56 + 717 * e) + 117) (l := ((s.2.1 (56 + 717 * e + 117))).take 8) (fun x hx => rq x (List.mem_of_mem_take hx)) ⟨by omega, by omega⟩ ⟨by omega, by omega⟩ (fun i hi' => by rw [q3 i (by omega), getD_take _ _ _ (by omega)]) hfl (s.1 ((56 + 717 * e) + 2))
      rw [if_neg (by omega), m_of (i := (56 + 717 * e) + 2) M (by omega) (by omega), Option.bind_some, m_endAt (i := (56 + 717 * e) + 117) _ (by omega), Option.bind_some, h.n ((56 + 717 * e) + 2) (by unfold aIx; omega)]
      rcases hL with ⟨hc, M', m1, m2, m3⟩ | ⟨hc, M1, m1, m2, m3⟩
      · refine Or.inl ⟨Or.inr (Or.inr hc), M', ?_, h.cg fun i _ => m2 i, m3⟩
        rw [m1, Option.bind_some, if_pos (show xw 0 = 0 by decide)]
      · refine Or.inr ⟨fun w => w.elim cq (fun w => w.elim cw hc), ?_⟩
        obtain ⟨T, hT⟩ : ∃ T, T = aLaunch e (s.1 ((56 + 717 * e) + 2)) (((s.2.1 (56 + 717 * e + 117))).take 8) s := ⟨_, rfl⟩
        rw [← hT] at m2
        have eF : T.2.2 ((56 + 717 * e) + 26) = (s.2.2 (56 + 717 * e + 26)) := by rw [hT]; exact aLaunch_F e _ _ s _ (by omega)
        have eQ : T.2.1 ((56 + 717 * e) + 117) = (s.2.1 (56 + 717 * e + 117)) := by rw [hT]; exact aLaunch_L e _ _ s _ (by omega)
        have e2 : T.1 ((56 + 717 * e) + 2) = s.1 ((56 + 717 * e) + 2) := by rw [hT]; exact aLaunch_sc e _ _ s _ (by omega) (by omega) (by omega) (by omega) (by omega)
        have e0 : T.1 0 = s.1 0 := by rw [hT]; exact aLaunch_sc e _ _ s 0 (by omega) (by omega) (by omega) (by omega) (by omega)
        obtain ⟨⟨⟨x1, x2, x3⟩, y1, y2⟩, ⟨z1, z2⟩, p1, p2, p3⟩ := m2.2.1 e he
        rw [eF] at p1 p2 p3
        rw [eQ] at x1 x2 x3
        have n2 : M1 1 ((56 + 717 * e) + 2) = s.1 ((56 + 717 * e) + 2) := by rw [m2.n _ (by unfold aIx; omega), e2]
        rw [m1, Option.bind_some, if_neg (show ¬ xw 1 = 0 by decide)]
        dsimp only
        rw [m_of (i := (56 + 717 * e) + 1) M1 (by omega) (by omega), Option.bind_some, p2, m_frameAt (i := (56 + 717 * e) + 26 + 13 * ((s.2.2 (56 + 717 * e + 26))).length) _ (by omega), Option.bind_some, m_of (i := (56 + 717 * e) + 2) M1 (by omega) (by omega), Option.bind_some, n2, if_pos (b_ib (by omega)), m_frameAt (i := (56 + 717 * e) + 26 + 13 * ((s.2.2 (56 + 717 * e + 26))).length + 1) _ (by omega), Option.bind_some, if_pos (b_ib (by omega)), xix_nat (by omega), xix_nat (by omega)]
        obtain ⟨M2, hM2⟩ : ∃ Z, Z = xu (xu M1 1 ((56 + 717 * e) + 26 + 13 * ((s.2.2 (56 + 717 * e + 26))).length) (s.1 ((56 + 717 * e) + 2))) 1 ((56 + 717 * e) + 26 + 13 * ((s.2.2 (56 + 717 * e + 26))).length + 1) ((((s.2.1 (56 + 717 * e + 117))).take 8).length : Int) := ⟨_, rfl⟩
        rw [← hM2]
        have g2 : ∀ i, i ≠ (56 + 717 * e) + 26 + 13 * ((s.2.2 (56 + 717 * e + 26))).length → i ≠ (56 + 717 * e) + 26 + 13 * ((s.2.2 (56 + 717 * e + 26))).length + 1 → M2 1 i = M1 1 i := fun i i1 i2 => by rw [hM2, xu_d i2, xu_d i1]
        obtain ⟨M', t1, ⟨t2, t3, t4⟩, ⟨t5, t6, t7⟩, t8, t9, t10⟩ := sendNew_91_sp e ((56 + 717 * e)) (((s.2.1 (56 + 717 * e + 117))).take 8).length ((s.2.2 (56 + 717 * e + 26))).length ((s.2.1 (56 + 717 * e + 117))).length M2 he rfl (by omega) (by omega) q1' (by omega) (by rw [g2 _ (by omega) (by omega)]; exact x2) (by rw [g2 _ (by omega) (by omega)]; exact p2)
        have g9 : ∀ i, i ≠ (56 + 717 * e) → i ≠ (56 + 717 * e) + 1 → i ≠ (56 + 717 * e) + 2 → (i < (56 + 717 * e) + 26 + 13 * ((s.2.2 (56 + 717 * e + 26))).length ∨ (56 + 717 * e) + 26 + 13 * ((s.2.2 (56 + 717 * e + 26))).length + 13 ≤ i) → (i < (56 + 717 * e) + 117 ∨ (56 + 717 * e) + 317 ≤ i) → M' 1 i = M1 1 i := fun i i0 i1 i2 i3 i4 => by rw [t9 i i0 i1 i2 (by omega) i4, g2 i (by omega) (by omega)]
        refine ⟨M', t1, ?_, m3.trans (bMK.of fun k hk => by rw [t10 k hk, hM2, xu_K hk, xu_K hk])⟩
        unfold aNew
        dsimp only
        rw [← hT]
        refine ⟨fun j hj => ?_, fun e' he' => ?_, ?_, ?_⟩
        · rw [aL_1, aF_1, aN_1]
          have hj2 := hj
          unfold aIx at hj2
          by_cases c2 : j = (56 + 717 * e) + 2
          · rw [if_pos c2, c2, t7, g2 _ (by omega) (by omega), n2]
          · rw [if_neg c2, g9 j (by omega) (by omega) c2 (by omega) (by omega)]
            exact m2.1 j hj
        · by_cases ce : e' = e
          · subst ce
            unfold rE
            rw [aL_2, if_pos rfl, aL_2, if_neg (by omega), aL_2, if_neg (by omega), aL_2, if_neg (by omega), aL_3, aF_3, if_pos rfl]
            refine ⟨⟨⟨by rw [List.length_drop]; omega, by rw [t5, List.length_drop, hlb]; congr 1; omega, fun i hi' => ?_⟩, y1.cg (g9 _ (by omega) (by omega) (by omega) (by omega) (by omega)) (fun i i1 i2 => g9 _ (by omega) (by omega) (by omega) (by omega) (by omega)), y2.cg (g9 _ (by omega) (by omega) (by omega) (by omega) (by omega)) (fun i i1 i2 => g9 _ (by omega) (by omega) (by omega) (by omega) (by omega))⟩, ⟨z1, fun i hi' => ?_⟩, by rw [List.length_append, List.length_singleton]; omega, by rw [t6, List.length_append, List.length_singleton], fun p hp => ?_⟩
            · rw [List.length_drop] at hi'
              rw [t8 i (by omega), g2 _ (by omega) (by omega), Nat.add_assoc, x3 _ (by omega), List.getD_eq_getElem?_getD, List.getD_eq_getElem?_getD, List.getElem?_drop, hlb, Nat.min_eq_left (by omega), Nat.add_comm i 8]
            · have hi2 : i < (T.2.1 ((56 + 717 * e') + 317)).length := hi'
              have z12 : (T.2.1 ((56 + 717 * e') + 317)).length ≤ 400 := z1
              rw [g9 _ (by omega) (by omega) (by omega) (by omega) (by omega), z2 i hi2]
              rfl
            · rw [List.length_append, List.length_singleton] at hp
              by_cases cp : p < ((s.2.2 (56 + 717 * e' + 26))).length
              · rw [getD_snoc _ _ cp]
                exact (p3 p cp).cg fun i i1 i2 => g9 i (by omega) (by omega) (by omega) (by omega) (by omega)
              · have ep : p = ((s.2.2 (56 + 717 * e' + 26))).length := by omega
                rw [ep, getD_mid]
                have hlen : ([s.1 ((56 + 717 * e') + 2), s.1 0, 0] ++ ((s.2.1 (56 + 717 * e' + 117))).take 8).length = 3 + (((s.2.1 (56 + 717 * e' + 117))).take 8).length := by rw [List.length_append]; rfl
                refine ⟨by rw [hlen]; omega, ?_, ?_, ?_, t3, fun j hj => ?_⟩
                · rw [t9 _ (by omega) (by omega) (by omega) (by omega) (by omega), hM2, xu_d (by omega), xu_s rfl]; rfl
                · rw [t9 _ (by omega) (by omega) (by omega) (by omega) (by omega), hM2, xu_s rfl, hlen]; omega
                · rw [t2, g2 _ (by omega) (by omega), m2.n 0 (by unfold aIx; omega), e0]; rfl
                · rw [hlen] at hj
                  rw [t4 j (by omega), g2 _ (by omega) (by omega), x3 j (by omega), ← getD_take _ 8 j (by omega)]
                  exact (getD_app [s.1 ((56 + 717 * e') + 2), s.1 0, 0] (((s.2.1 (56 + 717 * e' + 117))).take 8) j).symm
          · exact ((m2.2.1 e' he').cg fun i i1 i2 _ _ _ _ _ _ => g9 i (by omega) (by omega) (by omega) (by omega) (by omega)).other (fun j hj => by rw [aL_2, if_neg (by omega)]; rfl) (by rw [aL_3, aF_3, if_neg (by omega)]; rfl)
        · rw [aL_3, aF_3, if_neg (by omega)]
          exact m2.2.2.1.cg (g9 _ (by omega) (by omega) (by omega) (by omega) (by omega)) fun i i1 i2 => g9 i (by omega) (by omega) (by omega) (by omega) (by omega)
        · rw [aL_3, aF_3, if_neg (by omega)]
          exact m2.2.2.2.cg (g9 _ (by omega) (by omega) (by omega) (by omega) (by omega)) fun i i1 i2 => g9 i (by omega) (by omega) (by omega) (by omega) (by omega)
theorem r_step {M : xM} (h : RA (M 1) s) (hB : B ≤ 900000000) (hi : aI B s) (hu : aU s) {e : Nat} (he : e < 2) (hfl : ((s.2.2 1730)).length ≤ 100) : ∃ M' : xM, bStep (e : Int) M = some (if (aStep e s).isSome then 1 else 0, M') ∧ RA (M' 1) ((aStep e s).getD s) ∧ bMK M M' := by
  have hf7 := (h.2.1 e he).2.2.1
  have hf7' : (s.2.2 ((56 + 717 * e) + 26)).length ≤ 7 := hf7
  unfold bStep
  rw [r_firstThat h hi he (Or.inr rfl), Option.bind_some]
  have hle := aFst_le 1 ((s.2.2 (56 + 717 * e + 26)))
  unfold aStep
  by_cases hp : aFst 1 ((s.2.2 (56 + 717 * e + 26))) < ((s.2.2 (56 + 717 * e + 26))).length
  · rw [if_pos hp, if_pos hp, if_neg (by rw [xw_nat (by omega), show xw (-1) = -1 by decide]; omega)]
    rcases r_again h hB hi hu he hp hfl with ⟨hc, M', m1, m2, m3⟩ | ⟨hc, M', m1, m2, m3⟩
    · rw [if_pos hc]; exact ⟨M', m1, m2, m3⟩
    · rw [if_neg hc]; exact ⟨M', m1, m2, m3⟩
  · rw [if_neg hp, if_neg hp, if_pos (by decide)]
    rcases r_new h hB hi hu he hfl with ⟨hc, M', m1, m2, m3⟩ | ⟨hc, M', m1, m2, m3⟩
    · rw [if_pos hc]; exact ⟨M', m1, m2, m3⟩
    · rw [if_neg hc]; exact ⟨M', m1, m2, m3⟩
end
theorem r_loop {e : Nat} (he : e < 2) {B : Int} {N0 : Nat} (h1 : 1 ≤ B) (hB : B ≤ 800000000) (hN : N0 ≤ 75) : ∀ (k n : Nat) (M : xM) (s : aS), aK e B N0 k s → aU s → RA (M 1) s → k + 1 < n → ∃ M' : xM, f_m_sendAll_56 (e : Int) n 1 M = some M' ∧ RA (M' 1) (aLoop e k s) ∧ aU (aLoop e k s) ∧ bMK M M' := by
  intro k
  induction k with
  | zero =>
    intro n M s hk hu h hn
    obtain ⟨n, rfl⟩ : ∃ z, n = z + 2 := ⟨n - 2, by omega⟩
    obtain ⟨j1, j2⟩ := hk.sn he h1 hB (by omega)
    have hc := (hk.1.2.2.2.1 e he).2.2.1
    have hk4 := hk.2.2.2
    have hk2 := hk.2.1
    obtain ⟨M', m1, m2, m3⟩ := r_step h (by omega) hk.1 hu he (by omega)
    have hs : aStep e s = none := by
      cases hc : aStep e s with
      | none => rfl
      | some t => obtain ⟨k', w, _⟩ := j2 t hc; omega
    rw [hs] at m1 m2
    refine ⟨M', ?_, m2, hu, m3⟩
    rw [sendAll_56, m1, Option.bind_some]
    show f_m_sendAll_56 (e : Int) (n + 1) 0 M' = _
    rw [f_m_sendAll_56, if_pos (by decide)]
  | succ k ih =>
    intro n M s hk hu h hn
    obtain ⟨n, rfl⟩ : ∃ z, n = z + 2 := ⟨n - 2, by omega⟩
    obtain ⟨j1, j2⟩ := hk.sn he h1 hB (by omega)
    have hc := (hk.1.2.2.2.1 e he).2.2.1
    have hk4 := hk.2.2.2
    have hk2 := hk.2.1
    obtain ⟨M', m1, m2, m3⟩ := r_step h (by omega) hk.1 hu he (by omega)
    rw [aLoop]
    cases hc : aStep e s with
    | none =>
      rw [hc] at m1 m2
      refine ⟨M', ?_, m2, hu, m3⟩
      rw [sendAll_56, m1, Option.bind_some]
      show f_m_sendAll_56 (e : Int) (n + 1) 0 M' = _
      rw [f_m_sendAll_56, if_pos (by decide)]
    | some t =>
      rw [hc] at m1 m2
      obtain ⟨k', w, j3⟩ := j2 t hc
      have w' : k' = k := by omega
      subst w'
      obtain ⟨M'', b1, b2, b3, b4⟩ := ih (n + 1) M' t j3 (hu.step he hc) m2 (by omega)
      refine ⟨M'', ?_, b2, b3, m3.trans b4⟩
      rw [sendAll_56, m1, Option.bind_some]
      exact b1
theorem r_send {e : Nat} (he : e < 2) {B : Int} {s : aS} {M : xM} (h : RA (M 1) s) (hi : aI B s) (hu : aU s) (h1 : 108 ≤ B) (hB : B ≤ 700000000) (hfl : ((s.2.2 1730)).length ≤ 75) : ∃ M' : xM, f_m_sendAll (e : Int) M = some M' ∧ RA (M' 1) (aSend e s) ∧ aU (aSend e s) ∧ bMK M M' := by
  have h3 := hi.1.2.2.2.1
  have hsu := hi.1.1.1
  have n3 := h.n 3 (by unfold aIx; omega)
  have nsp := h.n (35 + (s.1 3).toNat) (by unfold aIx; omega)
  have sp := (hi.1.1.2.2.2.2 (s.1 3).toNat (by omega)).1
  have n5 := h.n ((56 + 717 * e) + 5) (by unfold aIx; omega)
  have cr := (hi.2.2.2.1 e he).2.2.1
  have hx : xix (35 + M 1 3) = 35 + (s.1 3).toNat := by rw [n3, b_ix (by omega)]; omega
  unfold f_m_sendAll
  rw [if_pos (by decide), if_pos (b_ib (by omega)), m_endAt (i := (56 + 717 * e) + 5) _ (by omega), Option.bind_some, m_of (i := (56 + 717 * e) + 5) M (by omega) (by omega), Option.bind_some, if_pos (b_ib (by omega)), xix_nat (by omega), hx, nsp, n5, xw_id (x := s.1 ((56 + 717 * e) + 5) + s.1 (35 + (s.1 3).toNat)) (by omega) (by omega), xw_id (x := s.1 (35 + (s.1 3).toNat) + 28) (by omega) (by omega)]
  have ecr : (if s.1 ((56 + 717 * e) + 5) + s.1 (35 + (s.1 3).toNat) < s.1 (35 + (s.1 3).toNat) + 28 then s.1 ((56 + 717 * e) + 5) + s.1 (35 + (s.1 3).toNat) else s.1 (35 + (s.1 3).toNat) + 28) = (if s.1 (35 + (s.1 3).toNat) + 28 < s.1 ((56 + 717 * e) + 5) + s.1 (35 + (s.1 3).toNat) then s.1 (35 + (s.1 3).toNat) + 28 else s.1 ((56 + 717 * e) + 5) + s.1 (35 + (s.1 3).toNat)) := by
    by_cases c1 : s.1 ((56 + 717 * e) + 5) + s.1 (35 + (s.1 3).toNat) < s.1 (35 + (s.1 3).toNat) + 28
    · rw [if_pos c1, if_neg (by omega)]
    · rw [if_neg c1]
      by_cases c2 : s.1 (35 + (s.1 3).toNat) + 28 < s.1 ((56 + 717 * e) + 5) + s.1 (35 + (s.1 3).toNat)
      · rw [if_pos c2]
      · rw [if_neg c2]; omega
  rw [ecr]
  have h2 : RA ((xu M 1 ((56 + 717 * e) + 5) (if s.1 (35 + (s.1 3).toNat) + 28 < s.1 ((56 + 717 * e) + 5) + s.1 (35 + (s.1 3).toNat) then s.1 (35 + (s.1 3).toNat) + 28 else s.1 ((56 + 717 * e) + 5) + s.1 (35 + (s.1 3).toNat))) 1) (aCred e s) := h.num (j := (56 + 717 * e) + 5) (by unfold aIx; omega) _
  have hu2 : aU (aCred e s) := fun e' he' => by
    have e4 : (aCred e s).1 ((56 + 717 * e') + 4) = s.1 ((56 + 717 * e') + 4) := by unfold aCred; rw [aN_1, if_neg (by omega)]
    rw [e4]
    exact hu e' he'
  have hc := hi.cred he h1
  have hcr := (hc.2.2.2.1 e he).2.2.1
  obtain ⟨M1, hM1⟩ : ∃ Z, Z = xu M 1 ((56 + 717 * e) + 5) (if s.1 (35 + (s.1 3).toNat) + 28 < s.1 ((56 + 717 * e) + 5) + s.1 (35 + (s.1 3).toNat) then s.1 (35 + (s.1 3).toNat) + 28 else s.1 ((56 + 717 * e) + 5) + s.1 (35 + (s.1 3).toNat)) := ⟨_, rfl⟩
  rw [← hM1] at h2 ⊢
  have k1 : bMK M M1 := bMK.of fun k hk => by rw [hM1, xu_K hk]
  have e6 : (aCred e s).1 ((56 + 717 * e) + 6) = s.1 ((56 + 717 * e) + 6) := by unfold aCred; rw [aN_1, if_neg (by omega)]
  have n6 : M1 1 ((56 + 717 * e) + 6) = s.1 ((56 + 717 * e) + 6) := by rw [h2.n _ (by unfold aIx; omega), e6]
  unfold f_m_sendAll_40 f_m_sendAll_55 aSend
  rw [m_of (i := (56 + 717 * e) + 6) M1 (by omega) (by omega), Option.bind_some, n6, (hi.2.1.1 ((56 + 717 * e) + 6)).xw (by omega)]
  by_cases c : s.1 ((56 + 717 * e) + 6) = 0
  · rw [if_pos c, if_pos c]
    obtain ⟨M', m1, m2, m3, m4⟩ := r_loop (B := B) he (by omega) (by omega) hfl 120 fu M1 (aCred e s) ⟨hc.le (by omega), Nat.le_refl _, by omega, by show 5 * (((s.2.2 1730)).length : Int) + _ ≤ _; omega⟩ hu2 h2 (by show _ < 5000; omega)
    exact ⟨M', m1, m2, m3, k1.trans m4⟩
  · rw [if_neg c, if_neg c]
    refine ⟨M1, ?_, h2, hu2, k1⟩
    show f_m_sendAll_56 (e : Int) (4999 + 1) 0 M1 = _
    rw [f_m_sendAll_56, if_pos (by decide)]

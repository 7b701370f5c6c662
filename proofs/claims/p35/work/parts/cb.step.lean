/-! ===== the own line: one frame is sent; an end sends ===== -/
section
variable {u : Nat} {A ρ : Nat → Nat} {R : Nat → List Nat} {a b : Int} {h : gH} {s : aS}
theorem O_again (o : OR u A R ρ (((s.2.2 1490)).length : Int) (((s.2.2 1730)).length : Int) h s) (e p : Nat) {z : Int} (hz : z = (e : Int)) (he : e < 2) (k52 : Int → gH → Option gH) {B : Int} (hB : B ≤ 900000000) (hd : oSn B e s) (hp : p < ((s.2.2 (56 + 717 * e + 26))).length) : ∃ h', f_O_send_109 u z k52 (some ((R e).getD p 0)) h = k52 (if s.1 ((56 + 717 * e) + 5) < aCost e ((((s.2.2 (56 + 717 * e + 26))).getD p []).drop 3) s then 0 else 1) h' ∧ OO u A ρ h' (if s.1 ((56 + 717 * e) + 5) < aCost e ((((s.2.2 (56 + 717 * e + 26))).getD p []).drop 3) s then s else aAgain e p s) ∧ hC (if s.1 ((56 + 717 * e) + 5) < aCost e ((((s.2.2 (56 + 717 * e + 26))).getD p []).drop 3) s then 1 + aLC e ((((s.2.2 (56 + 717 * e + 26))).getD p []).drop 3) s else 1 + (2 * aLC e ((((s.2.2 (56 + 717 * e + 26))).getD p []).drop 3) s + 1 + ((((s.2.2 (56 + 717 * e + 26))).getD p []).drop 3).length)) (if s.1 ((56 + 717 * e) + 5) < aCost e ((((s.2.2 (56 + 717 * e + 26))).getD p []).drop 3) s then 8 + 8 * aLC e ((((s.2.2 (56 + 717 * e + 26))).getD p []).drop 3) s else 8 + (8 * (2 * aLC e ((((s.2.2 (56 + 717 * e + 26))).getD p []).drop 3) s) + 6 + 14 * ((((s.2.2 (56 + 717 * e + 26))).getD p []).drop 3).length)) ρ h ρ h' := by
  have he2 : e = 0 ∨ e = 1 := by omega
  obtain ⟨hm, hr, hf, hf7, hw, hq, hfl, h45, h15⟩ := hd
  obtain ⟨y, f1, f2, f3, f4⟩ := o.frs e hz he
  have f5 := aFa_at f3 hp
  have hfm : ((s.2.2 (56 + 717 * e + 26))).getD p [] ∈ (s.2.2 (56 + 717 * e + 26)) := by
    rw [List.getD_eq_getElem?_getD, List.getElem?_eq_getElem hp]
    exact List.getElem_mem _
  obtain ⟨f, hf'⟩ : ∃ f, f = ((s.2.2 (56 + 717 * e + 26))).getD p [] := ⟨_, rfl⟩
  rw [← hf'] at f5 hfm ⊢
  have hfl2 := hf.2 f hfm
  have hfr : aRl B f := hr.2.2 _ f hfm
  have hbl : (f.drop 3).length = f.length - 3 := List.length_drop ..
  unfold f_O_send_109
  rw [if_neg (fun q => by cases q), Option.bind_some, gaN_z (i := 0) (z := 0) f5.1 rfl (by omega) (by omega), Option.bind_some, O_bytes f5.1 (by omega) (by omega), Option.bind_some]
  dsimp only
  have o1 := o.app [.inl (0, f.drop 3)]
  have hco := aCost_le e (f.drop 3) s
  have hL := o1.launch hm (by omega) e hz he (f.getD 0 0) (by omega : B ≤ 1000000000) hr (x := 2000 + h.length) (l := f.drop 3) ⟨gat_nw _ _ [], o.1.2.2.2.1 _ (Nat.le_refl _)⟩ (by omega) (fun x hx => hfr x (List.mem_of_mem_drop hx)) hw h45 ⟨by omega, by omega⟩
  rcases hL with ⟨hc, g, k1, k2, k3⟩ | ⟨hc, h1, k1, k2, k3⟩
  · rw [if_pos hc, if_pos hc, if_pos hc, if_pos hc, k1, Option.bind_some, if_pos o1.ob, if_pos (show xw 0 = 0 by decide)]
    refine ⟨_, rfl, ⟨R, o1.app g⟩, ((hC.app ρ h [.inl (0, f.drop 3)]).tr (hC.app ρ _ g)).le ?_ ?_⟩
    · show 1 + g.length ≤ _
      unfold aLC aM
      omega
    · show ((f.drop 3).length + 0) + gsl g ≤ _
      unfold aLC aM
      omega
  · rw [if_neg hc, if_neg hc, if_neg hc, if_neg hc, k1, Option.bind_some, if_pos o1.ob, if_neg (show ¬ xw 1 = 0 by decide), k2.f0, Option.bind_some]
    have e0 : (aLaunch e (f.getD 0 0) (f.drop 3) s).1 0 = s.1 0 := aLaunch_sc e _ _ s 0 (by omega) (by omega) (by omega) (by omega) (by omega)
    have eF : (aLaunch e (f.getD 0 0) (f.drop 3) s).2.2 ((56 + 717 * e) + 26) = (s.2.2 (56 + 717 * e + 26)) := aLaunch_F e _ _ s _ (by omega)
    rw [e0]
    obtain ⟨h2, a1, a2, a3⟩ := k2.wrow e p 1 (z := 1) rfl he (by rw [eF]; exact hp) (by rw [eF, ← hf']; omega) (by rw [eF, ← hf']; omega) (s.1 0)
    rw [eF, ← hf'] at a2
    rw [a1, Option.bind_some]
    have eF2 : (aF (aLaunch e (f.getD 0 0) (f.drop 3) s) ((56 + 717 * e) + 26) (((s.2.2 (56 + 717 * e + 26))).set p (f.set 1 (s.1 0)))).2.2 ((56 + 717 * e) + 26) = ((s.2.2 (56 + 717 * e + 26))).set p (f.set 1 (s.1 0)) := by rw [aF_3, if_pos rfl]
    have eg : (((s.2.2 (56 + 717 * e + 26))).set p (f.set 1 (s.1 0))).getD p [] = f.set 1 (s.1 0) := by rw [List.getD_eq_getElem?_getD, List.getElem?_set_self hp]; rfl
    obtain ⟨h3, b1, b2, b3⟩ := a2.wrow e p 2 (z := 2) rfl he (by rw [eF2, List.length_set]; exact hp) (by rw [eF2, eg, List.length_set]; omega) (by rw [eF2, eg, List.length_set]; omega) 0
    rw [eF2, eg, aF_aF, List.set_set] at b2
    rw [b1, Option.bind_some]
    refine ⟨h3, rfl, ⟨R, ?_⟩, ((((hC.app ρ h [.inl (0, f.drop 3)]).tr k3).tr a3).tr b3).le ?_ ?_⟩
    · unfold aAgain
      dsimp only
      rw [← hf', aF_3, if_neg (by omega), aF_3, if_neg (by omega), aLaunch_F e _ _ s 1490 (by omega), aLaunch_fl, List.length_append, List.length_singleton]
      have e9 : ((((s.2.2 1730)).length + 1 : Nat) : Int) = (((s.2.2 1730)).length : Int) + 1 := by omega
      rw [e9]
      exact b2
    · show 1 + _ + 0 + 0 ≤ _
      unfold aLC aM
      omega
    · show ((f.drop 3).length + 0) + _ + 0 + 0 ≤ _
      unfold aLC aM
      omega
theorem O_new (o : OR u A R ρ (((s.2.2 1490)).length : Int) (((s.2.2 1730)).length : Int) h s) (e : Nat) {z : Int} (hz : z = (e : Int)) (he : e < 2) (k52 : Int → gH → Option gH) {B : Int} (hB : B ≤ 900000000) (hd : oSn B e s) (hp : ¬ aFst 1 ((s.2.2 (56 + 717 * e + 26))) < ((s.2.2 (56 + 717 * e + 26))).length) : ∃ (ρ' : Nat → Nat) (h' : gH), f_O_send_109 u z k52 none h = k52 (if (aStep e s).isSome then 1 else 0) h' ∧ OO u A ρ' h' ((aStep e s).getD s) ∧ hC (aStepC e s) (aStepZ e s) ρ h ρ' h' := by
  have he2 : e = 0 ∨ e = 1 := by omega
  obtain ⟨hm, hr, hf, hf7, hw, hq, hfl, h45, h15⟩ := hd
  obtain ⟨yq, y1, y2⟩ := o.que e hz he
  have hlb : (((s.2.1 (56 + 717 * e + 117))).take 8).length = min 8 ((s.2.1 (56 + 717 * e + 117))).length := List.length_take
  have en : (if xw (((s.2.1 (56 + 717 * e + 117))).length : Int) < xw 8 then (((s.2.1 (56 + 717 * e + 117))).length : Int) else 8) = ((min 8 ((s.2.1 (56 + 717 * e + 117))).length : Nat) : Int) := by
    rw [xw_nat (by omega), show xw 8 = 8 by decide]
    by_cases c : (((s.2.1 (56 + 717 * e + 117))).length : Int) < 8
    · rw [if_pos c, Nat.min_eq_right (by omega)]
    · rw [if_neg c, Nat.min_eq_left (by omega)]; rfl
  unfold f_O_send_109
  rw [if_pos rfl, o.k18, Option.bind_some, y1, Option.bind_some, glc_N y2.1 (Or.inl rfl), Option.bind_some, Option.bind_some, y1, Option.bind_some, en]
  have hpt := O_part (h := h) (b := 0) (c := min 8 ((s.2.1 (56 + 717 * e + 117))).length) y2.1 (by omega) (Nat.zero_le _) (Nat.min_le_right _ _)
  have hpt' : f_O_part yq 0 ((min 8 ((s.2.1 (56 + 717 * e + 117))).length : Nat) : Int) h = some (2000 + h.length, h ++ [.inl (0, ((s.2.1 (56 + 717 * e + 117))).take 8)]) := by
    have e1 : (((s.2.1 (56 + 717 * e + 117))).drop 0).take (min 8 ((s.2.1 (56 + 717 * e + 117))).length - 0) = ((s.2.1 (56 + 717 * e + 117))).take 8 := by
      rw [List.drop_zero, Nat.sub_zero, take_min8]
    rw [e1] at hpt
    exact hpt
  rw [hpt', Option.bind_some]
  dsimp only
  have o1 := o.app [.inl (0, ((s.2.1 (56 + 717 * e + 117))).take 8)]
  have c1 := hC.app ρ h [.inl (0, ((s.2.1 (56 + 717 * e + 117))).take 8)]
  have w1 : gsl [Sum.inl (0, ((s.2.1 (56 + 717 * e + 117))).take 8)] = min 8 ((s.2.1 (56 + 717 * e + 117))).length := by
    show (((s.2.1 (56 + 717 * e + 117))).take 8).length + 0 = _
    rw [hlb]; rfl
  rw [xw_nat (by omega)]
  have stop : ∀ g : gH, aStep e s = none → f_O_send_213 u z k52 ((min 8 ((s.2.1 (56 + 717 * e + 117))).length : Nat) : Int) (2000 + h.length) ((h ++ [.inl (0, ((s.2.1 (56 + 717 * e + 117))).take 8)]) ++ g) = k52 (if (aStep e s).isSome then 1 else 0) ((h ++ [.inl (0, ((s.2.1 (56 + 717 * e + 117))).take 8)]) ++ g) ∧ OO u A ρ ((h ++ [.inl (0, ((s.2.1 (56 + 717 * e + 117))).take 8)]) ++ g) ((aStep e s).getD s) := fun g hn => by
    unfold f_O_send_213 f_O_send_214
    rw [if_pos (by decide), hn]
    exact ⟨rfl, R, o1.app g⟩
  have stop0 : aStep e s = none → aStepC e s = 1 → aStepZ e s = 8 → ∃ (ρ' : Nat → Nat) (h' : gH), f_O_send_213 u z k52 ((min 8 ((s.2.1 (56 + 717 * e + 117))).length : Nat) : Int) (2000 + h.length) (h ++ [.inl (0, ((s.2.1 (56 + 717 * e + 117))).take 8)]) = k52 (if (aStep e s).isSome then 1 else 0) h' ∧ OO u A ρ' h' ((aStep e s).getD s) ∧ hC (aStepC e s) (aStepZ e s) ρ h ρ' h' := fun hn h1 h2 => by
    obtain ⟨k1, k2⟩ := stop [] hn
    rw [List.append_nil] at k1 k2
    exact ⟨ρ, _, k1, k2, c1.le (by rw [h1]; exact Nat.le_refl _) (by rw [h2, w1]; omega)⟩
  by_cases hz0 : ((s.2.1 (56 + 717 * e + 117))).length = 0
  · have hn : aStep e s = none := by unfold aStep; rw [if_neg hp, if_pos (Or.inl hz0)]
    rw [if_neg (by omega)]
    exact stop0 hn (by unfold aStepC; rw [if_neg hp, if_pos (Or.inl hz0)]) (by unfold aStepZ; rw [if_neg hp, if_pos (Or.inl hz0)])
  · rw [if_pos (by omega)]
    obtain ⟨y, f1, ⟨f2, f2'⟩, f3, f4⟩ := o1.frs e hz he
    have hml : ((R e).map some).length = (R e).length := List.length_map _
    have hRl := aFa_len f3
    rw [o1.k28, Option.bind_some, f1, Option.bind_some, glc_Q f2 (Or.inl rfl), Option.bind_some, hml, hRl, o1.k16, Option.bind_some, o1.set 2 (z := 2) rfl (by omega), Option.bind_some, xw_nat (by omega), show s.1 (12 + 2) = s.1 14 from rfl, (hr.1 14).xw (by omega)]
    by_cases hwn : s.1 14 ≤ (((s.2.2 (56 + 717 * e + 26))).length : Int)
    · have hn : aStep e s = none := by unfold aStep; rw [if_neg hp, if_pos (Or.inr (Or.inl hwn))]
      rw [if_neg (by omega)]
      exact stop0 hn (by unfold aStepC; rw [if_neg hp, if_pos (Or.inr hwn)]) (by unfold aStepZ; rw [if_neg hp, if_pos (Or.inr hwn)])
    · have hno : ¬ (((s.2.1 (56 + 717 * e + 117))).length = 0 ∨ s.1 14 ≤ (((s.2.2 (56 + 717 * e + 26))).length : Int)) := fun w => w.elim hz0 hwn
      rw [if_pos (by omega), o1.k22, Option.bind_some, o1.next e hz he, Option.bind_some]
      have hco := aCost_le e (((s.2.1 (56 + 717 * e + 117))).take 8) s
      have hrl : aRl B (((s.2.1 (56 + 717 * e + 117))).take 8) := fun x hx => hr.2.1 _ x (List.mem_of_mem_take hx)
      have hL := o1.launch hm (by omega) e hz he (s.1 ((56 + 717 * e) + 2)) (by omega : B ≤ 1000000000) hr (x := 2000 + h.length) (l := ((s.2.1 (56 + 717 * e + 117))).take 8) ⟨gat_nw _ _ [], o.1.2.2.2.1 _ (Nat.le_refl _)⟩ (by omega) hrl hw h45 ⟨by omega, by omega⟩
      rcases hL with ⟨hc, g, k1, k2, k3⟩ | ⟨hc, h1, k1, k2, k3⟩
      · have hn : aStep e s = none := by unfold aStep; rw [if_neg hp, if_pos (Or.inr (Or.inr hc))]
        rw [k1, Option.bind_some, if_pos o1.ob, if_pos (show xw 0 = 0 by decide)]
        obtain ⟨m1, m2⟩ := stop g hn
        refine ⟨ρ, _, m1, m2, (c1.tr (hC.app ρ _ g)).le ?_ ?_⟩
        · show 1 + g.length ≤ _
          unfold aStepC aLC aM
          rw [if_neg hp, if_neg hno, if_pos hc]
          omega
        · rw [w1]
          unfold aStepZ aLC aM
          rw [if_neg hp, if_neg hno, if_pos hc]
          omega
      · have hs : aStep e s = some (aNew e s) := by
          unfold aStep
          rw [if_neg hp, if_neg (fun w => w.elim hz0 (fun w => w.elim hwn hc))]
        rw [k1, Option.bind_some, if_pos o1.ob, if_neg (show ¬ xw 1 = 0 by decide)]
        have e0 : (aLaunch e (s.1 ((56 + 717 * e) + 2)) (((s.2.1 (56 + 717 * e + 117))).take 8) s).1 0 = s.1 0 := aLaunch_sc e _ _ s 0 (by omega) (by omega) (by omega) (by omega) (by omega)
        have e2 : (aLaunch e (s.1 ((56 + 717 * e) + 2)) (((s.2.1 (56 + 717 * e + 117))).take 8) s).1 ((56 + 717 * e) + 2) = s.1 ((56 + 717 * e) + 2) := aLaunch_sc e _ _ s _ (by omega) (by omega) (by omega) (by omega) (by omega)
        have e11 : (aLaunch e (s.1 ((56 + 717 * e) + 2)) (((s.2.1 (56 + 717 * e + 117))).take 8) s).1 11 = s.1 11 := aLaunch_sc e _ _ s _ (by omega) (by omega) (by omega) (by omega) (by omega)
        have e19 : (aLaunch e (s.1 ((56 + 717 * e) + 2)) (((s.2.1 (56 + 717 * e + 117))).take 8) s).1 19 = s.1 19 := aLaunch_sc e _ _ s _ (by omega) (by omega) (by omega) (by omega) (by omega)
        have eF : (aLaunch e (s.1 ((56 + 717 * e) + 2)) (((s.2.1 (56 + 717 * e + 117))).take 8) s).2.2 ((56 + 717 * e) + 26) = (s.2.2 (56 + 717 * e + 26)) := aLaunch_F e _ _ s _ (by omega)
        have eQ : (aLaunch e (s.1 ((56 + 717 * e) + 2)) (((s.2.1 (56 + 717 * e + 117))).take 8) s).2.1 ((56 + 717 * e) + 117) = (s.2.1 (56 + 717 * e + 117)) := aLaunch_L e _ _ s _ (by omega)
        have hm1 : oSm (aLaunch e (s.1 ((56 + 717 * e) + 2)) (((s.2.1 (56 + 717 * e + 117))).take 8) s) := by unfold oSm; rw [e11, e19]; exact hm
        have hr0 : aR 900000000 s := hr.le hB
        have hr1 : aR 900000100 (aLaunch e (s.1 ((56 + 717 * e) + 2)) (((s.2.1 (56 + 717 * e + 117))).take 8) s) := (aLaunch_R he hr0 (hr0.1 _) (fun x hx => hr0.2.1 _ x (List.mem_of_mem_take hx)) (by omega) h15 (by omega)).le (by omega)
        have k2' : OR u A R ρ (((s.2.2 1490)).length : Int) ((((s.2.2 1730)).length : Int) + 1) h1 (aLaunch e (s.1 ((56 + 717 * e) + 2)) (((s.2.1 (56 + 717 * e + 117))).take 8) s) := k2
        have hx1 : oI h1 ρ (2000 + h.length) ((aLaunch e (s.1 ((56 + 717 * e) + 2)) (((s.2.1 (56 + 717 * e + 117))).take 8) s).2.1 ((56 + 717 * e) + 117) |>.take 8) := by
          rw [eQ]
          exact k3.oI ⟨gat_nw _ _ [], o.1.2.2.2.1 _ (Nat.le_refl _)⟩
        obtain ⟨R', ρ', h2, m1, m2, m3⟩ := O_send_214 k2' hm1 e hz he k52 (by omega : (900000100 : Int) ≤ 900000100) hr1 (by rw [eF]; exact hf) (by rw [eF]; exact hf7) (by rw [eQ]; exact hq) hx1
        rw [eQ] at m1 m3
        rw [eQ, eF, e0, e2] at m2
        rw [hs]
        refine ⟨ρ', h2, m1, ⟨R', ?_⟩, ((c1.tr k3).tr m3).le ?_ ?_⟩
        · show OR u A R' ρ' (((aNew e s).2.2 1490).length : Int) (((aNew e s).2.2 1730).length : Int) h2 (aNew e s)
          have e8 : (aNew e s).2.2 1490 = (s.2.2 1490) := by
            unfold aNew
            dsimp only
            rw [aL_3, aF_3, if_neg (by omega), aN_2, aLaunch_F e _ _ s _ (by omega)]
          have e9 : (aNew e s).2.2 1730 = (s.2.2 1730) ++ [aItem e (s.1 ((56 + 717 * e) + 2)) (((s.2.1 (56 + 717 * e + 117))).take 8) s] := by
            unfold aNew
            dsimp only
            rw [aL_3, aF_3, if_neg (by omega), aN_2, aLaunch_fl]
          rw [e8, e9, List.length_append, List.length_singleton]
          have e7 : ((((s.2.2 1730)).length + 1 : Nat) : Int) = (((s.2.2 1730)).length : Int) + 1 := by omega
          rw [e7]
          exact m2
        · show 1 + _ + _ ≤ _
          unfold aStepC aLC aM
          rw [if_neg hp, if_neg hno, if_neg hc]
          omega
        · rw [w1]
          unfold aStepZ aLC aM
          rw [if_neg hp, if_neg hno, if_neg hc]
          omega
end

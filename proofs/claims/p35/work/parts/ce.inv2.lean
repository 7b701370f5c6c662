/-! ===== what stays true of a state behind each act of a tick ===== -/
theorem aFrOk.up {n n' : Int} {l : List (List Int)} (h : aFrOk n l) (hn : n ≤ n') : aFrOk n' l := ⟨h.1, fun f hf => by have := h.2.1 f hf; exact ⟨this.1, this.2.1, by omega⟩, h.2.2⟩
section
variable {B : Int} {s : aS}
theorem aI.N (h : aI B s) (j : Nat) (x : Int) (hx : aB B x) (hj : j < 11 ∨ 45 ≤ j) (hc : (j = 1 → 0 ≤ x ∧ x ≤ 3) ∧ (j = 2 → 0 ≤ x ∧ x ≤ 9) ∧ (j = 3 → 0 ≤ x ∧ x < s.1 11) ∧ (j = 4 → 0 ≤ x ∧ x ≤ 3) ∧ (j = 45 → 0 ≤ x)) (he : ∀ e, e < 2 → (j = (56 + 717 * e) + 2 → s.1 ((56 + 717 * e) + 2) ≤ x) ∧ (j = (56 + 717 * e) + 5 → 0 ≤ x ∧ x ≤ 108) ∧ (j = (56 + 717 * e) + 6 → x = 0 ∨ x = 1) ∧ (j = (56 + 717 * e) + 9 → x = 0 ∨ x = 1)) : aI B (aN s j x) := by
  obtain ⟨⟨h2, h3⟩, h4, h5, h6, h7⟩ := h
  obtain ⟨c1, c2, c3, c4, c5⟩ := hc
  obtain ⟨s1, s2, s3, s4, s5⟩ := h3
  have g : ∀ (k : Nat) (P : Int → Prop), P (s.1 k) → (j = k → P x) → P ((aN s j x).1 k) := fun k P p1 p2 => by
    rw [aN_1]
    by_cases c : k = j
    · rw [if_pos c]; exact p2 c.symm
    · rw [if_neg c]; exact p1
  refine ⟨⟨h2.cg fun k k1 k2 => by rw [aN_1, if_neg (by omega)], ?_⟩, h4.N hx, h5, fun e he' => ?_, h7⟩
  · refine ⟨g 1 (fun y => 0 ≤ y ∧ y ≤ 3) s1 c1, g 2 (fun y => 0 ≤ y ∧ y ≤ 9) s2 c2, ?_, g 4 (fun y => 0 ≤ y ∧ y ≤ 3) s4 c4, g 45 (fun y => 0 ≤ y) s5 c5⟩
    rw [show (aN s j x).1 11 = s.1 11 by rw [aN_1, if_neg (by omega)]]
    exact g 3 (fun y => 0 ≤ y ∧ y < s.1 11) s3 c3
  · obtain ⟨a1, a2, a3, a4, a5⟩ := h6 e he'
    obtain ⟨e1, e2, e3, e4⟩ := he e he'
    refine ⟨g ((56 + 717 * e) + 2) (fun y => aFrOk y ((s.2.2 (56 + 717 * e + 26)))) a1 (fun w => a1.up (e1 w)), a2, g ((56 + 717 * e) + 5) (fun y => 0 ≤ y ∧ y ≤ 108) a3 e2, g ((56 + 717 * e) + 6) (fun y => y = 0 ∨ y = 1) a4 e3, g ((56 + 717 * e) + 9) (fun y => y = 0 ∨ y = 1) a5 e4⟩
theorem aI.Fr (h : aI B s) {e : Nat} (he : e < 2) {l : List (List Int)} (hl : aFrOk (s.1 ((56 + 717 * e) + 2)) l) (hr : ∀ f, f ∈ l → aRl B f) : aI B (aF s ((56 + 717 * e) + 26) l) := by
  obtain ⟨⟨h2, h3⟩, h4, h5, h6, h7⟩ := h
  refine ⟨⟨h2, h3⟩, h4.F hr, by rw [aF_3, if_neg (by omega)]; exact h5, fun e' he' => ?_, fun it hit => h7 it (by rw [aF_3, if_neg (by omega)] at hit; exact hit)⟩
  by_cases c : e' = e
  · rw [c]
    obtain ⟨a1, a2⟩ := h6 e he
    unfold aEnd
    rw [aF_3, if_pos rfl]
    exact ⟨hl, a2⟩
  · exact (h6 e' he').cg (fun _ _ => rfl) (fun _ _ => rfl) (by rw [aF_3, if_neg (by omega)])
theorem aI.Fl (h : aI B s) {l : List (List Int)} (hl : ∀ it, it ∈ l → aItOk it ∧ aRl B it) : aI B (aF s 1730 l) := by
  obtain ⟨⟨h2, h3⟩, h4, h5, h6, h7⟩ := h
  refine ⟨⟨h2, h3⟩, h4.F fun f hf => (hl f hf).2, by rw [aF_3, if_neg (by omega)]; exact h5, fun e' he' => (h6 e' he').cg (fun _ _ => rfl) (fun _ _ => rfl) (by rw [aF_3, if_neg (by omega)]), fun it hit => ?_⟩
  rw [aF_3, if_pos rfl] at hit
  exact (hl it hit).1
theorem aI.off (h : aI B s) {e : Nat} (he : e < 2) : aI B (aOff e s) := by
  unfold aOff
  exact aI.Fr (h.L (l := []) (fun x hx => absurd hx List.not_mem_nil) (fun _ _ => ⟨fun _ => Nat.zero_le _, fun _ => Nat.zero_le _, fun _ => Nat.zero_le _, fun _ => Nat.zero_le _⟩)) he (aFrOk.nil _) (fun f hf => absurd hf List.not_mem_nil)
theorem aI.hang (h : aI B s) (h1 : 5 ≤ B) : aI (B + 1) (aHang s) := by
  have h0 : aI B (aF (aN s 1 0) 1730 []) := (h.N 1 0 (by unfold aB; omega) (by omega) (by omega) (fun e he => by omega)).Fl fun f hf => absurd hf List.not_mem_nil
  have h2 := (h0.off (e := 0) (by omega)).off (e := 1) (by omega)
  have x52 := h2.2.1.1 52
  unfold aB at x52
  unfold aHang
  dsimp only
  exact ((h2.le (by omega)).N 52 _ (by unfold aB; omega) (by omega) (by omega) (fun e he => by omega)).tell (by unfold aB; omega) (by unfold aB; omega) (by omega)
theorem aI.on (h : aI B s) {e : Nat} (he : e < 2) (h1 : 1 ≤ B) : aI B (aOn e s) := by
  unfold aOn
  have h0 := h.Fr he (l := aMark (((s.2.2 (56 + 717 * e + 26))).filter fun f => decide (s.1 ((56 + 717 * (1 - e)) + 3) ≤ f.getD 0 0))) (((h.2.2.2.1 e he).1.filter _).mark) (aMark_R h1 fun f hf => h.2.1.2.2 _ f (List.mem_filter.mp hf).1)
  exact ((h0.N ((56 + 717 * e) + 5) 0 (by unfold aB; omega) (by omega) (by omega) (fun e' he' => by omega)).N ((56 + 717 * e) + 6) 0 (by unfold aB; omega) (by omega) (by omega) (fun e' he' => by omega)).N ((56 + 717 * e) + 9) 1 (by unfold aB; omega) (by omega) (by omega) (fun e' he' => by omega)
theorem aI.up (h : aI B s) {r : Int} (hr : 0 ≤ r ∧ r < s.1 11) (h1 : 5 ≤ B) : aI (B + 1) (aUp r s) := by
  have hs := h.1.1.1.1
  have e11 : (aN s 1 2).1 11 = s.1 11 := rfl
  have h2 := (h.N 1 2 (by unfold aB; omega) (by omega) (by omega) (fun e he => by omega)).N 3 r (by unfold aB; omega) (by omega) ⟨by omega, by omega, fun _ => by rw [e11]; exact hr, by omega, by omega⟩ (fun e he => by omega)
  have h3 := ((h2.N 8 0 (by unfold aB; omega) (by omega) (by omega) (fun e he => by omega)).N 9 0 (by unfold aB; omega) (by omega) (by omega) (fun e he => by omega)).Fl (l := []) fun f hf => absurd hf List.not_mem_nil
  have h4 := (h3.on (e := 0) (by omega) (by omega)).on (e := 1) (by omega) (by omega)
  have x53 := h4.2.1.1 53
  unfold aB at x53
  unfold aUp
  dsimp only
  exact ((h4.le (by omega)).N 53 _ (by unfold aB; omega) (by omega) (by omega) (fun e he => by omega)).tell (by unfold aB; omega) (by unfold aB; omega) (by omega)
theorem aRt_le (s : aS) (q : Int) : ∀ k : Nat, -1 ≤ aRt s q k ∧ aRt s q k < k
  | 0 => by rw [aRt]; omega
  | k + 1 => by
    have := aRt_le s q k
    rw [aRt]
    by_cases c : s.1 (40 + k) ≤ q
    · rw [if_pos c]; omega
    · rw [if_neg c]; omega
theorem aI.online (h : aI B s) (h1 : 5 ≤ B) : aI (B + 1) (aOnline s) := by
  have hb := aRt_le s (s.1 2) (s.1 11).toNat
  have hs := h.1.1.1.1
  unfold aOnline
  by_cases c : aRt s (s.1 2) (s.1 11).toNat < 0
  · rw [if_pos c]; exact h.hang h1
  · rw [if_neg c]; exact h.up (by omega) h1
theorem aI.fail (h : aI B s) {e : Nat} (he : e < 2) (h1 : 6 ≤ B) : aI (B + 1) (aFail e s) := by
  have x48 := h.2.1.1 48
  have x8 := h.2.1.1 8
  unfold aB at x48 x8
  have h0 := ((h.Fr he (l := aMark ((s.2.2 (56 + 717 * e + 26)))) (h.2.2.2.1 e he).1.mark (aMark_R (by omega) fun f hf => h.2.1.2.2 _ f hf)).le (by omega : B ≤ B + 1)).N ((56 + 717 * e) + 9) 1 (by unfold aB; omega) (by omega) (by omega) (fun e' he' => by omega)
  have h2 := (h0.N 48 (s.1 48 + 1) (by unfold aB; omega) (by omega) (by omega) (fun e' he' => by omega)).N 8 (s.1 8 + 1) (by unfold aB; omega) (by omega) (by omega) (fun e' he' => by omega)
  exact (h2.N 9 0 (by unfold aB; omega) (by omega) (by omega) (fun e' he' => by omega)).tell (by unfold aB; omega) (by unfold aB; omega) (by omega)
theorem aI.fall (h : aI B s) (h1 : 6 ≤ B) : aI (B + 1) (aFall s) := by
  unfold aFall
  by_cases c : s.1 3 = 0
  · rw [if_pos c]; exact h.hang (by omega)
  · rw [if_neg c]
    have x3 := h.1.2.2.2.1
    have hs := h.1.1.1.1
    have x49 := h.2.1.1 49
    unfold aB at x49
    have h2 := ((h.le (by omega : B ≤ B + 1)).N 3 (s.1 3 - 1) (by unfold aB; omega) (by omega) (by omega) (fun e' he' => by omega)).N 8 0 (by unfold aB; omega) (by omega) (by omega) (fun e' he' => by omega)
    exact (h2.N 49 (s.1 49 + 1) (by unfold aB; omega) (by omega) (by omega) (fun e' he' => by omega)).tell (by unfold aB; omega) (by unfold aB; omega) (by omega)
theorem aI.timer (h : aI B s) {e : Nat} (he : e < 2) (h1 : 6 ≤ B) : aI (B + 2) (aTimer e s) := by
  unfold aTimer
  by_cases c : aFst 0 ((s.2.2 (56 + 717 * e + 26))) < ((s.2.2 (56 + 717 * e + 26))).length ∧ s.1 16 ≤ s.1 0 - (((s.2.2 (56 + 717 * e + 26))).getD (aFst 0 ((s.2.2 (56 + 717 * e + 26)))) []).getD 1 0
  · rw [if_pos c]
    have h2 := h.fail he h1
    by_cases c2 : (aFail e s).1 8 < (aFail e s).1 17
    · rw [if_pos c2]; exact h2.le (by omega)
    · rw [if_neg c2]; exact (h2.fall (by omega)).le (by omega)
  · rw [if_neg c]; exact h.le (by omega)
theorem aI.rise (h : aI B s) (h1 : 6 ≤ B) : aI (B + 1) (aRise s) := by
  unfold aRise
  by_cases c : s.1 18 ≤ s.1 9 ∧ s.1 3 + 1 < s.1 11 ∧ s.1 (40 + (s.1 3 + 1).toNat) ≤ s.1 2
  · rw [if_pos c]
    have x3 := h.1.2.2.2.1
    have hs := h.1.1.1.1
    have x50 := h.2.1.1 50
    unfold aB at x50
    have h2 := ((h.le (by omega : B ≤ B + 1)).N 3 (s.1 3 + 1) (by unfold aB; omega) (by omega) (by omega) (fun e' he' => by omega)).N 9 0 (by unfold aB; omega) (by omega) (by omega) (fun e' he' => by omega)
    exact (h2.N 50 (s.1 50 + 1) (by unfold aB; omega) (by omega) (by omega) (fun e' he' => by omega)).tell (by unfold aB; omega) (by unfold aB; omega) (by omega)
  · rw [if_neg c]; exact h.le (by omega)
theorem aI.cred (h : aI B s) {e : Nat} (he : e < 2) (h1 : 108 ≤ B) : aI B (aCred e s) := by
  have x3 := h.1.2.2.2.1
  have sp := (h.1.1.2.2.2.2 (s.1 3).toNat (by omega)).1
  have cr := (h.2.2.2.1 e he).2.2.1
  unfold aCred
  refine h.N ((56 + 717 * e) + 5) _ ?_ (by omega) (by omega) (fun e' he' => ⟨by omega, fun w => ?_, by omega, by omega⟩)
  · by_cases c : s.1 (35 + (s.1 3).toNat) + 28 < s.1 ((56 + 717 * e) + 5) + s.1 (35 + (s.1 3).toNat)
    · rw [if_pos c]; unfold aB; omega
    · rw [if_neg c]; unfold aB; omega
  · by_cases c : s.1 (35 + (s.1 3).toNat) + 28 < s.1 ((56 + 717 * e) + 5) + s.1 (35 + (s.1 3).toNat)
    · rw [if_pos c]; omega
    · rw [if_neg c]; omega
theorem aWr_len : ∀ (q ws : List Int), ws.length ≤ 8 → (aWr ws q).length ≤ 8
  | [], _, h => h
  | v :: q, ws, _ => aWr_len q (aUse v ws) (aUse_len v ws)
theorem aDict_len {e : Nat} (h : ((s.2.1 (56 + 717 * e + 10))).length ≤ 8) : (aDict e s).length ≤ 8 := by
  unfold aDict
  by_cases c : s.1 ((56 + 717 * e) + 9) = 0
  · rw [if_pos c]; exact h
  · rw [if_neg c]; exact Nat.zero_le _
theorem aI.launch (h : aI B s) {e : Nat} (he : e < 2) {num : Int} {b : List Int} (hn : aB B num) (hb : aRl B b) (hl : 1 ≤ b.length ∧ b.length ≤ 8) (hc : ¬ s.1 ((56 + 717 * e) + 5) < aCost e b s) (h1 : 1 ≤ B) : aI (B + 100) (aLaunch e num b s) := by
  have hr := aLaunch_R he h.2.1 hn hb hl.2 (by have := h.1.1.2.1.2.1; omega) h1
  obtain ⟨⟨h2, h3⟩, h4, h5, h6, h7⟩ := h
  have hco := aCost_le e b s
  have cr := (h6 e he).2.2.1
  have bad := aBad_01 s
  have x45 := h3.2.2.2.2
  have sc := fun j j5 j9 j45 j46 j54 => aLaunch_sc e num b s j j5 j9 j45 j46 j54
  refine ⟨⟨h2.cg fun j j1 j2 => sc j (by omega) (by omega) (by omega) (by omega) (by omega), ?_⟩, hr, by rw [aLaunch_F e num b s _ (by omega)]; exact h5, fun e' he' => ?_, fun it hit => ?_⟩
  · unfold aSc
    rw [sc 1 (by omega) (by omega) (by omega) (by omega) (by omega), sc 2 (by omega) (by omega) (by omega) (by omega) (by omega), sc 3 (by omega) (by omega) (by omega) (by omega) (by omega), sc 4 (by omega) (by omega) (by omega) (by omega) (by omega), sc 11 (by omega) (by omega) (by omega) (by omega) (by omega)]
    refine ⟨h3.1, h3.2.1, h3.2.2.1, h3.2.2.2.1, ?_⟩
    unfold aLaunch
    rw [aN_1, if_neg (by omega), aN_1, if_neg (by omega), aN_1, if_pos rfl]
    omega
  · by_cases c : e' = e
    · rw [c]
      obtain ⟨a1, ⟨a2, a3, a4, a5⟩, a6, a7, a8⟩ := h6 e he
      unfold aEnd
      rw [sc ((56 + 717 * e) + 2) (by omega) (by omega) (by omega) (by omega) (by omega), sc ((56 + 717 * e) + 6) (by omega) (by omega) (by omega) (by omega) (by omega), aLaunch_F e num b s _ (by omega), aLaunch_L e num b s ((56 + 717 * e) + 117) (by omega), aLaunch_L e num b s ((56 + 717 * e) + 317) (by omega), aLaunch_L e num b s ((56 + 717 * e) + 18) (by omega)]
      refine ⟨a1, ⟨a2, a3, ?_, a5⟩, ?_, a7, Or.inl ?_⟩
      · unfold aLaunch
        rw [aN_2, aN_2, aN_2, aN_2, aF_2, aN_2, aL_2, if_pos rfl]
        exact aWr_len _ _ (aDict_len a4)
      · unfold aLaunch
        rw [aN_1, if_neg (by omega), aN_1, if_neg (by omega), aN_1, if_neg (by omega), aN_1, if_neg (by omega), aF_1, aN_1, if_pos rfl]
        omega
      · unfold aLaunch
        rw [aN_1, if_neg (by omega), aN_1, if_neg (by omega), aN_1, if_neg (by omega), aN_1, if_pos rfl]
    · exact (h6 e' he').cg (fun j hj => sc j (by omega) (by omega) (by omega) (by omega) (by omega)) (fun j hj => aLaunch_L e num b s j (by omega)) (aLaunch_F e num b s _ (by omega))
  · rw [aLaunch_fl] at hit
    rcases List.mem_append.mp hit with hit | hit
    · exact h7 it hit
    · rw [List.mem_singleton] at hit
      subst hit
      unfold aItem
      have hlen : ([s.1 0 + s.1 15, 0, 1 - (e : Int), num, aBad s, if s.1 ((56 + 717 * e) + 9) = 0 then 0 else 1] ++ b).length = 6 + b.length := by rw [List.length_append]; rfl
      refine ⟨⟨⟨by rw [hlen]; omega, ?_⟩, Or.inr ⟨rfl, by rw [hlen]; omega⟩⟩, fun _ => by rw [hlen]; omega⟩
      show (1 - (e : Int)) = 0 ∨ (1 - (e : Int)) = 1
      omega
theorem aFst_at {a : Int} {l : List (List Int)} (h : aFst a l < l.length) : (l.getD (aFst a l) []).getD 2 0 = a ∧ l.getD (aFst a l) [] ∈ l := by
  unfold aFst at h ⊢
  have h1 := List.findIdx_getElem (w := h)
  have e : l.getD (List.findIdx (fun f => f.getD 2 0 == a) l) [] = l[List.findIdx (fun f => f.getD 2 0 == a) l] := by
    rw [List.getD_eq_getElem?_getD, List.getElem?_eq_getElem h]
    rfl
  rw [e]
  exact ⟨beq_iff_eq.mp h1, List.getElem_mem _⟩
theorem aFrOk.set {n : Int} {l : List (List Int)} (h : aFrOk n l) {p : Nat} (hp : p < l.length) (t : Int) : aFrOk n (l.set p (((l.getD p []).set 1 t).set 2 0)) := by
  obtain ⟨f, hf⟩ : ∃ f, f = l.getD p [] := ⟨_, rfl⟩
  have hfe : l[p]? = some f := by
    rw [hf, List.getD_eq_getElem?_getD, List.getElem?_eq_getElem hp]
    rfl
  have hfm : f ∈ l := List.mem_of_getElem? hfe
  have g0 : ((f.set 1 t).set 2 0).getD 0 0 = f.getD 0 0 := by
    rw [set2_0, List.getD_eq_getElem?_getD, List.getD_eq_getElem?_getD, List.getElem?_set_ne (by omega)]
  rw [← hf]
  refine ⟨by rw [List.length_set]; exact h.1, fun g hg => ?_, ?_⟩
  · rcases List.mem_or_eq_of_mem_set hg with hg | rfl
    · exact h.2.1 g hg
    · obtain ⟨h1, h2, h3⟩ := h.2.1 f hfm
      rw [List.length_set, List.length_set, g0]
      refine ⟨h1, Or.inl ?_, h3⟩
      rw [List.getD_eq_getElem?_getD, List.getElem?_set_self (by rw [List.length_set]; omega)]
      rfl
  · have hpw := h.2.2
    rw [List.pairwise_iff_getElem] at hpw ⊢
    intro i j hi hj hij
    rw [List.length_set] at hi hj
    have get0 : ∀ k (hk : k < (l.set p ((f.set 1 t).set 2 0)).length) (hk2 : k < l.length), ((l.set p ((f.set 1 t).set 2 0))[k]).getD 0 0 = (l[k]).getD 0 0 := fun k hk hk2 => by
      rw [List.getElem_set]
      by_cases c : p = k
      · rw [if_pos c, g0]
        subst c
        have h9 : l[p]? = some l[p] := List.getElem?_eq_getElem hk2
        rw [hfe] at h9
        rw [Option.some.inj h9]
      · rw [if_neg c]
    rw [get0 i _ hi, get0 j _ hj]
    exact hpw i j hi hj hij
theorem aI.again (h : aI B s) {e p : Nat} (he : e < 2) (hp : p < ((s.2.2 (56 + 717 * e + 26))).length) (hc : ¬ s.1 ((56 + 717 * e) + 5) < aCost e ((((s.2.2 (56 + 717 * e + 26))).getD p []).drop 3) s) (h1 : 1 ≤ B) : aI (B + 100) (aAgain e p s) := by
  have hfm : ((s.2.2 (56 + 717 * e + 26))).getD p [] ∈ (s.2.2 (56 + 717 * e + 26)) := by
    rw [List.getD_eq_getElem?_getD, List.getElem?_eq_getElem hp]
    exact List.getElem_mem _
  obtain ⟨f1, f2, f3⟩ := (h.2.2.2.1 e he).1.2.1 _ hfm
  have hfr := h.2.1.2.2 _ _ hfm
  have h2 := h.launch he (aRl_get hfr (by omega) 0) (b := (((s.2.2 (56 + 717 * e + 26))).getD p []).drop 3) (fun x hx => hfr x (List.mem_of_mem_drop hx)) (by rw [List.length_drop]; omega) hc h1
  unfold aAgain
  dsimp only
  have eF : (aLaunch e ((((s.2.2 (56 + 717 * e + 26))).getD p []).getD 0 0) ((((s.2.2 (56 + 717 * e + 26))).getD p []).drop 3) s).1 ((56 + 717 * e) + 2) = s.1 ((56 + 717 * e) + 2) := aLaunch_sc e _ _ s _ (by omega) (by omega) (by omega) (by omega) (by omega)
  refine h2.Fr he (by rw [eF]; exact (h.2.2.2.1 e he).1.set hp _) fun f hf => ?_
  have x0 := h.2.1.1 0
  unfold aB at x0
  rcases List.mem_or_eq_of_mem_set hf with hf | rfl
  · exact (h.2.1.2.2 _ f hf).le (by omega)
  · intro x hx
    rcases List.mem_or_eq_of_mem_set hx with hx | rfl
    · rcases List.mem_or_eq_of_mem_set hx with hx | rfl
      · exact (hfr x hx).le (by omega)
      · unfold aB; omega
    · unfold aB; omega
theorem aI.new (h : aI B s) {e : Nat} (he : e < 2) (hq : ((s.2.1 (56 + 717 * e + 117))).length ≠ 0) (hw : ¬ s.1 14 ≤ (((s.2.2 (56 + 717 * e + 26))).length : Int)) (hc : ¬ s.1 ((56 + 717 * e) + 5) < aCost e (((s.2.1 (56 + 717 * e + 117))).take 8) s) (h1 : 1 ≤ B) : aI (B + 101) (aNew e s) := by
  have hlb : (((s.2.1 (56 + 717 * e + 117))).take 8).length = min 8 ((s.2.1 (56 + 717 * e + 117))).length := List.length_take
  have hrq := h.2.1.2.1 ((56 + 717 * e) + 117)
  have hrb : aRl B (((s.2.1 (56 + 717 * e + 117))).take 8) := fun x hx => hrq x (List.mem_of_mem_take hx)
  have h2 := (h.launch he (h.2.1.1 ((56 + 717 * e) + 2)) hrb (by omega) hc h1).le (by omega : B + 100 ≤ B + 101)
  have e2 : (aLaunch e (s.1 ((56 + 717 * e) + 2)) (((s.2.1 (56 + 717 * e + 117))).take 8) s).1 ((56 + 717 * e) + 2) = s.1 ((56 + 717 * e) + 2) := aLaunch_sc e _ _ s _ (by omega) (by omega) (by omega) (by omega) (by omega)
  have x2 := h.2.1.1 ((56 + 717 * e) + 2)
  have x0 := h.2.1.1 0
  unfold aB at x2 x0
  have h3 := h2.N ((56 + 717 * e) + 2) (s.1 ((56 + 717 * e) + 2) + 1) (by unfold aB; omega) (by omega) (by omega) (fun e' he' => ⟨fun w => by
    have : e' = e := by omega
    rw [this, e2]; omega, by omega, by omega, by omega⟩)
  have hf := (h.2.2.2.1 e he).1
  have hwin := h.1.1.2.1.1
  unfold aNew
  dsimp only
  refine aI.L (h3.Fr he (l := (s.2.2 (56 + 717 * e + 26)) ++ [[s.1 ((56 + 717 * e) + 2), s.1 0, 0] ++ ((s.2.1 (56 + 717 * e + 117))).take 8]) ?_ ?_) ?_ ?_
  · rw [aN_1, if_pos rfl]
    refine ⟨?_, fun f hf' => ?_, ?_⟩
    · rw [List.length_append, List.length_singleton]; omega
    · rcases List.mem_append.mp hf' with hf' | hf'
      · obtain ⟨a1, a2, a3⟩ := hf.2.1 f hf'
        exact ⟨a1, a2, by omega⟩
      · rw [List.mem_singleton] at hf'
        subst hf'
        have hlen : ([s.1 ((56 + 717 * e) + 2), s.1 0, 0] ++ ((s.2.1 (56 + 717 * e + 117))).take 8).length = 3 + (((s.2.1 (56 + 717 * e + 117))).take 8).length := by rw [List.length_append]; rfl
        refine ⟨by rw [hlen]; omega, Or.inl rfl, ?_⟩
        show s.1 ((56 + 717 * e) + 2) < _
        omega
    · rw [List.pairwise_append]
      refine ⟨hf.2.2, List.pairwise_singleton _ _, fun f hf' g hg => ?_⟩
      rw [List.mem_singleton] at hg
      subst hg
      exact (hf.2.1 f hf').2.2
  · intro f hf'
    rcases List.mem_append.mp hf' with hf' | hf'
    · exact (h.2.1.2.2 _ f hf').le (by omega)
    · rw [List.mem_singleton] at hf'
      subst hf'
      intro x hx
      rcases List.mem_append.mp hx with hx | hx
      · simp only [List.mem_cons, List.not_mem_nil, or_false] at hx
        unfold aB
        rcases hx with rfl | rfl | rfl <;> omega
      · exact (hrb x hx).le (by omega)
  · exact fun x hx => (hrq x (List.mem_of_mem_drop hx)).le (by omega)
  · intro e' he'
    have := (h.2.2.2.1 e he).2.1.1
    refine ⟨fun _ => by rw [List.length_drop]; omega, by omega, by omega, by omega⟩
end

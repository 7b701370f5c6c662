/-! ===== the own line: sending ===== -/
def aM (e : Nat) (s : aS) : Nat := if s.1 ((56 + 717 * e) + 9) = 0 then 0 else 1
/-- cells that finding a cost makes -/
def aLC (e : Nat) (b : List Int) (s : aS) : Nat := aM e s + aSz (aDict e s) b
def aStepC (e : Nat) (s : aS) : Nat :=
  if aFst 1 ((s.2.2 (56 + 717 * e + 26))) < ((s.2.2 (56 + 717 * e + 26))).length then
    (if s.1 ((56 + 717 * e) + 5) < aCost e ((((s.2.2 (56 + 717 * e + 26))).getD (aFst 1 ((s.2.2 (56 + 717 * e + 26)))) []).drop 3) s then 1 + aLC e ((((s.2.2 (56 + 717 * e + 26))).getD (aFst 1 ((s.2.2 (56 + 717 * e + 26)))) []).drop 3) s
     else 1 + (2 * aLC e ((((s.2.2 (56 + 717 * e + 26))).getD (aFst 1 ((s.2.2 (56 + 717 * e + 26)))) []).drop 3) s + 1 + ((((s.2.2 (56 + 717 * e + 26))).getD (aFst 1 ((s.2.2 (56 + 717 * e + 26)))) []).drop 3).length))
  else if ((s.2.1 (56 + 717 * e + 117))).length = 0 ∨ s.1 14 ≤ (((s.2.2 (56 + 717 * e + 26))).length : Int) then 1
  else if s.1 ((56 + 717 * e) + 5) < aCost e (((s.2.1 (56 + 717 * e + 117))).take 8) s then 1 + aLC e (((s.2.1 (56 + 717 * e + 117))).take 8) s
  else 1 + (2 * aLC e (((s.2.1 (56 + 717 * e + 117))).take 8) s + 1 + (((s.2.1 (56 + 717 * e + 117))).take 8).length) + (3 + (((s.2.1 (56 + 717 * e + 117))).take 8).length)
def aStepZ (e : Nat) (s : aS) : Nat :=
  if aFst 1 ((s.2.2 (56 + 717 * e + 26))) < ((s.2.2 (56 + 717 * e + 26))).length then
    (if s.1 ((56 + 717 * e) + 5) < aCost e ((((s.2.2 (56 + 717 * e + 26))).getD (aFst 1 ((s.2.2 (56 + 717 * e + 26)))) []).drop 3) s then 8 + 8 * aLC e ((((s.2.2 (56 + 717 * e + 26))).getD (aFst 1 ((s.2.2 (56 + 717 * e + 26)))) []).drop 3) s
     else 8 + (8 * (2 * aLC e ((((s.2.2 (56 + 717 * e + 26))).getD (aFst 1 ((s.2.2 (56 + 717 * e + 26)))) []).drop 3) s) + 6 + 14 * ((((s.2.2 (56 + 717 * e + 26))).getD (aFst 1 ((s.2.2 (56 + 717 * e + 26)))) []).drop 3).length))
  else if ((s.2.1 (56 + 717 * e + 117))).length = 0 ∨ s.1 14 ≤ (((s.2.2 (56 + 717 * e + 26))).length : Int) then 8
  else if s.1 ((56 + 717 * e) + 5) < aCost e (((s.2.1 (56 + 717 * e + 117))).take 8) s then 8 + 8 * aLC e (((s.2.1 (56 + 717 * e + 117))).take 8) s
  else 8 + (8 * (2 * aLC e (((s.2.1 (56 + 717 * e + 117))).take 8) s) + 6 + 14 * (((s.2.1 (56 + 717 * e + 117))).take 8).length) + (400 + 11 * (((s.2.1 (56 + 717 * e + 117))).take 8).length)
theorem aPay_le (v : Int) (l : List Int) : 1 ≤ aPay v l ∧ aPay v l ≤ 3 := by
  unfold aPay
  by_cases h : v ∈ l
  · rw [if_pos h]; omega
  · rw [if_neg h]; omega
theorem aCo_le : ∀ (b ws : List Int), (b.length : Int) ≤ aCo ws b ∧ aCo ws b ≤ 3 * (b.length : Int)
  | [], _ => by rw [aCo]; exact ⟨Int.le_refl _, Int.le_refl _⟩
  | v :: b, ws => by
    have h1 := aPay_le v ws
    have h2 := aCo_le b (aUse v ws)
    rw [aCo, List.length_cons]
    omega
theorem aCost_le (e : Nat) (b : List Int) (s : aS) : 4 + (b.length : Int) ≤ aCost e b s ∧ aCost e b s ≤ 5 + 3 * (b.length : Int) := by
  have h := aCo_le b (aDict e s)
  unfold aCost
  by_cases c : s.1 ((56 + 717 * e) + 9) = 0
  · rw [if_pos c]; omega
  · rw [if_neg c]; omega
theorem aLaunch_sc (e : Nat) (num : Int) (b : List Int) (s : aS) (j : Nat) (h5 : j ≠ (56 + 717 * e) + 5) (h9 : j ≠ (56 + 717 * e) + 9) (h45 : j ≠ 45) (h46 : j ≠ 46) (h54 : j ≠ 54) : (aLaunch e num b s).1 j = s.1 j := by
  unfold aLaunch
  rw [aN_1, if_neg h54, aN_1, if_neg h46, aN_1, if_neg h45, aN_1, if_neg h9, aF_1, aN_1, if_neg h5, aL_1]
theorem aLaunch_F (e : Nat) (num : Int) (b : List Int) (s : aS) (j : Nat) (h : j ≠ 1730) : (aLaunch e num b s).2.2 j = s.2.2 j := by
  unfold aLaunch
  rw [aN_2, aN_2, aN_2, aN_2, aF_3, if_neg h, aN_2, aL_3]
theorem aLaunch_fl (e : Nat) (num : Int) (b : List Int) (s : aS) : (aLaunch e num b s).2.2 1730 = (s.2.2 1730) ++ [aItem e num b s] := by
  unfold aLaunch
  rw [aN_2, aN_2, aN_2, aN_2, aF_3, if_pos rfl]
theorem aLaunch_L (e : Nat) (num : Int) (b : List Int) (s : aS) (j : Nat) (h : j ≠ (56 + 717 * e) + 10) : (aLaunch e num b s).2.1 j = s.2.1 j := by
  unfold aLaunch
  rw [aN_2, aN_2, aN_2, aN_2, aF_2, aN_2, aL_2, if_neg h]
theorem aBad_01 (s : aS) : 0 ≤ aBad s ∧ aBad s ≤ 1 := by
  unfold aBad
  by_cases h : s.1 2 < s.1 (25 + (s.1 45 % s.1 19).toNat) + s.1 3
  · rw [if_pos h]; omega
  · rw [if_neg h]; omega
theorem aItem_R {B : Int} {e : Nat} (he : e < 2) {num : Int} {b : List Int} {s : aS} (h : aR B s) (hn : aB B num) (hb : aRl B b) (h15 : 0 ≤ s.1 15 ∧ s.1 15 ≤ 100) (hB : 1 ≤ B) : aRl (B + 100) (aItem e num b s) := fun x hx => by
  have h0 := h.1 0
  have hbad := aBad_01 s
  unfold aB at h0
  unfold aItem at hx
  simp only [List.mem_append, List.mem_cons, List.not_mem_nil, or_false] at hx
  rcases hx with (rfl | rfl | rfl | rfl | rfl | rfl) | hx
  · unfold aB; omega
  · unfold aB; omega
  · unfold aB; omega
  · exact hn.le (by omega)
  · unfold aB; omega
  · by_cases c : s.1 ((56 + 717 * e) + 9) = 0
    · rw [if_pos c]; unfold aB; omega
    · rw [if_neg c]; unfold aB; omega
  · exact (hb x hx).le (by omega)
theorem aLaunch_R {B : Int} {e : Nat} (he : e < 2) {num : Int} {b : List Int} {s : aS} (h : aR B s) (hn : aB B num) (hb : aRl B b) (hl : b.length ≤ 8) (h15 : 0 ≤ s.1 15 ∧ s.1 15 ≤ 100) (hB : 1 ≤ B) : aR (B + 100) (aLaunch e num b s) := by
  have hc := aCost_le e b s
  have h5 := h.1 ((56 + 717 * e) + 5)
  have h45 := h.1 45
  have h46 := h.1 46
  have h54 := h.1 54
  have hbad := aBad_01 s
  unfold aB at h5 h45 h46 h54
  unfold aLaunch
  refine aR.N (aR.N (aR.N (aR.N (aR.F (aR.N (aR.L (h.le (by omega)) ?_) (by unfold aB; omega)) ?_) (by unfold aB; omega)) (by unfold aB; omega)) (by unfold aB; omega)) (by unfold aB; omega)
  · refine aWr_R ?_ (hb.le (by omega))
    unfold aDict
    by_cases c : s.1 ((56 + 717 * e) + 9) = 0
    · rw [if_pos c]; exact (h.2.1 _).le (by omega)
    · rw [if_neg c]; exact fun x hx => absurd hx List.not_mem_nil
  · intro f hf
    rcases List.mem_append.mp hf with hf | hf
    · exact (h.2.2 1730 f hf).le (by omega)
    · rw [List.mem_singleton] at hf
      rw [hf]
      exact aItem_R he h hn hb h15 hB
theorem take_min8 (l : List Int) : l.take (min 8 l.length) = l.take 8 := by
  rcases Nat.le_total 8 l.length with h | h
  · rw [Nat.min_eq_left h]
  · rw [Nat.min_eq_right h, List.take_of_length_le (Nat.le_refl _), List.take_of_length_le h]
theorem drop_min8 (l : List Int) : l.drop (min 8 l.length) = l.drop 8 := by
  rcases Nat.le_total 8 l.length with h | h
  · rw [Nat.min_eq_left h]
  · rw [Nat.min_eq_right h, List.drop_of_length_le (Nat.le_refl _), List.drop_of_length_le h]
section
variable {u : Nat} {A ρ : Nat → Nat} {R : Nat → List Nat} {a b : Int} {h : gH} {s : aS}
theorem OR.inR (o : OR u A R ρ a b h s) (e : Nat) (he : e < 2) : ∀ x, x ∈ R e → x < 2000 + h.length := fun x hx => by
  obtain ⟨y, f1, f2, f3, f4⟩ := o.frs e rfl he
  obtain ⟨f, hf, h2⟩ := aFa_mem f3 hx
  exact (gat_in h2.1).2
/-- a row that is not in use yet -/
theorem OR.wfree (o : OR u A R ρ a b h s) {x i : Nat} {l : List Int} {z : Int} (v : Int) (hx : gat h x = some (.inl (0, l))) (hρ : ρ x = 6) (hn : ∀ e, e < 2 → x ∉ R e) (hz : z = (i : Int)) (hi : i < l.length) (hl : l.length < 100000) : ∃ h', gsN 0 h x z v = some h' ∧ OR u A R ρ a b h' s ∧ gat h' x = some (.inl (0, l.set i v)) ∧ hC 0 0 ρ h ρ h' := by
  obtain ⟨⟨p1, r⟩, p2, p3, ⟨p4, p5, p6, p7⟩, ⟨⟨y0, y1, e1, ⟨e2, e2'⟩, ⟨e3, e3'⟩⟩, e4, e5, e6⟩, p9, p10⟩ := o
  obtain ⟨h', e, wr⟩ := gsN_W v hx hz hi hl
  have p := wr.P hρ
  refine ⟨h', e, ⟨⟨p _ _ (by rw [r.1]; omega) p1, r.len (by rw [wr.2.2.1]; exact Nat.le_refl _)⟩, p2.kp r p (by omega), p3.kp r p (by omega), ⟨p4.kp r p (by omega) (by omega) (by omega), p5.kp r p (by omega) (by omega) (by omega), p6.kp r p (by omega) (by omega) (by omega), p7.kp r p (by omega) (by omega) (by omega)⟩, ⟨⟨y0, y1, p _ _ (r.la (by omega) (by omega)) e1, ⟨p _ _ (by rw [e2']; omega) e2, e2'⟩, ⟨p _ _ (by rw [e3']; omega) e3, e3'⟩⟩, aFa_mono2 (fun y f hy w => ⟨by rw [wr.2.1 y (fun q => hn 0 (by omega) (q ▸ hy))]; exact w.1, w.2⟩) e4, aFa_mono2 (fun y f hy w => ⟨by rw [wr.2.1 y (fun q => hn 1 (by omega) (q ▸ hy))]; exact w.1, w.2⟩) e5, e6⟩, p9.kp r p (by omega) (by omega) (by omega), p10.kp r p (by omega) (by omega) (by omega)⟩, wr.1, wr.C hρ (by omega)⟩
theorem O_send_74B (z : Int) (k52 : Int → gH → Option gH) {y w : Nat} {L : List Nat} (hL : L.length ≤ 100) (hy : gat h y = some (.inr (.inl (4, L.map some)))) : ∀ (q p : List Nat) (n : Nat), L = p ++ q → q.length < n → f_O_send_74 u z k52 n (some w) y (L.length : Int) (p.length : Int) h = f_O_send_109 u z k52 (some w) h
  | [], p, n + 1, e1, hn => by
    rw [List.append_nil] at e1
    subst e1
    rw [f_O_send_74, if_neg (by omega)]
  | x :: q, p, n + 1, e1, hn => by
    have e2 : L.length = p.length + (q.length + 1) := by rw [e1, List.length_append]; rfl
    have hml : (L.map some).length = L.length := List.length_map _
    have hg : (L.map some).getD p.length none = some x := by
      have hpm : (p.map some).length = p.length := List.length_map _
      rw [e1, List.map_append, ← hpm]
      exact getD_mid _ _ _ _
    have ih := O_send_74B z k52 (w := w) hL hy q (p ++ [x]) n (by rw [e1, List.append_assoc]; rfl) (by simp only [List.length_cons] at hn; omega)
    rw [len_snoc] at ih
    rw [f_O_send_74, if_pos (by rw [xw_nat (by omega), xw_nat (by omega)]; omega), gaK_N hy (by omega) (by omega), hg, Option.bind_some, if_neg (fun q => by cases q)]
    unfold f_O_send_103
    exact ih
  | _, _, 0, _, hn => by omega
theorem O_send_74A (z : Int) (k52 : Int → gH → Option gH) {y : Nat} {L : List Nat} (hL : L.length ≤ 100) {B : Int} (hB : B ≤ 2147483647) (hy : gat h y = some (.inr (.inl (4, L.map some)))) : ∀ (q : List Nat) (lq : List (List Int)) (p : List Nat) (n : Nat), L = p ++ q → aFa (oRow h ρ) q lq → (∀ f, f ∈ lq → 3 ≤ f.length ∧ f.length ≤ 100 ∧ aRl B f) → q.length < n → f_O_send_74 u z k52 n none y (L.length : Int) (p.length : Int) h = f_O_send_109 u z k52 (if aFst 1 lq < lq.length then some (q.getD (aFst 1 lq) 0) else none) h
  | [], [], p, n + 1, e1, hq, hf, hn => by
    rw [List.append_nil] at e1
    subst e1
    rw [f_O_send_74, if_neg (by omega)]
    rfl
  | [], _ :: _, _, n + 1, _, hq, _, _ => hq.elim
  | _ :: _, [], _, n + 1, _, hq, _, _ => hq.elim
  | x :: q, f :: lq, p, n + 1, e1, hq, hf, hn => by
    have e2 : L.length = p.length + (q.length + 1) := by rw [e1, List.length_append]; rfl
    have e6 : L = (p ++ [x]) ++ q := by rw [e1, List.append_assoc]; rfl
    have hn' : q.length < n := by simp only [List.length_cons] at hn; omega
    have hml : (L.map some).length = L.length := List.length_map _
    have hg : (L.map some).getD p.length none = some x := by
      have hpm : (p.map some).length = p.length := List.length_map _
      rw [e1, List.map_append, ← hpm]
      exact getD_mid _ _ _ _
    obtain ⟨f1, f2, f3⟩ := hf f List.mem_cons_self
    have hg2 : aB B (f.getD 2 0) := by
      rw [List.getD_eq_getElem?_getD, List.getElem?_eq_getElem (by omega)]
      exact f3 _ (List.getElem_mem _)
    rw [f_O_send_74, if_pos (by rw [xw_nat (by omega), xw_nat (by omega)]; omega), gaK_N hy (by omega) (by omega), hg, Option.bind_some, if_pos rfl, gaN_z (i := 2) (z := 2) hq.1.1 rfl (by omega) (by omega), Option.bind_some, hg2.xw hB, show xw 1 = 1 by decide, aFst_cons]
    unfold f_O_send_103
    by_cases hc : f.getD 2 0 = 1
    · have ih := O_send_74B (u := u) z k52 (w := x) hL hy q (p ++ [x]) n e6 hn'
      rw [len_snoc] at ih
      rw [if_pos hc, if_pos hc, if_pos (by rw [List.length_cons]; omega)]
      exact ih
    · have ih := O_send_74A z k52 hL hB hy q lq (p ++ [x]) n e6 hq.2 (fun f hf' => hf f (List.mem_cons_of_mem _ hf')) hn'
      rw [len_snoc] at ih
      rw [if_neg hc, if_neg hc, ih, List.length_cons]
      by_cases h9 : aFst 1 lq < lq.length
      · rw [if_pos h9, if_pos (by omega), List.getD_cons_succ]
      · rw [if_neg h9, if_neg (by omega)]
  | _, _, _, 0, _, _, _, hn => by omega
theorem O_send_264 (z : Int) (k52 : Int → gH → Option gH) (x2 x4 : Int) {x : Nat} {l : List Int} (hl : l.length ≤ 8) : ∀ (q p base : List Int) (n x6 : Nat) (h : gH), gat h x = some (.inl (0, l)) → gat h x6 = some (.inl (0, base)) → base.length = 3 + p.length → l = p ++ q → q.length < n → ∃ (x' : Nat) (g : gH), f_O_send_264 u z k52 n x2 x4 x6 x (l.length : Int) (p.length : Int) h = f_O_send_293 u z k52 x2 x4 x' (h ++ g) ∧ gat (h ++ g) x' = some (.inl (0, base ++ q)) ∧ ((q = [] ∧ x' = x6) ∨ 2000 + h.length ≤ x') ∧ g.length = q.length ∧ gsl g ≤ 11 * g.length
  | [], p, base, n + 1, x6, h, ha, hb, hc, e1, _ => by
    rw [List.append_nil] at e1
    subst e1
    refine ⟨x6, [], ?_, by rw [List.append_nil, List.append_nil]; exact hb, Or.inl ⟨rfl, rfl⟩, rfl, Nat.le_refl _⟩
    rw [f_O_send_264, if_neg (by omega), List.append_nil]
  | v :: q, p, base, n + 1, x6, h, ha, hb, hc, e1, hn => by
    have e2 : l.length = p.length + (q.length + 1) := by rw [e1, List.length_append]; rfl
    have e5 : l.getD p.length 0 = v := by rw [e1, getD_mid]
    have e6 : l = (p ++ [v]) ++ q := by rw [e1, List.append_assoc]; rfl
    have hn' : q.length < n := by simp only [List.length_cons] at hn; omega
    obtain ⟨x', g, k1, k2, k3, k4, k5⟩ := O_send_264 z k52 x2 x4 hl q (p ++ [v]) (base ++ [v]) n (2000 + h.length) (h ++ [.inl (0, base ++ [v])]) (gat_lt ha _) (gat_nw h _ []) (by rw [List.length_append, List.length_append]; simp only [List.length_cons, List.length_nil]; omega) e6 hn'
    refine ⟨x', .inl (0, base ++ [v]) :: g, ?_, ?_, Or.inr ?_, by rw [List.length_cons, k4]; rfl, ?_⟩
    · rw [f_O_send_264, if_pos (by rw [xw_nat (by omega), xw_nat (by omega)]; omega), gaN_N ha (by omega) (by omega), Option.bind_some, e5, O_with v hb (by omega), Option.bind_some, ← len_snoc p v]
      dsimp only
      rw [k1, List.append_assoc]
      rfl
    · rw [List.append_assoc, List.append_assoc] at k2
      exact k2
    · rcases k3 with k3 | k3
      · rw [k3.2]; exact Nat.le_refl _
      · rw [List.length_append] at k3; omega
    · show (base ++ [v]).length + gsl g ≤ 11 * (g.length + 1)
      rw [List.length_append, List.length_cons, List.length_nil]
      omega
  | _, _, _, 0, _, _, _, _, _, _, hn => by omega
/-- what sending wants of a state -/
def oSn (B : Int) (e : Nat) (s : aS) : Prop := oSm s ∧ aR B s ∧ oFw ((s.2.2 (56 + 717 * e + 26))) ∧ ((s.2.2 (56 + 717 * e + 26))).length ≤ 7 ∧ ((s.2.1 (56 + 717 * e + 10))).length ≤ 8 ∧ ((s.2.1 (56 + 717 * e + 117))).length ≤ 300 ∧ ((s.2.2 1730)).length < 199 ∧ 0 ≤ s.1 45 ∧ 0 ≤ s.1 15 ∧ s.1 15 ≤ 100
/-- a new frame is put into the row -/
theorem O_send_214 (o : OR u A R ρ a b h s) (hm : oSm s) (e : Nat) {z : Int} (hz : z = (e : Int)) (he : e < 2) (k52 : Int → gH → Option gH) {B : Int} (hB : B ≤ 900000100) (hr : aR B s) (hf : oFw ((s.2.2 (56 + 717 * e + 26)))) (hf7 : ((s.2.2 (56 + 717 * e + 26))).length ≤ 7) (hq : ((s.2.1 (56 + 717 * e + 117))).length ≤ 300) {x : Nat} (hx : oI h ρ x (((s.2.1 (56 + 717 * e + 117))).take 8)) : ∃ (R' : Nat → List Nat) (ρ' : Nat → Nat) (h' : gH), f_O_send_214 u z k52 ((min 8 ((s.2.1 (56 + 717 * e + 117))).length : Nat) : Int) x 1 h = k52 1 h' ∧ OR u A R' ρ' a b h' (aL (aF (aN s ((56 + 717 * e) + 2) (s.1 ((56 + 717 * e) + 2) + 1)) ((56 + 717 * e) + 26) ((s.2.2 (56 + 717 * e + 26)) ++ [[s.1 ((56 + 717 * e) + 2), s.1 0, 0] ++ ((s.2.1 (56 + 717 * e + 117))).take 8])) ((56 + 717 * e) + 117) (((s.2.1 (56 + 717 * e + 117))).drop 8)) ∧ hC (3 + (((s.2.1 (56 + 717 * e + 117))).take 8).length) (400 + 11 * (((s.2.1 (56 + 717 * e + 117))).take 8).length) ρ h ρ' h' := by
  have he2 : e = 0 ∨ e = 1 := by omega
  have hlb : (((s.2.1 (56 + 717 * e + 117))).take 8).length ≤ 8 := by rw [List.length_take]; omega
  unfold f_O_send_214
  rw [if_neg (by decide), gNw_z 0 h (n := 3) (z := 3) rfl (by omega), Option.bind_some]
  dsimp only
  obtain ⟨F, hF⟩ : ∃ F, F = 2000 + h.length := ⟨_, rfl⟩
  have hlen : (h ++ [Sum.inl (0, List.replicate 3 0)] : gH).length = h.length + 1 := by rw [List.length_append]; rfl
  have o1 : OR u A R (fun y => if y = F then 6 else ρ y) a b (h ++ [.inl (0, List.replicate 3 0)]) s := o.rhoA _ (fun y hy => by rw [if_neg (by omega)]) (fun y hy => by rw [if_neg (by omega)]; exact o.1.2.2.2.1 y (by omega)) (fun y => by
    by_cases c : y = F
    · rw [if_pos c]; omega
    · rw [if_neg c]; exact o.1.2.2.2.2 y)
  have hnF : ∀ e', e' < 2 → F ∉ R e' := fun e' he' hmem => by
    have := o.inR e' he' F hmem
    omega
  have c1 : hC 1 3 ρ h (fun y => if y = F then 6 else ρ y) (h ++ [.inl (0, List.replicate 3 0)]) := ⟨⟨by omega, by omega, by rw [gsl_push]; exact Nat.le_refl _⟩, fun y c hy ey => ⟨gat_lt ey _, by
    have := (gat_in ey).2
    dsimp only
    rw [if_neg (by omega)]⟩⟩
  obtain ⟨ρ1, hρ1⟩ : ∃ ρ1 : Nat → Nat, ρ1 = fun y => if y = F then 6 else ρ y := ⟨_, rfl⟩
  rw [← hρ1] at o1 c1
  have rF : ρ1 F = 6 := by rw [hρ1]; dsimp only; rw [if_pos rfl]
  have gF : gat (h ++ [.inl (0, List.replicate 3 0)]) F = some (.inl (0, [0, 0, 0])) := by rw [hF]; exact gat_nw _ _ []
  rw [← hF, o1.k22, Option.bind_some, o1.next e hz he, Option.bind_some]
  obtain ⟨h2, a1, a2, a3, a4⟩ := o1.wnext2 hm e hz he (s.1 ((56 + 717 * e) + 2) + 1)
  rw [a1, Option.bind_some]
  have g2 := a4 F _ (by rw [rF]; omega) gF
  obtain ⟨h3, b1, b2, b3, b4⟩ := a2.wfree (i := 0) (z := 0) (s.1 ((56 + 717 * e) + 2)) g2 rF hnF rfl (by show 0 < 3; omega) (by show 3 < 100000; omega)
  have e0 : (aN s ((56 + 717 * e) + 2) (s.1 ((56 + 717 * e) + 2) + 1)).1 0 = s.1 0 := by rw [aN_1, if_neg (by omega)]
  rw [b1, Option.bind_some, b2.f0, Option.bind_some, e0]
  obtain ⟨h4, d1, d2, d3, d4⟩ := b2.wfree (i := 1) (z := 1) (s.1 0) b3 rF hnF rfl (by show 1 < 3; omega) (by show 3 < 100000; omega)
  rw [d1, Option.bind_some]
  obtain ⟨h5, f1, f2, f3, f4⟩ := d2.wfree (i := 2) (z := 2) 0 d3 rF hnF rfl (by show 2 < 3; omega) (by show 3 < 100000; omega)
  rw [f1, Option.bind_some]
  have c5 := (((c1.tr a3).tr b4).tr d4).tr f4
  have hx5 := c5.oI hx
  rw [glc_N hx5.1 (Or.inl rfl), Option.bind_some]
  have f3' : gat h5 F = some (.inl (0, [s.1 ((56 + 717 * e) + 2), s.1 0, 0])) := f3
  obtain ⟨x', g, k1, k2, k3, k4, k5⟩ := O_send_264 (u := u) z k52 1 ((min 8 ((s.2.1 (56 + 717 * e + 117))).length : Nat) : Int) (x := x) hlb (((s.2.1 (56 + 717 * e + 117))).take 8) [] [s.1 ((56 + 717 * e) + 2), s.1 0, 0] fu F h5 hx5.1 f3' rfl rfl (by show _ < 5000; omega)
  have k1' : f_O_send_264 u z k52 fu 1 ((min 8 ((s.2.1 (56 + 717 * e + 117))).length : Nat) : Int) F x ((((s.2.1 (56 + 717 * e + 117))).take 8).length : Int) 0 h5 = _ := k1
  rw [k1']
  have h5l : h.length + 1 ≤ h5.length := by have := c5.1.1; have w1 := a3.1.1; have w2 := b4.1.1; have w3 := d4.1.1; have w4 := f4.1.1; omega
  have hx'R : ∀ e', e' < 2 → x' ∉ R e' := fun e' he' hmem => by
    rcases k3 with k3 | k3
    · rw [k3.2] at hmem; exact hnF e' he' hmem
    · have := f2.inR e' he' x' hmem; omega
  have hx'F : x' = F ∨ 2000 + h5.length ≤ x' := by
    rcases k3 with k3 | k3
    · exact Or.inl k3.2
    · exact Or.inr k3
  have hgl : (h5 ++ g).length = h5.length + g.length := List.length_append
  have hx'in := (gat_in k2).2
  have o6 : OR u A R (fun y => if y = x' then 6 else ρ1 y) a b (h5 ++ g) (aN s ((56 + 717 * e) + 2) (s.1 ((56 + 717 * e) + 2) + 1)) := f2.rhoA g (fun y hy => by
    by_cases c : y = x'
    · rw [if_pos c]
      rcases hx'F with w | w
      · rw [c, w, rF]
      · omega
    · rw [if_neg c]) (fun y hy => by rw [if_neg (by omega)]; exact f2.1.2.2.2.1 y (by omega)) (fun y => by
    by_cases c : y = x'
    · rw [if_pos c]; omega
    · rw [if_neg c]; exact f2.1.2.2.2.2 y)
  have c6 : hC g.length (gsl g) ρ1 h5 (fun y => if y = x' then 6 else ρ1 y) (h5 ++ g) := ⟨⟨by omega, by omega, by rw [gsl_app]; exact Nat.le_refl _⟩, fun y c hy ey => ⟨gat_lt ey _, by
    have := (gat_in ey).2
    dsimp only
    rw [if_neg (fun w => by
      rcases hx'F with w' | w'
      · rw [w, w', rF] at hy; omega
      · omega)]⟩⟩
  obtain ⟨ρ2, hρ2⟩ : ∃ ρ2 : Nat → Nat, ρ2 = fun y => if y = x' then 6 else ρ1 y := ⟨_, rfl⟩
  rw [← hρ2] at o6 c6
  have rx' : ρ2 x' = 6 := by rw [hρ2]; dsimp only; rw [if_pos rfl]
  have c7 := c5.tr c6
  unfold f_O_send_293
  obtain ⟨y, i1, ⟨i2, i2'⟩, i3, i4⟩ := o6.frs e hz he
  have eF : (aN s ((56 + 717 * e) + 2) (s.1 ((56 + 717 * e) + 2) + 1)).2.2 ((56 + 717 * e) + 26) = (s.2.2 (56 + 717 * e + 26)) := rfl
  rw [eF] at i3
  have hRl := aFa_len i3
  have hmr := O_more i2 ⟨_, k2⟩ (fun w hw => by
    obtain ⟨f, hf', h2⟩ := aFa_mem i3 hw
    exact gRow_of h2) (by omega)
  rw [o6.k28, Option.bind_some, Option.bind_some, i1, Option.bind_some, hmr, Option.bind_some]
  dsimp only
  have o7 := o6.app [.inr (.inl (4, ((R e) ++ [x']).map some))]
  have hdis := o6.dis e he
  obtain ⟨h8, j1, j2, j3⟩ := o7.wfrs e hz he (y := 2000 + (h5 ++ g).length) (r' := R e ++ [x']) (l := (s.2.2 (56 + 717 * e + 26)) ++ [[s.1 ((56 + 717 * e) + 2), s.1 0, 0] ++ ((s.2.1 (56 + 717 * e + 117))).take 8]) ⟨gat_nw _ _ [], o6.1.2.2.2.1 _ (Nat.le_refl _)⟩ (aFa_app (aFa_mono (fun y f w => ⟨gat_lt w.1 _, w.2⟩) i3) ⟨⟨gat_lt k2 _, rx'⟩, trivial⟩) (List.nodup_append.mpr ⟨i4, List.nodup_cons.mpr ⟨List.not_mem_nil, List.nodup_nil⟩, fun p hp q hq => by
    rw [List.mem_singleton] at hq
    rw [hq]
    exact fun w => hx'R e he (w ▸ hp)⟩) (fun w hw => by
    rcases List.mem_append.mp hw with hw | hw
    · exact hdis w hw
    · rw [List.mem_singleton] at hw
      rw [hw]
      exact hx'R (1 - e) (by omega))
  rw [j1, Option.bind_some, j2.k18, Option.bind_some]
  obtain ⟨yq, l1, l2⟩ := j2.que e hz he
  have eQ : (aF (aN s ((56 + 717 * e) + 2) (s.1 ((56 + 717 * e) + 2) + 1)) ((56 + 717 * e) + 26) ((s.2.2 (56 + 717 * e + 26)) ++ [[s.1 ((56 + 717 * e) + 2), s.1 0, 0] ++ ((s.2.1 (56 + 717 * e + 117))).take 8])).2.1 ((56 + 717 * e) + 117) = (s.2.1 (56 + 717 * e + 117)) := rfl
  rw [eQ] at l2
  rw [Option.bind_some, l1, Option.bind_some, Option.bind_some, l1, Option.bind_some, glc_N l2.1 (Or.inl rfl), Option.bind_some, O_part l2.1 (by omega) (Nat.min_le_right _ _) (Nat.le_refl _), Option.bind_some]
  dsimp only
  have ed : (((s.2.1 (56 + 717 * e + 117))).drop (min 8 ((s.2.1 (56 + 717 * e + 117))).length)).take (((s.2.1 (56 + 717 * e + 117))).length - min 8 ((s.2.1 (56 + 717 * e + 117))).length) = ((s.2.1 (56 + 717 * e + 117))).drop 8 := by
    rw [List.take_of_length_le (by rw [List.length_drop]; exact Nat.le_refl _), drop_min8]
  rw [ed]
  obtain ⟨h9, m1, m2, m3⟩ := (j2.app [.inl (0, ((s.2.1 (56 + 717 * e + 117))).drop 8)]).wque e hz he (x := 2000 + h8.length) (l := ((s.2.1 (56 + 717 * e + 117))).drop 8) ⟨gat_nw _ _ [], j2.1.2.2.2.1 _ (Nat.le_refl _)⟩
  rw [m1, Option.bind_some]
  have c9 := (((c7.tr (hC.app ρ2 (h5 ++ g) [.inr (.inl (4, ((R e) ++ [x']).map some))])).tr j3).tr (hC.app ρ2 h8 [.inl (0, ((s.2.1 (56 + 717 * e + 117))).drop 8)])).tr m3
  refine ⟨_, ρ2, h9, rfl, m2, c9.le ?_ ?_⟩
  · show 1 + 0 + 0 + 0 + 0 + g.length + 1 + 0 + 1 + 0 ≤ _
    omega
  · have w1 : gsl [Sum.inr (Sum.inl (4, ((R e) ++ [x']).map some))] = (R e).length + 1 := by
      show (((R e) ++ [x']).map some).length + 0 = _
      rw [List.length_map, List.length_append]; rfl
    have w2 : gsl [Sum.inl (0, ((s.2.1 (56 + 717 * e + 117))).drop 8)] = ((s.2.1 (56 + 717 * e + 117))).length - 8 := by
      show (((s.2.1 (56 + 717 * e + 117))).drop 8).length + 0 = _
      rw [List.length_drop]; rfl
    rw [w1, w2]
    omega
end

/-! ===== the own line: an end sends all that it can; what would be lost ===== -/
def aLoopC (e : Nat) : Nat → aS → Nat
  | 0, s => aStepC e s
  | k + 1, s => aStepC e s + match aStep e s with
    | none => 0
    | some t => aLoopC e k t
def aLoopZ (e : Nat) : Nat → aS → Nat
  | 0, s => aStepZ e s
  | k + 1, s => aStepZ e s + match aStep e s with
    | none => 0
    | some t => aLoopZ e k t
section
variable {u : Nat} {A ρ : Nat → Nat} {R : Nat → List Nat} {a b : Int} {h : gH} {s : aS}
theorem OO.step (o : OO u A ρ h s) (e : Nat) {z : Int} (hz : z = (e : Int)) (he : e < 2) (n : Nat) {B : Int} (hB : B ≤ 900000000) (hd : oSn B e s) : ∃ (ρ' : Nat → Nat) (h' : gH), f_O_send_52 u z (n + 1) 1 h = f_O_send_52 u z n (if (aStep e s).isSome then 1 else 0) h' ∧ OO u A ρ' h' ((aStep e s).getD s) ∧ hC (aStepC e s) (aStepZ e s) ρ h ρ' h' := by
  obtain ⟨R, o⟩ := o
  obtain ⟨y, f1, ⟨f2, f2'⟩, f3, f4⟩ := o.frs e hz he
  have hml : ((R e).map some).length = (R e).length := List.length_map _
  have hRl := aFa_len f3
  have hf := hd.2.2.1
  rw [f_O_send_52, if_neg (by decide), o.k28, Option.bind_some, f1, Option.bind_some, glc_Q f2 (Or.inl rfl), Option.bind_some, hml]
  have hA := O_send_74A (u := u) (ρ := ρ) z (f_O_send_52 u z n) (by have := hf.1; omega) (by omega : B ≤ 2147483647) f2 (R e) ((s.2.2 (56 + 717 * e + 26))) [] fu rfl f3 (fun f h' => ⟨by have := hf.2 f h'; omega, by have := hf.2 f h'; omega, hd.2.1.2.2 _ f h'⟩) (by have := hf.1; show _ < 5000; omega)
  have hA' : f_O_send_74 u z (f_O_send_52 u z n) fu none y ((R e).length : Int) 0 h = _ := hA
  rw [hA']
  by_cases hp : aFst 1 ((s.2.2 (56 + 717 * e + 26))) < ((s.2.2 (56 + 717 * e + 26))).length
  · rw [if_pos hp]
    obtain ⟨h', k1, k2, k3⟩ := O_again o e _ hz he (f_O_send_52 u z n) hB hd hp
    refine ⟨ρ, h', ?_, ?_, ?_⟩
    · rw [k1]
      unfold aStep
      rw [if_pos hp]
      by_cases hc : s.1 ((56 + 717 * e) + 5) < aCost e ((((s.2.2 (56 + 717 * e + 26))).getD (aFst 1 ((s.2.2 (56 + 717 * e + 26)))) []).drop 3) s
      · rw [if_pos hc, if_pos hc]; rfl
      · rw [if_neg hc, if_neg hc]; rfl
    · unfold aStep
      rw [if_pos hp]
      by_cases hc : s.1 ((56 + 717 * e) + 5) < aCost e ((((s.2.2 (56 + 717 * e + 26))).getD (aFst 1 ((s.2.2 (56 + 717 * e + 26)))) []).drop 3) s
      · rw [if_pos hc] at k2 ⊢; exact k2
      · rw [if_neg hc] at k2 ⊢; exact k2
    · unfold aStepC aStepZ
      rw [if_pos hp, if_pos hp]
      exact k3
  · rw [if_neg hp]
    exact O_new o e hz he (f_O_send_52 u z n) hB hd hp
theorem O_send_52 (e : Nat) {z : Int} (hz : z = (e : Int)) (he : e < 2) {B : Int} (hB : B ≤ 900000000) (J : Nat → aS → Prop) (hJ : ∀ k s, J k s → oSn B e s ∧ ∀ t, aStep e s = some t → ∃ k', k = k' + 1 ∧ J k' t) : ∀ (k n : Nat) (h : gH) (s : aS) (ρ : Nat → Nat), J k s → OO u A ρ h s → k + 1 < n → ∃ (ρ' : Nat → Nat) (h' : gH), f_O_send_52 u z n 1 h = some h' ∧ OO u A ρ' h' (aLoop e k s) ∧ hC (aLoopC e k s) (aLoopZ e k s) ρ h ρ' h'
  | k, 0, _, _, _, _, _, hn => by omega
  | k, 1, _, _, _, _, _, hn => by omega
  | 0, n + 2, h, s, ρ, hj, o, hn => by
    obtain ⟨j1, j2⟩ := hJ 0 s hj
    obtain ⟨ρ', h', k1, k2, k3⟩ := o.step e hz he (n + 1) hB j1
    have hs : aStep e s = none := by
      cases hc : aStep e s with
      | none => rfl
      | some t => obtain ⟨k', w, _⟩ := j2 t hc; omega
    rw [hs] at k1 k2
    refine ⟨ρ', h', ?_, k2, k3⟩
    rw [k1]
    show f_O_send_52 u z (n + 1) 0 h' = _
    rw [f_O_send_52, if_pos (by decide)]
  | k + 1, n + 2, h, s, ρ, hj, o, hn => by
    obtain ⟨j1, j2⟩ := hJ (k + 1) s hj
    obtain ⟨ρ', h', k1, k2, k3⟩ := o.step e hz he (n + 1) hB j1
    cases hc : aStep e s with
    | none =>
      rw [hc] at k1 k2
      refine ⟨ρ', h', ?_, ?_, ?_⟩
      · rw [k1]
        show f_O_send_52 u z (n + 1) 0 h' = _
        rw [f_O_send_52, if_pos (by decide)]
      · rw [aLoop, hc]; exact k2
      · rw [aLoopC, aLoopZ, hc]; exact k3
    | some t =>
      rw [hc] at k1 k2
      obtain ⟨k', w, j3⟩ := j2 t hc
      have w' : k' = k := by omega
      subst w'
      obtain ⟨ρ'', h'', m1, m2, m3⟩ := O_send_52 e hz he hB J hJ k' (n + 1) h' t ρ' j3 k2 (by omega)
      refine ⟨ρ'', h'', ?_, ?_, ?_⟩
      · rw [k1]; exact m1
      · rw [aLoop, hc]; exact m2
      · rw [aLoopC, aLoopZ, hc]; exact k3.tr m3
def aSendC (e : Nat) (s : aS) : Nat := if s.1 ((56 + 717 * e) + 6) = 0 then aLoopC e 120 (aCred e s) else 0
def aSendZ (e : Nat) (s : aS) : Nat := if s.1 ((56 + 717 * e) + 6) = 0 then aLoopZ e 120 (aCred e s) else 0
theorem OO.send (o : OO u A ρ h s) (hm : oSm s) (e : Nat) {z : Int} (hz : z = (e : Int)) (he : e < 2) {B : Int} (hB : B ≤ 900000000) (hr : aR B s) (h3 : 0 ≤ s.1 3 ∧ s.1 3 < s.1 11) (J : Nat → aS → Prop) (hJ : ∀ k s, J k s → oSn B e s ∧ ∀ t, aStep e s = some t → ∃ k', k = k' + 1 ∧ J k' t) (hj : J 120 (aCred e s)) : ∃ (ρ' : Nat → Nat) (h' : gH), f_O_send u z h = some h' ∧ OO u A ρ' h' (aSend e s) ∧ hC (aSendC e s) (aSendZ e s) ρ h ρ' h' := by
  have he2 : e = 0 ∨ e = 1 := by omega
  obtain ⟨R, o⟩ := o
  have hsp := o.speed hm (s.1 3).toNat (z := s.1 3) (by omega) (by omega)
  have r5 := hr.1 ((56 + 717 * e) + 5)
  have rs := hr.1 (35 + (s.1 3).toNat)
  unfold aB at r5 rs
  unfold f_O_send
  rw [o.k25, Option.bind_some, Option.bind_some, o.cred e hz he, Option.bind_some, o.k12, Option.bind_some, o.f3, Option.bind_some, hsp, Option.bind_some, Option.bind_some, Option.bind_some, hsp, Option.bind_some, xw_id (x := s.1 (35 + (s.1 3).toNat) + 28) (by omega) (by omega), xw_id (x := s.1 ((56 + 717 * e) + 5) + s.1 (35 + (s.1 3).toNat)) (by omega) (by omega)]
  obtain ⟨h1, a1, a2, a3⟩ := o.wcred hm e hz he (if s.1 (35 + (s.1 3).toNat) + 28 < s.1 ((56 + 717 * e) + 5) + s.1 (35 + (s.1 3).toNat) then s.1 (35 + (s.1 3).toNat) + 28 else s.1 ((56 + 717 * e) + 5) + s.1 (35 + (s.1 3).toNat))
  have e6 : (aCred e s).1 ((56 + 717 * e) + 6) = s.1 ((56 + 717 * e) + 6) := by unfold aCred; rw [aN_1, if_neg (by omega)]
  have a2' : OR u A R ρ (((s.2.2 1490)).length : Int) (((s.2.2 1730)).length : Int) h1 (aCred e s) := a2
  rw [a1, Option.bind_some, a2'.k26, Option.bind_some, a2'.esc e hz he, Option.bind_some, e6, (hr.1 ((56 + 717 * e) + 6)).xw (by omega)]
  have o1 : OO u A ρ h1 (aCred e s) := ⟨R, a2'⟩
  unfold aSend aSendC aSendZ f_O_send_51
  by_cases hc : s.1 ((56 + 717 * e) + 6) = 0
  · rw [if_pos hc, if_pos hc, if_pos hc, if_pos hc]
    obtain ⟨ρ', h2, k1, k2, k3⟩ := O_send_52 e hz he hB J hJ 120 fu h1 (aCred e s) ρ hj o1 (by show _ < 5000; omega)
    exact ⟨ρ', h2, k1, k2, (a3.tr k3).le (by omega) (by omega)⟩
  · rw [if_neg hc, if_neg hc, if_neg hc, if_neg hc]
    refine ⟨ρ, h1, ?_, o1, a3⟩
    show f_O_send_52 u z (4999 + 1) 0 h1 = _
    rw [f_O_send_52, if_pos (by decide)]
theorem O_losing_33 (k4 : Int → Int → Option Int) (e : Nat) {z : Int} (hz : z = (e : Int)) (he : e < 2) {B : Int} (hB : B ≤ 2147483647) (o : OR u A R ρ a b h s) (hr : aR B s) {y : Nat} {L : List Nat} (hL : L.length ≤ 100) (hy : gat h y = some (.inr (.inl (4, L.map some)))) : ∀ (q : List Nat) (lq : List (List Int)) (p : List Nat) (n : Nat) (x1 : Int), L = p ++ q → aFa (oRow h ρ) q lq → (∀ f, f ∈ lq → 3 ≤ f.length ∧ f.length ≤ 100 ∧ aRl B f) → q.length < n → f_O_losing_33 u h k4 n x1 z y (L.length : Int) (p.length : Int) = k4 (x1 + aLostF (s.1 ((56 + 717 * (1 - e)) + 3)) lq) (z + 1)
  | [], [], p, n + 1, x1, e1, hq, hf, hn => by
    rw [List.append_nil] at e1
    subst e1
    rw [f_O_losing_33, if_neg (by omega), aLostF, Int.add_zero]
    rfl
  | [], _ :: _, _, n + 1, _, _, hq, _, _ => hq.elim
  | _ :: _, [], _, n + 1, _, _, hq, _, _ => hq.elim
  | x :: q, f :: lq, p, n + 1, x1, e1, hq, hf, hn => by
    have e2 : L.length = p.length + (q.length + 1) := by rw [e1, List.length_append]; rfl
    have e6 : L = (p ++ [x]) ++ q := by rw [e1, List.append_assoc]; rfl
    have hn' : q.length < n := by simp only [List.length_cons] at hn; omega
    have hml : (L.map some).length = L.length := List.length_map _
    have hg : (L.map some).getD p.length none = some x := by
      have hpm : (p.map some).length = p.length := List.length_map _
      rw [e1, List.map_append, ← hpm]
      exact getD_mid _ _ _ _
    obtain ⟨f1, f2, f3⟩ := hf f List.mem_cons_self
    have hg0 : aB B (f.getD 0 0) := by
      rw [List.getD_eq_getElem?_getD, List.getElem?_eq_getElem (by omega)]
      exact f3 _ (List.getElem_mem _)
    have ih := fun x1 => O_losing_33 k4 e hz he hB o hr hL hy q lq (p ++ [x]) n x1 e6 hq.2 (fun f hf' => hf f (List.mem_cons_of_mem _ hf')) hn'
    rw [len_snoc] at ih
    rw [f_O_losing_33, if_pos (by rw [xw_nat (by omega), xw_nat (by omega)]; omega), gaK_N hy (by omega) (by omega), hg, Option.bind_some, gaN_z (i := 0) (z := 0) hq.1.1 rfl (by omega) (by omega), Option.bind_some, o.k23, Option.bind_some, o.exp (1 - e) (by omega) (by omega), Option.bind_some, hg0.xw hB, (hr.1 _).xw hB, aLostF]
    unfold f_O_losing_71
    by_cases hc : f.getD 0 0 < s.1 ((56 + 717 * (1 - e)) + 3)
    · rw [if_pos hc, if_pos hc, ih, Int.zero_add, Int.add_zero]
    · rw [if_neg hc, if_neg hc, glc_N hq.1.1 (Or.inl rfl), Option.bind_some, ih, Int.add_assoc]
  | _, _, _, 0, _, _, _, _, hn => by omega
theorem OO.losing (o : OO u A ρ h s) {B : Int} (hB : B ≤ 2147483647) (hr : aR B s) (hf : ∀ e, e < 2 → oFw ((s.2.2 (56 + 717 * e + 26)))) : f_O_losing u h = some (aLosing s) := by
  obtain ⟨R, o⟩ := o
  have one : ∀ (n e : Nat) (x1 : Int), e < 2 → f_O_losing_4 u h (n + 1) x1 (e : Int) = f_O_losing_4 u h n (x1 + (((s.2.1 (56 + 717 * e + 117))).length : Int) + aLostF (s.1 ((56 + 717 * (1 - e)) + 3)) ((s.2.2 (56 + 717 * e + 26)))) ((e : Int) + 1) := fun n e x1 he => by
    obtain ⟨yq, y1, y2⟩ := o.que e rfl he
    obtain ⟨y, f1, ⟨f2, f2'⟩, f3, f4⟩ := o.frs e rfl he
    have hml : ((R e).map some).length = (R e).length := List.length_map _
    have hRl := aFa_len f3
    have hfe := hf e he
    rw [f_O_losing_4, if_pos (by rw [xw_nat (by omega), show xw 2 = 2 by decide]; omega), o.k18, Option.bind_some, y1, Option.bind_some, glc_N y2.1 (Or.inl rfl), Option.bind_some, o.k28, Option.bind_some, f1, Option.bind_some, glc_Q f2 (Or.inl rfl), Option.bind_some, hml]
    have h33 := O_losing_33 (f_O_losing_4 u h n) e (z := (e : Int)) rfl he hB o hr (by have := hfe.1; omega) f2 (R e) ((s.2.2 (56 + 717 * e + 26))) [] fu (x1 + (((s.2.1 (56 + 717 * e + 117))).length : Int)) rfl f3 (fun f h' => ⟨by have := hfe.2 f h'; omega, by have := hfe.2 f h'; omega, hr.2.2 _ f h'⟩) (by have := hfe.1; show _ < 5000; omega)
    exact h33
  unfold f_O_losing
  have s0 := one 4999 0 0 (by omega)
  have s1 := one 4998 1 (0 + (((s.2.1 (56 + 717 * 0 + 117))).length : Int) + aLostF (s.1 ((56 + 717 * 1) + 3)) ((s.2.2 (56 + 717 * 0 + 26)))) (by omega)
  have s0' : f_O_losing_4 u h fu 0 0 = f_O_losing_4 u h 4999 (0 + (((s.2.1 (56 + 717 * 0 + 117))).length : Int) + aLostF (s.1 ((56 + 717 * 1) + 3)) ((s.2.2 (56 + 717 * 0 + 26)))) 1 := s0
  have s1' : f_O_losing_4 u h 4999 (0 + (((s.2.1 (56 + 717 * 0 + 117))).length : Int) + aLostF (s.1 ((56 + 717 * 1) + 3)) ((s.2.2 (56 + 717 * 0 + 26)))) 1 = f_O_losing_4 u h (4997 + 1) (0 + (((s.2.1 (56 + 717 * 0 + 117))).length : Int) + aLostF (s.1 ((56 + 717 * 1) + 3)) ((s.2.2 (56 + 717 * 0 + 26))) + (((s.2.1 (56 + 717 * 1 + 117))).length : Int) + aLostF (s.1 ((56 + 717 * 0) + 3)) ((s.2.2 (56 + 717 * 1 + 26)))) 2 := s1
  rw [s0', s1', f_O_losing_4, if_neg (by decide)]
  unfold aLosing
  congr 1
  omega
end

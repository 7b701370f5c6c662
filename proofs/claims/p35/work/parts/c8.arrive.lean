/-! ===== the own line: what arrives ===== -/
/-- what is under way has its form -/
def oIt (it : List Int) : Prop := (it.length ≤ 14 ∧ (it.getD 2 0 = 0 ∨ it.getD 2 0 = 1)) ∧ ((it.getD 1 0 = 1 ∧ 4 ≤ it.length) ∨ (it.getD 1 0 = 0 ∧ 6 ≤ it.length))
/-- what an arrival wants of a state -/
def oLd (B : Int) (it : List Int) (s : aS) : Prop := (oSm s ∧ aR B s ∧ ((s.2.2 1490)).length ≤ 60 ∧ ((s.2.2 1730)).length < 199) ∧ ∀ e, e < 2 → oFw ((s.2.2 (56 + 717 * e + 26))) ∧ ((s.2.1 (56 + 717 * e + 18))).length ≤ 8 ∧ ((s.2.1 (56 + 717 * e + 317))).length ≤ 400
theorem aRl_get {B : Int} {l : List Int} (h : aRl B l) (h0 : 0 ≤ B) (i : Nat) : aB B (l.getD i 0) := by
  rw [List.getD_eq_getElem?_getD]
  rcases (by omega : i < l.length ∨ l.length ≤ i) with q | q
  · rw [List.getElem?_eq_getElem q]; exact h _ (List.getElem_mem _)
  · rw [List.getElem?_eq_none q]
    show aB B 0
    unfold aB; omega
theorem aRecv_sc (e : Nat) (v : Int) (s : aS) (j : Nat) (h4 : j ≠ (56 + 717 * e) + 4) (h5 : j ≠ 55) : (aRecv e v s).1 j = s.1 j := by
  unfold aRecv
  rw [aN_1, if_neg h5, aN_1, if_neg h4]
  by_cases h : ((s.2.1 (56 + 717 * e + 317))).length < 400
  · rw [if_pos h]; rfl
  · rw [if_neg h]; rfl
theorem aRecv_F (e : Nat) (v : Int) (s : aS) : (aRecv e v s).2.2 = s.2.2 := by
  unfold aRecv
  by_cases h : ((s.2.1 (56 + 717 * e + 317))).length < 400
  · rw [if_pos h]; rfl
  · rw [if_neg h]; rfl
theorem aRecvs_sc (e : Nat) : ∀ (q : List Int) (s : aS) (j : Nat), j ≠ (56 + 717 * e) + 4 → j ≠ 55 → (aRecvs e q s).1 j = s.1 j
  | [], _, _, _, _ => rfl
  | v :: q, s, j, h4, h5 => by rw [aRecvs, aRecvs_sc e q _ j h4 h5, aRecv_sc e v s j h4 h5]
theorem aRecvs_F (e : Nat) : ∀ (q : List Int) (s : aS), (aRecvs e q s).2.2 = s.2.2
  | [], _ => rfl
  | v :: q, s => by rw [aRecvs, aRecvs_F e q, aRecv_F]
theorem aRecv_L (e : Nat) (he : e < 2) (v : Int) (s : aS) (j : Nat) : (aRecv e v s).2.1 j = if j = (56 + 717 * e) + 18 then aUse v ((s.2.1 (56 + 717 * e + 18))) else if j = (56 + 717 * e) + 317 ∧ ((s.2.1 (56 + 717 * e + 317))).length < 400 then (s.2.1 (56 + 717 * e + 317)) ++ [v] else s.2.1 j := by
  unfold aRecv
  rw [aN_2, aN_2]
  by_cases h : ((s.2.1 (56 + 717 * e + 317))).length < 400
  · rw [if_pos h, aL_2, aL_2]
    by_cases h1 : j = (56 + 717 * e) + 18
    · rw [if_pos h1, if_neg (by omega), if_pos h1]
    · rw [if_neg h1, if_neg h1]
      by_cases h2 : j = (56 + 717 * e) + 317
      · rw [if_pos h2, if_pos ⟨h2, h⟩]
      · rw [if_neg h2, if_neg (fun w => h2 w.1)]
  · rw [if_neg h, aL_2]
    by_cases h1 : j = (56 + 717 * e) + 18
    · rw [if_pos h1, if_pos h1]
    · rw [if_neg h1, if_neg h1, if_neg (fun w => h w.2)]
theorem aRecvs_len (e : Nat) (he : e < 2) : ∀ (q : List Int) (s : aS), (∀ e', e' < 2 → ((s.2.1 (56 + 717 * e' + 18))).length ≤ 8 ∧ ((s.2.1 (56 + 717 * e' + 317))).length ≤ 400) → ∀ e', e' < 2 → (((aRecvs e q s).2.1 (56 + 717 * e' + 18))).length ≤ 8 ∧ (((aRecvs e q s).2.1 (56 + 717 * e' + 317))).length ≤ 400
  | [], _, h => h
  | v :: q, s, h => by
    rw [aRecvs]
    refine aRecvs_len e he q _ fun e' he' => ?_
    rw [aRecv_L e he, aRecv_L e he]
    obtain ⟨h1, h2⟩ := h e' he'
    constructor
    · by_cases c : (56 + 717 * e') + 18 = (56 + 717 * e) + 18
      · rw [if_pos c]; exact aUse_len _ _
      · rw [if_neg c, if_neg (by omega)]; exact h1
    · rw [if_neg (by omega)]
      by_cases c : (56 + 717 * e') + 317 = (56 + 717 * e) + 317 ∧ ((s.2.1 (56 + 717 * e + 317))).length < 400
      · rw [if_pos c, List.length_append, List.length_singleton]; omega
      · rw [if_neg c]; exact h2
theorem aRecv_R {B : Int} (e : Nat) {v : Int} {s : aS} (h : aR B s) (hv : aB B v) (hB : 1 ≤ B) : aR (B + 1) (aRecv e v s) := by
  have x1 := h.1 ((56 + 717 * e) + 4)
  have x2 := h.1 55
  unfold aB at x1 x2
  unfold aRecv
  refine aR.N (aR.N (aR.le (B := B) ?_ (by omega)) (by unfold aB; omega)) (by unfold aB; omega)
  by_cases c : ((s.2.1 (56 + 717 * e + 317))).length < 400
  · rw [if_pos c]
    refine (h.L (aUse_R hv (h.2.1 _))).L fun x hx => ?_
    rcases List.mem_append.mp hx with hx | hx
    · exact h.2.1 _ x hx
    · rw [List.mem_singleton] at hx
      rw [hx]; exact hv
  · rw [if_neg c]
    exact h.L (aUse_R hv (h.2.1 _))
theorem aRecvs_R (e : Nat) : ∀ (q : List Int) {B : Int} {s : aS}, aR B s → aRl B q → 1 ≤ B → aR (B + q.length) (aRecvs e q s)
  | [], B, s, h, _, _ => by
    show aR (B + ((0 : Nat) : Int)) s
    exact h.le (by omega)
  | v :: q, B, s, h, hq, hB => by
    rw [aRecvs]
    have := aRecvs_R e q (aRecv_R e h (hq v List.mem_cons_self) hB) (fun x hx => (hq x (List.mem_cons_of_mem _ hx)).le (by omega)) (by omega)
    exact this.le (by rw [List.length_cons]; omega)
section
variable {u : Nat} {A ρ : Nat → Nat} {R : Nat → List Nat} {a b : Int} {h : gH} {s : aS}
theorem O_land_173 (o : OR u A R ρ a (((s.2.2 1730)).length : Int) h s) (hm : oSm s) (hf : ((s.2.2 1730)).length < 200) (e : Nat) {z : Int} (hz : z = (e : Int)) (he : e < 2) {x : Nat} {it : List Int} (hx : oI h ρ x it) (hil : 4 ≤ it.length ∧ it.length ≤ 100) : ∃ h', f_O_land_173 u x z h = some h' ∧ OR u A R ρ a ((((s.2.2 1730)).length : Int) + 1) h' (aF (aN s ((56 + 717 * e) + 3) (s.1 ((56 + 717 * e) + 3) + 1)) 1730 ((s.2.2 1730) ++ [[s.1 0 + s.1 15, 1, 1 - (e : Int), it.getD 3 0]])) ∧ hC 1 4 ρ h ρ h' := by
  have he2 : e = 0 ∨ e = 1 := by omega
  unfold f_O_land_173
  rw [o.k23, Option.bind_some, o.exp e hz he, Option.bind_some]
  obtain ⟨h1, a1, a2, a3⟩ := o.wexp hm e hz he (s.1 ((56 + 717 * e) + 3) + 1)
  have m1 := hm.N (j := (56 + 717 * e) + 3) (x := s.1 ((56 + 717 * e) + 3) + 1) (by omega)
  rw [a1, Option.bind_some, a2.k29, Option.bind_some, a2.fb, Option.bind_some]
  obtain ⟨h2, b1, b2, b3⟩ := a2.wb ((((s.2.2 1730)).length : Int) + 1)
  rw [b1, Option.bind_some, gNw_z 0 h2 (n := 4) (z := 4) rfl (by omega), Option.bind_some]
  dsimp only
  have c2 : hC 0 0 ρ h ρ h2 := (a3.tr b3).le (by omega) (by omega)
  have q : ∀ j, j ≠ (56 + 717 * e) + 3 → (aN s ((56 + 717 * e) + 3) (s.1 ((56 + 717 * e) + 3) + 1)).1 j = s.1 j := fun j hj => by rw [aN_1, if_neg hj]
  rw [(b2.app _).f0, Option.bind_some, (b2.app _).k16, Option.bind_some, (b2.app _).set 3 (z := 3) rfl (by omega), Option.bind_some, q 0 (by omega), show (aN s ((56 + 717 * e) + 3) (s.1 ((56 + 717 * e) + 3) + 1)).1 (12 + 3) = s.1 15 from q 15 (by omega)]
  rw [gsN_nz (i := 0) (z := 0) _ rfl (by show 0 < 4; omega) (by show 4 < _; omega), Option.bind_some]
  rw [gsN_nz (i := 1) (z := 1) _ rfl (by show 1 < 4; omega) (by show 4 < _; omega), Option.bind_some]
  rw [gsN_nz (i := 2) (z := 2) _ rfl (by show 2 < 4; omega) (by show 4 < _; omega), Option.bind_some]
  rw [gaN_z (i := 3) (z := 3) (gat_lt (c2.oI hx).1 _) rfl (by omega) (by omega), Option.bind_some]
  rw [gsN_nz (i := 3) (z := 3) _ rfl (by show 3 < 4; omega) (by show 4 < _; omega), Option.bind_some]
  obtain ⟨h3, d1, d2, d3⟩ := (b2.app [.inl (0, [s.1 0 + s.1 15, 1, 1 - z, it.getD 3 0])]).wfly (z := (((s.2.2 1730)).length : Int)) rfl hf (x := 2000 + h2.length) (l := [s.1 0 + s.1 15, 1, 1 - z, it.getD 3 0]) ⟨gat_nw _ _ [], b2.1.2.2.2.1 _ (Nat.le_refl _)⟩
  have d1' : gsQ 4 (h2 ++ [.inl (0, ((((List.replicate 4 0).set 0 (s.1 0 + s.1 15)).set 1 1).set 2 (1 - z)).set 3 (it.getD 3 0))]) (A 29) (((s.2.2 1730)).length : Int) (some (2000 + h2.length)) = some h3 := d1
  rw [d1', Option.bind_some]
  rw [hz] at d2
  exact ⟨h3, rfl, d2, ((c2.tr (hC.app ρ h2 _)).tr d3).le (by show 0 + 1 + 0 ≤ 1; omega) (by show 0 + (4 + 0) + 0 ≤ 4; omega)⟩
theorem aLand_sc11 (it : List Int) (s : aS) (j : Nat) (hj : j = 11 ∨ j = 19 ∨ j = 0 ∨ j = 15) : (aLand it s).1 j = s.1 j := by
  unfold aLand aAck aTake
  by_cases h1 : it.getD 1 0 = 1
  · rw [if_pos h1, aN_1, if_neg (by omega), aN_1, if_neg (by omega)]; rfl
  · rw [if_neg h1]
    by_cases h2 : it.getD 4 0 = 1 ∨ it.getD 3 0 ≠ s.1 ((56 + 717 * (it.getD 2 0).toNat) + 3)
    · rw [if_pos h2, aN_1, if_neg (by omega)]
    · rw [if_neg h2]
      dsimp only
      rw [aF_1, aN_1, if_neg (by omega), aRecvs_sc _ _ _ _ (by omega) (by omega)]
      by_cases h3 : it.getD 5 0 = 1
      · rw [if_pos h3, aTell_sc, aL_1]
      · rw [if_neg h3]
/-- cells and slots of one arrival, at most -/
def aLc (it : List Int) (s : aS) : Nat := if it.getD 1 0 = 1 then 9 else if it.getD 4 0 = 1 ∨ it.getD 3 0 ≠ s.1 ((56 + 717 * (it.getD 2 0).toNat) + 3) then 0 else 3 + 9 * (it.length - 6)
def aLz (it : List Int) (s : aS) : Nat := if it.getD 1 0 = 1 then 64 else if it.getD 4 0 = 1 ∨ it.getD 3 0 ≠ s.1 ((56 + 717 * (it.getD 2 0).toNat) + 3) then 0 else 8 + 500 * (it.length - 6)
theorem OO.land (o : OO u A ρ h s) {B : Int} (hB : B ≤ 900000000) (hB2 : 8 ≤ B) {x : Nat} {it : List Int} (hx : oI h ρ x it) (hit : oIt it) (hri : aRl B it) (hd : oLd B it s) : ∃ h', f_O_land u x h = some h' ∧ OO u A ρ h' (aLand it s) ∧ hC (aLc it s) (aLz it s) ρ h ρ h' := by
  obtain ⟨⟨hm, hr, hev, hfl⟩, hen⟩ := hd
  obtain ⟨⟨i1, i2⟩, i3⟩ := hit
  obtain ⟨e, he⟩ : ∃ e, e = (it.getD 2 0).toNat := ⟨_, rfl⟩
  have hz : it.getD 2 0 = (e : Int) := by rcases i2 with q | q <;> rw [he, q] <;> rfl
  have he2 : e < 2 := by omega
  have he3 : e = 0 ∨ e = 1 := by omega
  obtain ⟨n1, n2, n3⟩ := hen e he2
  obtain ⟨R, o⟩ := o
  unfold f_O_land
  rw [gaN_z (i := 2) (z := 2) hx.1 rfl (by omega) (by omega), Option.bind_some, gaN_z (i := 1) (z := 1) hx.1 rfl (by omega) (by omega), Option.bind_some, (aRl_get hri (by omega) 1).xw (by omega), show xw 1 = 1 by decide]
  unfold aLand aLc aLz
  rw [← he]
  by_cases h1 : it.getD 1 0 = 1
  · rw [if_pos h1, if_pos h1, if_pos h1, if_pos h1, gaN_z (i := 3) (z := 3) hx.1 rfl (by omega) (by omega), Option.bind_some]
    obtain ⟨R', h2, a1, a2, a3⟩ := o.forget e hz he2 (by omega) hr (aRl_get hri (by omega) 3) n1
    rw [a1, Option.bind_some, if_pos o.ob]
    obtain ⟨h3, b1, b2, b3⟩ := a2.w8 hm 0
    have m3 := oSm.N (s := aF s ((56 + 717 * e) + 26) (((s.2.2 (56 + 717 * e + 26))).filter fun f => decide (f.getD 0 0 ≠ it.getD 3 0))) hm (j := 8) (x := 0) (by omega)
    rw [b1, Option.bind_some, b2.f9, Option.bind_some]
    obtain ⟨h4, c1, c2, c3⟩ := b2.w9 m3 (s.1 9 + 1)
    have c1' : gpt h3 u 9 (.inl ((aN (aF s ((56 + 717 * e) + 26) (((s.2.2 (56 + 717 * e + 26))).filter fun f => decide (f.getD 0 0 ≠ it.getD 3 0))) 8 0).1 9 + 1)) = some h4 := c1
    rw [c1', Option.bind_some]
    have hn := n1.1
    refine ⟨h4, rfl, ⟨R', ?_⟩, ((a3.tr b3).tr c3).le (by omega) (by omega)⟩
    unfold aAck
    rw [aN_2, aN_2, aF_3, aF_3, if_neg (by omega), if_neg (by omega)]
    exact c2
  · have i4 : it.getD 1 0 = 0 ∧ 6 ≤ it.length := by rcases i3 with q | q; exact absurd q.1 h1; exact q
    rw [if_neg h1, if_neg h1, if_neg h1, if_neg h1, gaN_z (i := 4) (z := 4) hx.1 rfl (by omega) (by omega), Option.bind_some, (aRl_get hri (by omega) 4).xw (by omega)]
    have thrown : ∃ h', f_O_land_54 u x h = some h' ∧ OO u A ρ h' (aN s 47 (s.1 47 + 1)) ∧ hC 0 0 ρ h ρ h' := by
      unfold f_O_land_54
      rw [o.k17, Option.bind_some, o.tot 2 (z := 2) rfl (by omega), Option.bind_some]
      obtain ⟨h2, a1, a2, a3⟩ := o.wtot hm 2 (z := 2) rfl (by omega) (s.1 (45 + 2) + 1)
      rw [a1, Option.bind_some]
      exact ⟨h2, rfl, ⟨R, a2⟩, a3⟩
    by_cases h4 : it.getD 4 0 = 1
    · rw [if_pos h4, if_pos (Or.inl h4), if_pos (Or.inl h4), if_pos (Or.inl h4)]
      exact thrown
    · rw [if_neg h4, gaN_z (i := 3) (z := 3) hx.1 rfl (by omega) (by omega), Option.bind_some, o.k23, Option.bind_some, o.exp e hz he2, Option.bind_some, (aRl_get hri (by omega) 3).xw (by omega), (hr.1 ((56 + 717 * e) + 3)).xw (by omega)]
      by_cases h3 : it.getD 3 0 = s.1 ((56 + 717 * e) + 3)
      · rw [if_pos h3, if_neg (fun w => w.elim h4 (fun w => w h3)), if_neg (fun w => w.elim h4 (fun w => w h3)), if_neg (fun w => w.elim h4 (fun w => w h3)), gaN_z (i := 5) (z := 5) hx.1 rfl (by omega) (by omega), Option.bind_some, (aRl_get hri (by omega) 5).xw (by omega)]
        have hdl : (it.drop 6).length = it.length - 6 := List.length_drop ..
        have htk : (it.take 6).length = 6 := by rw [List.length_take]; omega
        have hrd : aRl B (it.drop 6) := fun x hx => hri x (List.mem_of_mem_drop hx)
        have fin : ∀ (t : aS) (h2 : gH) (R2 : Nat → List Nat), OR u A R2 ρ (((t.2.2 1490)).length : Int) (((t.2.2 1730)).length : Int) h2 t → oSm t → hC 2 4 ρ h ρ h2 → ((t.2.1 (56 + 717 * e + 18))).length ≤ 8 → aRl B ((t.2.1 (56 + 717 * e + 18))) → ((t.2.1 (56 + 717 * e + 317))).length ≤ 400 → (t.2.2 1730) = (s.2.2 1730) → ∃ h', f_O_land_88 u x (it.getD 2 0) h2 = some h' ∧ OO u A ρ h' (aF (aN (aRecvs e (it.drop 6) t) ((56 + 717 * e) + 3) ((aRecvs e (it.drop 6) t).1 ((56 + 717 * e) + 3) + 1)) 1730 (((aRecvs e (it.drop 6) t).2.2 1730) ++ [[(aRecvs e (it.drop 6) t).1 0 + (aRecvs e (it.drop 6) t).1 15, 1, 1 - (e : Int), it.getD 3 0]])) ∧ hC (3 + 9 * (it.length - 6)) (8 + 500 * (it.length - 6)) ρ h ρ h' := fun t h2 R2 ot mt ct t1 t2 t3 t4 => by
          unfold f_O_land_88
          obtain ⟨h3, a1, a2, a3⟩ := O_land_91 (u := u) (A := A) (R := R2) (ρ := ρ) e hz he2 (x := x) (it := it) (by omega : B ≤ 2147483647) (by omega) (it.drop 6) (it.take 6) fu h2 t ot mt (ct.oI hx) t1 t2 hrd t3 (List.take_append_drop 6 it).symm (by rw [hdl]; show _ < 5000; omega)
          rw [htk] at a1
          have a1' : f_O_land_91 u x fu (it.getD 2 0) 6 h2 = _ := a1
          rw [a1']
          have eF : (aRecvs e (it.drop 6) t).2.2 = t.2.2 := aRecvs_F e _ _
          have m3 : oSm (aRecvs e (it.drop 6) t) := by
            unfold oSm
            rw [aRecvs_sc e _ _ 11 (by omega) (by omega), aRecvs_sc e _ _ 19 (by omega) (by omega)]
            exact mt
          rw [← eF] at a2
          obtain ⟨h4, b1, b2, b3⟩ := O_land_173 a2 m3 (by rw [eF]; show ((t.2.2 1730)).length < 200; rw [t4]; omega) e hz he2 ((ct.tr a3).oI hx) ⟨by omega, by omega⟩
          rw [hdl] at a3
          refine ⟨h4, b1, ⟨R2, ?_⟩, ((ct.tr a3).tr b3).le (by omega) (by omega)⟩
          rw [aF_3, if_neg (by omega), aF_3, if_pos rfl, List.length_append, List.length_singleton]
          have eq1 : ((((aRecvs e (it.drop 6) t).2.2 1730).length + 1 : Nat) : Int) = (((aRecvs e (it.drop 6) t).2.2 1730).length : Int) + 1 := by omega
          rw [eq1]
          exact b2
        unfold aTake
        by_cases h5 : it.getD 5 0 = 1
        · rw [if_pos h5, if_pos h5, o.k21, Option.bind_some, gNw_z 0 h (n := 0) (z := 0) rfl (by omega), Option.bind_some]
          dsimp only
          obtain ⟨h2, a1, a2, a3⟩ := (o.app [.inl (0, [])]).wrea e hz he2 (x := 2000 + h.length) (l := []) ⟨gat_nw _ _ [], o.1.2.2.2.1 _ (Nat.le_refl _)⟩
          have a1' : gsQ 4 (h ++ [.inl (0, List.replicate 0 0)]) (A 21) (it.getD 2 0) (some (2000 + h.length)) = some h2 := a1
          rw [a1', Option.bind_some]
          obtain ⟨h3, b1, b2, b3⟩ := a2.tell hev (by omega : B ≤ 2147483647) (hr.L fun x hx => absurd hx List.not_mem_nil) 7 (it.getD 2 0)
          rw [b1, Option.bind_some, if_pos a2.ob]
          have c3 : hC 2 4 ρ h ρ h3 := (((hC.app ρ h _).tr a3).tr b3).le (by show 1 + 0 + 1 ≤ 2; omega) (by show (0 + 0) + 0 + 4 ≤ 4; omega)
          rw [hz] at b2 ⊢
          have f1 : ((aTell 7 e (aL s ((56 + 717 * e) + 18) [])).2.2 1730) = (s.2.2 1730) := aTell_fl _ _ _
          have f2 := fin (aTell 7 e (aL s ((56 + 717 * e) + 18) [])) h3 R (by rw [f1]; exact b2) hm c3 (by rw [aTell_L, aL_2, if_pos rfl]; exact Nat.zero_le _) (by rw [aTell_L, aL_2, if_pos rfl]; exact fun x hx => absurd hx List.not_mem_nil) (by rw [aTell_L, aL_2, if_neg (by omega)]; exact n3) f1
          rw [hz] at f2
          exact f2
        · rw [if_neg h5, if_neg h5]
          exact fin s h R o hm (hC.rf.le (by omega) (by omega)) n2 (hr.2.1 _) n3 rfl
      · rw [if_neg h3, if_pos (Or.inr h3), if_pos (Or.inr h3), if_pos (Or.inr h3)]
        exact thrown
end

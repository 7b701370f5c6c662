/-! ===== the own line: a launch ===== -/
theorem xirem_pos {x y : Int} (hx : 0 ≤ x ∧ x < 2147483648) (hy : 0 < y ∧ y < 2147483648) : xirem x y = x % y := by
  obtain ⟨a, rfl⟩ := Int.eq_ofNat_of_zero_le hx.1
  obtain ⟨b, rfl⟩ := Int.eq_ofNat_of_zero_le (by omega : 0 ≤ y)
  rw [b_irem a b (by omega) (by omega) (by omega)]
  rfl
section
variable {u : Nat} {A ρ : Nat → Nat} {R : Nat → List Nat} {a b : Int}
theorem O_launch_50 (e : Nat) (he : e < 2) {z num x4 B : Int} (hz : z = (e : Int)) {x : Nat} {l : List Int} (hB : B ≤ 2147483647) (hl : l.length < 4000) (hrl : aRl B l) : ∀ (q p : List Int) (n : Nat) (h : gH) (s : aS), OR u A R ρ a b h s → oI h ρ x l → ((s.2.1 (56 + 717 * e + 10))).length ≤ 8 → aRl B ((s.2.1 (56 + 717 * e + 10))) → l = p ++ q → q.length < n → ∃ h', f_O_launch_50 u z num x n x4 x (l.length : Int) (p.length : Int) h = f_O_launch_87 u z num x x4 h' ∧ OR u A R ρ a b h' (aL s ((56 + 717 * e) + 10) (aWr ((s.2.1 (56 + 717 * e + 10))) q)) ∧ hC (aSz ((s.2.1 (56 + 717 * e + 10))) q) (8 * aSz ((s.2.1 (56 + 717 * e + 10))) q) ρ h ρ h'
  | [], p, n + 1, h, s, o, hx, _, _, e1, _ => by
    rw [List.append_nil] at e1
    subst e1
    refine ⟨h, ?_, ?_, hC.rf⟩
    · rw [f_O_launch_50, if_neg (by omega)]
    · rw [aWr, aL_self]; exact o
  | v :: q, p, n + 1, h, s, o, hx, h8, hw, e1, hn => by
    have e2 : l.length = p.length + (q.length + 1) := by rw [e1, List.length_append]; rfl
    have e5 : l.getD p.length 0 = v := by rw [e1, getD_mid]
    have e6 : l = (p ++ [v]) ++ q := by rw [e1, List.append_assoc]; rfl
    have hn' : q.length < n := by simp only [List.length_cons] at hn; omega
    have hv : aB B v := hrl v (by rw [e1]; exact List.mem_append_right _ List.mem_cons_self)
    obtain ⟨y, y1, y2⟩ := o.wri e hz he
    obtain ⟨r, g, k1, k2, k3, k4, k5⟩ := O_use (a := y) y2.1 (by show ((s.2.1 (56 + 717 * e + 10))).length < 4999; omega) hB hv hw
    obtain ⟨h1, w1, w2, w3⟩ := (o.app g).wwri e hz he (x := r) (l := aUse v ((s.2.1 (56 + 717 * e + 10)))) ⟨k2, o.1.2.2.2.1 r k3⟩
    have ed : ((aL s ((56 + 717 * e) + 10) (aUse v ((s.2.1 (56 + 717 * e + 10))))).2.1 (56 + 717 * e + 10)) = aUse v ((s.2.1 (56 + 717 * e + 10))) := by
      show (aL s ((56 + 717 * e) + 10) (aUse v ((s.2.1 (56 + 717 * e + 10))))).2.1 ((56 + 717 * e) + 10) = _
      rw [aL_2, if_pos rfl]
    have c1 : hC g.length (gsl g) ρ h ρ h1 := ((hC.app ρ h g).tr w3).le (by omega) (by omega)
    obtain ⟨h2, z1, z2, z3⟩ := O_launch_50 e he hz hB hl hrl q (p ++ [v]) n h1 _ w2 (c1.oI hx) (by rw [ed]; exact aUse_len _ _) (by rw [ed]; exact aUse_R hv hw) e6 hn'
    refine ⟨h2, ?_, ?_, ?_⟩
    · rw [f_O_launch_50, if_pos (by rw [xw_nat (by omega), xw_nat (by omega)]; omega), gaN_N hx.1 (by omega) (by omega), Option.bind_some, e5, o.k20, Option.bind_some, Option.bind_some, y1, Option.bind_some, k1, Option.bind_some]
      dsimp only
      rw [w1, Option.bind_some, ← len_snoc p v, z1]
    · rw [ed, aL_aL] at z2
      exact z2
    · rw [ed] at z3
      rw [aSz]
      exact (c1.tr z3).le (by omega) (by omega)
  | _, _, 0, _, _, _, _, _, _, _, hn => by omega
theorem O_launch_201 (z num x4 x5 : Int) {x B0 : Nat} {l : List Int} (hl : l.length ≤ 8) : ∀ (q p base : List Int) (n x6 : Nat) (h : gH), gat h x = some (.inl (0, l)) → gat h x6 = some (.inl (0, base)) → B0 ≤ x6 → B0 ≤ 2000 + h.length → base.length = 6 + p.length → l = p ++ q → q.length < n → ∃ (x' : Nat) (g : gH), f_O_launch_201 u z num x n x4 x5 x6 x (l.length : Int) (p.length : Int) h = f_O_launch_230 u z num x x4 x5 x' (h ++ g) ∧ gat (h ++ g) x' = some (.inl (0, base ++ q)) ∧ B0 ≤ x' ∧ g.length = q.length ∧ gsl g ≤ 14 * g.length
  | [], p, base, n + 1, x6, h, ha, hb, h0, _, hc, e1, _ => by
    rw [List.append_nil] at e1
    subst e1
    refine ⟨x6, [], ?_, by rw [List.append_nil, List.append_nil]; exact hb, h0, rfl, Nat.le_refl _⟩
    rw [f_O_launch_201, if_neg (by omega), List.append_nil]
  | v :: q, p, base, n + 1, x6, h, ha, hb, h0, h1, hc, e1, hn => by
    have e2 : l.length = p.length + (q.length + 1) := by rw [e1, List.length_append]; rfl
    have e5 : l.getD p.length 0 = v := by rw [e1, getD_mid]
    have e6 : l = (p ++ [v]) ++ q := by rw [e1, List.append_assoc]; rfl
    have hn' : q.length < n := by simp only [List.length_cons] at hn; omega
    obtain ⟨x', g, k1, k2, k3, k4, k5⟩ := O_launch_201 z num x4 x5 hl q (p ++ [v]) (base ++ [v]) n (2000 + h.length) (h ++ [.inl (0, base ++ [v])]) (gat_lt ha _) (gat_nw h _ []) h1 (by rw [List.length_append]; omega) (by rw [List.length_append, List.length_append]; simp only [List.length_cons, List.length_nil]; omega) e6 hn'
    refine ⟨x', .inl (0, base ++ [v]) :: g, ?_, ?_, k3, by rw [List.length_cons, k4]; rfl, ?_⟩
    · rw [f_O_launch_201, if_pos (by rw [xw_nat (by omega), xw_nat (by omega)]; omega), gaN_N ha (by omega) (by omega), Option.bind_some, e5, O_with v hb (by omega), Option.bind_some, ← len_snoc p v]
      dsimp only
      rw [k1, List.append_assoc]
      rfl
    · rw [List.append_assoc, List.append_assoc] at k2
      exact k2
    · show (base ++ [v]).length + gsl g ≤ 14 * (g.length + 1)
      rw [List.length_append, List.length_cons, List.length_nil]
      omega
  | _, _, _, 0, _, _, _, _, _, _, _, _, hn => by omega
variable {h : gH} {s : aS}
theorem O_launch_230 (o : OR u A R ρ a (((s.2.2 1730)).length : Int) h s) (hm : oSm s) (hf : ((s.2.2 1730)).length < 200) (e : Nat) {z : Int} (hz : z = (e : Int)) (he : e < 2) (num x4 x5 : Int) (x : Nat) {y : Nat} {it : List Int} (hy : oI h ρ y it) : ∃ h', f_O_launch_230 u z num x x4 x5 y h = some (1, h') ∧ OR u A R ρ a ((((s.2.2 1730)).length : Int) + 1) h' (aN (aN (aN (aN (aF s 1730 ((s.2.2 1730) ++ [it])) ((56 + 717 * e) + 9) 0) 45 (s.1 45 + 1)) 46 (s.1 46 + x5)) 54 (s.1 54 + x4)) ∧ hC 0 0 ρ h ρ h' := by
  have he2 : e = 0 ∨ e = 1 := by omega
  unfold f_O_launch_230
  rw [o.k29, Option.bind_some, o.fb, Option.bind_some]
  obtain ⟨h1, a1, a2, a3⟩ := o.wb ((((s.2.2 1730)).length : Int) + 1)
  obtain ⟨h2, b1, b2, b3⟩ := a2.wfly rfl hf (a3.oI hy)
  have hm2 : oSm (aF s 1730 ((s.2.2 1730) ++ [it])) := hm
  rw [a1, Option.bind_some, b1, Option.bind_some, b2.k27, Option.bind_some]
  obtain ⟨h3, c1, c2, c3⟩ := b2.wmark hm2 e hz he 0
  have hm3 := hm2.N (j := (56 + 717 * e) + 9) (x := 0) (by omega)
  rw [c1, Option.bind_some, c2.k17, Option.bind_some, c2.tot 0 (z := 0) rfl (by omega), Option.bind_some]
  have e1 : (aN (aF s 1730 ((s.2.2 1730) ++ [it])) ((56 + 717 * e) + 9) 0).1 (45 + 0) = s.1 45 := by rw [aN_1, if_neg (by omega)]; rfl
  rw [e1]
  obtain ⟨h4, d1, d2, d3⟩ := c2.wtot hm3 0 (z := 0) rfl (by omega) (s.1 45 + 1)
  have hm4 := hm3.N (j := 45 + 0) (x := s.1 45 + 1) (by omega)
  rw [d1, Option.bind_some, d2.k17, Option.bind_some, d2.tot 1 (z := 1) rfl (by omega), Option.bind_some]
  have e2 : (aN (aN (aF s 1730 ((s.2.2 1730) ++ [it])) ((56 + 717 * e) + 9) 0) (45 + 0) (s.1 45 + 1)).1 (45 + 1) = s.1 46 := by rw [aN_1, if_neg (by omega), aN_1, if_neg (by omega)]; rfl
  rw [e2]
  obtain ⟨h5, f1, f2, f3⟩ := d2.wtot hm4 1 (z := 1) rfl (by omega) (s.1 46 + x5)
  have hm5 := hm4.N (j := 45 + 1) (x := s.1 46 + x5) (by omega)
  rw [f1, Option.bind_some, f2.k17, Option.bind_some, f2.tot 9 (z := 9) rfl (by omega), Option.bind_some]
  have e3 : (aN (aN (aN (aF s 1730 ((s.2.2 1730) ++ [it])) ((56 + 717 * e) + 9) 0) (45 + 0) (s.1 45 + 1)) (45 + 1) (s.1 46 + x5)).1 (45 + 9) = s.1 54 := by rw [aN_1, if_neg (by omega), aN_1, if_neg (by omega), aN_1, if_neg (by omega)]; rfl
  rw [e3]
  obtain ⟨h6, g1, g2, g3⟩ := f2.wtot hm5 9 (z := 9) rfl (by omega) (s.1 54 + x4)
  rw [g1, Option.bind_some]
  exact ⟨h6, rfl, g2, (((((a3.tr b3).tr c3).tr d3).tr f3).tr g3).le (by omega) (by omega)⟩
theorem O_launch_132 (o : OR u A R ρ a (((s.2.2 1730)).length : Int) h s) (hm : oSm s) (hf : ((s.2.2 1730)).length < 200) (e : Nat) {z : Int} (hz : z = (e : Int)) (he : e < 2) (num x4 x5 : Int) {B : Int} (hB : B ≤ 2147483647) (hr : aR B s) {x : Nat} {l : List Int} (hx : oI h ρ x l) (hl : l.length ≤ 8) : ∃ h', f_O_launch_132 u z num x x4 x5 h = some (1, h') ∧ OR u A R ρ a ((((s.2.2 1730)).length : Int) + 1) h' (aN (aN (aN (aN (aF s 1730 ((s.2.2 1730) ++ [[s.1 0 + s.1 15, 0, 1 - (e : Int), num, x5, if s.1 ((56 + 717 * e) + 9) = 0 then 0 else 1] ++ l])) ((56 + 717 * e) + 9) 0) 45 (s.1 45 + 1)) 46 (s.1 46 + x5)) 54 (s.1 54 + x4)) ∧ hC (1 + l.length) (6 + 14 * l.length) ρ h ρ h' := by
  have xm := (hr.1 ((56 + 717 * e) + 9)).xw hB
  have e0 : (s.1 (12 + 3)) = s.1 15 := rfl
  unfold f_O_launch_132
  rw [gNw_z 0 h (n := 6) (z := 6) rfl (by omega), Option.bind_some]
  dsimp only
  rw [(o.app _).f0, Option.bind_some, (o.app _).k16, Option.bind_some, (o.app _).set 3 (z := 3) rfl (by omega), Option.bind_some, e0]
  rw [gsN_nz (i := 0) (z := 0) _ rfl (by show 0 < 6; omega) (by show 6 < _; omega), Option.bind_some]
  rw [gsN_nz (i := 1) (z := 1) _ rfl (by show 1 < 6; omega) (by show 6 < _; omega), Option.bind_some]
  rw [gsN_nz (i := 2) (z := 2) _ rfl (by show 2 < 6; omega) (by show 6 < _; omega), Option.bind_some]
  rw [gsN_nz (i := 3) (z := 3) _ rfl (by show 3 < 6; omega) (by show 6 < _; omega), Option.bind_some]
  rw [gsN_nz (i := 4) (z := 4) _ rfl (by show 4 < 6; omega) (by show 6 < _; omega), Option.bind_some]
  rw [(o.app _).k27, Option.bind_some, (o.app _).mark e hz he, Option.bind_some, xm]
  have key : ∀ mk : Int, ∃ h', f_O_launch_187 u z num x x4 x5 mk 5 (2000 + h.length) (2000 + h.length) (h ++ [.inl (0, [s.1 0 + s.1 15, 0, 1 - z, num, x5, 0])]) = some (1, h') ∧ OR u A R ρ a ((((s.2.2 1730)).length : Int) + 1) h' (aN (aN (aN (aN (aF s 1730 ((s.2.2 1730) ++ [[s.1 0 + s.1 15, 0, 1 - (e : Int), num, x5, mk] ++ l])) ((56 + 717 * e) + 9) 0) 45 (s.1 45 + 1)) 46 (s.1 46 + x5)) 54 (s.1 54 + x4)) ∧ hC (1 + l.length) (6 + 14 * l.length) ρ h ρ h' := fun mk => by
    unfold f_O_launch_187
    rw [gsN_nz (i := 5) (z := 5) _ rfl (by show 5 < 6; omega) (by show 6 < _; omega), Option.bind_some]
    show ∃ h', (Option.bind (glc (h ++ [.inl (0, [s.1 0 + s.1 15, 0, 1 - z, num, x5, mk])]) x) fun q30 => f_O_launch_201 u z num x fu x4 x5 (2000 + h.length) x q30 0 (h ++ [.inl (0, [s.1 0 + s.1 15, 0, 1 - z, num, x5, mk])])) = some (1, h') ∧ _
    rw [glc_N (gat_lt hx.1 _) (Or.inl rfl), Option.bind_some]
    obtain ⟨y, g, k1, k2, k3, k4, k5⟩ := O_launch_201 (u := u) z num x4 x5 (x := x) (B0 := 2000 + h.length) hl l [] [s.1 0 + s.1 15, 0, 1 - z, num, x5, mk] fu (2000 + h.length) (h ++ [.inl (0, [s.1 0 + s.1 15, 0, 1 - z, num, x5, mk])]) (gat_lt hx.1 _) (gat_nw h _ []) (Nat.le_refl _) (by rw [List.length_append]; omega) rfl rfl (by show _ < 5000; omega)
    have k1' : f_O_launch_201 u z num x fu x4 x5 (2000 + h.length) x (l.length : Int) 0 (h ++ [.inl (0, [s.1 0 + s.1 15, 0, 1 - z, num, x5, mk])]) = _ := k1
    rw [k1']
    obtain ⟨h', m1, m2, m3⟩ := O_launch_230 ((o.app _).app g) hm hf e hz he num x4 x5 x (y := y) (it := [s.1 0 + s.1 15, 0, 1 - z, num, x5, mk] ++ l) ⟨k2, o.1.2.2.2.1 y k3⟩
    refine ⟨h', m1, by rw [← hz]; exact m2, (((hC.app ρ h _).tr (hC.app ρ _ g)).tr m3).le ?_ ?_⟩
    · show 1 + g.length + 0 ≤ _
      omega
    · show (6 + 0) + gsl g + 0 ≤ _
      omega
  by_cases hk : s.1 ((56 + 717 * e) + 9) = 0
  · rw [if_pos hk, if_pos hk]
    exact key 0
  · rw [if_neg hk, if_neg hk]
    exact key 1
theorem O_launch_39 (o : OR u A R ρ a (((s.2.2 1730)).length : Int) h s) (hm : oSm s) (hf : ((s.2.2 1730)).length < 200) (e : Nat) {z : Int} (hz : z = (e : Int)) (he : e < 2) (num x4 : Int) {B : Int} (hB : B ≤ 1000000000) (hr : aR B s) {x : Nat} {l : List Int} (hx : oI h ρ x l) (hl : l.length ≤ 8) (hrl : aRl B l) (hw : ((s.2.1 (56 + 717 * e + 10))).length ≤ 8) (h45 : 0 ≤ s.1 45) (hcr : aB 2000000000 (s.1 ((56 + 717 * e) + 5) - x4)) : ∃ h', f_O_launch_39 u z num x x4 h = some (1, h') ∧ OR u A R ρ a ((((s.2.2 1730)).length : Int) + 1) h' (aN (aN (aN (aN (aF (aN (aL s ((56 + 717 * e) + 10) (aWr ((s.2.1 (56 + 717 * e + 10))) l)) ((56 + 717 * e) + 5) (s.1 ((56 + 717 * e) + 5) - x4)) 1730 ((s.2.2 1730) ++ [aItem e num l s])) ((56 + 717 * e) + 9) 0) 45 (s.1 45 + 1)) 46 (s.1 46 + aBad s)) 54 (s.1 54 + x4)) ∧ hC (aSz ((s.2.1 (56 + 717 * e + 10))) l + 1 + l.length) (8 * aSz ((s.2.1 (56 + 717 * e + 10))) l + 6 + 14 * l.length) ρ h ρ h' := by
  have he2 : e = 0 ∨ e = 1 := by omega
  obtain ⟨⟨n1, n2⟩, n3, n4⟩ := id hm
  unfold f_O_launch_39
  rw [glc_N hx.1 (Or.inl rfl), Option.bind_some]
  obtain ⟨h1, a1, a2, a3⟩ := O_launch_50 e he (num := num) (x4 := x4) hz (by omega) (by omega) hrl l [] fu h s o hx hw (hr.2.1 _) rfl (by show _ < 5000; omega)
  have a1' : f_O_launch_50 u z num x fu x4 x (l.length : Int) 0 h = _ := a1
  rw [a1']
  unfold f_O_launch_87
  rw [a2.k25, Option.bind_some, a2.cred e hz he, Option.bind_some]
  obtain ⟨h2, b1, b2, b3⟩ := a2.wcred (s := aL s ((56 + 717 * e) + 10) (aWr ((s.2.1 (56 + 717 * e + 10))) l)) hm e hz he (s.1 ((56 + 717 * e) + 5) - x4)
  have b1' : gsN 0 h1 (A 25) z ((aL s ((56 + 717 * e) + 10) (aWr ((s.2.1 (56 + 717 * e + 10))) l)).1 ((56 + 717 * e) + 5) - x4) = some h2 := b1
  rw [b1', Option.bind_some]
  have hm2 : oSm (aN (aL s ((56 + 717 * e) + 10) (aWr ((s.2.1 (56 + 717 * e + 10))) l)) ((56 + 717 * e) + 5) (s.1 ((56 + 717 * e) + 5) - x4)) := oSm.N (s := aL s ((56 + 717 * e) + 10) (aWr ((s.2.1 (56 + 717 * e + 10))) l)) hm (by omega)
  have q : ∀ j, j ≠ (56 + 717 * e) + 5 → (aN (aL s ((56 + 717 * e) + 10) (aWr ((s.2.1 (56 + 717 * e + 10))) l)) ((56 + 717 * e) + 5) (s.1 ((56 + 717 * e) + 5) - x4)).1 j = s.1 j := fun j hj => by rw [aN_1, if_neg hj]; rfl
  have q19 := q 19 (by omega)
  have q45 := q (45 + 0) (by omega)
  have hmod := Int.emod_nonneg (s.1 45) (show s.1 19 ≠ 0 by omega)
  have hmod2 := Int.emod_lt_of_pos (s.1 45) (show 0 < s.1 19 by omega)
  have r45 := hr.1 45
  have r2 := hr.1 2
  have r3 := hr.1 3
  have rn := hr.1 (25 + (s.1 45 % s.1 19).toNat)
  unfold aB at r45 r2 r3 rn
  rw [b2.k15, Option.bind_some, b2.k17, Option.bind_some, b2.tot 0 (z := 0) rfl (by omega), Option.bind_some, Option.bind_some, b2.noises hm2, Option.bind_some, q19, q45, if_neg (by rw [xw_id (by omega) (by omega)]; omega), xirem_pos (x := s.1 (45 + 0)) (by exact ⟨h45, by show s.1 45 < _; omega⟩) ⟨by omega, by omega⟩,
    b2.noise hm2 (s.1 45 % s.1 19).toNat (by rw [Int.toNat_of_nonneg hmod]) (by rw [q19, Int.toNat_of_nonneg hmod]; exact hmod2), Option.bind_some, b2.f3, Option.bind_some, b2.f2, Option.bind_some, q 2 (by omega), q 3 (by omega), q (25 + (s.1 45 % s.1 19).toNat) (by omega), xw_id (x := s.1 2) (by omega) (by omega), xw_id (x := s.1 (25 + (s.1 45 % s.1 19).toNat) + s.1 3) (by omega) (by omega)]
  have hr2 : aR 2000000000 (aN (aL s ((56 + 717 * e) + 10) (aWr ((s.2.1 (56 + 717 * e + 10))) l)) ((56 + 717 * e) + 5) (s.1 ((56 + 717 * e) + 5) - x4)) := ((hr.le (by omega)).L ((aWr_R (hr.2.1 _) hrl).le (by omega))).N hcr
  have key : ∃ h', f_O_launch_132 u z num x x4 (aBad s) h2 = some (1, h') ∧ OR u A R ρ a ((((s.2.2 1730)).length : Int) + 1) h' (aN (aN (aN (aN (aF (aN (aL s ((56 + 717 * e) + 10) (aWr ((s.2.1 (56 + 717 * e + 10))) l)) ((56 + 717 * e) + 5) (s.1 ((56 + 717 * e) + 5) - x4)) 1730 ((s.2.2 1730) ++ [aItem e num l s])) ((56 + 717 * e) + 9) 0) 45 (s.1 45 + 1)) 46 (s.1 46 + aBad s)) 54 (s.1 54 + x4)) ∧ hC (1 + l.length) (6 + 14 * l.length) ρ h2 ρ h' := by
    obtain ⟨h', c1, c2, c3⟩ := O_launch_132 b2 hm2 hf e hz he num x4 (aBad s) (by omega) hr2 ((a3.tr b3).oI hx) hl
    rw [q 0 (by omega), q 15 (by omega), q ((56 + 717 * e) + 9) (by omega), q 45 (by omega), q 46 (by omega), q 54 (by omega)] at c2
    exact ⟨h', c1, c2, c3⟩
  obtain ⟨h', c1, c2, c3⟩ := key
  refine ⟨h', ?_, c2, ((a3.tr b3).tr c3).le (by omega) (by omega)⟩
  rw [← c1]
  unfold aBad
  by_cases hb : s.1 2 < s.1 (25 + (s.1 45 % s.1 19).toNat) + s.1 3
  · rw [if_pos hb, if_pos hb]
  · rw [if_neg hb, if_neg hb]
theorem OR.launch (o : OR u A R ρ a (((s.2.2 1730)).length : Int) h s) (hm : oSm s) (hf : ((s.2.2 1730)).length < 200) (e : Nat) {z : Int} (hz : z = (e : Int)) (he : e < 2) (num : Int) {B : Int} (hB : B ≤ 1000000000) (hr : aR B s) {x : Nat} {l : List Int} (hx : oI h ρ x l) (hl : l.length ≤ 8) (hrl : aRl B l) (hw : ((s.2.1 (56 + 717 * e + 10))).length ≤ 8) (h45 : 0 ≤ s.1 45) (hco : 0 ≤ aCost e l s ∧ aCost e l s ≤ 1000) :
    (s.1 ((56 + 717 * e) + 5) < aCost e l s ∧ ∃ g, f_O_launch u z num x h = some (0, h ++ g) ∧ g.length = (if s.1 ((56 + 717 * e) + 9) = 0 then 0 else 1) + aSz (aDict e s) l ∧ gsl g ≤ 8 * g.length) ∨
    (¬ s.1 ((56 + 717 * e) + 5) < aCost e l s ∧ ∃ h', f_O_launch u z num x h = some (1, h') ∧ OR u A R ρ a ((((s.2.2 1730)).length : Int) + 1) h' (aLaunch e num l s) ∧ hC (2 * ((if s.1 ((56 + 717 * e) + 9) = 0 then 0 else 1) + aSz (aDict e s) l) + 1 + l.length) (8 * (2 * ((if s.1 ((56 + 717 * e) + 9) = 0 then 0 else 1) + aSz (aDict e s) l)) + 6 + 14 * l.length) ρ h ρ h') := by
  have xm := (hr.1 ((56 + 717 * e) + 9)).xw (by omega)
  have rc := hr.1 ((56 + 717 * e) + 5)
  unfold aB at rc
  obtain ⟨g, k1, k2, k3⟩ := o.cost (by omega) hr e hz he hx.1 (by omega) hrl hw
  have hs : f_O_launch u z num x h = if s.1 ((56 + 717 * e) + 5) < aCost e l s then some (0, h ++ g) else (if s.1 ((56 + 717 * e) + 9) = 0 then f_O_launch_39 u z num x (aCost e l s) (h ++ g) else (Option.bind (gfK (h ++ g) u 20) fun q54 => (Option.bind (gNw 0 (h ++ g) 0) fun q55 => (Option.bind (gsQ 4 q55.2 q54 z (some q55.1)) fun q56 => f_O_launch_39 u z num x (aCost e l s) q56)))) := by
    unfold f_O_launch
    rw [k1, Option.bind_some, if_pos o.ob]
    dsimp only
    rw [(o.app g).k25, Option.bind_some, (o.app g).cred e hz he, Option.bind_some, xw_id (x := s.1 ((56 + 717 * e) + 5)) (by omega) (by omega), xw_id (x := aCost e l s) (by omega) (by omega), (o.app g).k27, Option.bind_some, (o.app g).mark e hz he, Option.bind_some, xm]
  by_cases hc : s.1 ((56 + 717 * e) + 5) < aCost e l s
  · rw [if_pos hc] at hs
    exact Or.inl ⟨hc, g, hs, k2, k3⟩
  · rw [if_neg hc] at hs
    refine Or.inr ⟨hc, ?_⟩
    have hb : aB 2000000000 (s.1 ((56 + 717 * e) + 5) - aCost e l s) := by unfold aB; omega
    by_cases hk : s.1 ((56 + 717 * e) + 9) = 0
    · rw [if_pos hk] at hs k2 ⊢
      have ed : aDict e s = (s.2.1 (56 + 717 * e + 10)) := by unfold aDict; rw [if_pos hk]
      rw [ed] at k2 ⊢
      obtain ⟨h', m1, m2, m3⟩ := O_launch_39 (o.app g) hm hf e hz he num (aCost e l s) hB hr ((hC.app ρ h g).oI hx) hl hrl hw h45 hb
      rw [hs]
      refine ⟨h', m1, ?_, ((hC.app ρ h g).tr m3).le (by omega) (by omega)⟩
      unfold aLaunch
      rw [ed]
      exact m2
    · rw [if_neg hk] at hs k2 ⊢
      have ed : aDict e s = [] := by unfold aDict; rw [if_neg hk]
      rw [(o.app g).k20, Option.bind_some, gNw_z 0 (h ++ g) (n := 0) (z := 0) rfl (by omega), Option.bind_some] at hs
      obtain ⟨h1, w1, w2, w3⟩ := ((o.app g).app [.inl (0, [])]).wwri e hz he (x := 2000 + (h ++ g).length) (l := []) ⟨gat_nw _ _ [], (o.app g).1.2.2.2.1 _ (Nat.le_refl _)⟩
      have w1' : gsQ 4 ((h ++ g) ++ [.inl (0, List.replicate 0 0)]) (A 20) z (some (2000 + (h ++ g).length)) = some h1 := w1
      dsimp only at hs
      rw [w1', Option.bind_some] at hs
      have c1 : hC (g.length + 1) (gsl g) ρ h ρ h1 := (((hC.app ρ h g).tr (hC.app ρ _ [.inl (0, [])])).tr w3).le (by show g.length + 1 + 0 ≤ _; omega) (by show gsl g + (0 + 0) + 0 ≤ _; omega)
      have e1 : ((aL s ((56 + 717 * e) + 10) []).2.1 (56 + 717 * e + 10)) = [] := by
        show (aL s ((56 + 717 * e) + 10) []).2.1 ((56 + 717 * e) + 10) = _
        rw [aL_2, if_pos rfl]
      obtain ⟨h', m1, m2, m3⟩ := O_launch_39 w2 hm hf e hz he num (aCost e l s) hB (hr.L (fun x hx => absurd hx List.not_mem_nil)) (c1.oI hx) hl hrl (by rw [e1]; exact Nat.zero_le _) h45 hb
      rw [hs]
      rw [e1] at m2 m3
      rw [ed] at k2 ⊢
      refine ⟨h', m1, ?_, (c1.tr m3).le (by omega) (by omega)⟩
      unfold aLaunch
      rw [ed]
      rw [aL_aL] at m2
      exact m2
end

/-! ===== the law tells its line to the class ===== -/
theorem wb_8 : ∀ i, i < 20 → 10 ≤ i → (wb i).length ≤ 8 := by decide +kernel
/-- the own line at u is s; a text l is under way in w -/
def TO (u w : Nat) (A ρ : Nat → Nat) (R : Nat → List Nat) (a b : Int) (s : aS) (B : Int) (s' : aS) (H : List aS) (S : Option aS) (m : xM) (h : gH) (l : List Nat) : Prop := (OR u A R ρ a b h s ∧ ρ w = 50) ∧ TX w B s' H S m h l
section
variable {u w : Nat} {A ρ : Nat → Nat} {R : Nat → List Nat} {a b : Int} {s : aS} {B : Int} {s' : aS} {H : List aS} {S : Option aS} {m : xM} {h : gH} {l : List Nat}
theorem TO.wlt (t : TO u w A ρ R a b s B s' H S m h l) : w < 2000 + h.length := by
  obtain ⟨p, q, -⟩ := t.2.1
  exact (gat_in q).2
theorem TO.go (t : TO u w A ρ R a b s B s' H S m h l) {m' : xM} {h' : gH} {l' : List Nat} (x : TX w B s' H S m' h' l') (q : hO w h h') : TO u w A ρ R a b s B s' H S m' h' l' := ⟨⟨t.1.1.k50 (q.P t.1.2) (by rw [q.2.1]; exact Nat.le_refl _), t.1.2⟩, x⟩
theorem TO.app (t : TO u w A ρ R a b s B s' H S m h l) (g : gH) : TO u w A ρ R a b s B s' H S m (h ++ g) l := ⟨⟨t.1.1.app g, t.1.2⟩, t.2.app g⟩
/-- a clause out of a new row -/
theorem TO.clause (t : TO u w A ρ R a b s B s' H S m h l) {i : Nat} (hi : i < 28) {L : List Nat} (hL : ∀ v, v ∈ L → v < 100) (hLl : L.length ≤ 10) (hl : l.length < 300) : ∃ (m' : xM) (h' : gH), f_L_line w i (2000 + h.length) m (h ++ [.inl (0, cI L)]) = some (m', h') ∧ TO u w A ρ R a b s B s' H S m' h' (l ++ (wb i ++ sep L ++ [59])) ∧ h'.length = h.length + 1 ∧ gsl h' = gsl h + L.length := by
  have tw := t.wlt
  have t1 := t.app [.inl (0, cI L)]
  obtain ⟨m', h', e1, e2, e3⟩ := t1.2.line hi (a := 2000 + h.length) (by omega) hL hLl (gat_nw _ _ []) hl
  refine ⟨m', h', e1, t1.go e2 e3, by rw [e3.2.1, List.length_append]; rfl, ?_⟩
  rw [e3.2.2, gsl_app]
  show gsl h + ((cI L).length + 0) = _
  rw [cI_len]
  rfl
theorem TO.one (t : TO u w A ρ R a b s B s' H S m h l) {j i v : Nat} {zj : Int} (hz : zj = (j : Int)) (hj : j < 7) (hv : s.1 (12 + j) = (v : Int)) (hv2 : v < 100) (hi : i < 28) (hl : l.length < 300) : ∃ (m' : xM) (h' : gH), (∀ K : xM × gH → Option (Int × xM × gH), (Option.bind (gNw 0 h 1) fun q22 => (Option.bind (gfK q22.2 u 16) fun q23 => (Option.bind (gaN 0 q22.2 q23 zj) fun q24 => (Option.bind (gsN 0 q22.2 q22.1 0 q24) fun q25 => (Option.bind (f_L_line w i q22.1 m q25) K))))) = K (m', h')) ∧ TO u w A ρ R a b s B s' H S m' h' (l ++ (wb i ++ sep [v] ++ [59])) ∧ h'.length = h.length + 1 ∧ gsl h' = gsl h + 1 := by
  obtain ⟨m', h', e1, e2, e3, e4⟩ := t.clause hi (L := [v]) (fun x hx => by rw [List.mem_singleton.mp hx]; exact hv2) (show 1 ≤ 10 by omega) hl
  refine ⟨m', h', fun K => ?_, e2, e3, e4⟩
  have o1 := t.1.1.app [.inl (0, [0])]
  have n1 : gNw 0 h 1 = some (2000 + h.length, h ++ [.inl (0, [0])]) := gNw_z 0 h (n := 1) rfl (by omega)
  have s1 : gsN 0 (h ++ [.inl (0, [0])]) (2000 + h.length) 0 (v : Int) = some (h ++ [.inl (0, cI [v])]) := gsN_nz (i := 0) (v : Int) rfl (by decide) (by decide)
  rw [n1, Option.bind_some]
  dsimp only
  rw [o1.k16, Option.bind_some, o1.set j hz hj, hv, Option.bind_some, s1, Option.bind_some, e1, Option.bind_some]
theorem TO.two (t : TO u w A ρ R a b s B s' H S m h l) {i v v' : Nat} (hv : s.1 15 = (v : Int)) (hv' : s.1 16 = (v' : Int)) (hv2 : v < 100 ∧ v' < 100) (hi : i < 28) (hl : l.length < 300) : ∃ (m' : xM) (h' : gH), (∀ K : xM × gH → Option (Int × xM × gH), (Option.bind (gNw 0 h 2) fun q37 => (Option.bind (gfK q37.2 u 16) fun q38 => (Option.bind (gaN 0 q37.2 q38 3) fun q39 => (Option.bind (gsN 0 q37.2 q37.1 0 q39) fun q40 => (Option.bind (gfK q40 u 16) fun q41 => (Option.bind (gaN 0 q40 q41 4) fun q42 => (Option.bind (gsN 0 q40 q37.1 1 q42) fun q43 => (Option.bind (f_L_line w i q37.1 m q43) K)))))))) = K (m', h')) ∧ TO u w A ρ R a b s B s' H S m' h' (l ++ (wb i ++ sep [v, v'] ++ [59])) ∧ h'.length = h.length + 1 ∧ gsl h' = gsl h + 2 := by
  obtain ⟨m', h', e1, e2, e3, e4⟩ := t.clause hi (L := [v, v']) (fun x hx => by
    rcases List.mem_cons.mp hx with w | w
    · omega
    · have := List.mem_singleton.mp w; omega) (show 2 ≤ 10 by omega) hl
  refine ⟨m', h', fun K => ?_, e2, e3, e4⟩
  have o1 := t.1.1.app [.inl (0, [0, 0])]
  have o2 := t.1.1.app [.inl (0, [(v : Int), 0])]
  have n1 : gNw 0 h 2 = some (2000 + h.length, h ++ [.inl (0, [0, 0])]) := gNw_z 0 h (n := 2) rfl (by omega)
  have s1 : gsN 0 (h ++ [.inl (0, [0, 0])]) (2000 + h.length) 0 (v : Int) = some (h ++ [.inl (0, [(v : Int), 0])]) := gsN_nz (i := 0) (v : Int) rfl (by decide) (by decide)
  have s2 : gsN 0 (h ++ [.inl (0, [(v : Int), 0])]) (2000 + h.length) 1 (v' : Int) = some (h ++ [.inl (0, cI [v, v'])]) := gsN_nz (i := 1) (v' : Int) rfl (show 1 < 2 by omega) (show 2 < 2147483648 by omega)
  have g3 : gaN 0 (h ++ [.inl (0, [0, 0])]) (A 16) 3 = some (v : Int) := by rw [o1.set 3 (z := 3) rfl (by omega)]; exact congrArg some hv
  have g4 : gaN 0 (h ++ [.inl (0, [(v : Int), 0])]) (A 16) 4 = some (v' : Int) := by rw [o2.set 4 (z := 4) rfl (by omega)]; exact congrArg some hv'
  rw [n1, Option.bind_some]
  dsimp only
  rw [o1.k16, Option.bind_some, g3, Option.bind_some, s1, Option.bind_some, o2.k16, Option.bind_some, g4, Option.bind_some, s2, Option.bind_some, e1, Option.bind_some]
theorem TO.four (t : TO u w A ρ R a b s B s' H S m h l) {i v0 v1 v2 v3 : Nat} (h0 : s.1 21 = (v0 : Int)) (h1 : s.1 22 = (v1 : Int)) (h2 : s.1 23 = (v2 : Int)) (h3 : s.1 24 = (v3 : Int)) (hv : ∀ x, x ∈ [v0, v1, v2, v3] → x < 100) (hi : i < 28) (hl : l.length < 300) : ∃ (m' : xM) (h' : gH), (∀ K : xM × gH → Option (Int × xM × gH), (Option.bind (gNw 0 h 4) fun q8 => (Option.bind (gfK q8.2 u 14) fun q9 => (Option.bind (gaN 0 q8.2 q9 0) fun q10 => (Option.bind (gsN 0 q8.2 q8.1 0 q10) fun q11 => (Option.bind (gfK q11 u 14) fun q12 => (Option.bind (gaN 0 q11 q12 1) fun q13 => (Option.bind (gsN 0 q11 q8.1 1 q13) fun q14 => (Option.bind (gfK q14 u 14) fun q15 => (Option.bind (gaN 0 q14 q15 2) fun q16 => (Option.bind (gsN 0 q14 q8.1 2 q16) fun q17 => (Option.bind (gfK q17 u 14) fun q18 => (Option.bind (gaN 0 q17 q18 3) fun q19 => (Option.bind (gsN 0 q17 q8.1 3 q19) fun q20 => (Option.bind (f_L_line w i q8.1 m q20) K)))))))))))))) = K (m', h')) ∧ TO u w A ρ R a b s B s' H S m' h' (l ++ (wb i ++ sep [v0, v1, v2, v3] ++ [59])) ∧ h'.length = h.length + 1 ∧ gsl h' = gsl h + 4 := by
  obtain ⟨m', h', e1, e2, e3, e4⟩ := t.clause hi (L := [v0, v1, v2, v3]) hv (show 4 ≤ 10 by omega) hl
  refine ⟨m', h', fun K => ?_, e2, e3, e4⟩
  have o0 := t.1.1.app [.inl (0, [0, 0, 0, 0])]
  have o1 := t.1.1.app [.inl (0, [(v0 : Int), 0, 0, 0])]
  have o2 := t.1.1.app [.inl (0, [(v0 : Int), v1, 0, 0])]
  have o3 := t.1.1.app [.inl (0, [(v0 : Int), v1, v2, 0])]
  have n1 : gNw 0 h 4 = some (2000 + h.length, h ++ [.inl (0, [0, 0, 0, 0])]) := gNw_z 0 h (n := 4) rfl (by omega)
  have s0 : gsN 0 (h ++ [.inl (0, [0, 0, 0, 0])]) (2000 + h.length) 0 (v0 : Int) = some (h ++ [.inl (0, [(v0 : Int), 0, 0, 0])]) := gsN_nz (i := 0) _ rfl (show 0 < 4 by omega) (show 4 < 2147483648 by omega)
  have s1 : gsN 0 (h ++ [.inl (0, [(v0 : Int), 0, 0, 0])]) (2000 + h.length) 1 (v1 : Int) = some (h ++ [.inl (0, [(v0 : Int), v1, 0, 0])]) := gsN_nz (i := 1) _ rfl (show 1 < 4 by omega) (show 4 < 2147483648 by omega)
  have s2 : gsN 0 (h ++ [.inl (0, [(v0 : Int), v1, 0, 0])]) (2000 + h.length) 2 (v2 : Int) = some (h ++ [.inl (0, [(v0 : Int), v1, v2, 0])]) := gsN_nz (i := 2) _ rfl (show 2 < 4 by omega) (show 4 < 2147483648 by omega)
  have s3 : gsN 0 (h ++ [.inl (0, [(v0 : Int), v1, v2, 0])]) (2000 + h.length) 3 (v3 : Int) = some (h ++ [.inl (0, cI [v0, v1, v2, v3])]) := gsN_nz (i := 3) _ rfl (show 3 < 4 by omega) (show 4 < 2147483648 by omega)
  have g0 : gaN 0 (h ++ [.inl (0, [0, 0, 0, 0])]) (A 14) 0 = some (v0 : Int) := by rw [o0.train 0 (z := 0) rfl (by omega)]; exact congrArg some h0
  have g1 : gaN 0 (h ++ [.inl (0, [(v0 : Int), 0, 0, 0])]) (A 14) 1 = some (v1 : Int) := by rw [o1.train 1 (z := 1) rfl (by omega)]; exact congrArg some h1
  have g2 : gaN 0 (h ++ [.inl (0, [(v0 : Int), v1, 0, 0])]) (A 14) 2 = some (v2 : Int) := by rw [o2.train 2 (z := 2) rfl (by omega)]; exact congrArg some h2
  have g3 : gaN 0 (h ++ [.inl (0, [(v0 : Int), v1, v2, 0])]) (A 14) 3 = some (v3 : Int) := by rw [o3.train 3 (z := 3) rfl (by omega)]; exact congrArg some h3
  rw [n1, Option.bind_some]
  dsimp only
  rw [o0.k14, Option.bind_some, g0, Option.bind_some, s0, Option.bind_some, o1.k14, Option.bind_some, g1, Option.bind_some, s1, Option.bind_some, o2.k14, Option.bind_some, g2, Option.bind_some, s2, Option.bind_some, o3.k14, Option.bind_some, g3, Option.bind_some, s3, Option.bind_some, e1, Option.bind_some]
/-- one rate is told -/
theorem TO.rate (t : TO u w A ρ R a b s B s' H S m h l) (hm : oSm s) {k c sp nd : Nat} {zc : Int} (hz : zc = (c : Int)) (hc : c < 256) (hk : (k : Int) < s.1 11) (hsp : s.1 (35 + k) = (sp : Int)) (hnd : s.1 (40 + k) = (nd : Int)) (h1 : sp < 100) (h2 : nd < 100) (hl : l.length < 300) : ∃ (m' : xM) (h' : gH), (∀ K : Int → xM → gH → Option (Int × xM × gH), f_L_tell_48 w u K (k : Int) zc w m h = K ((k : Int) + 1) m' h') ∧ TO u w A ρ R a b s B s' H S m' h' (l ++ (c :: (dgN sp ++ (32 :: dgN nd)))) ∧ hO w h h' := by
  obtain ⟨m1, g1, a1, a2, a3⟩ := t.2.add hc (by omega) hz
  have t1 := t.go a2 a3
  have d1 := (dgN_len sp).2
  obtain ⟨m2, g2, b1, b2, b3⟩ := t1.2.number h1 (by rw [List.length_append, List.length_singleton]; omega)
  have t2 := t1.go b2 b3
  obtain ⟨m3, g3, c1, c2, c3⟩ := t2.2.add (b := 32) (by omega) (by rw [List.length_append, List.length_append, List.length_singleton]; omega) (z := 32) rfl
  have t3 := t2.go c2 c3
  obtain ⟨m4, g4, e1, e2, e3⟩ := t3.2.number h2 (by rw [List.length_append, List.length_append, List.length_append, List.length_singleton, List.length_singleton]; omega)
  have t4 := t3.go e2 e3
  have el : l ++ [c] ++ dgN sp ++ [32] ++ dgN nd = l ++ (c :: (dgN sp ++ (32 :: dgN nd))) := by
    simp only [List.append_assoc, List.cons_append, List.nil_append]
  rw [el] at t4
  refine ⟨m4, g4, fun K => ?_, t4, ((a3.tr b3).tr c3).tr e3⟩
  unfold f_L_tell_48
  rw [a1, Option.bind_some]
  dsimp only
  rw [t1.1.1.k12, Option.bind_some, t1.1.1.speed hm k rfl hk, hsp, Option.bind_some, b1, Option.bind_some]
  dsimp only
  rw [c1, Option.bind_some]
  dsimp only
  rw [t3.1.1.k13, Option.bind_some, t3.1.1.need hm k rfl hk, hnd, Option.bind_some, e1, Option.bind_some]
theorem rtx_len : ∀ Q : List (Nat × Nat), (rtx Q).length ≤ 6 * Q.length
  | [] => Nat.le_refl 0
  | p :: Q => by
    have := rtx_len Q
    have a := (dgN_len p.1).2
    have b := (dgN_len p.2).2
    show (44 :: (dgN p.1 ++ (32 :: (dgN p.2 ++ rtx Q)))).length ≤ _
    rw [List.length_cons, List.length_append, List.length_cons, List.length_append, List.length_cons]
    omega
theorem TO.rates (hm : oSm s) {Q : List (Nat × Nat)} (hQ : s.1 11 = (Q.length : Int)) (hv : ∀ k, k < Q.length → s.1 (35 + k) = (((Q.getD k (0, 0)).1 : Nat) : Int) ∧ s.1 (40 + k) = (((Q.getD k (0, 0)).2 : Nat) : Int) ∧ (Q.getD k (0, 0)).1 < 100 ∧ (Q.getD k (0, 0)).2 < 100) (hQl : Q.length ≤ 5) : ∀ (j k n : Nat) (l : List Nat) (m : xM) (h : gH), TO u w A ρ R a b s B s' H S m h l → k + j = Q.length → 1 ≤ k → j < n → l.length + 6 * j < 280 → ∃ (m' : xM) (h' : gH), f_L_tell_26 w u n (k : Int) m h = f_L_tell_86 w u m' h' ∧ TO u w A ρ R a b s B s' H S m' h' (l ++ rtx (Q.drop k)) ∧ hO w h h' := by
  intro j
  induction j with
  | zero =>
    intro k n l m h t h1 h2 h3 h4
    obtain ⟨n, rfl⟩ : ∃ z, n = z + 1 := ⟨n - 1, by omega⟩
    refine ⟨m, h, ?_, ?_, hO.rf w h⟩
    · rw [f_L_tell_26, t.1.1.k12, Option.bind_some, t.1.1.speeds hm, Option.bind_some, hQ, if_neg (by rw [xw_nat (by omega), xw_nat (by omega)]; omega)]
    · rw [List.drop_of_length_le (by omega), show rtx [] = [] from rfl, List.append_nil]; exact t
  | succ j ih =>
    intro k n l m h t h1 h2 h3 h4
    obtain ⟨n, rfl⟩ : ∃ z, n = z + 1 := ⟨n - 1, by omega⟩
    have hk : k < Q.length := by omega
    obtain ⟨v1, v2, v3, v4⟩ := hv k hk
    obtain ⟨m1, g1, a1, a2, a3⟩ := t.rate hm (k := k) (c := 44) (zc := 44) rfl (by omega) (by rw [hQ]; omega) v1 v2 v3 v4 (by omega)
    have d1 := (dgN_len (Q.getD k (0, 0)).1).2
    have d2 := (dgN_len (Q.getD k (0, 0)).2).2
    obtain ⟨m2, g2, b1, b2, b3⟩ := ih (k + 1) n _ m1 g1 a2 (by omega) (by omega) (by omega) (by
      rw [List.length_append, List.length_cons, List.length_append, List.length_cons]
      omega)
    refine ⟨m2, g2, ?_, ?_, a3.tr b3⟩
    · rw [f_L_tell_26, t.1.1.k12, Option.bind_some, t.1.1.speeds hm, Option.bind_some, hQ, if_pos (by rw [xw_nat (by omega), xw_nat (by omega)]; omega), if_pos (by rw [xw_nat (by omega)]; omega), a1, show (k : Int) + 1 = ((k + 1 : Nat) : Int) by omega]
      exact b1
    · have e : Q.drop k = Q.getD k (0, 0) :: Q.drop (k + 1) := by
        rw [List.drop_eq_getElem_cons hk, List.getD_eq_getElem?_getD, List.getElem?_eq_getElem hk]
        rfl
      have e2 : l ++ rtx (Q.drop k) = l ++ (44 :: (dgN (Q.getD k (0, 0)).1 ++ (32 :: dgN (Q.getD k (0, 0)).2))) ++ rtx (Q.drop (k + 1)) := by
        rw [e]
        show l ++ (44 :: (dgN (Q.getD k (0, 0)).1 ++ (32 :: (dgN (Q.getD k (0, 0)).2 ++ rtx (Q.drop (k + 1)))))) = _
        simp only [List.append_assoc, List.cons_append]
      rw [e2]
      exact b2
theorem TO.noises (hm : oSm s) {N : List Nat} (hN : s.1 19 = (N.length : Int)) (hv : ∀ k, k < N.length → s.1 (25 + k) = ((N.getD k 0 : Nat) : Int) ∧ N.getD k 0 < 100) (hNl : N.length ≤ 10) : ∀ (j k n : Nat) (l : List Nat) (m : xM) (h : gH), TO u w A ρ R a b s B s' H S m h l → k + j = N.length → j < n → l.length + 3 * j < 380 → ∃ (m' : xM) (h' : gH), f_L_tell_282 w u n (A 15) (N.length : Int) (k : Int) m h = f_L_tell_315 w u m' h' ∧ TO u w A ρ R a b s B s' H S m' h' (l ++ sep (N.drop k)) ∧ hO w h h' := by
  intro j
  induction j with
  | zero =>
    intro k n l m h t h1 h3 h4
    obtain ⟨n, rfl⟩ : ∃ z, n = z + 1 := ⟨n - 1, by omega⟩
    refine ⟨m, h, ?_, ?_, hO.rf w h⟩
    · rw [f_L_tell_282, if_neg (by rw [xw_nat (by omega), xw_nat (by omega)]; omega)]
    · rw [List.drop_of_length_le (by omega), show sep [] = [] from rfl, List.append_nil]; exact t
  | succ j ih =>
    intro k n l m h t h1 h3 h4
    obtain ⟨n, rfl⟩ : ∃ z, n = z + 1 := ⟨n - 1, by omega⟩
    have hk : k < N.length := by omega
    obtain ⟨v1, v2⟩ := hv k hk
    obtain ⟨m1, g1, a1, a2, a3⟩ := t.2.add (b := 32) (by omega) (by omega) (z := 32) rfl
    have t1 := t.go a2 a3
    have d1 := (dgN_len (N.getD k 0)).2
    obtain ⟨m2, g2, b1, b2, b3⟩ := t1.2.number v2 (by rw [List.length_append, List.length_singleton]; omega)
    have t2 := t1.go b2 b3
    obtain ⟨m3, g3, c1, c2, c3⟩ := ih (k + 1) n _ m2 g2 t2 (by omega) (by omega) (by
      rw [List.length_append, List.length_append, List.length_singleton]
      omega)
    refine ⟨m3, g3, ?_, ?_, (a3.tr b3).tr c3⟩
    · rw [f_L_tell_282, if_pos (by rw [xw_nat (by omega), xw_nat (by omega)]; omega), t.1.1.noise hm k rfl (by rw [hN]; omega), v1, Option.bind_some, a1, Option.bind_some]
      dsimp only
      rw [b1, Option.bind_some, show (k : Int) + 1 = ((k + 1 : Nat) : Int) by omega]
      exact c1
    · have e : N.drop k = N.getD k 0 :: N.drop (k + 1) := by
        rw [List.drop_eq_getElem_cons hk, List.getD_eq_getElem?_getD, List.getElem?_eq_getElem hk]
        rfl
      have e2 : l ++ sep (N.drop k) = l ++ [32] ++ dgN (N.getD k 0) ++ sep (N.drop (k + 1)) := by
        rw [e, sep_cons]
        simp only [List.append_assoc, List.cons_append, List.nil_append]
      rw [e2]
      exact c2
end

/-! ===== the law's act of sending ===== -/
section
variable {u w : Nat} {A ρ : Nat → Nat} {R : Nat → List Nat} {a b : Int} {h h' : gH} {s : aS} {B : Int} {m : xM} {H : List aS} {S : Option aS}
theorem OR.k50 (o : OR u A R ρ a b h s) (p : hP 50 ρ h h') (hl : h.length ≤ h'.length) : OR u A R ρ a b h' s := by
  obtain ⟨⟨p1, r⟩, p2, p3, ⟨p4, p5, p6, p7⟩, p8, p9, p10⟩ := o
  exact ⟨⟨p _ _ (by rw [r.1]; omega) p1, r.len hl⟩, p2.kp r p (by omega), p3.kp r p (by omega), ⟨p4.kp r p (by omega) (by omega) (by omega), p5.kp r p (by omega) (by omega) (by omega), p6.kp r p (by omega) (by omega) (by omega), p7.kp r p (by omega) (by omega) (by omega)⟩, p8.kp r p (by omega) (by omega) (by omega), p9.kp r p (by omega) (by omega) (by omega), p10.kp r p (by omega) (by omega) (by omega)⟩
theorem hO.P (q : hO w h h') (hw : ρ w = 50) : hP 50 ρ h h' := fun y c hy e => by
  rw [q.1 y (fun k => hy (by rw [k]; exact hw))]; exact e
/-- as hC, but for the cell at w, all roles as they are -/
def hCw (n z w : Nat) (ρ : Nat → Nat) (h h' : gH) : Prop := (h.length ≤ h'.length ∧ h'.length ≤ h.length + n ∧ gsl h' ≤ gsl h + z) ∧ ∀ y c, y ≠ w → (ρ y = 0 ∨ 50 ≤ ρ y) → gat h y = some c → gat h' y = some c
theorem hCw.rf (w : Nat) (ρ : Nat → Nat) (h : gH) : hCw 0 0 w ρ h h := ⟨⟨Nat.le_refl _, Nat.le_refl _, Nat.le_refl _⟩, fun _ _ _ _ e => e⟩
theorem hCw.tr {n z n' z' : Nat} {h'' : gH} (p : hCw n z w ρ h h') (q : hCw n' z' w ρ h' h'') : hCw (n + n') (z + z') w ρ h h'' := by
  obtain ⟨⟨p1, p2, p3⟩, p4⟩ := p
  obtain ⟨⟨q1, q2, q3⟩, q4⟩ := q
  exact ⟨⟨by omega, by omega, by omega⟩, fun y c hy hr e => q4 y c hy hr (p4 y c hy hr e)⟩
theorem hCw.le {n z n' z' : Nat} (p : hCw n z w ρ h h') (hn : n ≤ n') (hz : z ≤ z') : hCw n' z' w ρ h h' := ⟨⟨p.1.1, by have := p.1.2.1; omega, by have := p.1.2.2; omega⟩, p.2⟩
theorem hO.Cw (q : hO w h h') : hCw 0 0 w ρ h h' := ⟨⟨by rw [q.2.1]; exact Nat.le_refl _, by rw [q.2.1]; exact Nat.le_refl _, by rw [q.2.2]; exact Nat.le_refl _⟩, fun y c hy _ e => by rw [q.1 y hy]; exact e⟩
theorem hC.Cw {n z : Nat} (q : hC n z ρ h ρ h') : hCw n z w ρ h h' := ⟨q.1, fun y c _ hr e => (q.2 y c hr e).1⟩
theorem hCw.C {n z : Nat} (p : hCw n z w ρ h h') (k : wZ w ρ h) (k' : gat h' w = some (.inl (0, [0, 0, 0, 0, 0, 0]))) : hC n z ρ h ρ h' := ⟨p.1, fun y c hr e => ⟨by
  by_cases q : y = w
  · rw [q] at e ⊢
    rw [k.1] at e
    rw [k', e]
  · exact p.2 y c q hr e, rfl⟩⟩
theorem act_263 (v x5 : Int) {e N : Nat} (hN : N ≤ 69) (hw : ρ w = 50) {Q : List Int} (hQ : Q.length ≤ 300) : ∀ (j x n : Nat) (l : List Nat) (x8 : Nat) (h : gH) (m : xM), x + j = N → j < n → OR u A R ρ a b h s → wX w h l → aX B m s H S (cTk l) → bys l → l.length = x → oI h ρ x8 (Q ++ cI l) → ∃ (l' : List Nat) (x8' : Nat) (h' : gH) (m' : xM), f_L_act_263 w u v n x5 (e : Int) (N : Int) x8 (x : Int) m h = f_L_act_325 w u v (e : Int) x8' m' h' ∧ OR u A R ρ a b h' s ∧ wX w h' l' ∧ aX B m' s H S (cTk l') ∧ bys l' ∧ l'.length = N ∧ oI h' ρ x8' (Q ++ cI l') ∧ hCw j (j * (Q.length + N)) w ρ h h' := by
  intro j
  induction j with
  | zero =>
    intro x n l x8 h m h1 h2 o hx ha hl hlen hq
    obtain ⟨n, rfl⟩ : ∃ z, n = z + 1 := ⟨n - 1, by omega⟩
    refine ⟨l, x8, h, m, ?_, o, hx, ha, hl, by omega, hq, (hCw.rf w ρ h).le (by omega) (by omega)⟩
    rw [f_L_act_263, if_neg (by rw [xw_nat (by omega), xw_nat (by omega)]; omega)]
  | succ j ih =>
    intro x n l x8 h m h1 h2 o hx ha hl hlen hq
    obtain ⟨n, rfl⟩ : ∃ z, n = z + 1 := ⟨n - 1, by omega⟩
    obtain ⟨r1, hr1, e1⟩ := L_most (xishr x5 3) (k := 2) (by omega)
    have e1' : f_L_most (xishr x5 3) 2 h = some (r1 : Int) := e1 h
    have key : ∀ K : Nat, (K = 12 ∨ K = 4) → ∃ (l' : List Nat) (x8' : Nat) (h' : gH) (m' : xM), f_L_act_297 w u v (f_L_act_263 w u v n) x5 (e : Int) (N : Int) x8 (x : Int) (K : Int) (xishr x5 (xirem (x : Int) 7)) 97 m h = f_L_act_325 w u v (e : Int) x8' m' h' ∧ OR u A R ρ a b h' s ∧ wX w h' l' ∧ aX B m' s H S (cTk l') ∧ bys l' ∧ l'.length = N ∧ oI h' ρ x8' (Q ++ cI l') ∧ hCw (j + 1) ((j + 1) * (Q.length + N)) w ρ h h' := fun K hK => by
      obtain ⟨r2, h2r, e2⟩ := L_most (xishr x5 (xirem (x : Int) 7)) (k := K) (by omega)
      obtain ⟨m1, g1, a1, a2, a3, a4⟩ := L_add hx ha hl (b := 97 + r2) (by omega) (by omega)
      have o1 := o.k50 (a4.P hw) (by rw [a4.2.1]; exact Nat.le_refl _)
      have hq1 : oI g1 ρ x8 (Q ++ cI l) := hq.kp (a4.P hw) (by omega)
      have hl1 : (Q ++ cI l).length = Q.length + x := by rw [List.length_append, cI_len, hlen]
      have w1 := O_with (((97 + r2 : Nat)) : Int) hq1.1 (by omega)
      obtain ⟨g2, hg2⟩ : ∃ g2 : gH, g2 = [.inl (0, (Q ++ cI l) ++ [((97 + r2 : Nat) : Int)])] := ⟨_, rfl⟩
      have o2 := o1.app g2
      have cl : cI (l ++ [97 + r2]) = cI l ++ [((97 + r2 : Nat) : Int)] := by rw [cI_app]; rfl
      have hw2 : w < 2000 + g1.length := by
        obtain ⟨p, q, -⟩ := a2
        exact (gat_in q).2
      have hx2 : wX w (g1 ++ g2) (l ++ [97 + r2]) := by
        obtain ⟨p, q1, q2⟩ := a2
        exact ⟨p, gat_lt q1 g2, q2⟩
      have hq2 : oI (g1 ++ g2) ρ (2000 + g1.length) (Q ++ cI (l ++ [97 + r2])) := ⟨by rw [hg2, cl, ← List.append_assoc]; exact gat_nw _ _ [], o1.1.2.2.2.1 _ (Nat.le_refl _)⟩
      obtain ⟨l', x8', h', m', b1, b2, b3, b4, b5, b6, b7, b8⟩ := ih (x + 1) n (l ++ [97 + r2]) (2000 + g1.length) (g1 ++ g2) m1 (by omega) (by omega) o2 hx2 a3 (fun y hy => by
        rcases List.mem_append.mp hy with q | q
        · exact hl y q
        · rw [List.mem_singleton.mp q]; omega) (by rw [List.length_append, hlen]; rfl) hq2
      refine ⟨l', x8', h', m', ?_, b2, b3, b4, b5, b6, b7, ?_⟩
      · unfold f_L_act_297
        have ec : (97 : Int) + (r2 : Int) = ((97 + r2 : Nat) : Int) := by omega
        rw [e2, Option.bind_some, ec, a1, Option.bind_some]
        dsimp only
        rw [w1, Option.bind_some, ← hg2]
        dsimp only
        rw [show (x : Int) + 1 = ((x + 1 : Nat) : Int) by omega]
        exact b1
      · have c0 : hCw 1 (Q.length + N) w ρ h (g1 ++ g2) := (a4.Cw.tr ((hC.app ρ g1 g2).Cw)).le (by rw [hg2]; exact Nat.le_refl _) (by
          rw [hg2]
          show 0 + (((Q ++ cI l) ++ [((97 + r2 : Nat) : Int)]).length + 0) ≤ _
          rw [List.length_append, hl1]
          show 0 + (Q.length + x + 1 + 0) ≤ _
          omega)
        exact (c0.tr b8).le (by omega) (by rw [Nat.succ_mul]; omega)
    rw [f_L_act_263, if_pos (by rw [xw_nat (by omega), xw_nat (by omega)]; omega), if_neg (by decide), e1', Option.bind_some, xw_nat (by omega)]
    by_cases c : (r1 : Int) = 0
    · rw [if_pos c]
      exact key 12 (Or.inl rfl)
    · rw [if_neg c]
      exact key 4 (Or.inr rfl)
theorem pCl_app (q : List Int) (r : List Int) (h : r.length ≤ 69) : pCl (q ++ r) ≤ pCl q + 9 := by
  unfold pCl
  rw [List.length_append]
  omega
theorem p_sendQ {e : Nat} (he : e < 2) (hi : pI s) {r : List Int} (hr : r.length ≤ 69) : pQ 0 0 16344 32760 s (aL s ((56 + 717 * e) + 117) ((s.2.1 (56 + 717 * e + 117)) ++ r)) ∧ pI (aL s ((56 + 717 * e) + 117) ((s.2.1 (56 + 717 * e + 117)) ++ r)) := by
  obtain ⟨t, ht⟩ : ∃ t, t = aL s ((56 + 717 * e) + 117) ((s.2.1 (56 + 717 * e + 117)) ++ r) := ⟨_, rfl⟩
  rw [← ht]
  have e1 : t.1 = s.1 := by rw [ht]; rfl
  have e2 : t.2.2 = s.2.2 := by rw [ht]; rfl
  have hq : (t.2.1 (56 + 717 * e + 117)) = (s.2.1 (56 + 717 * e + 117)) ++ r := by
    show t.2.1 _ = _
    rw [ht, aL_2, if_pos rfl]
  have hq' : ∀ e', e' < 2 → e' ≠ e → (t.2.1 (56 + 717 * e' + 117)) = (s.2.1 (56 + 717 * e' + 117)) := fun e' he' hne => by
    show t.2.1 _ = _
    rw [ht, aL_2, if_neg (by omega)]
  have hf : ∀ e, (t.2.2 (56 + 717 * e + 26)) = (s.2.2 (56 + 717 * e + 26)) := fun e => by
    show t.2.2 _ = _
    rw [e2]
  have hfl : (t.2.2 1730) = (s.2.2 1730) := by
    show t.2.2 1730 = _
    rw [e2]
  have cl := pCl_app ((s.2.1 (56 + 717 * e + 117))) r hr
  have a1 : pEnd t (1 - e) = pEnd s (1 - e) := pEnd.cg (fun j _ => by rw [e1]) (hf _) (hq' _ (by omega) (by omega))
  have a2 : pXe t (1 - e) = pXe s (1 - e) := pXe.cg (fun j _ => by rw [e1]) (hq' _ (by omega) (by omega))
  have b1 : pEnd t e ≤ pEnd s e + 16344 := by
    unfold pEnd
    rw [hf, hq, e1]
    omega
  have b2 : pXe t e ≤ pXe s e + 32760 := by
    unfold pXe
    rw [hq, e1]
    omega
  have r1 : pRest t = pRest s := pRest.cg (fun j _ => by rw [e1]) hfl
  refine ⟨pQ.mk 0 (by omega) (by omega) ?_ ?_, hi.cg (fun j _ => by rw [e1]) fun e' _ => hf e'⟩
  · rw [(pP_e he t).1, (pP_e he s).1, a1, r1]
    omega
  · rw [(pP_e he t).2, (pP_e he s).2, a2]
    omega
theorem act_246 (o : OO u A ρ h s) (hw : wZ w ρ h) (hx : aX B m s H S []) (hv : vB s) (hi : pI s) (hB1 : 255 ≤ B) (hB : B ≤ 400000000) (v x5 x : Int) {e : Nat} (he : e < 2) {k : Nat} (hk : 0 < k ∧ k ≤ 70) : LR u w ρ h s H S B (f_L_act_246 w u v x5 (e : Int) (k : Int) x m h) := by
  have oo := o
  obtain ⟨R, oR⟩ := oo
  obtain ⟨ha, hu⟩ := hx.ai
  have ph := ha.1.2.1
  have hq2 : ((s.2.1 (56 + 717 * e + 117))).length ≤ 200 := (hu e he).2.1
  obtain ⟨N, hN, eN⟩ := L_most x (k := k) (by omega)
  obtain ⟨xq, y1, y2⟩ := oR.que e rfl he
  have y2' : oI h ρ xq ((s.2.1 (56 + 717 * e + 117)) ++ cI []) := by
    have : (s.2.1 (56 + 717 * e + 117)) ++ cI [] = (s.2.1 (56 + 717 * e + 117)) := List.append_nil _
    rw [this]; exact y2
  obtain ⟨l, x8, h1, m1, a1, a2, a3, a4, a5, a6, a7, a8⟩ := act_263 (u := u) (A := A) (R := R) (a := (((s.2.2 1490)).length : Int)) (b := (((s.2.2 1730)).length : Int)) (s := s) (B := B) (H := H) (S := S) v x5 (e := e) (N := N) (by omega) hw.2 (Q := (s.2.1 (56 + 717 * e + 117))) (by omega) N 0 fu [] xq h m (by omega) (by show _ < 5000; omega) oR (wZ.X hw.1) hx (fun y hy => absurd hy List.not_mem_nil) rfl y2'
  rw [show ((0 : Nat) : Int) = 0 from rfl] at a1
  obtain ⟨m2, h2, k2, b1, b2, b3, b4⟩ := L_end a3 a4 a5 (by omega)
  have o2 : OR u A R ρ (((s.2.2 1490)).length : Int) (((s.2.2 1730)).length : Int) h2 s := a2.k50 (b4.P hw.2) (by rw [b4.2.1]; exact Nat.le_refl _)
  have q2 : oI h2 ρ x8 ((s.2.1 (56 + 717 * e + 117)) ++ cI l) := a7.kp (b4.P hw.2) (by omega)
  have hzc : hC N (N * (((s.2.1 (56 + 717 * e + 117))).length + N)) ρ h ρ h2 := ((a8.tr (b4.Cw (ρ := ρ))).le (by omega) (by omega)).C hw b2
  have w2 : wZ w ρ h2 := ⟨b2, hw.2⟩
  have lq : ((s.2.1 (56 + 717 * e + 117)) ++ cI l).length = ((s.2.1 (56 + 717 * e + 117))).length + N := by rw [List.length_append, cI_len, a6]
  have hb : (cI (l ++ List.replicate k2 32)).take N = cI l := by
    rw [cI_app, List.take_append_of_le_length (by rw [cI_len, a6]; exact Nat.le_refl _), List.take_of_length_le (by rw [cI_len, a6]; exact Nat.le_refl _)]
  obtain ⟨m3, c1, c2⟩ := b3.send he (z := N) (by rw [cI_len, List.length_append, a6]; omega) hB1 (by omega)
  rw [hb] at c2
  rw [a6] at b1
  have t383 : ∀ hh : gH, f_L_act_383 w u v (aSendN e N s) (aSendN e N s) m3 hh = some (if aSendN e N s < 0 then 0 else 1, m3, hh) := fun hh => by
    have : -3 ≤ aSendN e N s ∧ aSendN e N s ≤ 100000 := by
      unfold aSendN
      split
      · omega
      · split <;> omega
    unfold f_L_act_383
    rw [if_pos rfl, xw_id (by omega) (by omega)]
    split <;> rfl
  unfold f_L_act_246
  rw [eN, Option.bind_some, oR.k18, Option.bind_some, y1, Option.bind_some, a1]
  unfold f_L_act_325
  rw [b1, Option.bind_some, c1, Option.bind_some, o2.f1, Option.bind_some, xw_id (x := s.1 1) (by omega) (by omega)]
  dsimp only
  have no : ∀ (z : Int), z < 0 → -3 ≤ z → aSendN e N s = z → LR u w ρ h s H S B (f_L_act_367 w u v (e : Int) x8 (aSendN e N s) z m3 h2) := fun z hz hz3 hz2 => by
    unfold f_L_act_367
    rw [xw_id (x := z) (by omega) (by omega), if_pos hz]
    have t := t383 h2
    rw [hz2] at t c2 ⊢
    rw [t, if_pos hz]
    rw [if_pos hz, if_pos hz] at c2
    have hm : N * (((s.2.1 (56 + 717 * e + 117))).length + N) ≤ 69 * 269 := Nat.mul_le_mul (by omega) (by omega)
    exact ⟨0, m3, h2, A, ρ, s, H, N, _, rfl, Or.inl ⟨rfl, rfl, rfl⟩, ⟨⟨R, o2⟩, w2⟩, ⟨c2, hv, hi⟩, hzc, ⟨69, 18561, by omega, by omega, by omega, by omega⟩, by omega⟩
  by_cases p0 : s.1 1 = 0
  · rw [if_pos p0]
    exact no (-2) (by decide) (by decide) (by unfold aSendN; rw [if_pos p0])
  · rw [if_neg p0, glc_N q2.1 (Or.inl rfl), Option.bind_some, lq, xw_nat (by omega), show xw 200 = 200 by decide]
    by_cases p2 : (200 : Int) < ((((s.2.1 (56 + 717 * e + 117))).length + N : Nat) : Int)
    · rw [if_pos p2]
      exact no (-3) (by decide) (by decide) (by unfold aSendN; rw [if_neg p0, if_pos (by omega)])
    · have eS : aSendN e N s = ((((s.2.1 (56 + 717 * e + 117))).length + N : Nat) : Int) := by unfold aSendN; rw [if_neg p0, if_neg (by omega)]
      have nn : ¬ aSendN e N s < 0 := by rw [eS]; omega
      rw [if_neg nn, if_neg nn] at c2
      obtain ⟨h3, d1, d2, d3⟩ := o2.wque e rfl he q2
      have t := t383 h3
      rw [if_neg nn] at t
      rw [if_neg p2, Option.bind_some]
      unfold f_L_act_367
      rw [xw_nat (by omega), if_neg (by omega), o2.k18, Option.bind_some, d1, Option.bind_some, ← eS, t]
      have hm : N * (((s.2.1 (56 + 717 * e + 117))).length + N) ≤ 69 * 200 := Nat.mul_le_mul (by omega) (by omega)
      obtain ⟨⟨cc, xx, p1, p2', p3, p4⟩, i1⟩ := p_sendQ he hi (r := cI l) (by rw [cI_len]; omega)
      exact ⟨1, m3, h3, A, ρ, _, aPush H s, _, _, rfl, Or.inr ⟨rfl, rfl⟩, ⟨⟨R, d2⟩, w2.go d3⟩, ⟨c2, hv.L _ _, i1⟩, hzc.tr d3, ⟨cc + 69, xx + 13800, by omega, by omega, by omega, by omega⟩, by show s.1 0 ≤ _; omega⟩
theorem act_send (o : OO u A ρ h s) (hw : wZ w ρ h) (hx : aX B m s H S []) (hv : vB s) (hi : pI s) (hB1 : 255 ≤ B) (hB : B ≤ 400000000) (v : Int) {r0 r1 : Nat} (h0 : ∀ hp : gH, f_L_most v 19 hp = some (r0 : Int)) (h1 : ∀ hp : gH, f_L_most (xishr v 4) 2 hp = some (r1 : Int)) (hr1 : r1 < 2) (hr : 10 ≤ r0 ∧ r0 < 15) : LR u w ρ h s H S B (f_L_act w u v m h) := by
  obtain ⟨r2, e2, h2⟩ := L_most (xishr (xishr v 4) 4) (k := 3) (by omega)
  have h2' : f_L_most (xishr (xishr v 4) 4) 3 h = some (r2 : Int) := h2 h
  unfold f_L_act
  rw [h0, Option.bind_some, h1, Option.bind_some, if_neg (by rw [xw_nat (by omega), show xw 7 = 7 by decide]; omega), if_neg (by rw [xw_nat (by omega), show xw 10 = 10 by decide]; omega), if_pos (by rw [xw_nat (by omega), show xw 15 = 15 by decide]; omega), h2', Option.bind_some, xw_nat (by omega)]
  by_cases c : (r2 : Int) = 0
  · rw [if_pos c]
    exact act_246 o hw hx hv hi hB1 hB v _ _ hr1 (k := 70) (by omega)
  · rw [if_neg c]
    exact act_246 o hw hx hv hi hB1 hB v _ _ hr1 (k := 14) (by omega)
/-- every act -/
theorem act_all (o : OO u A ρ h s) (hw : wZ w ρ h) (hx : aX B m s H S []) (hv : vB s) (hi : pI s) (ht : s.1 0 + 40 ≤ 99999) (hB1 : 255 ≤ B) (hB : B + 1200000 ≤ 400000000) (v : Int) : LR u w ρ h s H S (B + 1200000) (f_L_act w u v m h) := by
  obtain ⟨r0, l0, h0⟩ := L_most v (k := 19) (by omega)
  obtain ⟨r1, l1, h1⟩ := L_most (xishr v 4) (k := 2) (by omega)
  have h0' : ∀ hp : gH, f_L_most v 19 hp = some (r0 : Int) := h0
  have h1' : ∀ hp : gH, f_L_most (xishr v 4) 2 hp = some (r1 : Int) := h1
  have up : ∀ {B' : Int}, B' ≤ B + 1200000 → LR u w ρ h s H S B' (f_L_act w u v m h) → LR u w ρ h s H S (B + 1200000) (f_L_act w u v m h) := fun hB' ⟨d, m', h', A', ρ', s', H', n, z, q1, q2, q3, q4, q5⟩ => ⟨d, m', h', A', ρ', s', H', n, z, q1, q2, q3, ⟨q4.1.le hB', q4.2⟩, q5⟩
  by_cases c7 : r0 < 7
  · obtain ⟨r2, e2, h2⟩ := L_most (xishr (xishr v 4) 3) (k := 4) (by omega)
    have h2' : f_L_most (xishr (xishr v 4) 3) 4 h = some (r2 : Int) := h2 h
    unfold f_L_act
    rw [h0', Option.bind_some, h1', Option.bind_some, if_pos (by rw [xw_nat (by omega), show xw 7 = 7 by decide]; omega), h2', Option.bind_some, xw_nat (by omega)]
    by_cases c : (r2 : Int) = 0
    · rw [if_pos c]
      exact act_pass o hw hx hv hi ht (by omega) (by omega) v _ (k := 40) (by omega)
    · rw [if_neg c]
      exact act_pass o hw hx hv hi ht (by omega) (by omega) v _ (k := 7) (by omega)
  · by_cases c10 : r0 < 10
    · exact up (by omega) (act_dial o hw hx hv hi (by omega) (by omega) v h0' h1' ⟨by omega, c10⟩)
    · by_cases c15 : r0 < 15
      · exact up (by omega) (act_send o hw hx hv hi hB1 (by omega) v h0' h1' l1 ⟨by omega, c15⟩)
      · by_cases d15 : r0 = 15
        · subst d15
          exact up (by omega) (act_setQ o hw hx hv hi (by omega) v h0' h1')
        · by_cases d18 : r0 = 18
          · subst d18
            exact up (by omega) (act_hang o hw hx hv hi (by omega) (by omega) v h0' h1')
          · refine up (Int.le_add_of_nonneg_right (by omega)) ?_
            unfold f_L_act
            rw [h0', Option.bind_some, h1', Option.bind_some, if_neg (by rw [xw_nat (by omega), show xw 7 = 7 by decide]; omega), if_neg (by rw [xw_nat (by omega), show xw 10 = 10 by decide]; omega), if_neg (by rw [xw_nat (by omega), show xw 15 = 15 by decide]; omega), if_neg (by rw [xw_nat (by omega), show xw 15 = 15 by decide]; omega), if_pos (by rw [xw_nat (by omega), show xw 18 = 18 by decide]; omega), xw_nat (by omega), show xw 16 = 16 by decide]
            by_cases d16 : (r0 : Int) = 16
            · rw [if_pos d16]
              exact act_484 o hw hx hv hi (by omega) (by omega) v l1 (z := 1) (by omega)
            · rw [if_neg d16]
              exact act_484 o hw hx hv hi (by omega) (by omega) v l1 (z := 0) (by omega)
end

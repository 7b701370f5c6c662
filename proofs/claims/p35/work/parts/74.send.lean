/-! ===== sending ===== -/
theorem m_send_80 (e : Int) (zz : Nat) (en o q : Nat) (V : Nat → Int) (he : e = (en : Int)) (hen : en < 2) (ho : o = 56 + 717 * en) (hz : zz ≤ 200) : ∀ (k x n : Nat) (M : xM), x + k = zz → k < n → q + zz ≤ 200 → M 1 o = ((q + x : Nat) : Int) → (∀ i, i < zz → M 8 i = V i ∧ 0 ≤ V i ∧ V i ≤ 255) → ∃ M' : xM, f_m_send_80 e (zz : Int) n (x : Int) M = some (((q + zz : Nat) : Int), M') ∧ M' 1 o = ((q + zz : Nat) : Int) ∧ (∀ i, x ≤ i → i < zz → M' 1 (o + 117 + q + i) = V i) ∧ (∀ i, i ≠ o → (i < o + 117 + q + x ∨ o + 117 + q + zz ≤ i) → M' 1 i = M 1 i) ∧ ∀ k, k ≠ 1 → M' k = M k := by
  intro k
  induction k with
  | zero =>
    intro x n M h1 h2 h3 h4 h5
    obtain ⟨n, rfl⟩ : ∃ z, n = z + 1 := ⟨n - 1, by omega⟩
    have hx : x = zz := by omega
    subst hx
    rw [f_m_send_80, if_neg (by omega)]
    unfold f_m_send_133
    rw [he, m_of (i := o) M (by omega) (by omega), b_bs, h4]
    exact ⟨M, rfl, h4, fun i q1 q2 => by omega, fun _ _ _ => rfl, fun _ _ => rfl⟩
  | succ k ih =>
    intro x n M h1 h2 h3 h4 h5
    obtain ⟨n, rfl⟩ : ∃ z, n = z + 1 := ⟨n - 1, by omega⟩
    obtain ⟨v1, v2, v3⟩ := h5 x (by omega)
    have hb : xib (x : Int) 600 := b_ib (by omega)
    have hx : xix (x : Int) = x := by rw [b_ix (by omega)]; exact Int.toNat_natCast _
    obtain ⟨M1, hM1⟩ : ∃ Z, Z = xu (xu M 1 (o + 117 + q + x) (V x)) 1 o ((q + x + 1 : Nat) : Int) := ⟨_, rfl⟩
    have e1 : xu M 1 (o + 117 + q + x) (V x) 1 o = ((q + x : Nat) : Int) := by rw [xu_d (by omega), h4]
    obtain ⟨M', p1, p2, p3, p4, p5⟩ := ih (x + 1) n M1 (by omega) (by omega) h3 (by rw [hM1, xu_s rfl]; congr 1) (fun i hi => by rw [hM1, xu_k (by omega), xu_k (by omega)]; exact h5 i hi)
    have g : ∀ i, i ≠ o → i ≠ o + 117 + q + x → M1 1 i = M 1 i := fun i q1 q2 => by rw [hM1, xu_d q1, xu_d q2]
    have gx : M1 1 (o + 117 + q + x) = V x := by rw [hM1, xu_d (by omega), xu_s rfl]
    refine ⟨M', ?_, p2, fun i q1 q2 => ?_, fun i q1 q2 => by rw [p4 i q1 (by omega), g i q1 (by omega)], fun k hk => by rw [p5 k hk, hM1, xu_K hk, xu_K hk]⟩
    · rw [f_m_send_80, if_pos (by rw [b_xw (by omega), b_xw (by omega)]; omega), he, m_of (i := o) M (by omega) (by omega), b_bs, h4, m_endAt (i := o + 117 + q + x) _ (by omega), b_bs, if_pos hb, if_pos (b_ib (by omega)), hx, v1, b_and255 _ ⟨v2, v3⟩, b_ix (by omega), Int.toNat_natCast, m_endAt (i := o) _ (by omega), b_bs, if_pos (b_ib (by omega)), if_pos (b_ib (by omega)), b_ix (by omega), Int.toNat_natCast, e1]
      unfold f_m_send_127
      rw [show ((q + x : Nat) : Int) + 1 = ((q + x + 1 : Nat) : Int) by omega, ← hM1, show (x : Int) + 1 = ((x + 1 : Nat) : Int) by omega, ← he, p1]
    · by_cases hi : i = x
      · rw [hi, p4 _ (by omega) (by omega), gx]
      · exact p3 i (by omega) q2
theorem X_chkL_sp (z w : Int) (n : Nat) (m : xM) (hz : bI z) (hw : 0 ≤ w ∧ w ≤ 1000) (hn : m 0 10 = n) (hn2 : n ≤ 600) : (f_X_checkLength z w m = some 0 ∧ h_X_checkLength z w m = none ∧ 0 ≤ z ∧ z ≤ n ∧ z ≤ w) ∨ (h_X_checkLength z w m = some 1 ∧ ¬ (0 ≤ z ∧ z ≤ n ∧ z ≤ w)) := by
  unfold f_X_checkLength h_X_checkLength h_X_checkLength_17
  rw [hn, b_xw hz, b_xw (x := w) (by omega), b_xw (x := (n : Int)) (by omega)]
  by_cases h1 : z < 0
  · right; rw [if_pos h1]; exact ⟨rfl, by omega⟩
  · by_cases h2 : w < z
    · right; rw [if_neg h1, if_pos h2]; exact ⟨rfl, by omega⟩
    · by_cases h3 : (n : Int) < z
      · right; rw [if_neg h1, if_neg h2, if_pos h3]; exact ⟨rfl, by omega⟩
      · left; rw [if_neg h1, if_neg h2, if_neg h3, if_neg h1, if_neg h2, if_neg h3]; exact ⟨rfl, rfl, by omega, by omega, by omega⟩
theorem X_send_sp {G : bGt} (e z : Int) (m M : xM) (h : bX G m M) (he : bI e) (hz : bI z) : bOk G (f_X_send e z m) (f_m_send e z M) ∨ bTh G (h_X_send e z m) (f_m_send e z M) 2 1 m ∨ bTh G (h_X_send e z m) (f_m_send e z M) 1 2 m := by
  have z0 : xw (0 : Int) = 0 := by decide
  have z1 : ¬ xw (1 : Int) = 0 := by decide
  have z2 : ¬ xw (2 : Int) = 0 := by decide
  have w1 : xw (1 : Int) = 1 := by decide
  obtain ⟨n, a1, a2, a3, a4⟩ := id h.2.2.2.1
  unfold h_X_send f_m_send f_m_send_29
  rw [m_isEn e _ he, b_bs]
  rcases X_chkE e m he with ⟨c1, c2, hr⟩ | ⟨c2, hr⟩
  · rw [c1, c2, if_pos hr, if_neg z1, a3, m_inR z 0 _ _ hz (by unfold bI; omega) (by unfold bI; omega), b_bs, b_bs]
    rcases X_chkL_sp z 600 n m hz (by omega) a2 a1 with ⟨d1, d2, d3, d4, d5⟩ | ⟨d2, d3⟩
    · left
      have hcd : (if 0 ≤ z ∧ z ≤ (n : Int) then (1 : Int) else 0) = 1 := if_pos ⟨d3, d4⟩
      rw [hcd, if_neg z1, if_pos z0]
      obtain ⟨en, hen⟩ : ∃ en : Nat, e = en := ⟨e.toNat, by omega⟩
      obtain ⟨zn, hzn⟩ : ∃ zn : Nat, z = zn := ⟨z.toNat, by omega⟩
      obtain ⟨o, ho⟩ : ∃ o : Nat, o = 56 + 717 * en := ⟨_, rfl⟩
      obtain ⟨k, hk0⟩ : ∃ k : Nat, k = 12 + 11 * en := ⟨_, rfl⟩
      obtain ⟨m0, hm0⟩ : ∃ Z, Z = xu m 0 10 0 := ⟨_, rfl⟩
      obtain ⟨M0, hM0⟩ : ∃ Z, Z = xu (xu M 0 6 0) 0 13 0 := ⟨_, rfl⟩
      have g0 : ∀ k, k ≠ 0 → m0 k = m k := fun k hk => by rw [hm0, xu_K hk]
      have j0 : ∀ j, j ≠ 10 → m0 0 j = m 0 j := fun j hj => by rw [hm0, xu_d hj]
      have G0 : ∀ k, k ≠ 0 → M0 k = M k := fun k hk => by rw [hM0, xu_K hk, xu_K hk]
      have J0 : ∀ j, j ≠ 6 → j ≠ 13 → M0 0 j = M 0 j := fun j j6 j13 => by rw [hM0, xu_d j13, xu_d j6]
      have t0 : M0 0 6 = 0 := by rw [hM0, xu_d (by omega), xu_s rfl]
      have h0 : bX G m0 M0 := by
        refine ⟨?_, h.2.1.cg ⟨j0 8 (by omega), j0 7 (by omega)⟩ (fun k k1 k2 => g0 k (by omega)) (fun k k1 k2 => g0 k (by omega)) (J0 5 (by omega) (by omega)) (G0 5 (by omega)), h.2.2.1.cg (j0 5 (by omega)) (fun k k1 k2 => g0 k (by omega)) (fun k k1 k2 => g0 k (by omega)) (J0 7 (by omega) (by omega)) (G0 4 (by omega)), ⟨0, by omega, by rw [hm0, xu_s rfl]; rfl, by rw [hM0, xu_s rfl]; rfl, fun i hi => by omega⟩, by rw [j0 11 (by omega), J0 20 (by omega) (by omega), h.2.2.2.2.1], h.2.2.2.2.2.cg (J0 11 (by omega) (by omega)) (G0 7 (by omega))⟩
        exact h.1.cg (bV_eq (by omega) (fun k k1 k2 => g0 k (by omega)) (fun k k1 k2 => g0 k (by omega))) (fun i hi => by rw [G0 1 (by omega)])
      obtain ⟨s1, s8⟩ := h0.ph
      have e11 : m0 11 = m 11 := g0 11 (by omega)
      rw [e11] at s1 s8
      have hC : f_X_send e z m = (if xw (m 11 8) = 0 then some ((-2), m0) else (if xw 200 < xw ((m k 5) + z) then some ((-3), m0) else (f_X_remember m0).bind fun q4 => (f_E_enq z (xvw [k, k + 1, k + 2, k + 3, k + 4, k + 5, k + 6, k + 7, k + 8, k + 9, k + 10, 441] q4)).bind fun q5 => some ((xmg [k, k + 1, k + 2, k + 3, k + 4, k + 5, k + 6, k + 7, k + 8, k + 9, k + 10, 441] 12 q4 q5) k 5, xmg [k, k + 1, k + 2, k + 3, k + 4, k + 5, k + 6, k + 7, k + 8, k + 9, k + 10, 441] 12 q4 q5))) := by
        unfold f_X_send f_X_send_68 f_X_send_68_23
        rw [c1, b_bs, d1, b_bs, ← hm0]
        rcases (by omega : en = 0 ∨ en = 1) with rfl | rfl
        · rw [show e = 0 by omega, if_pos z0, show k = 12 by omega]
        · rw [show e = 1 by omega, if_neg z1, if_pos w1, show k = 23 by omega]
      have hE := X_end en (by omega) m0 M0 h0
      rw [← ho, ← hk0] at hE
      obtain ⟨-, -, -, ⟨q, q1, q2, q3, q4⟩, -⟩ := hE
      have q2' : m k 5 = q := by rw [← g0 k (by omega), q2]
      have e8 : (xw (m 11 8) = 0) ↔ m 11 8 = 0 := by rw [b_xw (by omega)]
      rw [hC, ← hM0, m_isPhase 0 M0 (by rw [s1]; exact s8) (by omega), b_bs, s1]
      by_cases hp : m 11 8 = 0
      · rw [if_pos (e8.mpr hp), if_pos hp, if_neg z1]
        exact ⟨-2, m0, M0, rfl, rfl, t0, h0⟩
      · rw [if_neg (fun x => hp (e8.mp x)), if_neg hp, if_pos z0, hen, m_of (i := o) M0 (by omega) (by omega), b_bs, q3, q2']
        by_cases hfull : xw 200 < xw ((q : Int) + z)
        · rw [if_pos hfull, if_pos hfull]
          exact ⟨-3, m0, M0, rfl, rfl, t0, h0⟩
        · rw [if_neg hfull, if_neg hfull]
          rw [b_xw (by omega), b_xw (by omega)] at hfull
          obtain ⟨m1, M1, p1, p2, p3, p4, p5, p6, p7⟩ := X_push_sp m0 M0 h0
          have hE1 := X_end en (by omega) m1 M1 p3
          rw [← ho, ← hk0] at hE1
          have hk1 : m1 k = m k := by rw [p4 k (by omega) (by omega), g0 k (by omega)]
          have hq1 : m1 k 5 = q := by rw [hk1, q2']
          have hn1 : M1 1 o = q := by rw [p6 1 (by omega) (by omega)]; exact q3
          have h441 : m1 441 = m 441 := by rw [p4 441 (by omega) (by omega), g0 441 (by omega)]
          have h8 : M1 8 = M 8 := by rw [p6 8 (by omega) (by omega), G0 8 (by omega)]
          obtain ⟨V, hV⟩ : ∃ V, V = xvw [k, k + 1, k + 2, k + 3, k + 4, k + 5, k + 6, k + 7, k + 8, k + 9, k + 10, 441] m1 := ⟨_, rfl⟩
          have V0 : V 0 = m1 k := by rw [hV]; rfl
          have V1 : V 1 = m1 (k + 1) := by rw [hV]; rfl
          have V11 : V 11 = m1 441 := by rw [hV]; rfl
          obtain ⟨Q, hQ⟩ : ∃ Q, Q = xu (xcp V 11 1 0 q zn) 0 5 ((q : Int) + z) := ⟨_, rfl⟩
          have eQ : f_E_enq z V = some Q := by
            have hcb : xcb 0 (V 0 5) z 600 200 := by
              unfold xcb
              rw [V0, hq1, b_xw (x := (q : Int)) (by omega), b_xw hz, b_xw (x := 0) (by omega)]
              omega
            have hx : xix (V 0 5) = q := by rw [V0, hq1, b_ix (by omega)]; exact Int.toNat_natCast _
            have hx2 : xix z = zn := by rw [b_ix (by omega)]; omega
            have e5 : ∀ a b : Nat, xcp V 11 1 0 a b 0 5 = (q : Int) := fun a b => by rw [xcp_K (by omega), V0, hq1]
            unfold f_E_enq
            rw [if_pos hcb, hx, hx2, e5, hQ]
          obtain ⟨m2, hm2⟩ : ∃ Z, Z = xmg [k, k + 1, k + 2, k + 3, k + 4, k + 5, k + 6, k + 7, k + 8, k + 9, k + 10, 441] 12 m1 Q := ⟨_, rfl⟩
          have gQ : ∀ i, i ≠ 0 → i ≠ 1 → Q i = V i := fun i i0 i1 => by rw [hQ, xu_K i0, xcp_K i1]
          have gk : ∀ j, j ≠ k → j ≠ k + 1 → m2 j = m1 j := fun j j1 j2 => by
            have hxm : xmg [k, k + 1, k + 2, k + 3, k + 4, k + 5, k + 6, k + 7, k + 8, k + 9, k + 10, 441] 12 m1 V = m1 := by rw [hV]; exact xmg_self _ 12 (by omega) m1
            have : m2 j = xmg [k, k + 1, k + 2, k + 3, k + 4, k + 5, k + 6, k + 7, k + 8, k + 9, k + 10, 441] 12 m1 V j := by
              rw [hm2]
              unfold xmg
              cases hx : xpos ([k, k + 1, k + 2, k + 3, k + 4, k + 5, k + 6, k + 7, k + 8, k + 9, k + 10, 441].take 12) 0 j with
              | none => rfl
              | some i =>
                show Q i = V i
                obtain ⟨i', hi, hi2⟩ := xpos_some hx
                rw [Nat.zero_add] at hi
                subst hi
                refine gQ i (fun y => ?_) (fun y => ?_)
                · subst y
                  have : some k = some j := hi2
                  exact j1 (Option.some.inj this).symm
                · subst y
                  have : some (k + 1) = some j := hi2
                  exact j2 (Option.some.inj this).symm
            rw [this, hxm]
          have gE : ∀ i, i < 2 → m2 (k + i) = Q i := fun i hi => by
            rw [hm2]
            unfold xmg
            have hx : xpos ([k, k + 1, k + 2, k + 3, k + 4, k + 5, k + 6, k + 7, k + 8, k + 9, k + 10, 441].take 12) 0 (k + i) = some i := by
              show xpos [k, k + 1, k + 2, k + 3, k + 4, k + 5, k + 6, k + 7, k + 8, k + 9, k + 10, 441] 0 (k + i) = some i
              unfold xpos
              rcases (by omega : i = 0 ∨ i = 1) with rfl | rfl
              · rw [if_pos (show k + 0 = k by omega)]
              · rw [if_neg (by omega)]
                unfold xpos
                rw [if_pos rfl]
            rw [hx]
          have gE0 : m2 k = Q 0 := gE 0 (by omega)
          have gE1 : m2 (k + 1) = Q 1 := gE 1 (by omega)
          have r5 : m2 k 5 = ((q + zn : Nat) : Int) := by rw [gE0, hQ, xu_s rfl]; omega
          have rj : ∀ j, j ≠ 5 → m2 k j = m1 k j := fun j hj => by rw [gE0, hQ, xu_d hj, xcp_K (by omega), V0]
          have rb : ∀ i, i < q → m2 (k + 1) i = m1 (k + 1) i := fun i hi => by
            rw [gE1, hQ, xu_k (by omega)]
            unfold xcp
            rw [if_pos rfl, if_neg (by omega), V1]
          have rb2 : ∀ i, i < zn → m2 (k + 1) (q + i) = M 8 i := fun i hi => by
            rw [gE1, hQ, xu_k (by omega)]
            unfold xcp
            rw [if_pos rfl, if_pos (by omega), V11, h441, show 0 + (q + i - q) = i by omega]
            exact (a4 i (by omega)).1
          obtain ⟨M2, v1, v2, v3, v4, v5⟩ := m_send_80 e zn en o q (fun i => M 8 i) hen (by omega) ho (by omega) zn 0 fu M1 (by omega) (by show _ < 5000; omega) (by omega) (by rw [hn1]; rfl) (fun i hi => ⟨by rw [h8], (a4 i (by omega)).2⟩)
          have v1' : f_m_send_80 e z fu 0 M1 = some (((q + zn : Nat) : Int), M2) := by rw [hzn]; exact v1
          have eC : f_X_remember m0 = some m1 := p1
          rw [p1, b_bs, ← hV, eQ, b_bs, ← hm2, p2, b_bs, ← hen, v1', r5]
          refine ⟨_, m2, M2, rfl, rfl, by rw [v5 0 (by omega), p7 6 (by omega), t0], ?_⟩
          refine p3.line ?_ (fun j hj => gk j (by omega) (by omega)) (fun j j0 j1 j3 j6 => v5 j j1) (fun j j6 j9 => by rw [v5 0 (by omega)])
          have hv0 : xvw (bV 11) m1 0 = m1 11 := bV11_0 m1 (by omega)
          have hph : xvw (bV 11) m1 0 8 ≠ 0 := by rw [hv0, p4 11 (by omega) (by omega), e11]; exact hp
          have hvk : ∀ i, i < 33 → xvw (bV 11) m2 i = m2 (11 + i) := fun i hi => bV11_0 m2 hi
          have hkk : k = 11 + (1 + 11 * en) := by omega
          refine ⟨p3.1.1.enq (m' := xvw (bV 11) m2) (M := fun _ => M1 1) (M' := fun _ => M2 1) (q := q) (z := zn) (V := fun i => M 8 i) en (1 + 11 * en) o (by omega) rfl ho hph ?_ (by omega) (fun i i1 i2 i3 => ?_) (fun j hj => ?_) ?_ (fun i hi => ?_) (fun i hi => ?_) v2 (fun i hi => v3 i (by omega) hi) (fun i i1 i2 => v4 i i1 (by omega)), ?_⟩
          · rw [bV11_0 m1 (by omega), ← hkk, hq1]
          · by_cases h33 : i < 33
            · rw [bV11_0 m2 h33, bV11_0 m1 h33, gk _ (by omega) (by omega)]
            · rw [bV11_5 m2 ⟨by omega, i3⟩, bV11_5 m1 ⟨by omega, i3⟩, gk _ (by omega) (by omega)]
          · rw [bV11_0 m2 (by omega), bV11_0 m1 (by omega), ← hkk, rj j hj]
          · rw [bV11_0 m2 (by omega), ← hkk, r5]
          · rw [bV11_0 m2 (by omega), bV11_0 m1 (by omega), show 11 + (1 + 11 * en + 1) = k + 1 by omega, rb i hi]
          · rw [bV11_0 m2 (by omega), show 11 + (1 + 11 * en + 1) = k + 1 by omega, rb2 i hi]
          · rw [bV11_0 m2 (by omega), gk _ (by omega) (by omega), ← bV11_0 m1 (by omega)]
            exact p3.1.2
    · right; right
      have hcd : (if 0 ≤ z ∧ z ≤ (n : Int) then (1 : Int) else 0) = 0 := if_neg (fun x => d3 ⟨x.1, x.2, by omega⟩)
      rw [hcd, if_pos z0, if_neg z2]
      refine ⟨?_, 0, xu M 0 6 2, rfl, by rw [xu_s rfl], h.thr 2⟩
      rw [d2]; rfl
  · right; left
    rw [if_neg hr, if_pos z0, if_neg z1]
    exact ⟨by rw [c2]; rfl, 0, xu M 0 6 1, rfl, by rw [xu_s rfl], h.thr 1⟩

/-! ===== frames read, what a frame would cost, bytes sent ===== -/
theorem X_frame_sp {G : bGt} (e p w : Int) (m M : xM) (h : bX G m M) (he : bI e) (hp : bI p) (hw : bI w) : bRd (f_X_frame e p w m) (h_X_frame e p w m) (f_m_frame e p w M) 2 M := by
  have z0 : xw (0 : Int) = 0 := by decide
  have z1 : ¬ xw (1 : Int) = 0 := by decide
  have w1 : xw (1 : Int) = 1 := by decide
  have M1 : (xu M 0 6 0) 1 = M 1 := xu_K (by omega)
  have t : f_m_frame_41 e p w (xu M 0 6 0) = some (0, xu (xu M 0 6 0) 0 6 1) := rfl
  unfold h_X_frame f_m_frame
  rw [m_isEn e _ he, b_bs]
  rcases X_chkE e m he with ⟨c1, c2, hr⟩ | ⟨c2, hr⟩
  · rw [c1, c2, if_pos hr, if_neg z1]
    obtain ⟨en, hen⟩ : ∃ en : Nat, e = en := ⟨e.toNat, by omega⟩
    obtain ⟨⟨F, C, S, a1, a2, a3, a4, a5, a6, a7, a8, a9⟩, -⟩ := X_end en (by omega) m M h
    obtain ⟨o, ho⟩ : ∃ o : Nat, o = 56 + 717 * en := ⟨_, rfl⟩
    obtain ⟨k, hk0⟩ : ∃ k : Nat, k = 15 + 11 * en := ⟨_, rfl⟩
    rw [← ho] at a7 a8 a9
    rw [show 12 + 11 * en + 3 = k by omega] at a1 a2 a3 a9
    have hC : f_X_frame e p w m = (if xw p < 0 then none else (if xw p < xw (m k 4) then (if xw w = 0 then some (m k 3 + p) else (if xw w = 1 then (f_F_slot p (xvw [k, k + 1, k + 2, k + 3] m)).bind (fun q3 => if xib q3 7 then some (m (k + 2) (xix q3)) else none) else (if xw w = 2 then (f_F_slot p (xvw [k, k + 1, k + 2, k + 3] m)).bind (fun q4 => if xib q4 7 then some (m (k + 3) (xix q4)) else none) else (if xw w = 3 then (if xw p < xw (m k 5) then some 0 else some 1) else none)))) else none)) := by
      unfold f_X_frame f_X_frame_31
      rw [c1, b_bs]
      rcases (by omega : en = 0 ∨ en = 1) with rfl | rfl
      · rw [show e = 0 by omega, if_pos z0, show k = 15 by omega]
      · rw [show e = 1 by omega, if_neg z1, if_pos w1, show k = 26 by omega]
    have d1 : (xw p < 0) ↔ p < 0 := by rw [b_xw hp]
    have d2 : (xw p < xw (C : Int)) ↔ p < C := by rw [b_xw hp, b_xw (by omega)]
    have hof : f_m_of e 1 (xu M 0 6 0) = some (C : Int) := by rw [hen, m_of (i := o + 1) _ (by omega) (by omega), M1, a7]
    rw [hof, b_bs, b_bs, m_inR p 0 _ _ hp (by unfold bI; omega) (by unfold bI; omega), b_bs, m_inR w 0 3 _ hw (by unfold bI; omega) (by unfold bI; omega), b_bs, hC, a2]
    by_cases hpr : 0 ≤ p ∧ p ≤ (C : Int) - 1
    · obtain ⟨pn, hpn⟩ : ∃ pn : Nat, p = pn := ⟨p.toNat, by omega⟩
      obtain ⟨b1, b2, b3, b4, b5, b6⟩ := a9 pn (by omega)
      rw [if_neg (fun q => by have := d1.mp q; omega), if_pos (d2.mpr (by omega)), if_pos hpr, if_neg z1]
      by_cases hwr : 0 ≤ w ∧ w ≤ 3
      · left
        have hl : (F + pn) % 7 < 7 := Nat.mod_lt _ (by decide)
        have hsl : f_F_slot p (xvw [k, k + 1, k + 2, k + 3] m) = some (((F + pn) % 7 : Nat) : Int) := F_slot_sp F pn _ _ (by show m k 3 + p = _; rw [a1]; omega) (by omega)
        have hb7 : xib (((F + pn) % 7 : Nat) : Int) 7 := b_ib (by omega)
        have hx7 : xix (((F + pn) % 7 : Nat) : Int) = (F + pn) % 7 := by rw [b_ix (by omega)]; exact Int.toNat_natCast _
        rw [if_pos hwr, if_neg z1, hsl, b_bs, b_bs, if_pos hb7, if_pos hb7, hx7]
        unfold f_m_frame_42
        rw [if_neg z1, hen, hpn]
        rcases (by omega : w = 0 ∨ w = 1 ∨ w = 2 ∨ w = 3) with rfl | rfl | rfl | rfl
        · rw [if_pos z0, m_ofFrame (i := o + 26 + 13 * pn) _ (by omega) (by omega), b_bs, M1, b1, a1]
          exact ⟨_, rfl, by congr 2⟩
        · rw [if_neg (show ¬ xw (1 : Int) = 0 by decide), if_pos w1, m_ofFrame (i := o + 26 + 13 * pn + 1) _ (by omega) (by omega), b_bs, M1, b2]
          exact ⟨_, rfl, rfl⟩
        · rw [if_neg (show ¬ xw (2 : Int) = 0 by decide), if_neg (show ¬ xw (2 : Int) = 1 by decide), if_pos (show xw (2 : Int) = 2 by decide), m_ofFrame (i := o + 26 + 13 * pn + 2) _ (by omega) (by omega), b_bs, M1, b4]
          exact ⟨_, rfl, rfl⟩
        · rw [if_neg (show ¬ xw (3 : Int) = 0 by decide), if_neg (show ¬ xw (3 : Int) = 1 by decide), if_neg (show ¬ xw (3 : Int) = 2 by decide), if_pos (show xw (3 : Int) = 3 by decide), m_ofFrame (i := o + 26 + 13 * pn + 3) _ (by omega) (by omega), b_bs, M1, b5, a3]
          by_cases hs : pn < S
          · rw [if_pos (show xw (pn : Int) < xw (S : Int) by rw [b_xw (by omega), b_xw (by omega)]; omega), if_pos hs]
            exact ⟨0, rfl, rfl⟩
          · rw [if_neg (show ¬ xw (pn : Int) < xw (S : Int) by rw [b_xw (by omega), b_xw (by omega)]; omega), if_neg hs]
            exact ⟨1, rfl, rfl⟩
      · right
        have hk : ∀ k : Int, 0 ≤ k ∧ k ≤ 3 → ¬ xw w = k := fun k hk => by rw [b_xw hw]; omega
        rw [if_neg hwr, if_pos z0, t]
        refine ⟨?_, 0, rfl⟩
        show (if xw e = 0 then _ else _) = some 2
        rcases (by omega : en = 0 ∨ en = 1) with rfl | rfl
        · rw [show e = 0 by omega, if_pos z0, show (15 : Nat) = k by omega, a2, if_neg (fun q => by have := d1.mp q; omega), if_pos (d2.mpr (by omega)), if_neg (hk 0 (by omega)), if_neg (hk 1 (by omega)), if_neg (hk 2 (by omega)), if_neg (hk 3 (by omega))]
        · rw [show e = 1 by omega, if_neg z1, if_pos w1, show (26 : Nat) = k by omega, a2, if_neg (fun q => by have := d1.mp q; omega), if_pos (d2.mpr (by omega)), if_neg (hk 0 (by omega)), if_neg (hk 1 (by omega)), if_neg (hk 2 (by omega)), if_neg (hk 3 (by omega))]
    · right
      rw [if_neg hpr, if_pos z0, t]
      refine ⟨?_, 0, rfl⟩
      show (if xw e = 0 then _ else _) = some 2
      unfold h_X_frame_31
      rcases (by omega : en = 0 ∨ en = 1) with rfl | rfl
      · rw [show e = 0 by omega, if_pos z0, show (15 : Nat) = k by omega, a2]
        by_cases q1 : p < 0
        · rw [if_pos (d1.mpr q1)]
        · rw [if_neg (fun q => q1 (d1.mp q)), if_neg (fun q => by have := d2.mp q; omega)]
      · rw [show e = 1 by omega, if_neg z1, if_pos w1, show (26 : Nat) = k by omega, a2]
        by_cases q1 : p < 0
        · rw [if_pos (d1.mpr q1)]
        · rw [if_neg (fun q => q1 (d1.mp q)), if_neg (fun q => by have := d2.mp q; omega)]
  · right
    rw [c2, if_neg hr, if_pos z0, t]
    exact ⟨rfl, 0, rfl⟩
/-- what the next frame of an end would cost -/
theorem X_cost_sp {G : bGt} (e : Int) (m M : xM) (h : bX G m M) (he : bI e) : bOk G (f_X_nextCost e m) (f_m_nextCost e M) ∨ bTh G (h_X_nextCost e m) (f_m_nextCost e M) 2 1 m := by
  have z0 : xw (0 : Int) = 0 := by decide
  have z1 : ¬ xw (1 : Int) = 0 := by decide
  have w1 : xw (1 : Int) = 1 := by decide
  have h0 := h.thr 0
  obtain ⟨M0, hM0⟩ : ∃ Z, Z = xu M 0 6 0 := ⟨_, rfl⟩
  rw [← hM0] at h0
  have t0 : M0 0 6 = 0 := by rw [hM0, xu_s rfl]
  obtain ⟨s1, s8⟩ := h0.ph
  unfold h_X_nextCost f_m_nextCost
  rw [← hM0, m_isEn e _ he, b_bs]
  rcases X_chkE e m he with ⟨c1, c2, hr⟩ | ⟨c2, hr⟩
  · left
    obtain ⟨en, hen⟩ : ∃ en : Nat, e = en := ⟨e.toNat, by omega⟩
    obtain ⟨o, ho⟩ : ∃ o : Nat, o = 56 + 717 * en := ⟨_, rfl⟩
    obtain ⟨k, hk0⟩ : ∃ k : Nat, k = 12 + 11 * en := ⟨_, rfl⟩
    have hE := X_end en (by omega) m M0 h0
    rw [← ho, ← hk0] at hE
    obtain ⟨-, hD, -, ⟨q, q1, q2, q3, q4⟩, -, t1, t2, t3, t4, t5, t6⟩ := hE
    have hC : f_X_nextCost e m = (if xw (m 11 8) = xw 2 then (if xw (m k 5) = 0 then some (0, m) else (f_E_next (xvw [k, k + 1, k + 2, k + 3, k + 4, k + 5, k + 6, k + 7, k + 8, k + 9, k + 10] m)).bind fun q3 => (f_L_cost 0 q3 (xvw [11, 42, 43, k, k + 7, k + 8, k + 1] m)).bind fun q4 => some (q4.1, xmg [11, 42, 43, k, k + 7, k + 8, k + 1] 7 m q4.2)) else some (0, m)) := by
      unfold f_X_nextCost
      rw [c1, b_bs]
      rcases (by omega : en = 0 ∨ en = 1) with rfl | rfl
      · rw [show e = 0 by omega, if_pos z0, show k = 12 by omega]
      · rw [show e = 1 by omega, if_neg z1, if_pos w1, show k = 23 by omega]
    rw [hC, if_pos hr, if_neg z1, m_isPhase 2 M0 (by rw [s1]; exact s8) (by omega), b_bs, s1]
    by_cases hp : m 11 8 = 2
    · rw [if_pos (show xw (m 11 8) = xw 2 by rw [hp]), if_pos hp, if_neg z1, hen, m_of (i := o) M0 (by omega) (by omega), b_bs, q2, q3]
      by_cases hq : q = 0
      · rw [if_pos (show xw (q : Int) = 0 by rw [hq]; decide), if_pos (show xw (q : Int) = 0 by rw [hq]; decide)]
        exact ⟨0, m, M0, rfl, rfl, t0, h0⟩
      · rw [if_neg (show ¬ xw (q : Int) = 0 by rw [b_xw (by omega)]; omega), if_neg (show ¬ xw (q : Int) = 0 by rw [b_xw (by omega)]; omega)]
        obtain ⟨z, hz⟩ : ∃ z : Nat, z = if 8 < q then 8 else q := ⟨_, rfl⟩
        have hz8 : 1 ≤ z ∧ z ≤ 8 ∧ z ≤ q := by rw [hz]; split <;> omega
        have hnx : f_E_next (xvw [k, k + 1, k + 2, k + 3, k + 4, k + 5, k + 6, k + 7, k + 8, k + 9, k + 10] m) = some (z : Int) := by
          unfold f_E_next
          have : xvw [k, k + 1, k + 2, k + 3, k + 4, k + 5, k + 6, k + 7, k + 8, k + 9, k + 10] m 0 = m k := rfl
          rw [this, q2, hz, b_xw (by omega), b_xw (by omega)]
          by_cases h8 : 8 < q
          · rw [if_pos (by omega), if_pos h8]; rfl
          · rw [if_neg (by omega), if_neg h8]
        have hzr : (if xw (q : Int) < xw 8 then (q : Int) else 8) = (z : Int) := by
          rw [hz, b_xw (by omega), b_xw (by omega)]
          by_cases h8 : 8 < q
          · rw [if_neg (by omega), if_pos h8]; rfl
          · rw [if_neg h8]; split <;> omega
        obtain ⟨M1, k1, k2, k3, k4, k5⟩ := keepWords_sp en o M0 (by omega) ho
        have k01 : M1 1 = M0 1 := k5 1 (by omega) (by omega)
        obtain ⟨V, hV⟩ : ∃ V, V = xvw [11, 42, 43, k, k + 7, k + 8, k + 1] m := ⟨_, rfl⟩
        have V3 : V 3 = m k := by rw [hV]; rfl
        have V4 : V 4 = m (k + 7) := by rw [hV]; rfl
        have V5 : V 5 = m (k + 8) := by rw [hV]; rfl
        have V6 : V 6 = m (k + 1) := by rw [hV]; rfl
        obtain ⟨r, V', Mw, e1, e2, e3, e4, e5, e6, e7⟩ := L_cost_sp en o 0 (o + 117) z V M1 (by omega) ho (by omega) (by omega) (by omega) (by omega) (by rw [k01]; exact hD.cg (by rw [V4]) (by rw [V5]) rfl (fun _ _ => rfl)) (by rw [k01, V3]; exact t4) (by rw [V3]; exact t6) (fun i hi => by rw [k01, V6, Nat.zero_add]; exact q4 i (by omega))
        rw [k01] at e6
        obtain ⟨M2, u1, u2, u3, u4, u5⟩ := takeWords_sp en o Mw (by omega) ho
        have hback : M2 1 = M0 1 := by
          funext i
          by_cases h7 : i = o + 7
          · rw [h7, u2, e7 0 (by omega), k2]
          · by_cases h10 : i < o + 10 ∨ o + 18 ≤ i
            · rw [u4 i h7 h10, e6 i h7 h10]
            · obtain ⟨j, hj⟩ : ∃ j, i = o + 10 + j := ⟨i - (o + 10), by omega⟩
              rw [hj, u3 j (by omega), e7 6 (by omega), k3 j (by omega)]
        obtain ⟨m1, hm1⟩ : ∃ Z, Z = xmg [11, 42, 43, k, k + 7, k + 8, k + 1] 7 m V' := ⟨_, rfl⟩
        have gk : ∀ j, j ≠ 42 → j ≠ 43 → m1 j = m j := fun j j1 j2 => by
          have hxm : xmg [11, 42, 43, k, k + 7, k + 8, k + 1] 7 m V = m := by rw [hV]; exact xmg_self _ 7 (by omega) m
          have : m1 j = xmg [11, 42, 43, k, k + 7, k + 8, k + 1] 7 m V j := by
            rw [hm1]
            unfold xmg
            cases hx : xpos ([11, 42, 43, k, k + 7, k + 8, k + 1].take 7) 0 j with
            | none => rfl
            | some i =>
              show V' i = V i
              obtain ⟨i', hi, hi2⟩ := xpos_some hx
              rw [Nat.zero_add] at hi
              subst hi
              refine e5 i (fun z => ?_) (fun z => ?_)
              · subst z
                have : some 42 = some j := hi2
                exact j1 (Option.some.inj this).symm
              · subst z
                have : some 43 = some j := hi2
                exact j2 (Option.some.inj this).symm
          rw [this, hxm]
        have e1' : f_L_cost 0 (z : Int) V = some ((r : Int), V') := e1
        rw [hnx, b_bs, ← hV, e1', b_bs, ← hm1, k1, b_bs, m_endAt (i := o + 117) _ (by omega), b_bs, m_of (i := o) M1 (by omega) (by omega), b_bs, k01, q3, hzr, e2, b_bs]
        dsimp only
        rw [u1, b_bs]
        refine ⟨r, m1, M2, rfl, rfl, by rw [u5 0 (by omega), e7 0 (by omega), k4 6 (by omega), t0], ?_⟩
        refine h0.line (m' := m1) ?_ (fun j hj => gk j (by omega) (by omega)) (fun j j0 j1 j3 j6 => by rw [u5 j j1, e7 j j1, k5 j j0 j6]) (fun j j6 j9 => by rw [u5 0 (by omega), e7 0 (by omega), k4 j j9])
        rw [hback]
        obtain ⟨lw, lt⟩ := h0.1
        refine ⟨?_, ?_⟩
        · -- only what is tried has changed
          have hvv : ∀ j, j ≠ 31 → j ≠ 32 → j ≤ 37 → xvw (bV 11) m1 j = xvw (bV 11) m j := fun j j1 j2 j3 => by
            by_cases h33 : j < 33
            · rw [bV11_0 _ h33, bV11_0 _ h33, gk _ (by omega) (by omega)]
            · rw [bV11_5 _ ⟨by omega, j3⟩, bV11_5 _ ⟨by omega, j3⟩, gk _ (by omega) (by omega)]
          refine lw.sim ⟨?_, ?_, ⟨?_, ?_⟩, fun _ j h1 h2 i hi => ?_, ⟨?_, ?_⟩, fun i hi => ?_, fun i hi => ?_, fun j h1 h2 => ?_⟩ (fun j h1 h2 => hvv j (by omega) (by omega) h2)
          · unfold bSE
            rw [hvv (0 + 1) (by omega) (by omega) (by omega), hvv (0 + 1 + 1) (by omega) (by omega) (by omega), hvv (0 + 1 + 2) (by omega) (by omega) (by omega), hvv (0 + 1 + 3) (by omega) (by omega) (by omega), hvv (0 + 1 + 4) (by omega) (by omega) (by omega), hvv (0 + 1 + 5) (by omega) (by omega) (by omega), hvv (0 + 1 + 6) (by omega) (by omega) (by omega), hvv (0 + 1 + 7) (by omega) (by omega) (by omega), hvv (0 + 1 + 8) (by omega) (by omega) (by omega), hvv (0 + 1 + 9) (by omega) (by omega) (by omega), hvv (0 + 1 + 10) (by omega) (by omega) (by omega)]
            exact ⟨fun _ _ _ => rfl, fun _ _ => rfl, fun _ _ _ => rfl, fun _ _ _ => rfl, fun _ _ => rfl, fun _ _ => rfl, fun _ _ => rfl, ⟨rfl, fun _ _ => rfl⟩, rfl, fun _ _ => rfl⟩
          · unfold bSE
            rw [hvv (0 + 12) (by omega) (by omega) (by omega), hvv (0 + 12 + 1) (by omega) (by omega) (by omega), hvv (0 + 12 + 2) (by omega) (by omega) (by omega), hvv (0 + 12 + 3) (by omega) (by omega) (by omega), hvv (0 + 12 + 4) (by omega) (by omega) (by omega), hvv (0 + 12 + 5) (by omega) (by omega) (by omega), hvv (0 + 12 + 6) (by omega) (by omega) (by omega), hvv (0 + 12 + 7) (by omega) (by omega) (by omega), hvv (0 + 12 + 8) (by omega) (by omega) (by omega), hvv (0 + 12 + 9) (by omega) (by omega) (by omega), hvv (0 + 12 + 10) (by omega) (by omega) (by omega)]
            exact ⟨fun _ _ _ => rfl, fun _ _ => rfl, fun _ _ _ => rfl, fun _ _ _ => rfl, fun _ _ => rfl, fun _ _ => rfl, fun _ _ => rfl, ⟨rfl, fun _ _ => rfl⟩, rfl, fun _ _ => rfl⟩
          · rw [hvv _ (by omega) (by omega) (by omega)]
          · rw [hvv _ (by omega) (by omega) (by omega)]
          · rw [hvv _ (by omega) (by omega) (by omega)]
          · rw [hvv _ (by omega) (by omega) (by omega)]
          · rw [hvv _ (by omega) (by omega) (by omega)]
          · rw [hvv _ (by omega) (by omega) (by omega)]
          · rw [hvv _ (by omega) (by omega) (by omega)]
          · rw [hvv _ (by omega) (by omega) (by omega)]
        · rw [bV11_0 m1 (by omega), gk _ (by omega) (by omega), ← bV11_0 m (by omega)]
          exact lt
    · rw [if_neg (show ¬ xw (m 11 8) = xw 2 by rw [b_xw (by omega), b_xw (by omega)]; exact hp), if_neg hp, if_pos z0]
      exact ⟨0, m, M0, rfl, rfl, t0, h0⟩
  · right
    rw [if_neg hr, if_pos z0]
    refine ⟨by rw [c2]; rfl, 0, xu M0 0 6 1, rfl, by rw [xu_s rfl], h0.thr 1⟩

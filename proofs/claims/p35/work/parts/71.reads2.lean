/-! ===== reads of the object: ends, rates, frames, bytes, words, events ===== -/
theorem X_chkE (e : Int) (m : xM) (he : bI e) : (f_X_checkEnd e m = some 0 ∧ h_X_checkEnd e m = none ∧ (e = 0 ∨ e = 1)) ∨ (h_X_checkEnd e m = some 2 ∧ ¬ (e = 0 ∨ e = 1)) := by
  unfold f_X_checkEnd h_X_checkEnd
  have z0 : xw (0 : Int) = 0 := by decide
  have z1 : ¬ xw (1 : Int) = 0 := by decide
  by_cases hr : e = 0 ∨ e = 1
  · left
    rcases hr with rfl | rfl
    · rw [if_pos z0, if_pos z0]; exact ⟨rfl, rfl, Or.inl rfl⟩
    · rw [if_neg z1, if_neg z1, if_pos rfl, if_pos rfl]; exact ⟨rfl, rfl, Or.inr rfl⟩
  · right
    have c0 : ¬ xw e = 0 := by rw [b_xw he]; omega
    have c1 : ¬ xw e = xw 1 := by rw [b_xw he, b_xw (by omega)]; omega
    rw [if_neg c0, if_neg c1]
    exact ⟨rfl, hr⟩
theorem X_word_sp {G : bGt} (e b p : Int) (m M : xM) (h : bX G m M) (he : bI e) (hb : b = 0 ∨ b = 1) (hp : bI p) : bRd (f_X_word e b p m) (h_X_word e b p m) (f_m_word e b p M) 2 M := by
  have z0 : xw (0 : Int) = 0 := by decide
  have z1 : ¬ xw (1 : Int) = 0 := by decide
  unfold h_X_word f_m_word
  rw [m_isEn e _ he, b_bs]
  rcases X_chkE e m he with ⟨c1, c2, hr⟩ | ⟨c2, hr⟩
  · left
    obtain ⟨en, hen⟩ : ∃ en : Nat, e = en := ⟨e.toNat, by omega⟩
    have hE := X_end en (by omega) m M h
    obtain ⟨kc, kb, ci, wi, hD, hci, hwi, hC⟩ : ∃ kc kb ci wi : Nat, bRD kc kb m ci wi (M 1) ∧ (∀ P : xM, f_m_countAt e b P = some (ci : Int) ∧ f_m_wordsAt e b P = some (wi : Int)) ∧ (ci < 1490 ∧ wi + 8 < 1490) ∧ f_X_word e b p m = (if xw p < 0 then some (-1) else (if xw p < xw (m kc 1) then (if xib p 8 then some (m kb (xix p)) else none) else some (-1))) := by
      rcases hb with rfl | rfl
      · refine ⟨12 + 11 * en + 9, 12 + 11 * en + 10, 56 + 717 * en + 8, 56 + 717 * en + 18, hE.2.2.1, fun P => ⟨m_countAt P (Or.inl ⟨rfl, by omega⟩), m_wordsAt P (Or.inl ⟨rfl, by omega⟩)⟩, by omega, ?_⟩
        unfold f_X_word
        rw [c1, b_bs]
        rcases (by omega : en = 0 ∨ en = 1) with rfl | rfl
        · rw [show e = 0 by omega, if_pos z0, if_pos z0]; rfl
        · rw [show e = 1 by omega, if_neg z1, if_pos (show xw (1 : Int) = 1 by decide), if_pos z0]; rfl
      · refine ⟨12 + 11 * en + 7, 12 + 11 * en + 8, 56 + 717 * en + 7, 56 + 717 * en + 10, hE.2.1, fun P => ⟨m_countAt P (Or.inr ⟨rfl, by omega⟩), m_wordsAt P (Or.inr ⟨rfl, by omega⟩)⟩, by omega, ?_⟩
        unfold f_X_word
        rw [c1, b_bs]
        rcases (by omega : en = 0 ∨ en = 1) with rfl | rfl
        · rw [show e = 0 by omega, if_pos z0, if_neg z1]; rfl
        · rw [show e = 1 by omega, if_neg z1, if_pos (show xw (1 : Int) = 1 by decide), if_neg z1]; rfl
    obtain ⟨c, a1, a2, a3, a4⟩ := hD
    have hcb : xib (ci : Int) 3530 := b_ib (by omega)
    have hcx : xix (ci : Int) = ci := by rw [b_ix (by omega)]; exact Int.toNat_natCast _
    rw [hC, a2, if_pos hr, if_neg z1, (hci _).1, b_bs, if_pos hcb, hcx, a3, m_inR p 0 _ _ hp (by unfold bI; omega) (by unfold bI; omega), b_bs, (hci _).2, b_bs]
    by_cases hpp : 0 ≤ p ∧ p ≤ (c : Int) - 1
    · obtain ⟨pn, hpn⟩ : ∃ pn : Nat, p = pn := ⟨p.toNat, by omega⟩
      have q1 : xib ((wi : Int) + p) 3530 := b_ib (by omega)
      have q2 : xix ((wi : Int) + p) = wi + pn := by rw [b_ix (by omega)]; omega
      have q3 : xib p 8 := b_ib (by omega)
      have q4 : xix p = pn := by rw [b_ix (by omega)]; omega
      rw [if_pos hpp, if_neg z1, if_pos q1, q2, if_neg (show ¬ xw p < 0 by rw [b_xw hp]; omega), if_pos (show xw p < xw (c : Int) by rw [b_xw hp, b_xw (by omega)]; omega), if_pos q3, q4, a4 pn (by omega)]
      exact ⟨_, rfl, rfl⟩
    · rw [if_neg hpp, if_pos z0]
      refine ⟨-1, ?_, rfl⟩
      by_cases c5 : xw p < 0
      · rw [if_pos c5]
      · rw [if_neg c5, if_neg (show ¬ xw p < xw (c : Int) by rw [b_xw hp] at c5 ⊢; rw [b_xw (by omega)]; omega)]
  · right
    rw [c2, if_neg hr, if_pos z0]
    exact ⟨rfl, 0, rfl⟩
theorem X_received_sp {G : bGt} (e p : Int) (m M : xM) (h : bX G m M) (he : bI e) (hp : bI p) : bRd (f_X_received e p m) (h_X_received e p m) (f_m_received e p M) 2 M := by
  have z0 : xw (0 : Int) = 0 := by decide
  have z1 : ¬ xw (1 : Int) = 0 := by decide
  unfold h_X_received f_m_received
  rw [m_isEn e _ he, b_bs]
  rcases X_chkE e m he with ⟨c1, c2, hr⟩ | ⟨c2, hr⟩
  · left
    obtain ⟨en, hen⟩ : ∃ en : Nat, e = en := ⟨e.toNat, by omega⟩
    obtain ⟨r, a1, a2, a3, a4⟩ := (X_end en (by omega) m M h).2.2.2.2.1
    obtain ⟨k, hk⟩ : ∃ k : Nat, k = if r < 400 then r else 400 := ⟨_, rfl⟩
    have hk4 : k ≤ 400 ∧ k ≤ r := by rw [hk]; split <;> omega
    have hC : f_X_received e p m = (if xw p < 0 then some (-1) else (if xw p < xw (k : Int) then (if xib p 400 then some (m (12 + 11 * en + 2) (xix p)) else none) else some (-1))) := by
      have hkp : ∀ v : xM, v 0 6 = (r : Int) → f_E_kept v = some (k : Int) := fun v hv => by
        unfold f_E_kept
        rw [hv, hk, b_xw (by omega), b_xw (by omega)]
        by_cases hx : r < 400
        · rw [if_neg (by omega), if_pos hx]
        · rw [if_neg hx]
          by_cases hx2 : (400 : Int) < r
          · rw [if_pos hx2]; rfl
          · rw [if_neg hx2]; congr 1; omega
      unfold f_X_received
      rw [c1, b_bs]
      rcases (by omega : en = 0 ∨ en = 1) with rfl | rfl
      · rw [show e = 0 by omega, if_pos z0, hkp _ a2, b_bs]
      · rw [show e = 1 by omega, if_neg z1, if_pos (show xw (1 : Int) = 1 by decide), hkp _ a2, b_bs]
    have hk2 : (if xw (r : Int) < xw 400 then (r : Int) else 400) - 1 = (k : Int) - 1 := by
      rw [hk, b_xw (by omega), b_xw (by omega)]
      by_cases hx : r < 400
      · rw [if_pos (by omega), if_pos hx]
      · rw [if_neg (by omega), if_neg hx]; rfl
    have M1 : (xu M 0 6 0) 1 = M 1 := xu_K (by omega)
    rw [hC, if_pos hr, if_neg z1, hen, m_of (i := 56 + 717 * en + 4) _ (by omega) (by omega), b_bs, M1, a3, hk2, m_inR p 0 _ _ hp (by unfold bI; omega) (by unfold bI; omega), b_bs]
    by_cases hpp : 0 ≤ p ∧ p ≤ (k : Int) - 1
    · obtain ⟨pn, hpn⟩ : ∃ pn : Nat, p = pn := ⟨p.toNat, by omega⟩
      have q3 : xib p 400 := b_ib (by omega)
      have q4 : xix p = pn := by rw [b_ix (by omega)]; omega
      rw [if_pos hpp, if_neg z1, m_of (i := 56 + 717 * en + 317 + pn) _ (by omega) (by omega), b_bs, M1, if_neg (show ¬ xw p < 0 by rw [b_xw hp]; omega), if_pos (show xw p < xw (k : Int) by rw [b_xw hp, b_xw (by omega)]; omega), if_pos q3, q4, a4 pn (by omega) (by omega)]
      exact ⟨_, rfl, rfl⟩
    · rw [if_neg hpp, if_pos z0]
      refine ⟨-1, ?_, rfl⟩
      by_cases c5 : xw p < 0
      · rw [if_pos c5]
      · rw [if_neg c5, if_neg (show ¬ xw p < xw (k : Int) by rw [b_xw hp] at c5 ⊢; rw [b_xw (by omega)]; omega)]
  · right
    rw [c2, if_neg hr, if_pos z0]
    exact ⟨rfl, 0, rfl⟩
theorem X_rate_sp {G : bGt} (z w : Int) (m M : xM) (h : bX G m M) (hz : bI z) (hw : bI w) : bRd (f_X_rate z w m) (h_X_rate z w m) (f_m_rate z w M) 2 M := by
  have z0 : xw (0 : Int) = 0 := by decide
  have z1 : ¬ xw (1 : Int) = 0 := by decide
  obtain ⟨⟨y11, w11, w11'⟩, -, -, -, -, -, -, -, -, -, -, yn⟩ := h.1.1.1.2.2.2.2.1
  rw [bV11_5 m ⟨by omega, by omega⟩] at y11 w11 w11' yn
  rw [bV11_5 m ⟨by omega, by omega⟩, bV11_5 m ⟨by omega, by omega⟩] at yn
  have v33 : m (33 - 32) = m 1 := rfl
  rw [v33] at y11 w11 w11' yn
  have M1 : (xu M 0 6 0) 1 = M 1 := xu_K (by omega)
  have i11 : xib 11 3530 := b_ib (by omega)
  have hI : f_m_isRate z (xu M 0 6 0) = some (if 0 ≤ z ∧ z ≤ m 1 4 - 1 then 1 else 0) := by
    unfold f_m_isRate
    have y11' : M 1 11 = m 1 4 := y11
    rw [if_pos i11, M1, y11', m_inR z 0 _ _ hz (by unfold bI; omega) (by unfold bI; omega), b_bs]
    have zb : xbz (if 0 ≤ z ∧ z ≤ m 1 4 - 1 then (1 : Int) else 0) := by split <;> decide
    rw [if_pos zb]
  unfold f_X_rate h_X_rate f_m_rate h_X_rate_24
  rw [hI, b_bs, m_inR w 0 1 _ hw (by unfold bI; omega) (by unfold bI; omega), b_bs]
  have c1 : (xw z < 0) ↔ z < 0 := by rw [b_xw hz]
  have c2 : (xw z < xw (m 1 4)) ↔ z < m 1 4 := by rw [b_xw hz, b_xw (by omega)]
  have c3 : (xw w < 0) ↔ w < 0 := by rw [b_xw hw]
  have c4 : (xw 1 < xw w) ↔ 1 < w := by rw [b_xw hw, b_xw (by omega)]
  have c5 : (xw w = 0) ↔ w = 0 := by rw [b_xw hw]
  by_cases hr : (0 ≤ z ∧ z ≤ m 1 4 - 1) ∧ (0 ≤ w ∧ w ≤ 1)
  · left
    obtain ⟨zn, hzn⟩ : ∃ zn : Nat, z = zn := ⟨z.toNat, by omega⟩
    obtain ⟨n35, n40, -⟩ := yn zn (by omega)
    have hb : xib z 5 := b_ib (by omega)
    have hx : xix z = zn := by rw [b_ix (by omega)]; omega
    rw [if_pos hr.1, if_neg z1, if_pos hr.2, if_neg z1, if_neg (fun q => by have := c1.mp q; omega), if_pos (c2.mpr (by omega)), if_neg (fun q => by have := c3.mp q; omega), if_neg (fun q => by have := c4.mp q; omega)]
    unfold f_m_rate_47
    by_cases hw0 : w = 0
    · have q1 : xib (35 + z) 3530 := b_ib (by omega)
      have q2 : xix (35 + z) = 35 + zn := by rw [b_ix (by omega)]; omega
      rw [if_pos (c5.mpr hw0), if_pos (c5.mpr hw0), if_pos q1, q2, M1, if_pos hb, hx]
      exact ⟨m 2 zn, rfl, by rw [show m 2 zn = M 1 (35 + zn) from n35.symm]⟩
    · have q1 : xib (40 + z) 3530 := b_ib (by omega)
      have q2 : xix (40 + z) = 40 + zn := by rw [b_ix (by omega)]; omega
      rw [if_neg (fun q => hw0 (c5.mp q)), if_neg (fun q => hw0 (c5.mp q)), if_pos q1, q2, M1, if_pos hb, hx]
      exact ⟨m 3 zn, rfl, by rw [show m 3 zn = M 1 (40 + zn) from n40.symm]⟩
  · right
    have t : f_m_rate_22 z w (xu M 0 6 0) = some (0, xu (xu M 0 6 0) 0 6 1) := rfl
    refine ⟨?_, 0, ?_⟩
    · by_cases q1 : z < 0
      · rw [if_pos (c1.mpr q1)]
      · rw [if_neg (fun q => q1 (c1.mp q))]
        by_cases q2 : z < m 1 4
        · rw [if_pos (c2.mpr q2)]
          by_cases q3 : w < 0
          · rw [if_pos (c3.mpr q3)]
          · rw [if_neg (fun q => q3 (c3.mp q)), if_pos (c4.mpr (by omega))]
        · rw [if_neg (fun q => q2 (c2.mp q))]
    · by_cases q1 : 0 ≤ z ∧ z ≤ m 1 4 - 1
      · rw [if_pos q1, if_neg z1, if_neg (fun q => hr ⟨q1, q⟩), if_pos z0, t]
      · rw [if_neg q1, if_pos z0, t]
theorem X_event_sp {G : bGt} (e w : Int) (m M : xM) (h : bX G m M) (he : bI e) (hw : bI w) : bRd (f_X_event e w m) (h_X_event e w m) (f_m_event e w M) 2 M := by
  have z0 : xw (0 : Int) = 0 := by decide
  have z1 : ¬ xw (1 : Int) = 0 := by decide
  obtain ⟨b, c, b1, b2, b3, b4, b5, b6, b7⟩ := h.1.1.1.2.2.1
  rw [bV11_0 m (by omega)] at b1 b2
  rw [bV11_0 m (by omega)] at b7
  have b2' : m 39 2 = c := b2
  have b1' : m 39 1 = b := b1
  have M1 : (xu M 0 6 0) 1 = M 1 := xu_K (by omega)
  have i10 : xib 10 3530 := b_ib (by omega)
  have b6' : M 1 10 = c := b6
  unfold f_X_event h_X_event f_m_event h_X_event_27
  rw [if_pos i10, b6', m_inR e 0 _ _ he (by unfold bI; omega) (by unfold bI; omega), b_bs, m_inR w 0 3 _ hw (by unfold bI; omega) (by unfold bI; omega), b_bs, b2']
  have c1 : (xw e < 0) ↔ e < 0 := by rw [b_xw he]
  have c2 : (xw e < xw (c : Int)) ↔ e < c := by rw [b_xw he, b_xw (by omega)]
  have c3 : (xw w < 0) ↔ w < 0 := by rw [b_xw hw]
  have c4 : (xw w < xw 4) ↔ w < 4 := by rw [b_xw hw, b_xw (by omega)]
  by_cases hr : (0 ≤ e ∧ e ≤ (c : Int) - 1) ∧ (0 ≤ w ∧ w ≤ 3)
  · left
    obtain ⟨en, hen⟩ : ∃ en : Nat, e = en := ⟨e.toNat, by omega⟩
    obtain ⟨wn, hwn⟩ : ∃ wn : Nat, w = wn := ⟨w.toNat, by omega⟩
    have hev := b7 en wn (by omega) (by omega)
    have hl : (b + en) % 60 < 60 := Nat.mod_lt _ (by decide)
    have q1 : xib (1490 + 4 * e + w) 3530 := b_ib (by omega)
    have q2 : xix (1490 + 4 * e + w) = 1490 + 4 * en + wn := by rw [b_ix (by omega)]; omega
    have hG : f_G_prop e w (xvw [39, 40] m) = some (m 40 ((b + en) % 60 * 4 + wn)) := by
      unfold f_G_prop
      have v0 : xvw [39, 40] m 0 1 = (b : Int) := b1'
      have v1 : xvw [39, 40] m 1 = m 40 := rfl
      have hf : f_floorMod (xvw [39, 40] m 0 1 + e) 60 (xvw [] (xvw [39, 40] m)) = some (((b + en) % 60 : Nat) : Int) := by
        rw [v0, hen, show (b : Int) + (en : Int) = ((b + en : Nat) : Int) by omega, show (60 : Int) = ((60 : Nat) : Int) from rfl, b_floorMod _ 60 _ (by omega) (by decide) (by decide)]
      rw [hf, b_bs, if_neg (fun q => by have := c3.mp q; omega), if_pos (c4.mpr (by omega)), if_pos (show xib ((((b + en) % 60 : Nat) : Int) * 4 + w) 240 from b_ib (by omega)), v1]
      congr 2
      rw [b_ix (by omega)]; omega
    rw [if_pos hr.1, if_neg z1, if_pos hr.2, if_neg z1, if_neg (fun q => by have := c1.mp q; omega), if_pos (c2.mpr (by omega)), if_neg (fun q => by have := c3.mp q; omega), if_pos (c4.mpr (by omega)), hG, b_bs]
    unfold f_m_event_36
    rw [if_neg z1, if_pos q1, q2, M1]
    exact ⟨_, rfl, by rw [show M 1 (1490 + 4 * en + wn) = m 40 ((b + en) % 60 * 4 + wn) from hev]⟩
  · right
    have t : f_m_event_35 e w (xu M 0 6 0) = some (0, xu (xu M 0 6 0) 0 6 1) := rfl
    refine ⟨?_, 0, ?_⟩
    · by_cases q1 : e < 0
      · rw [if_pos (c1.mpr q1)]
      · rw [if_neg (fun q => q1 (c1.mp q))]
        by_cases q2 : e < c
        · rw [if_pos (c2.mpr q2)]
          by_cases q3 : w < 0
          · rw [if_pos (c3.mpr q3)]
          · rw [if_neg (fun q => q3 (c3.mp q)), if_neg (fun q => by have := c4.mp q; omega)]
        · rw [if_neg (fun q => q2 (c2.mp q))]
    · by_cases q1 : 0 ≤ e ∧ e ≤ (c : Int) - 1
      · rw [if_pos q1, if_neg z1, if_neg (fun q => hr ⟨q1, q⟩), if_pos z0, t]
      · rw [if_neg q1, if_pos z0, t]
theorem m_countThat_sp (e o C S : Nat) (a : Int) (M : xM) (he : e < 2) (ho : o = 56 + 717 * e) (hC : C ≤ 7) (hS : S ≤ C) (hM : M 1 (o + 1) = C) (ha : a = 0 ∨ a = 1) (hf : ∀ p, p < C → M 1 (o + 26 + 13 * p + 3) = (if p < S then 0 else 1)) : f_m_countThat (e : Int) a M = some (if a = 0 then (S : Int) else (C : Int) - S) := by
  have key : ∀ (k p n : Nat) (x : Int), p + k = C → k < n → f_m_countThat_5 (e : Int) a M n x (p : Int) = some (x + (if a = 0 then (if p < S then (S : Int) - p else 0) else (if p < S then (C : Int) - S else (C : Int) - p))) := by
    intro k
    induction k with
    | zero =>
      intro p n x h1 h2
      obtain ⟨n, rfl⟩ : ∃ z, n = z + 1 := ⟨n - 1, by omega⟩
      rw [f_m_countThat_5, m_of (i := o + 1) M (by omega) (by omega), b_bs, hM, if_neg (by rw [b_xw (by omega), b_xw (by omega)]; omega)]
      congr 1
      split <;> split <;> omega
    | succ k ih =>
      intro p n x h1 h2
      obtain ⟨n, rfl⟩ : ∃ z, n = z + 1 := ⟨n - 1, by omega⟩
      rw [f_m_countThat_5, m_of (i := o + 1) M (by omega) (by omega), b_bs, hM, if_pos (by rw [b_xw (by omega), b_xw (by omega)]; omega), m_ofFrame (i := o + 26 + 13 * p + 3) M (by omega) (by omega), b_bs, hf p (by omega)]
      unfold f_m_countThat_34
      rw [show (p : Int) + 1 = ((p + 1 : Nat) : Int) by omega]
      rcases ha with rfl | rfl
      · by_cases hp : p < S
        · rw [if_pos hp, if_pos rfl, ih (p + 1) n _ (by omega) (by omega), if_pos rfl, if_pos rfl, if_pos hp]
          congr 1; split <;> omega
        · rw [if_neg hp, if_neg (by decide), ih (p + 1) n _ (by omega) (by omega), if_pos rfl, if_pos rfl, if_neg hp, if_neg (by omega)]
          congr 1; omega
      · by_cases hp : p < S
        · rw [if_pos hp, if_neg (show ¬ xw (0 : Int) = xw 1 by decide), ih (p + 1) n _ (by omega) (by omega), if_neg (show ¬ (1 : Int) = 0 by decide), if_neg (show ¬ (1 : Int) = 0 by decide), if_pos hp]
          congr 1; split <;> omega
        · rw [if_neg hp, if_pos rfl, ih (p + 1) n _ (by omega) (by omega), if_neg (show ¬ (1 : Int) = 0 by decide), if_neg (show ¬ (1 : Int) = 0 by decide), if_neg hp, if_neg (by omega)]
          congr 1; omega
  have := key C 0 fu 0 (by omega) (by show _ < 5000; omega)
  unfold f_m_countThat
  have e0 : f_m_countThat_5 (e : Int) a M fu 0 0 = _ := this
  rw [e0]
  congr 1
  split <;> split <;> omega
theorem X_end_sp {G : bGt} (e w : Int) (m M : xM) (h : bX G m M) (he : bI e) (hw : bI w) : bRd (f_X_end e w m) (h_X_end e w m) (f_m_end e w M) 2 M := by
  have z0 : xw (0 : Int) = 0 := by decide
  have z1 : ¬ xw (1 : Int) = 0 := by decide
  have w1 : xw (1 : Int) = 1 := by decide
  have M1 : (xu M 0 6 0) 1 = M 1 := xu_K (by omega)
  unfold h_X_end f_m_end
  rw [m_isEn e _ he, b_bs]
  rcases X_chkE e m he with ⟨c1, c2, hr⟩ | ⟨c2, hr⟩
  · rw [c1, c2, if_pos hr, if_neg z1]
    obtain ⟨en, hen⟩ : ∃ en : Nat, e = en := ⟨e.toNat, by omega⟩
    obtain ⟨⟨F, C, S, a1, a2, a3, a4, a5, a6, a7, a8, a9⟩, ⟨d, d1, d2, d3, -⟩, ⟨d', d1', d2', d3', -⟩, ⟨q, q1, q2, q3, -⟩, ⟨r, r1, r2, r3, -⟩, t1, t2, t3, t4, t5, t6⟩ := X_end en (by omega) m M h
    obtain ⟨o, ho⟩ : ∃ o : Nat, o = 56 + 717 * en := ⟨_, rfl⟩
    obtain ⟨k, hk0⟩ : ∃ k : Nat, k = 12 + 11 * en := ⟨_, rfl⟩
    rw [← ho] at a7 a8 a9 d3 d3' q3 r3 t1 t2 t3 t4
    rw [← hk0] at a1 a2 a3 a9 d2 d2' q2 r2 t1 t2 t3 t4 t5 t6
    have hfr : ∀ p, p < C → (xu M 0 6 0) 1 (o + 26 + 13 * p + 3) = (if p < S then 0 else 1) := fun p hp => by rw [M1]; exact (a9 p hp).2.2.2.2.1
    have ct0 := m_countThat_sp en o C S 0 (xu M 0 6 0) (by omega) ho a5 a4 (by rw [M1]; exact a7) (Or.inl rfl) hfr
    have ct1 := m_countThat_sp en o C S 1 (xu M 0 6 0) (by omega) ho a5 a4 (by rw [M1]; exact a7) (Or.inr rfl) hfr
    have hC : f_X_end e w m = (if xw w = 0 then some (m k 5) else (if xw w = 1 then some (m (k + 3) 5) else (if xw w = 2 then some (m (k + 3) 4 - m (k + 3) 5) else (if xw w = 3 then some (m (k + 3) 3 + m (k + 3) 4) else (if xw w = 4 then some (m k 7) else (if xw w = 5 then some (m k 6) else (if xw w = 6 then some (m k 8) else (if xw w = 7 then (if xw (m k 9) = 0 then some 0 else some 1) else (if xw w = 8 then some (m (k + 7) 1) else (if xw w = 9 then some (m (k + 9) 1) else none)))))))))) := by
      unfold f_X_end
      rw [c1, b_bs]
      rcases (by omega : en = 0 ∨ en = 1) with rfl | rfl
      · rw [show e = 0 by omega, if_pos z0, show k = 12 by omega]
      · rw [show e = 1 by omega, if_neg z1, if_pos w1, show k = 23 by omega]
    by_cases hwr : 0 ≤ w ∧ w ≤ 9
    · left
      rw [hC, hen]
      have of : ∀ (f : Int) (i : Nat), 56 + 717 * (en : Int) + f = (i : Int) → i < 3530 → f_m_of (en : Int) f (xu M 0 6 0) = some (M 1 i) := fun f i q1 q2 => by rw [m_of _ q1 q2, M1]
      rcases (by omega : w = 0 ∨ w = 1 ∨ w = 2 ∨ w = 3 ∨ w = 4 ∨ w = 5 ∨ w = 6 ∨ w = 7 ∨ w = 8 ∨ w = 9) with rfl | rfl | rfl | rfl | rfl | rfl | rfl | rfl | rfl | rfl
      · rw [if_pos (show xw (0 : Int) = 0 by decide), if_pos (show xw (0 : Int) = 0 by decide), of 0 o (by omega) (by omega), b_bs]
        refine ⟨_, rfl, ?_⟩
        rw [q2, q3]
      · rw [if_neg (show ¬ xw (1 : Int) = 0 by decide), if_pos (show xw (1 : Int) = 1 by decide), if_neg (show ¬ xw (1 : Int) = 0 by decide), if_pos (show xw (1 : Int) = 1 by decide), ct0, b_bs]
        refine ⟨_, rfl, ?_⟩
        rw [a3]
        rfl
      · rw [if_neg (show ¬ xw (2 : Int) = 0 by decide), if_neg (show ¬ xw (2 : Int) = 1 by decide), if_pos (show xw (2 : Int) = 2 by decide), if_neg (show ¬ xw (2 : Int) = 0 by decide), if_neg (show ¬ xw (2 : Int) = 1 by decide), if_pos (show xw (2 : Int) = 2 by decide), ct1, b_bs]
        refine ⟨_, rfl, ?_⟩
        rw [a3, a2]
        rfl
      · rw [if_neg (show ¬ xw (3 : Int) = 0 by decide), if_neg (show ¬ xw (3 : Int) = 1 by decide), if_neg (show ¬ xw (3 : Int) = 2 by decide), if_pos (show xw (3 : Int) = 3 by decide), if_neg (show ¬ xw (3 : Int) = 0 by decide), if_neg (show ¬ xw (3 : Int) = 1 by decide), if_neg (show ¬ xw (3 : Int) = 2 by decide), if_pos (show xw (3 : Int) = 3 by decide), of (2 + 3 - 3) (o + 2) (by omega) (by omega), b_bs]
        refine ⟨_, rfl, ?_⟩
        rw [a1, a2, a8]
        congr 2
      · rw [if_neg (show ¬ xw (4 : Int) = 0 by decide), if_neg (show ¬ xw (4 : Int) = 1 by decide), if_neg (show ¬ xw (4 : Int) = 2 by decide), if_neg (show ¬ xw (4 : Int) = 3 by decide), if_pos (show xw (4 : Int) = 4 by decide), if_neg (show ¬ xw (4 : Int) = 0 by decide), if_neg (show ¬ xw (4 : Int) = 1 by decide), if_neg (show ¬ xw (4 : Int) = 2 by decide), if_neg (show ¬ xw (4 : Int) = 3 by decide), if_pos (show xw (4 : Int) = 4 by decide), of (2 + 4 - 3) (o + 3) (by omega) (by omega), b_bs]
        refine ⟨_, rfl, ?_⟩
        rw [t1]
      · rw [if_neg (show ¬ xw (5 : Int) = 0 by decide), if_neg (show ¬ xw (5 : Int) = 1 by decide), if_neg (show ¬ xw (5 : Int) = 2 by decide), if_neg (show ¬ xw (5 : Int) = 3 by decide), if_neg (show ¬ xw (5 : Int) = 4 by decide), if_pos (show xw (5 : Int) = 5 by decide), if_neg (show ¬ xw (5 : Int) = 0 by decide), if_neg (show ¬ xw (5 : Int) = 1 by decide), if_neg (show ¬ xw (5 : Int) = 2 by decide), if_neg (show ¬ xw (5 : Int) = 3 by decide), if_neg (show ¬ xw (5 : Int) = 4 by decide), if_pos (show xw (5 : Int) = 5 by decide), of (2 + 5 - 3) (o + 4) (by omega) (by omega), b_bs]
        refine ⟨_, rfl, ?_⟩
        rw [r2, r3]
      · rw [if_neg (show ¬ xw (6 : Int) = 0 by decide), if_neg (show ¬ xw (6 : Int) = 1 by decide), if_neg (show ¬ xw (6 : Int) = 2 by decide), if_neg (show ¬ xw (6 : Int) = 3 by decide), if_neg (show ¬ xw (6 : Int) = 4 by decide), if_neg (show ¬ xw (6 : Int) = 5 by decide), if_pos (show xw (6 : Int) = 6 by decide), if_neg (show ¬ xw (6 : Int) = 0 by decide), if_neg (show ¬ xw (6 : Int) = 1 by decide), if_neg (show ¬ xw (6 : Int) = 2 by decide), if_neg (show ¬ xw (6 : Int) = 3 by decide), if_neg (show ¬ xw (6 : Int) = 4 by decide), if_neg (show ¬ xw (6 : Int) = 5 by decide), if_pos (show xw (6 : Int) = 6 by decide), of (2 + 6 - 3) (o + 5) (by omega) (by omega), b_bs]
        refine ⟨_, rfl, ?_⟩
        rw [t2]
      · rw [if_neg (show ¬ xw (7 : Int) = 0 by decide), if_neg (show ¬ xw (7 : Int) = 1 by decide), if_neg (show ¬ xw (7 : Int) = 2 by decide), if_neg (show ¬ xw (7 : Int) = 3 by decide), if_neg (show ¬ xw (7 : Int) = 4 by decide), if_neg (show ¬ xw (7 : Int) = 5 by decide), if_neg (show ¬ xw (7 : Int) = 6 by decide), if_pos (show xw (7 : Int) = 7 by decide), if_neg (show ¬ xw (7 : Int) = 0 by decide), if_neg (show ¬ xw (7 : Int) = 1 by decide), if_neg (show ¬ xw (7 : Int) = 2 by decide), if_neg (show ¬ xw (7 : Int) = 3 by decide), if_neg (show ¬ xw (7 : Int) = 4 by decide), if_neg (show ¬ xw (7 : Int) = 5 by decide), if_neg (show ¬ xw (7 : Int) = 6 by decide), if_pos (show xw (7 : Int) = 7 by decide), of (2 + 7 - 3) (o + 6) (by omega) (by omega), b_bs, t3]
        rcases t5 with q | q
        · rw [q]; exact ⟨0, rfl, rfl⟩
        · rw [q]; exact ⟨1, rfl, rfl⟩
      · rw [if_neg (show ¬ xw (8 : Int) = 0 by decide), if_neg (show ¬ xw (8 : Int) = 1 by decide), if_neg (show ¬ xw (8 : Int) = 2 by decide), if_neg (show ¬ xw (8 : Int) = 3 by decide), if_neg (show ¬ xw (8 : Int) = 4 by decide), if_neg (show ¬ xw (8 : Int) = 5 by decide), if_neg (show ¬ xw (8 : Int) = 6 by decide), if_neg (show ¬ xw (8 : Int) = 7 by decide), if_pos (show xw (8 : Int) = 8 by decide), if_neg (show ¬ xw (8 : Int) = 0 by decide), if_neg (show ¬ xw (8 : Int) = 1 by decide), if_neg (show ¬ xw (8 : Int) = 2 by decide), if_neg (show ¬ xw (8 : Int) = 3 by decide), if_neg (show ¬ xw (8 : Int) = 4 by decide), if_neg (show ¬ xw (8 : Int) = 5 by decide), if_neg (show ¬ xw (8 : Int) = 6 by decide), if_neg (show ¬ xw (8 : Int) = 7 by decide), if_pos (show xw (8 : Int) = 8 by decide), of (2 + 8 - 3) (o + 7) (by omega) (by omega), b_bs]
        refine ⟨_, rfl, ?_⟩
        rw [d2, d3]
      · rw [if_neg (show ¬ xw (9 : Int) = 0 by decide), if_neg (show ¬ xw (9 : Int) = 1 by decide), if_neg (show ¬ xw (9 : Int) = 2 by decide), if_neg (show ¬ xw (9 : Int) = 3 by decide), if_neg (show ¬ xw (9 : Int) = 4 by decide), if_neg (show ¬ xw (9 : Int) = 5 by decide), if_neg (show ¬ xw (9 : Int) = 6 by decide), if_neg (show ¬ xw (9 : Int) = 7 by decide), if_neg (show ¬ xw (9 : Int) = 8 by decide), if_pos (show xw (9 : Int) = 9 by decide), if_neg (show ¬ xw (9 : Int) = 0 by decide), if_neg (show ¬ xw (9 : Int) = 1 by decide), if_neg (show ¬ xw (9 : Int) = 2 by decide), if_neg (show ¬ xw (9 : Int) = 3 by decide), if_neg (show ¬ xw (9 : Int) = 4 by decide), if_neg (show ¬ xw (9 : Int) = 5 by decide), if_neg (show ¬ xw (9 : Int) = 6 by decide), if_neg (show ¬ xw (9 : Int) = 7 by decide), if_neg (show ¬ xw (9 : Int) = 8 by decide), if_pos (show xw (9 : Int) = 9 by decide), of (2 + 9 - 3) (o + 8) (by omega) (by omega), b_bs]
        refine ⟨_, rfl, ?_⟩
        rw [d2', d3']
    · right
      have hk : ∀ k : Int, 0 ≤ k ∧ k ≤ 9 → ¬ xw w = k := fun k hk => by rw [b_xw hw]; omega
      refine ⟨?_, 0, ?_⟩
      · show (if xw e = 0 then _ else _) = some 2
        rcases hr with rfl | rfl
        · rw [if_pos z0, if_neg (hk 0 (by omega)), if_neg (hk 1 (by omega)), if_neg (hk 2 (by omega)), if_neg (hk 3 (by omega)), if_neg (hk 4 (by omega)), if_neg (hk 5 (by omega)), if_neg (hk 6 (by omega)), if_neg (hk 7 (by omega)), if_neg (hk 8 (by omega)), if_neg (hk 9 (by omega))]
        · rw [if_neg z1, if_pos w1, if_neg (hk 0 (by omega)), if_neg (hk 1 (by omega)), if_neg (hk 2 (by omega)), if_neg (hk 3 (by omega)), if_neg (hk 4 (by omega)), if_neg (hk 5 (by omega)), if_neg (hk 6 (by omega)), if_neg (hk 7 (by omega)), if_neg (hk 8 (by omega)), if_neg (hk 9 (by omega))]
      · rw [if_neg (hk 0 (by omega)), if_neg (hk 1 (by omega)), if_neg (hk 2 (by omega)), if_neg (hk 3 (by omega)), if_neg (hk 4 (by omega)), if_neg (hk 5 (by omega)), if_neg (hk 6 (by omega)), if_neg (hk 7 (by omega)), if_neg (hk 8 (by omega)), if_neg (hk 9 (by omega))]
        rfl
  · right
    rw [c2, if_neg hr, if_pos z0]
    exact ⟨rfl, 0, rfl⟩

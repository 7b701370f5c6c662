/-! ===== one arrival, whichever it is ===== -/
def bAcc (n : Int) (m m' : xM) : Prop := (∀ j, j ≠ 15 → j ≠ 16 → m' 0 j = m 0 j) ∧ (m' 4 3 + m' 4 4 = m 4 3 + m 4 4 ∧ m' 15 3 + m' 15 4 = m 15 3 + m 15 4) ∧ (m' 1 5 = m 1 5 ∧ m' 12 5 = m 12 5 ∧ m' 1 8 = m 1 8 ∧ m' 12 8 = m 12 8) ∧ (m 1 6 ≤ m' 1 6 ∧ m' 1 6 ≤ m 1 6 + 8 * n ∧ m 12 6 ≤ m' 12 6 ∧ m' 12 6 ≤ m 12 6 + 8 * n) ∧ m' 30 0 = m 30 0 ∧ ∀ k, 33 ≤ k → k ≤ 37 → m' k = m k
theorem bAcc.refl (m : xM) : bAcc 0 m m := ⟨fun _ _ _ => rfl, ⟨rfl, rfl⟩, ⟨rfl, rfl, rfl, rfl⟩, ⟨by omega, by omega, by omega, by omega⟩, rfl, fun _ _ _ => rfl⟩
theorem bAcc.trans {a b : Int} {m m' m'' : xM} (h : bAcc a m m') (h' : bAcc b m' m'') : bAcc (a + b) m m'' := by
  obtain ⟨a1, ⟨a2, a3⟩, ⟨a4, a5, a6, a7⟩, ⟨a8, a9, a10, a11⟩, a12, a13⟩ := h
  obtain ⟨b1, ⟨b2, b3⟩, ⟨b4, b5, b6, b7⟩, ⟨b8, b9, b10, b11⟩, b12, b13⟩ := h'
  exact ⟨fun j h1 h2 => by rw [b1 j h1 h2, a1 j h1 h2], ⟨by omega, by omega⟩, ⟨by omega, by omega, by omega, by omega⟩, ⟨by omega, by omega, by omega, by omega⟩, by omega, fun k h1 h2 => by rw [b13 k h1 h2, a13 k h1 h2]⟩
theorem bArr.acc {m m' : xM} (h : bArr m m') : bAcc 1 m m' := by
  obtain ⟨a1, a2, a3, ⟨a8, a9, a10, a11⟩, a12, a13⟩ := h
  exact ⟨a1, a2, a3, ⟨a8, by omega, a10, by omega⟩, a12, fun k h1 _ => a13 k h1⟩
theorem bAcc.tw {n : Int} {m q m' q' : xM} (h : bAcc n m m') (t : bTw m q) (t' : bTw m' q') : bAcc n q q' := by
  obtain ⟨a1, ⟨a2, a3⟩, ⟨a4, a5, a6, a7⟩, ⟨a8, a9, a10, a11⟩, a12, a13⟩ := h
  obtain ⟨t1, t2, t0, t3⟩ := t
  obtain ⟨u1, u2, u0, u3⟩ := t'
  have w1 : q 1 = m 12 := t1 0 (by omega)
  have w4 : q 4 = m 15 := t1 3 (by omega)
  have w12 : q 12 = m 1 := t2 0 (by omega)
  have w15 : q 15 = m 4 := t2 3 (by omega)
  have x1 : q' 1 = m' 12 := u1 0 (by omega)
  have x4 : q' 4 = m' 15 := u1 3 (by omega)
  have x12 : q' 12 = m' 1 := u2 0 (by omega)
  have x15 : q' 15 = m' 4 := u2 3 (by omega)
  have w30 : q 30 = m 30 := t3 7 (by omega)
  have x30 : q' 30 = m' 30 := u3 7 (by omega)
  unfold bAcc
  rw [w1, w4, w12, w15, x1, x4, x12, x15, w30, x30, t0, u0]
  exact ⟨a1, ⟨a3, a2⟩, ⟨a5, a4, a7, a6⟩, ⟨a10, a11, a8, a9⟩, a12, fun k h1 h2 => by
    have e1 := t3 (k - 23) (by omega)
    have e2 := u3 (k - 23) (by omega)
    rw [show 23 + (k - 23) = k by omega] at e1 e2
    rw [e1, e2, a13 k h1 h2]⟩
/-- the oldest is taken off the class's ring -/
theorem W_take_sp (m : xM) (f c : Nat) (hf : f ≤ 64) (h4 : m 23 4 = f) (h5 : m 23 5 = ((c + 1 : Nat) : Int)) : ∃ q m1 : xM, f_W_take (xvw bT4 m) = some (((f % 64 : Nat) : Int), q) ∧ m1 = xmg bT4 5 m q ∧ (∀ k, k ≠ 23 → m1 k = m k) ∧ m1 23 4 = ((f % 64 + 1 : Nat) : Int) ∧ m1 23 5 = c := by
  have e0 : xvw bT4 m 0 = m 23 := rfl
  have ha : xiand (xvw bT4 m 0 4) 63 = ((f % 64 : Nat) : Int) := by rw [e0, h4, b_iand63]
  obtain ⟨q, hq⟩ : ∃ Z, Z = xu (xu (xvw bT4 m) 0 4 (((f % 64 : Nat) : Int) + 1)) 0 5 (xvw bT4 m 0 5 - 1) := ⟨_, rfl⟩
  refine ⟨q, _, ?_, rfl, fun k hk => ?_, ?_, ?_⟩
  · unfold f_W_take
    rw [ha, ← hq]
  · by_cases h6 : k ∈ bT4
    · simp only [bT4, List.mem_cons, List.not_mem_nil, or_false] at h6
      rcases h6 with rfl | rfl | rfl | rfl | rfl
      · exact absurd rfl hk
      · show q 1 = m 24
        rw [hq, xu_K (by omega), xu_K (by omega)]; rfl
      · show q 2 = m 25
        rw [hq, xu_K (by omega), xu_K (by omega)]; rfl
      · show q 3 = m 26
        rw [hq, xu_K (by omega), xu_K (by omega)]; rfl
      · show q 4 = m 27
        rw [hq, xu_K (by omega), xu_K (by omega)]; rfl
    · exact xmg_no _ _ (xpos_not h6)
  · show q 0 4 = _
    rw [hq, xu_d (by omega), xu_s rfl]; omega
  · show q 0 5 = _
    rw [hq, xu_s rfl, e0, h5]; omega
/-- one arrival, in the view of the end whose frame or acknowledgement it is -/
theorem L_one_sp (m m1 M : xM) (e f c : Nat) (lo hi : Int) (he : e < 2) (h : bRL e m (M 1)) (hw : bWire e m (M 1) lo hi f (c + 1)) (hc : c ≤ 60) (hm1 : ∀ k, k ≠ 23 → m1 k = m k) (hf1 : m1 23 4 = ((f % 64 + 1 : Nat) : Int)) (hc1 : m1 23 5 = c)
    (hs : (m 27 (f % 64) ≠ 1 ∧ m 25 (f % 64) = (e : Int)) ∨ (m 27 (f % 64) = 1 ∧ m 25 (f % 64) = 1 - (e : Int))) (hsum : m 4 3 + m 4 4 ≤ 1000000000) (hr9 : m 12 6 ≤ 900000000) (htime : 0 ≤ m 0 7 ∧ lo ≤ m 0 7) (htick : m 24 (f % 64) + m 33 10 = m 0 7) :
    ∃ (m' M1 M' : xM) (c' : Nat), (if m 27 (f % 64) = 1 then f_L_ack (e : Int) (m 26 (f % 64)) m1 else f_L_frame (e : Int) (m 26 (f % 64)) (m 27 (f % 64)) m1) = some m' ∧ (if m 27 (f % 64) = 1 then f_m_arriveAck 0 M else f_m_arriveFrame 0 M) = some M1 ∧ f_m_land 0 M1 = some M' ∧ bRL e m' (M' 1) ∧ bWire e m' (M' 1) lo hi (f % 64 + 1) c' ∧ (c ≤ c' ∧ c' ≤ c + 1) ∧ bAcc 1 m m' ∧ bTk m m' f c c' ∧ ∀ k, k ≠ 1 → M' k = M k := by
  rcases hs with ⟨ht, hs⟩ | ⟨ht, hs⟩
  · rw [if_neg ht, if_neg ht]
    have hd := hw.2.2.2.1.1
    obtain ⟨F, C, S, b1, b2, b3, b4, b5, b6, b7, b8, b9⟩ := id h.1.1
    rw [show (1 + 3 : Nat) = 4 from rfl] at b1 b2 b3
    have hX : 0 ≤ m 12 7 ∧ m 12 7 ≤ 1000000000 := by omega
    by_cases hn : (m 27 (f % 64) = 2 ∨ m 27 (f % 64) = 6) ∨ m 26 (f % 64) ≠ m 12 7
    · obtain ⟨m', M1, M', e1, e2, e3, e4, e5, e6, e7, e8⟩ := L_thrown_sp m m1 M e f c lo hi he h hw (by omega) hm1 hf1 hc1 hs ht hX hn
      exact ⟨m', M1, M', c, e1, e2, e3, e4, e5, ⟨by omega, by omega⟩, e6.acc, e7, e8⟩
    · have hn1 : ¬ (m 27 (f % 64) = 2 ∨ m 27 (f % 64) = 6) := fun hz => hn (Or.inl hz)
      have hn2 : m 26 (f % 64) = m 12 7 := Classical.byContradiction fun hz => hn (Or.inr hz)
      obtain ⟨m', M1, M', e1, e2, e3, e4, e5, e6, e7, -, e8⟩ := L_take_sp m m1 M e f c lo hi he h hw hc hm1 hf1 hc1 hs ht hX hr9 htime htick hn1 hn2
      exact ⟨m', M1, M', c + 1, e1, e2, e3, e4, e5, ⟨by omega, by omega⟩, e6.acc, e7, e8⟩
  · rw [if_pos ht, if_pos ht]
    obtain ⟨m', M1, M', e1, e2, e3, e4, e5, e6, e7, e8⟩ := L_ack_sp m m1 M e f c lo hi he h hw (by omega) hm1 hf1 hc1 hs ht
    exact ⟨m', M1, M', c, e1, e2, e3, e4, e5, ⟨by omega, by omega⟩, e6.acc, e7, e8⟩
theorem b_x23 {k : Nat} (h : xT xT_1 k = 23) : k = 23 := by
  by_cases h1 : k < 38
  · have : ∀ k, k < 38 → xT xT_1 k = 23 → k = 23 := by decide
    exact this k h1 h
  · by_cases h2 : k < 1000
    · rw [xT_lo h2, List.getD_eq_getElem?_getD, List.getElem?_eq_none (by show 38 ≤ k; omega)] at h
      exact absurd h (by decide)
    · unfold xT at h
      rw [if_neg h2] at h
      exact h
theorem bTw.symm {m q : xM} (t : bTw m q) : bTw q m := ⟨fun k hk => (t.2.1 k hk).symm, fun k hk => (t.1 k hk).symm, t.2.2.1.symm, fun k hk => (t.2.2.2 k hk).symm⟩
/-- nothing more is due in the reference -/
theorem arrivals_no (M : xM) (c : Nat) (hc : c ≤ 119) (h20 : M 1 20 = c) : ∀ (k x n : Nat), c ≤ x + k → k < n → x ≤ 119 → (∀ i, x ≤ i → i < c → xw (M 1 (1730 + 15 * i)) ≠ xw (M 1 0)) → f_m_arrivals_2 n (x : Int) M = some M := by
  intro k
  induction k with
  | zero =>
    intro x n h1 h2 h3 h4
    obtain ⟨n, rfl⟩ : ∃ z, n = z + 1 := ⟨n - 1, by omega⟩
    rw [f_m_arrivals_2, if_pos (b_ib (by omega)), h20, if_neg (by rw [b_xw (by omega), b_xw (by omega)]; omega)]
  | succ k ih =>
    intro x n h1 h2 h3 h4
    obtain ⟨n, rfl⟩ : ∃ z, n = z + 1 := ⟨n - 1, by omega⟩
    rw [f_m_arrivals_2, if_pos (b_ib (by omega)), h20]
    by_cases hx : x < c
    · rw [if_pos (by rw [b_xw (by omega), b_xw (by omega)]; omega), m_flyAt (i := 1730 + 15 * x) _ (by omega), b_bs, if_pos (b_ib (by omega)), if_pos (b_ib (by omega)), b_ix (by omega), Int.toNat_natCast, if_neg (h4 x (Nat.le_refl _) hx), show (x : Int) + 1 = ((x + 1 : Nat) : Int) by omega]
      exact ih (x + 1) n (by omega) (by omega) (by omega) (fun i q1 q2 => h4 i (by omega) q2)
    · rw [if_neg (by rw [b_xw (by omega), b_xw (by omega)]; omega)]
/-- all that is due arrives -/
theorem L_arrive_sp (lo time : Int) (ht : 0 ≤ time ∧ time ≤ 1000000) : ∀ (k x n n' f c : Nat) (m M : xM), x + k ≤ 60 → k < n → k + 130 < n' → bRL 0 m (M 1) → bWire 0 m (M 1) lo time f c → m 0 7 = time → lo + m 33 10 = time → k ≤ c → (∀ i, i < k → bSq m 24 f i = lo) → (∀ i, k ≤ i → i < c → lo < bSq m 24 f i) → m 4 3 + m 4 4 ≤ 1000000000 → m 15 3 + m 15 4 ≤ 1000000000 → m 1 6 + 8 * k ≤ 900000000 → m 12 6 + 8 * k ≤ 900000000 →
    ∃ (m' M' : xM) (f' c' : Nat), f_L_arrive_2 n (x : Int) m = some m' ∧ f_m_arrivals_2 n' 0 M = some M' ∧ bRL 0 m' (M' 1) ∧ bWire 0 m' (M' 1) (lo + 1) time f' c' ∧ bAcc k m m' ∧ ∀ k, k ≠ 1 → M' k = M k := by
  intro k
  induction k with
  | zero =>
    intro x n n' f c m M h1 h2 h3 h4 h5 h6 h7 h8 h9 h10 h11 h12 h13 h14
    obtain ⟨n, rfl⟩ : ∃ z, n = z + 1 := ⟨n - 1, by omega⟩
    obtain ⟨⟨v1, v2, v3, v4⟩, we, ws, d1, d2⟩ := id h5
    have hc42 : c ≤ 42 := bUnder (dl := m 33 10) d1 d2 (fun i hi => (we i hi).2.1)
    have hP := h4.2.2.2.2.1
    obtain ⟨-, -, -, -, ⟨y15, y16, y17⟩, -⟩ := hP
    have s0 := h4.2.2.2.2.2.1
    refine ⟨m, M, f, c, ?_, ?_, h4, ⟨⟨v1, v2, v3, v4⟩, fun i hi => ?_, ws, d1, d2⟩, bAcc.refl m, fun _ _ => rfl⟩
    · have e0 : xvw bT4 m 0 = m 23 := rfl
      have e1 : xvw bT4 m 1 = m 24 := rfl
      have hz : f_W_has (m 0 7 - m 33 10) (xvw bT4 m) = some 0 := by
        unfold f_W_has
        rw [e0, e1, v1, v3, b_iand63]
        by_cases hc0 : c = 0
        · rw [if_neg (by rw [b_xw (by omega)]; omega)]
        · have hl := h10 0 (by omega) (by omega)
          have hl' : lo < m 24 (f % 64) := hl
          have ht' : m 24 (f % 64) ≤ m 0 7 := (we 0 (by omega)).2.2.2.1.2
          rw [if_pos (by rw [b_xw (by omega)]; omega), if_pos (b_ib (by omega)), b_ix (by omega), Int.toNat_natCast, if_pos (by rw [b_xw (by omega), b_xw (by omega)]; omega)]
      rw [f_L_arrive_2, if_pos (by rw [b_xw (by omega), b_xw (by omega)]; omega), hz, b_bs, if_pos (show xw 0 = 0 by decide)]
    · rw [show (0 : Int) = ((0 : Nat) : Int) from rfl]
      refine arrivals_no M c (by omega) v4 c 0 n' (by omega) (by omega) (by omega) (fun i _ hi => ?_)
      obtain ⟨⟨w0, -⟩, -, -, ⟨w1, w2⟩, -⟩ := we i hi
      have hl := h10 i (by omega) hi
      rw [w0, s0, b_xw (by omega), b_xw (by omega)]
      omega
    · obtain ⟨w0, w1, w2, ⟨w3, w4⟩, w5⟩ := we i hi
      have hl := h10 i (by omega) hi
      exact ⟨w0, w1, w2, ⟨by omega, w4⟩, w5⟩
  | succ k ih =>
    intro x n n' f c m M h1 h2 h3 h4 h5 h6 h7 h8 h9 h10 h11 h12 h13 h14
    obtain ⟨n, rfl⟩ : ∃ z, n = z + 1 := ⟨n - 1, by omega⟩
    obtain ⟨n', rfl⟩ : ∃ z, n' = z + 1 := ⟨n' - 1, by omega⟩
    obtain ⟨c, rfl⟩ : ∃ z, c = z + 1 := ⟨c - 1, by omega⟩
    obtain ⟨⟨v1, v2, v3, v4⟩, we, ws, d1, d2⟩ := id h5
    have hc42 : c + 1 ≤ 42 := bUnder (dl := m 33 10) d1 d2 (fun i hi => (we i hi).2.1)
    have hP := h4.2.2.2.2.1
    obtain ⟨-, -, -, -, ⟨y15, y16, y17⟩, -⟩ := hP
    have s0 := h4.2.2.2.2.2.1
    have hT0 : m 24 (f % 64) = lo := h9 0 (by omega)
    obtain ⟨⟨w0, w1, w2, w3⟩, wS, wT, -, -⟩ := we 0 (by omega)
    have w0' : M 1 1730 = m 24 (f % 64) + m 33 10 := w0
    have w1' : M 1 1731 = (if m 27 (f % 64) = 1 then 1 else 0) := w1
    have wS' : m 25 (f % 64) = 0 ∨ m 25 (f % 64) = 1 := wS
    have wT' : m 27 (f % 64) = 0 ∨ m 27 (f % 64) = 1 ∨ m 27 (f % 64) = 2 ∨ m 27 (f % 64) = 4 ∨ m 27 (f % 64) = 6 := wT
    have z1 := (b_tr _ wT').1
    obtain ⟨q, m1, t1, t2, t3, t4, t5⟩ := W_take_sp m f c v2 v1 v3
    have e0 : xvw bT4 m 0 = m 23 := rfl
    have e1 : xvw bT4 m 1 = m 24 := rfl
    have hz : f_W_has (m 0 7 - m 33 10) (xvw bT4 m) = some 1 := by
      unfold f_W_has
      rw [e0, e1, v1, v3, b_iand63, if_pos (by rw [b_xw (by omega)]; omega), if_pos (b_ib (by omega)), b_ix (by omega), Int.toNat_natCast, if_neg (by rw [b_xw (by omega), b_xw (by omega)]; omega)]
    have tk : ∀ k, k ≠ 23 → m1 k = m k := t3
    have hcls : f_L_arrive_2 (n + 1) (x : Int) m = (if m 27 (f % 64) = 1 then (if m 25 (f % 64) = 1 then (f_L_ack (1 - m 25 (f % 64)) (m 26 (f % 64)) m1).bind (fun q6 => f_L_arrive_2 n ((x + 1 : Nat) : Int) q6) else (f_L_ack (1 - m 25 (f % 64)) (m 26 (f % 64)) (xvw xT_1 m1)).bind (fun q7 => f_L_arrive_2 n ((x + 1 : Nat) : Int) (xmg xT_1 38 m1 q7)))
        else (if m 25 (f % 64) = 0 then (f_L_frame (m 25 (f % 64)) (m 26 (f % 64)) (m 27 (f % 64)) m1).bind (fun q3 => f_L_arrive_2 n ((x + 1 : Nat) : Int) q3) else (f_L_frame (m 25 (f % 64)) (m 26 (f % 64)) (m 27 (f % 64)) (xvw xT_1 m1)).bind (fun q4 => f_L_arrive_2 n ((x + 1 : Nat) : Int) (xmg xT_1 38 m1 q4)))) := by
      rw [f_L_arrive_2, if_pos (by rw [b_xw (by omega), b_xw (by omega)]; omega), hz, b_bs, if_neg (show ¬ xw 1 = 0 by decide), t1, b_bs]
      dsimp only
      rw [← t2, b_ix (by omega), Int.toNat_natCast, tk 25 (by omega), tk 26 (by omega), tk 27 (by omega)]
      unfold f_L_arrive_110
      rw [show (x : Int) + 1 = ((x + 1 : Nat) : Int) by omega]
      have hib : xib (((f % 64 : Nat)) : Int) 64 := b_ib (by omega)
      by_cases ht1 : m 27 (f % 64) = 1
      · rw [if_pos hib, if_neg (fun hz => z1.mp hz ht1), if_pos hib, if_pos hib, if_pos ht1]
        rcases wS' with h0 | h0
        · rw [if_neg (show ¬ xw (1 - m 25 (f % 64)) = 0 by rw [h0]; decide), if_pos (show xw (1 - m 25 (f % 64)) = 1 by rw [h0]; decide), if_neg (show ¬ m 25 (f % 64) = 1 by omega)]
        · rw [if_pos (show xw (1 - m 25 (f % 64)) = 0 by rw [h0]; decide), if_pos h0]
      · rw [if_pos hib, if_pos (z1.mpr ht1), if_pos hib, if_pos hib, if_pos hib, if_neg ht1]
        rcases wS' with h0 | h0
        · rw [if_pos (show xw (m 25 (f % 64)) = 0 by rw [h0]; decide), if_pos h0]
        · rw [if_neg (show ¬ xw (m 25 (f % 64)) = 0 by rw [h0]; decide), if_pos (show xw (m 25 (f % 64)) = 1 by rw [h0]; decide), if_neg (show ¬ m 25 (f % 64) = 0 by omega)]
    have href : f_m_arrivals_2 (n' + 1) 0 M = ((if m 27 (f % 64) = 1 then f_m_arriveAck 0 M else f_m_arriveFrame 0 M).bind fun q => (f_m_land 0 q).bind fun q3 => f_m_arrivals_2 n' 0 q3) := by
      rw [f_m_arrivals_2, if_pos (b_ib (by omega)), v4, if_pos (by rw [b_xw (by omega), b_xw (by omega)]; omega), m_flyAt (i := 1730) _ (by omega), b_bs, if_pos (b_ib (by omega)), if_pos (b_ib (by omega)), b_ix (by omega), Int.toNat_natCast, w0', s0, if_pos (by rw [b_xw (by omega), b_xw (by omega)]; omega), m_flyAt (i := 1731) _ (by omega), b_bs, if_pos (b_ib (by omega)), b_ix (by omega), Int.toNat_natCast, w1']
      unfold f_m_arrivals_65
      by_cases ht1 : m 27 (f % 64) = 1
      · rw [if_pos (show xw (if m 27 (f % 64) = 1 then 1 else 0) = xw 1 by rw [if_pos ht1]), if_pos ht1]
      · rw [if_neg (show ¬ xw (if m 27 (f % 64) = 1 then 1 else 0) = xw 1 by rw [if_neg ht1]; decide), if_neg ht1]
    -- the end whose it is
    obtain ⟨m', M1, M', c', o1, o2, o3, o4, o5, o6, o7, o8, o9, o10⟩ : ∃ (m' M1 M' : xM) (c' : Nat), f_L_arrive_2 (n + 1) (x : Int) m = f_L_arrive_2 n ((x + 1 : Nat) : Int) m' ∧ (if m 27 (f % 64) = 1 then f_m_arriveAck 0 M else f_m_arriveFrame 0 M) = some M1 ∧ f_m_land 0 M1 = some M' ∧ bRL 0 m' (M' 1) ∧ bWire 0 m' (M' 1) lo time (f % 64 + 1) c' ∧ (c ≤ c' ∧ c' ≤ c + 1) ∧ bAcc 1 m m' ∧ (∀ i, i < c → bSq m' 24 (f % 64 + 1) i = bSq m 24 f (i + 1)) ∧ (∀ i, c ≤ i → i < c' → bSq m' 24 (f % 64 + 1) i = m 0 7) ∧ ∀ k, k ≠ 1 → M' k = M k := by
      by_cases hown : (m 27 (f % 64) ≠ 1 ∧ m 25 (f % 64) = ((0 : Nat) : Int)) ∨ (m 27 (f % 64) = 1 ∧ m 25 (f % 64) = 1 - ((0 : Nat) : Int))
      · obtain ⟨m', M1, M', c', p1, p2, p3, p4, p5, p6, p7, p8, p9⟩ := L_one_sp m m1 M 0 f c lo time (by omega) h4 h5 (by omega) t3 t4 t5 hown h11 (by omega) (by omega) (by omega)
        refine ⟨m', M1, M', c', ?_, p2, p3, p4, p5, p6, p7, p8.1, p8.2, p9⟩
        rw [hcls]
        rcases hown with ⟨q1, q2⟩ | ⟨q1, q2⟩
        · rw [if_neg q1] at p1 ⊢
          rw [if_pos (show m 25 (f % 64) = 0 from q2), q2, p1, b_bs]
        · rw [if_pos q1] at p1 ⊢
          have q3 : m 25 (f % 64) = 1 := q2
          rw [if_pos q3, q3, show (1 : Int) - 1 = ((0 : Nat) : Int) from rfl, p1, b_bs]
      · have hoth : (m 27 (f % 64) ≠ 1 ∧ m 25 (f % 64) = ((1 : Nat) : Int)) ∨ (m 27 (f % 64) = 1 ∧ m 25 (f % 64) = 1 - ((1 : Nat) : Int)) := by
          by_cases ht1 : m 27 (f % 64) = 1
          · exact Or.inr ⟨ht1, by rcases wS' with h0 | h0; exact h0; exact absurd (Or.inr ⟨ht1, h0⟩) hown⟩
          · exact Or.inl ⟨ht1, by rcases wS' with h0 | h0; exact absurd (Or.inl ⟨ht1, h0⟩) hown; exact h0⟩
        have tv := bTw.v m
        obtain ⟨m', M1, M', c', p1, p2, p3, p4, p5, p6, p7, p8, p9⟩ := L_one_sp (xvw xT_1 m) (xvw xT_1 m1) M 1 f c lo time (by omega) (tv.rl (by omega) h4) (tv.wire (by omega) h5) (by omega) (fun k hk => t3 _ (fun hz => hk (b_x23 hz))) t4 t5 hoth h12 (show m 1 6 ≤ 900000000 by omega) (show 0 ≤ m 0 7 ∧ lo ≤ m 0 7 by omega) (show m 24 (f % 64) + m 33 10 = m 0 7 by omega)
        have tg := bTw.g m1 m'
        refine ⟨xmg xT_1 38 m1 m', M1, M', c', ?_, p2, p3, tg.rl (by omega) p4, tg.wire (by omega) p5, p6, p7.tw tv.symm tg, p8.1, p8.2, p9⟩
        rw [hcls]
        have p1' : (if m 27 (f % 64) = 1 then f_L_ack ((1 : Nat) : Int) (m 26 (f % 64)) (xvw xT_1 m1) else f_L_frame ((1 : Nat) : Int) (m 26 (f % 64)) (m 27 (f % 64)) (xvw xT_1 m1)) = some m' := p1
        rcases hoth with ⟨q1, q2⟩ | ⟨q1, q2⟩
        · rw [if_neg q1] at p1' ⊢
          have q3 : m 25 (f % 64) = 1 := q2
          rw [if_neg (show ¬ m 25 (f % 64) = 0 by omega), q2, p1', b_bs]
        · rw [if_pos q1] at p1' ⊢
          have q3 : m 25 (f % 64) = 0 := q2
          rw [if_neg (show ¬ m 25 (f % 64) = 1 by omega), q3, show (1 : Int) - 0 = ((1 : Nat) : Int) from rfl, p1', b_bs]
    have g0 := o7.1
    have g33 := o7.2.2.2.2.2 33 (by omega) (by omega)
    have gs := o7.2.1
    have g6 := o7.2.2.2.1
    obtain ⟨m9, M9, f9, c9, r1, r2, r3, r4, r5, r6⟩ := ih (x + 1) n n' (f % 64 + 1) c' m' M' (by omega) (by omega) (by omega) o4 o5 (by rw [g0 7 (by omega) (by omega), h6]) (by rw [g33]; exact h7) (by omega) (fun i hi => by rw [o8 i (by omega)]; exact h9 (i + 1) (by omega)) (fun i q1 q2 => by
      by_cases hi : i < c
      · rw [o8 i hi]; exact h10 (i + 1) (by omega) (by omega)
      · rw [o9 i (by omega) q2]; omega) (by omega) (by omega) (by omega) (by omega)
    refine ⟨m9, M9, f9, c9, by rw [o1, r1], by rw [href, o2, b_bs, o3, b_bs, r2], r3, r4, ?_, fun k hk => by rw [r6 k hk, o10 k hk]⟩
    have := o7.trans r5
    rw [show (1 : Int) + (k : Int) = ((k + 1 : Nat) : Int) by omega] at this
    exact this

/-! ===== the relations, part by part ===== -/
def bFr (kf : Nat) (m : xM) (o : Nat) (N : Nat → Int) (F S p : Nat) : Prop := N (o + 26 + 13 * p) = ((F + p : Nat) : Int) ∧ N (o + 26 + 13 * p + 1) = m (kf + 2) ((F + p) % 7) ∧ (1 ≤ m (kf + 2) ((F + p) % 7) ∧ m (kf + 2) ((F + p) % 7) ≤ 8) ∧ N (o + 26 + 13 * p + 2) = m (kf + 3) ((F + p) % 7) ∧ N (o + 26 + 13 * p + 3) = (if p < S then 0 else 1) ∧ ∀ j : Nat, j < 8 → (j : Int) < m (kf + 2) ((F + p) % 7) → N (o + 26 + 13 * p + 4 + j) = m (kf + 1) ((F + p) % 7 * 8 + j)
/-- the frames of an end -/
def bRF (kf : Nat) (m : xM) (o : Nat) (N : Nat → Int) : Prop := ∃ F C S : Nat, m kf 3 = F ∧ m kf 4 = C ∧ m kf 5 = S ∧ S ≤ C ∧ C ≤ 7 ∧ F + C ≤ 1000000000 ∧ N (o + 1) = C ∧ N (o + 2) = ((F + C : Nat) : Int) ∧ ∀ p, p < C → bFr kf m o N F S p
def bRQ (k : Nat) (m : xM) (o : Nat) (N : Nat → Int) : Prop := ∃ q : Nat, q ≤ 200 ∧ m k 5 = q ∧ N o = q ∧ ∀ i, i < q → N (o + 117 + i) = m (k + 1) i
def bRR (k : Nat) (m : xM) (o : Nat) (N : Nat → Int) : Prop := ∃ r : Nat, r ≤ 1000000000 ∧ m k 6 = r ∧ N (o + 4) = r ∧ ∀ i, i < 400 → i < r → N (o + 317 + i) = m (k + 2) i
def bRS (k : Nat) (m : xM) (o : Nat) (N : Nat → Int) : Prop := N (o + 3) = m k 7 ∧ N (o + 5) = m k 8 ∧ N (o + 6) = m k 9 ∧ N (o + 9) = m k 10 ∧ (m k 9 = 0 ∨ m k 9 = 1) ∧ (m k 10 = 0 ∨ m k 10 = 1)
/-- an end -/
def bRE (k : Nat) (m : xM) (o : Nat) (N : Nat → Int) : Prop := bRF (k + 3) m o N ∧ bRD (k + 7) (k + 8) m (o + 7) (o + 10) N ∧ bRD (k + 9) (k + 10) m (o + 8) (o + 18) N ∧ bRQ k m o N ∧ bRR k m o N ∧ bRS k m o N
theorem bRD.cg {kc kb kc' kb' : Nat} {m m' : xM} {ci wi : Nat} {N N' : Nat → Int} (h : bRD kc kb m ci wi N) (h1 : m' kc' 1 = m kc 1) (h2 : m' kb' = m kb) (h3 : N' ci = N ci) (h4 : ∀ j, j < 8 → N' (wi + j) = N (wi + j)) : bRD kc' kb' m' ci wi N' := by
  obtain ⟨c, a1, a2, a3, a4⟩ := h
  exact ⟨c, a1, by rw [h1, a2], by rw [h3, a3], fun j hj => by rw [h4 j (by omega), h2, a4 j hj]⟩
theorem bFr.cg {kf : Nat} {m m' : xM} {o : Nat} {N N' : Nat → Int} {F S p : Nat} (h : bFr kf m o N F S p) (h2 : m' (kf + 1) = m (kf + 1)) (h3 : m' (kf + 2) = m (kf + 2)) (h4 : m' (kf + 3) = m (kf + 3)) (hp : p < 7) (hN : ∀ i, o + 26 ≤ i → i < o + 117 → N' i = N i) : bFr kf m' o N' F S p := by
  obtain ⟨a1, a2, a3, a4, a5, a6⟩ := h
  unfold bFr
  rw [h2, h3, h4]
  refine ⟨?_, ?_, a3, ?_, ?_, fun j hj hj2 => ?_⟩
  · rw [hN _ (by omega) (by omega)]; exact a1
  · rw [hN _ (by omega) (by omega)]; exact a2
  · rw [hN _ (by omega) (by omega)]; exact a4
  · rw [hN _ (by omega) (by omega)]; exact a5
  · rw [hN _ (by omega) (by omega)]; exact a6 j hj hj2
theorem bRF.cg {kf : Nat} {m m' : xM} {o : Nat} {N N' : Nat → Int} (h : bRF kf m o N) (h1 : m' kf = m kf) (h2 : m' (kf + 1) = m (kf + 1)) (h3 : m' (kf + 2) = m (kf + 2)) (h4 : m' (kf + 3) = m (kf + 3)) (hN1 : N' (o + 1) = N (o + 1)) (hN2 : N' (o + 2) = N (o + 2)) (hN : ∀ i, o + 26 ≤ i → i < o + 117 → N' i = N i) : bRF kf m' o N' := by
  obtain ⟨F, C, S, a1, a2, a3, a4, a5, a6, a7, a8, a9⟩ := h
  exact ⟨F, C, S, by rw [h1, a1], by rw [h1, a2], by rw [h1, a3], a4, a5, a6, by rw [hN1, a7], by rw [hN2, a8], fun p hp => (a9 p hp).cg h2 h3 h4 (by omega) hN⟩
theorem bRQ.cg {k : Nat} {m m' : xM} {o : Nat} {N N' : Nat → Int} (h : bRQ k m o N) (h1 : m' k 5 = m k 5) (h2 : m' (k + 1) = m (k + 1)) (hN1 : N' o = N o) (hN : ∀ i, o + 117 ≤ i → i < o + 317 → N' i = N i) : bRQ k m' o N' := by
  obtain ⟨q, a1, a2, a3, a4⟩ := h
  exact ⟨q, a1, by rw [h1, a2], by rw [hN1, a3], fun i hi => by rw [hN _ (by omega) (by omega), h2, a4 i hi]⟩
theorem bRR.cg {k : Nat} {m m' : xM} {o : Nat} {N N' : Nat → Int} (h : bRR k m o N) (h1 : m' k 6 = m k 6) (h2 : m' (k + 2) = m (k + 2)) (hN1 : N' (o + 4) = N (o + 4)) (hN : ∀ i, o + 317 ≤ i → i < o + 717 → N' i = N i) : bRR k m' o N' := by
  obtain ⟨q, a1, a2, a3, a4⟩ := h
  exact ⟨q, a1, by rw [h1, a2], by rw [hN1, a3], fun i hi hi2 => by rw [hN _ (by omega) (by omega), h2, a4 i hi hi2]⟩
theorem bRS.cg {k : Nat} {m m' : xM} {o : Nat} {N N' : Nat → Int} (h : bRS k m o N) (h1 : m' k 7 = m k 7) (h2 : m' k 8 = m k 8) (h3 : m' k 9 = m k 9) (h4 : m' k 10 = m k 10) (hN : ∀ i, (i = o + 3 ∨ i = o + 5 ∨ i = o + 6 ∨ i = o + 9) → N' i = N i) : bRS k m' o N' := by
  obtain ⟨a1, a2, a3, a4, a5, a6⟩ := h
  exact ⟨by rw [hN _ (by omega), h1, a1], by rw [hN _ (by omega), h2, a2], by rw [hN _ (by omega), h3, a3], by rw [hN _ (by omega), h4, a4], by rw [h3]; exact a5, by rw [h4]; exact a6⟩
/-- an end of which nothing was touched -/
theorem bRE.cg {k : Nat} {m m' : xM} {o : Nat} {N N' : Nat → Int} (h : bRE k m o N) (hm : ∀ i, k ≤ i → i ≤ k + 10 → m' i = m i) (hN : ∀ i, o ≤ i → i < o + 717 → N' i = N i) : bRE k m' o N' := by
  obtain ⟨a1, a2, a3, a4, a5, a6⟩ := h
  refine ⟨a1.cg (hm _ (by omega) (by omega)) (hm _ (by omega) (by omega)) (hm _ (by omega) (by omega)) (hm _ (by omega) (by omega)) (hN _ (by omega) (by omega)) (hN _ (by omega) (by omega)) (fun i h1 h2 => hN i (by omega) (by omega)), a2.cg (by rw [hm _ (by omega) (by omega)]) (hm _ (by omega) (by omega)) (hN _ (by omega) (by omega)) (fun j hj => hN _ (by omega) (by omega)), a3.cg (by rw [hm _ (by omega) (by omega)]) (hm _ (by omega) (by omega)) (hN _ (by omega) (by omega)) (fun j hj => hN _ (by omega) (by omega)), a4.cg (by rw [hm _ (by omega) (by omega)]) (hm _ (by omega) (by omega)) (hN _ (by omega) (by omega)) (fun i h1 h2 => hN i (by omega) (by omega)), a5.cg (by rw [hm _ (by omega) (by omega)]) (hm _ (by omega) (by omega)) (hN _ (by omega) (by omega)) (fun i h1 h2 => hN i (by omega) (by omega)), a6.cg (by rw [hm _ (by omega) (by omega)]) (by rw [hm _ (by omega) (by omega)]) (by rw [hm _ (by omega) (by omega)]) (by rw [hm _ (by omega) (by omega)]) (fun i hi => hN i (by omega) (by omega))⟩
/-! ===== the reference's small words ===== -/
theorem m_of {e f : Int} {i : Nat} (M : xM) (h : 56 + 717 * e + f = (i : Int)) (hi : i < 3530) : f_m_of e f M = some (M 1 i) := by
  unfold f_m_of f_m_endAt
  rw [b_bs, h, if_pos (b_ib (by omega)), b_ix (by omega), Int.toNat_natCast]
theorem m_endAt {e f : Int} {i : Nat} (M : xM) (h : 56 + 717 * e + f = (i : Int)) : f_m_endAt e f M = some (i : Int) := by
  unfold f_m_endAt
  rw [h]
theorem m_frameAt {e p f : Int} {i : Nat} (M : xM) (h : 56 + 717 * e + (26 + 13 * p + f) = (i : Int)) : f_m_frameAt e p f M = some (i : Int) := by
  unfold f_m_frameAt f_m_endAt
  rw [b_bs, h]
theorem m_ofFrame {e p f : Int} {i : Nat} (M : xM) (h : 56 + 717 * e + (26 + 13 * p + f) = (i : Int)) (hi : i < 3530) : f_m_ofFrame e p f M = some (M 1 i) := by
  unfold f_m_ofFrame
  rw [m_frameAt _ h, b_bs, if_pos (b_ib (by omega)), b_ix (by omega), Int.toNat_natCast]
theorem m_flyAt {p f : Int} {i : Nat} (M : xM) (h : 1730 + 15 * p + f = (i : Int)) : f_m_flyAt p f M = some (i : Int) := by
  unfold f_m_flyAt
  rw [h]
theorem m_wordsAt {e w : Int} {i : Nat} (M : xM) (h : (w = 0 ∧ 56 + 717 * e + 18 = (i : Int)) ∨ (w = 1 ∧ 56 + 717 * e + 10 = (i : Int))) : f_m_wordsAt e w M = some (i : Int) := by
  unfold f_m_wordsAt f_m_wordsAt_12
  rcases h with ⟨rfl, h⟩ | ⟨rfl, h⟩
  · rw [if_pos (by rw [b_xw (by omega)]), m_endAt _ h]; rfl
  · rw [if_neg (by rw [b_xw (by omega)]; omega), m_endAt _ h]; rfl
theorem m_countAt {e w : Int} {i : Nat} (M : xM) (h : (w = 0 ∧ 56 + 717 * e + 8 = (i : Int)) ∨ (w = 1 ∧ 56 + 717 * e + 7 = (i : Int))) : f_m_countAt e w M = some (i : Int) := by
  unfold f_m_countAt f_m_countAt_12
  rcases h with ⟨rfl, h⟩ | ⟨rfl, h⟩
  · rw [if_pos (by rw [b_xw (by omega)]), m_endAt _ h]; rfl
  · rw [if_neg (by rw [b_xw (by omega)]; omega), m_endAt _ h]; rfl
/-- both dictionaries take the same byte -/
theorem RD_put (v e w : Int) (m M : xM) (ci wi : Nat) (h : bRD 0 1 m ci wi (M 1)) (hw : wi + 8 ≤ 3530) (hci : ci < wi) (h1 : ∀ P : xM, f_m_wordsAt e w P = some (wi : Int)) (h2 : ∀ P : xM, f_m_countAt e w P = some (ci : Int)) :
    ∃ (cost : Int) (m' M' : xM), f_D_put v m = some (cost, m') ∧ f_m_use e w v M = some (cost, M') ∧ (cost = 1 ∨ cost = 3) ∧ bRD 0 1 m' ci wi (M' 1) ∧ (∀ j, j ≠ 1 → m' 0 j = m 0 j) ∧ (∀ k, k ≠ 0 → k ≠ 1 → m' k = m k) ∧ (∀ i, i ≠ ci → (i < wi ∨ wi + 8 ≤ i) → M' 1 i = M 1 i) ∧ ∀ k, k ≠ 1 → M' k = M k := by
  obtain ⟨c, a1, a2, a3, a4⟩ := h
  obtain ⟨m', p1, p2, p3, p4, p5⟩ := D_put_sp v m c a1 a2
  obtain ⟨M', q1, q2, q3, q4, q5⟩ := use_sp e w v M wi ci c a1 hw (by omega) (Or.inl hci) a3 (h1 _) (h2 _)
  have e1 : b_fp (fun j => M 1 (wi + j)) v c 0 = b_fp (m 1) v c 0 := b_fp_cg v c 0 (fun j _ hj => a4 j (by omega))
  rw [e1] at q1 q2 q3
  have h4 := b_fp_le (m 1) v c 0
  generalize b_fp (m 1) v c 0 = p at *
  refine ⟨_, m', M', p1, q1, by split <;> omega, ?_, p4, p5, q4, q5⟩
  by_cases hc : p = c ∧ c < 8
  · rw [if_pos hc] at p3 q3
    refine ⟨c + 1, by omega, by rw [p3]; omega, by rw [q3]; omega, fun j hj => ?_⟩
    rw [q2 j (by omega), p2 j]
    exact b_pw_cg (c := c) (fun j hj => a4 j hj) (by omega) j (by omega) (by omega)
  · rw [if_neg hc] at p3 q3
    refine ⟨c, a1, p3, q3, fun j hj => ?_⟩
    rw [q2 j (by omega), p2 j]
    exact b_pw_cg (c := c) (fun j hj => a4 j hj) (by omega) j (by omega) (by omega)
/-- a byte arrives -/
theorem RE_read (v : Int) (m M : xM) (e o : Nat) (he : e < 2) (ho : o = 56 + 717 * e) (hr : m 0 6 < 1000000000) (h : bRE 0 m o (M 1)) :
    ∃ m' M' : xM, f_E_read v m = some m' ∧ f_m_receive (e : Int) v M = some M' ∧ bRE 0 m' o (M' 1) ∧ (∀ k, 11 ≤ k → m' k = m k) ∧ (m' 0 6 = m 0 6 + 1 ∧ (∀ j, j ≠ 6 → m' 0 j = m 0 j) ∧ (∀ k, 1 ≤ k → k ≠ 2 → k ≠ 9 → k ≠ 10 → m' k = m k)) ∧ M' 1 55 = M 1 55 + 1 ∧ (∀ i, i ≠ 55 → (i < o ∨ o + 717 ≤ i) → M' 1 i = M 1 i) ∧ ∀ k, k ≠ 1 → M' k = M k := by
  obtain ⟨a1, a2, a3, a4, a5, a6⟩ := h
  obtain ⟨cost, d', D', p1, p2, p3, p4, p5, p6, p7, p8⟩ := RD_put v (e : Int) 0 (xvw [9, 10] m) M (o + 8) (o + 18) a3 (by omega) (by omega) (fun P => m_wordsAt P (Or.inl ⟨rfl, by omega⟩)) (fun P => m_countAt P (Or.inl ⟨rfl, by omega⟩))
  obtain ⟨r, b1, b2, b3, b4⟩ := a5
  have hr2 : r < 1000000000 := by omega
  have g0 : xmg [9, 10] 2 m d' 0 = m 0 := rfl
  have g2 : xmg [9, 10] 2 m d' 2 = m 2 := rfl
  have g9 : xmg [9, 10] 2 m d' 9 = d' 0 := rfl
  have g10 : xmg [9, 10] 2 m d' 10 = d' 1 := rfl
  have gk : ∀ k, k ≠ 9 → k ≠ 10 → xmg [9, 10] 2 m d' k = m k := fun k h1 h2 => by
    show (match xpos [9, 10] 0 k with | some q => d' q | none => m k) = m k
    unfold xpos
    rw [if_neg h1]
    unfold xpos
    rw [if_neg h2]
    rfl
  have e4 : D' 1 (o + 4) = r := by rw [p7 _ (by omega) (by omega)]; exact b3
  unfold f_E_read f_m_receive f_E_read_29
  rw [p1, p2, b_bs, b_bs]
  dsimp only
  rw [g0, b2, m_of (i := o + 4) D' (by omega) (by omega), b_bs, e4]
  -- the count of both
  have fin : ∀ D2 : xM, f_m_receive_40 (e : Int) v cost D2 = some (xu (xu D2 1 (o + 4) (D2 1 (o + 4) + 1)) 1 55 (xu D2 1 (o + 4) (D2 1 (o + 4) + 1) 1 55 + 1)) := by
    intro D2
    unfold f_m_receive_40 f_m_receive_60
    rw [m_endAt (i := o + 4) _ (by omega), b_bs, if_pos (b_ib (by omega)), if_pos (show 0 < xw cost by rw [b_xw (by omega)]; omega), if_pos (b_ib (by omega)), if_pos (b_ib (by omega)), if_pos (b_ib (by omega)), b_ix (by omega), Int.toNat_natCast]
  by_cases h4 : r < 400
  · rw [if_pos (by rw [b_xw (by omega), b_xw (by omega)]; omega), if_pos (b_ib (by omega)), if_pos (by rw [b_xw (by omega), b_xw (by omega)]; omega), m_endAt (i := o + 317 + r) _ (by omega), b_bs, if_pos (b_ib (by omega)), b_ix (by omega), b_ix (by omega), Int.toNat_natCast, Int.toNat_natCast, fin]
    refine ⟨_, _, rfl, rfl, ⟨?_, ?_, ?_, ?_, ?_, ?_⟩, fun k hk => ?_, ⟨?_, fun j hj => ?_, fun k h1 h2 h3 h4 => ?_⟩, ?_, fun i hi hi2 => ?_, fun k hk => ?_⟩
    · refine a1.cg ?_ ?_ ?_ ?_ ?_ ?_ (fun i h1 h2 => ?_)
      all_goals first
        | (rw [xu_K (by omega), xu_K (by omega), gk _ (by omega) (by omega)])
        | (rw [xu_d (by omega), xu_d (by omega), xu_d (by omega), p7 _ (by omega) (by omega)])
    · refine a2.cg ?_ ?_ ?_ (fun j hj => ?_)
      all_goals first
        | (rw [xu_K (by omega), xu_K (by omega), gk _ (by omega) (by omega)])
        | (rw [xu_d (by omega), xu_d (by omega), xu_d (by omega), p7 _ (by omega) (by omega)])
    · refine p4.cg ?_ ?_ ?_ (fun j hj => ?_)
      · rw [xu_k (by omega), xu_k (by omega)]; rfl
      · rw [xu_K (by omega), xu_K (by omega)]; rfl
      · rw [xu_d (by omega), xu_d (by omega), xu_d (by omega)]
      · rw [xu_d (by omega), xu_d (by omega), xu_d (by omega)]
    · refine a4.cg ?_ ?_ ?_ (fun i h1 h2 => ?_)
      · rw [xu_d (by omega), xu_k (by omega)]; rfl
      · rw [xu_K (by omega), xu_K (by omega)]; rfl
      · rw [xu_d (by omega), xu_d (by omega), xu_d (by omega), p7 _ (by omega) (by omega)]
      · rw [xu_d (by omega), xu_d (by omega), xu_d (by omega), p7 _ (by omega) (by omega)]
    · refine ⟨r + 1, by omega, ?_, ?_, fun i h1 h2 => ?_⟩
      · rw [xu_s rfl, xu_k (by omega), g0, b2]; omega
      · rw [xu_d (by omega), xu_s rfl, xu_d (by omega), e4]; omega
      · rw [xu_d (by omega), xu_d (by omega), xu_k (k := 0) (by omega)]
        by_cases hi : i = r
        · rw [xu_s (by omega), xu_s hi]
        · rw [xu_d (by omega), xu_d hi, g2, p7 _ (by omega) (by omega), b4 i h1 (by omega)]
    · refine a6.cg ?_ ?_ ?_ ?_ (fun i hi => ?_)
      · rw [xu_d (by omega), xu_k (by omega)]; rfl
      · rw [xu_d (by omega), xu_k (by omega)]; rfl
      · rw [xu_d (by omega), xu_k (by omega)]; rfl
      · rw [xu_d (by omega), xu_k (by omega)]; rfl
      · rw [xu_d (by omega), xu_d (by omega), xu_d (by omega), p7 _ (by omega) (by omega)]
    · rw [xu_K (by omega), xu_K (by omega), gk _ (by omega) (by omega)]
    · rw [xu_s rfl, xu_k (by omega), g0]; all_goals omega
    · rw [xu_d hj, xu_k (by omega), g0]
    · rw [xu_K (by omega), xu_K (by omega), gk _ (by omega) (by omega)]
    · rw [xu_s rfl, xu_d (by omega), xu_d (by omega), p7 _ (by omega) (by omega)]
    · rw [xu_d (by omega), xu_d (by omega), xu_d (by omega), p7 _ (by omega) (by omega)]
    · rw [xu_K hk, xu_K hk, xu_K hk, p8 k hk]
  · rw [if_neg (by rw [b_xw (by omega), b_xw (by omega)]; omega), if_neg (by rw [b_xw (by omega), b_xw (by omega)]; omega), fin]
    refine ⟨_, _, rfl, rfl, ⟨?_, ?_, ?_, ?_, ?_, ?_⟩, fun k hk => ?_, ⟨?_, fun j hj => ?_, fun k h1 h2 h3 h4 => ?_⟩, ?_, fun i hi hi2 => ?_, fun k hk => ?_⟩
    · refine a1.cg ?_ ?_ ?_ ?_ ?_ ?_ (fun i h1 h2 => ?_)
      all_goals first
        | (rw [xu_K (by omega), gk _ (by omega) (by omega)])
        | (rw [xu_d (by omega), xu_d (by omega), p7 _ (by omega) (by omega)])
    · refine a2.cg ?_ ?_ ?_ (fun j hj => ?_)
      all_goals first
        | (rw [xu_K (by omega), gk _ (by omega) (by omega)])
        | (rw [xu_d (by omega), xu_d (by omega), p7 _ (by omega) (by omega)])
    · refine p4.cg ?_ ?_ ?_ (fun j hj => ?_)
      · rw [xu_k (by omega)]; rfl
      · rw [xu_K (by omega)]; rfl
      · rw [xu_d (by omega), xu_d (by omega)]
      · rw [xu_d (by omega), xu_d (by omega)]
    · refine a4.cg ?_ ?_ ?_ (fun i h1 h2 => ?_)
      · rw [xu_d (by omega)]; rfl
      · rw [xu_K (by omega)]; rfl
      · rw [xu_d (by omega), xu_d (by omega), p7 _ (by omega) (by omega)]
      · rw [xu_d (by omega), xu_d (by omega), p7 _ (by omega) (by omega)]
    · refine ⟨r + 1, by omega, ?_, ?_, fun i h1 h2 => ?_⟩
      · rw [xu_s rfl]; omega
      · rw [xu_d (by omega), xu_s rfl, e4]; omega
      · rw [xu_d (by omega), xu_d (by omega), xu_k (k := 0) (by omega), g2, p7 _ (by omega) (by omega), b4 i h1 (by omega)]
    · refine a6.cg ?_ ?_ ?_ ?_ (fun i hi => ?_)
      · rw [xu_d (by omega)]; rfl
      · rw [xu_d (by omega)]; rfl
      · rw [xu_d (by omega)]; rfl
      · rw [xu_d (by omega)]; rfl
      · rw [xu_d (by omega), xu_d (by omega), p7 _ (by omega) (by omega)]
    · rw [xu_K (by omega), gk _ (by omega) (by omega)]
    · rw [xu_s rfl]; all_goals omega
    · rw [xu_d hj, g0]
    · rw [xu_K (by omega), gk _ (by omega) (by omega)]
    · rw [xu_s rfl, xu_d (by omega), p7 _ (by omega) (by omega)]
    · rw [xu_d (by omega), xu_d (by omega), p7 _ (by omega) (by omega)]
    · rw [xu_K hk, xu_K hk, p8 k hk]

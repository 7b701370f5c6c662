/-! ===== reckoning: reads, writes, conditions ===== -/
theorem b_xw {x : Int} (h : -2147483648 ≤ x ∧ x < 2147483648) : xw x = x := xw_id h.1 h.2
theorem b_bs {α β : Type} (a : α) (f : α → Option β) : Option.bind (some a) f = f a := rfl
theorem b_ib {i : Int} {n : Nat} (h : 0 ≤ i ∧ i < (n : Int) ∧ n ≤ 2147483648) : xib i n := by
  have e : xw i = i := b_xw ⟨by omega, by omega⟩
  exact ⟨by rw [e]; exact h.1, by rw [e]; exact h.2.1⟩
theorem b_ix {i : Int} (h : 0 ≤ i ∧ i < 2147483648) : xix i = i.toNat := by
  show (xw i).toNat = _
  rw [b_xw ⟨by omega, by omega⟩]
theorem xu_k {m : xM} {k j k' j' : Nat} {x : Int} (h : k' ≠ k) : xu m k j x k' j' = m k' j' := by unfold xu; rw [if_neg h]
theorem xu_s {m : xM} {k j j' : Nat} {x : Int} (h : j' = j) : xu m k j x k j' = x := by unfold xu xup; rw [if_pos rfl, if_pos h]
theorem xu_d {m : xM} {k j j' : Nat} {x : Int} (h : j' ≠ j) : xu m k j x k j' = m k j' := by unfold xu xup; rw [if_pos rfl, if_neg h]
theorem xu_K {m : xM} {k j k' : Nat} {x : Int} (h : k' ≠ k) : xu m k j x k' = m k' := by unfold xu; rw [if_neg h]
/-! ===== dictionaries ===== -/
/-- the first place from p on, of k, that holds v -/
def b_fp (g : Nat → Int) (v : Int) : Nat → Nat → Nat
  | 0, p => p
  | k + 1, p => if xw (g p) = xw v then p else b_fp g v k (p + 1)
/-- the words behind v being put in front: place p was v's, or the last -/
def b_pw (g : Nat → Int) (v : Int) (p : Nat) (j : Nat) : Int := if j = 0 then v else if j ≤ p ∧ j < 8 then g (j - 1) else g j
theorem b_fp_le (g : Nat → Int) (v : Int) : ∀ k p : Nat, p ≤ b_fp g v k p ∧ b_fp g v k p ≤ p + k
  | 0, p => ⟨Nat.le_refl _, Nat.le_refl _⟩
  | k + 1, p => by
    unfold b_fp
    have ih := b_fp_le g v k (p + 1)
    split <;> omega
theorem b_fp_cg {g h : Nat → Int} (v : Int) : ∀ k p : Nat, (∀ j, p ≤ j → j < p + k → g j = h j) → b_fp g v k p = b_fp h v k p
  | 0, _, _ => rfl
  | k + 1, p, H => by
    unfold b_fp
    rw [H p (Nat.le_refl _) (by omega), b_fp_cg v k (p + 1) (fun j h1 h2 => H j (by omega) (by omega))]
theorem D_put_2 (v : Int) (m : xM) (c : Nat) (hc : c ≤ 8) (hm : m 0 1 = c) : ∀ (k p n : Nat), p + k = c → k < n → f_D_put_2 v n (p : Int) m = f_D_put_32 v ((b_fp (m 1) v k p : Nat) : Int) m := by
  intro k
  induction k with
  | zero =>
    intro p n h1 h2
    obtain ⟨n, rfl⟩ : ∃ n', n = n' + 1 := ⟨n - 1, by omega⟩
    rw [f_D_put_2, if_neg (by rw [hm, b_xw (by omega), b_xw (by omega)]; omega)]
    rfl
  | succ k ih =>
    intro p n h1 h2
    obtain ⟨n, rfl⟩ : ∃ n', n = n' + 1 := ⟨n - 1, by omega⟩
    rw [f_D_put_2, if_pos (by rw [hm, b_xw (by omega), b_xw (by omega)]; omega), if_pos (by rw [b_xw (by omega), b_xw (by omega)]; omega), if_pos (b_ib (by omega)), b_ix (by omega), Int.toNat_natCast]
    unfold b_fp
    by_cases hv : xw (m 1 p) = xw v
    · rw [if_pos hv, if_pos hv]
    · rw [if_neg hv, if_neg hv]
      exact ih (p + 1) n (by omega) (by omega)
theorem D_put_77 (v : Int) (x3 : Int) : ∀ (q n : Nat) (m : xM), q < 8 → q < n → ∃ m' : xM, f_D_put_77 v n x3 (q : Int) m = f_D_put_104 v x3 m' ∧ (∀ j, m' 1 j = if 1 ≤ j ∧ j ≤ q then m 1 (j - 1) else m 1 j) ∧ ∀ k, k ≠ 1 → m' k = m k := by
  intro q
  induction q with
  | zero =>
    intro n m h1 h2
    obtain ⟨n, rfl⟩ : ∃ n', n = n' + 1 := ⟨n - 1, by omega⟩
    refine ⟨m, ?_, fun j => by rw [if_neg (by omega)], fun _ _ => rfl⟩
    rw [f_D_put_77, if_neg (by rw [b_xw (by omega)]; omega)]
  | succ q ih =>
    intro n m h1 h2
    obtain ⟨n, rfl⟩ : ∃ n', n = n' + 1 := ⟨n - 1, by omega⟩
    rw [f_D_put_77, if_pos (by rw [b_xw (by omega)]; omega), if_pos (b_ib (by omega)), if_pos (b_ib (by omega)), b_ix (by omega), b_ix (by omega), show ((q + 1 : Nat) : Int) + (-1) = (q : Int) by omega, show (((q + 1 : Nat) : Int) - 1).toNat = q by omega, Int.toNat_natCast]
    obtain ⟨m', e1, e2, e3⟩ := ih n (xu m 1 (q + 1) (m 1 q)) (by omega) (by omega)
    refine ⟨m', e1, fun j => ?_, fun k hk => by rw [e3 k hk, xu_K hk]⟩
    rw [e2 j]
    by_cases hj : 1 ≤ j ∧ j ≤ q
    · rw [if_pos hj, if_pos (by omega), xu_d (by omega)]
    · rw [if_neg hj]
      by_cases hj2 : j = q + 1
      · subst hj2
        rw [if_pos (by omega), xu_s rfl]
        rfl
      · rw [if_neg (by omega), xu_d hj2]
/-- a byte put in front: what it costs, the words, the count -/
theorem D_put_sp (v : Int) (m : xM) (c : Nat) (hc : c ≤ 8) (hm : m 0 1 = c) : ∃ m' : xM, f_D_put v m = some (if b_fp (m 1) v c 0 < c then 1 else 3, m') ∧ (∀ j, m' 1 j = b_pw (m 1) v (b_fp (m 1) v c 0) j) ∧ m' 0 1 = (if b_fp (m 1) v c 0 = c ∧ c < 8 then (c : Int) + 1 else c) ∧ (∀ j, j ≠ 1 → m' 0 j = m 0 j) ∧ ∀ k, k ≠ 0 → k ≠ 1 → m' k = m k := by
  have h1 := D_put_2 v m c hc hm c 0 fu (by omega) (by show c < 5000; omega)
  have h2 := b_fp_le (m 1) v c 0
  unfold f_D_put
  rw [show (0 : Int) = ((0 : Nat) : Int) from rfl, h1]
  generalize b_fp (m 1) v c 0 = p at h2 ⊢
  -- the shift, from any memory whose words are m's
  have key : ∀ (s0 : Int) (M : xM), M 1 = m 1 → ∃ m' : xM, f_D_put_69 v (p : Int) s0 M = some (if xw s0 = 0 then 3 else 1, m') ∧ (∀ j, m' 1 j = b_pw (m 1) v p j) ∧ ∀ k, k ≠ 1 → m' k = M k := by
    intro s0 M hM
    unfold f_D_put_69
    have hq : (if xw 7 < xw (p : Int) then (7 : Int) else (p : Int)) = ((if 7 < p then 7 else p : Nat) : Int) := by
      rw [b_xw (by omega), b_xw (by omega)]
      split <;> split <;> omega
    rw [hq]
    obtain ⟨m', e1, e2, e3⟩ := D_put_77 v s0 (if 7 < p then 7 else p) fu M (by split <;> omega) (by show _ < 5000; split <;> omega)
    rw [e1]
    unfold f_D_put_104
    rw [if_pos (b_ib (by omega))]
    refine ⟨xu m' 1 0 v, by split <;> rfl, fun j => ?_, fun k hk => by rw [xu_K hk, e3 k hk]⟩
    unfold b_pw
    by_cases hj : j = 0
    · rw [if_pos hj, xu_s hj]
    · rw [if_neg hj, xu_d hj, e2 j, hM]
      by_cases hj2 : j ≤ p ∧ j < 8
      · rw [if_pos hj2, if_pos (by split <;> omega)]
      · rw [if_neg hj2, if_neg (by split <;> omega)]
  unfold f_D_put_32
  by_cases hp : p < c
  · rw [if_pos (by rw [hm, b_xw (by omega), b_xw (by omega)]; omega)]
    unfold f_D_put_45
    rw [if_neg (by rw [b_xw (by omega)]; omega), if_pos hp, if_neg (by omega)]
    obtain ⟨m', e1, e2, e3⟩ := key 1 m rfl
    exact ⟨m', by rw [e1, if_neg (by rw [b_xw (by omega)]; omega)], e2, by rw [e3 0 (by omega), hm], fun j _ => by rw [e3 0 (by omega)], fun k _ hk => e3 k hk⟩
  · rw [if_neg (by rw [hm, b_xw (by omega), b_xw (by omega)]; omega)]
    unfold f_D_put_45
    rw [if_pos (by rw [b_xw (by omega)]), if_neg hp]
    by_cases h8 : c < 8
    · rw [if_pos (by rw [hm, b_xw (by omega), b_xw (by omega)]; omega), if_pos (by omega)]
      obtain ⟨m', e1, e2, e3⟩ := key 0 (xu m 0 1 (m 0 1 + 1)) (xu_K (by omega))
      exact ⟨m', by rw [e1, if_pos (by rw [b_xw (by omega)])], e2, by rw [e3 0 (by omega), xu_s rfl, hm], fun j hj => by rw [e3 0 (by omega), xu_d hj], fun k h0 hk => by rw [e3 k hk, xu_K h0]⟩
    · rw [if_neg (by rw [hm, b_xw (by omega), b_xw (by omega)]; omega), if_neg (by omega)]
      obtain ⟨m', e1, e2, e3⟩ := key 0 m rfl
      exact ⟨m', by rw [e1, if_pos (by rw [b_xw (by omega)])], e2, by rw [e3 0 (by omega), hm], fun j _ => by rw [e3 0 (by omega)], fun k _ hk => e3 k hk⟩
theorem use_17 (e w z : Int) (M : xM) (wi ci c : Nat) (hc : c ≤ 8) (hw : wi + 8 ≤ 3530) (hci : ci < 3530) (hm : M 1 ci = c) : ∀ (k p n : Nat), p + k = c → k < n → f_m_use_17 e w z n (wi : Int) (ci : Int) (p : Int) M = f_m_use_49 e w z (wi : Int) (ci : Int) ((b_fp (fun j => M 1 (wi + j)) z k p : Nat) : Int) M := by
  intro k
  induction k with
  | zero =>
    intro p n h1 h2
    obtain ⟨n, rfl⟩ : ∃ n', n = n' + 1 := ⟨n - 1, by omega⟩
    rw [f_m_use_17, if_pos (b_ib (by omega)), b_ix (by omega), Int.toNat_natCast, if_neg (by rw [hm, b_xw (by omega), b_xw (by omega)]; omega)]
    rfl
  | succ k ih =>
    intro p n h1 h2
    obtain ⟨n, rfl⟩ : ∃ n', n = n' + 1 := ⟨n - 1, by omega⟩
    rw [f_m_use_17, if_pos (b_ib (by omega)), b_ix (by omega), Int.toNat_natCast, if_pos (by rw [hm, b_xw (by omega), b_xw (by omega)]; omega), if_pos (b_ib (by omega)), b_ix (by omega), show ((wi : Int) + (p : Int)).toNat = wi + p by omega]
    unfold b_fp
    by_cases hv : xw (M 1 (wi + p)) = xw z
    · rw [if_pos hv, if_pos hv]
    · rw [if_neg hv, if_neg hv]
      exact ih (p + 1) n (by omega) (by omega)
theorem use_107 (e w z x7 : Int) (wi : Nat) (hw : wi + 8 ≤ 3530) : ∀ (q n : Nat) (M : xM), q < 8 → q < n → ∃ M' : xM, f_m_use_107 e w z n (wi : Int) x7 (q : Int) M = f_m_use_140 e w z (wi : Int) x7 M' ∧ (∀ i, M' 1 i = if wi + 1 ≤ i ∧ i ≤ wi + q then M 1 (i - 1) else M 1 i) ∧ ∀ k, k ≠ 1 → M' k = M k := by
  intro q
  induction q with
  | zero =>
    intro n M h1 h2
    obtain ⟨n, rfl⟩ : ∃ n', n = n' + 1 := ⟨n - 1, by omega⟩
    refine ⟨M, ?_, fun j => by rw [if_neg (by omega)], fun _ _ => rfl⟩
    rw [f_m_use_107, if_neg (by rw [b_xw (by omega)]; omega)]
  | succ q ih =>
    intro n M h1 h2
    obtain ⟨n, rfl⟩ : ∃ n', n = n' + 1 := ⟨n - 1, by omega⟩
    rw [f_m_use_107, if_pos (by rw [b_xw (by omega)]; omega), if_pos (b_ib (by omega)), if_pos (b_ib (by omega)), b_ix (by omega), b_ix (by omega), show ((q + 1 : Nat) : Int) + (-1) = (q : Int) by omega, show ((wi : Int) + ((q + 1 : Nat) : Int) - 1).toNat = wi + q by omega, show ((wi : Int) + ((q + 1 : Nat) : Int)).toNat = wi + (q + 1) by omega]
    obtain ⟨m', e1, e2, e3⟩ := ih n (xu M 1 (wi + (q + 1)) (M 1 (wi + q))) (by omega) (by omega)
    refine ⟨m', e1, fun j => ?_, fun k hk => by rw [e3 k hk, xu_K hk]⟩
    rw [e2 j]
    by_cases hj : wi + 1 ≤ j ∧ j ≤ wi + q
    · rw [if_pos hj, if_pos (by omega), xu_d (by omega)]
    · rw [if_neg hj]
      by_cases hj2 : j = wi + (q + 1)
      · subst hj2
        rw [if_pos (by omega), xu_s rfl]
        rfl
      · rw [if_neg (by omega), xu_d hj2]
/-- the reference's dictionary: what it costs, the words, the count -/
theorem use_sp (e w z : Int) (M : xM) (wi ci c : Nat) (hc : c ≤ 8) (hw : wi + 8 ≤ 3530) (hci : ci < 3530) (hd : ci < wi ∨ wi + 8 ≤ ci) (hm : M 1 ci = c) (h1 : f_m_wordsAt e w (xvw [] M) = some (wi : Int)) (h2 : f_m_countAt e w (xvw [] M) = some (ci : Int)) :
    ∃ M' : xM, f_m_use e w z M = some (if b_fp (fun j => M 1 (wi + j)) z c 0 < c then 1 else 3, M') ∧ (∀ j, j < 8 → M' 1 (wi + j) = b_pw (fun j => M 1 (wi + j)) z (b_fp (fun j => M 1 (wi + j)) z c 0) j) ∧ M' 1 ci = (if b_fp (fun j => M 1 (wi + j)) z c 0 = c ∧ c < 8 then (c : Int) + 1 else c) ∧ (∀ i, i ≠ ci → (i < wi ∨ wi + 8 ≤ i) → M' 1 i = M 1 i) ∧ ∀ k, k ≠ 1 → M' k = M k := by
  have h3 := use_17 e w z M wi ci c hc hw hci hm c 0 fu (by omega) (by show c < 5000; omega)
  have h4 := b_fp_le (fun j => M 1 (wi + j)) z c 0
  unfold f_m_use
  rw [h1, h2, b_bs, b_bs, show (0 : Int) = ((0 : Nat) : Int) from rfl, h3]
  generalize b_fp (fun j => M 1 (wi + j)) z c 0 = p at h4 ⊢
  have key : ∀ (s0 : Int) (P : xM), (∀ i, i ≠ ci → P 1 i = M 1 i) → ∃ M' : xM, f_m_use_98 e w z (wi : Int) (p : Int) s0 P = some (s0, M') ∧ (∀ j, j < 8 → M' 1 (wi + j) = b_pw (fun j => M 1 (wi + j)) z p j) ∧ M' 1 ci = P 1 ci ∧ (∀ i, i ≠ ci → (i < wi ∨ wi + 8 ≤ i) → M' 1 i = M 1 i) ∧ ∀ k, k ≠ 1 → M' k = P k := by
    intro s0 P hP
    unfold f_m_use_98
    have hq : (if xw 7 < xw (p : Int) then (7 : Int) else (p : Int)) = ((if 7 < p then 7 else p : Nat) : Int) := by
      rw [b_xw (by omega), b_xw (by omega)]
      split <;> split <;> omega
    rw [hq]
    obtain ⟨m', e1, e2, e3⟩ := use_107 e w z s0 wi hw (if 7 < p then 7 else p) fu P (by split <;> omega) (by show _ < 5000; split <;> omega)
    rw [e1]
    unfold f_m_use_140
    rw [if_pos (b_ib (by omega)), b_ix (by omega), Int.toNat_natCast]
    refine ⟨xu m' 1 wi z, rfl, fun j hj => ?_, ?_, fun i hi hi2 => ?_, fun k hk => by rw [xu_K hk, e3 k hk]⟩
    · unfold b_pw
      by_cases hj0 : j = 0
      · rw [if_pos hj0, xu_s (by omega)]
      · rw [if_neg hj0, xu_d (by omega), e2]
        by_cases hj2 : j ≤ p ∧ j < 8
        · rw [if_pos hj2, if_pos (by split <;> omega), hP _ (by omega), show wi + j - 1 = wi + (j - 1) by omega]
        · rw [if_neg hj2, if_neg (by split <;> omega), hP _ (by omega)]
    · rw [xu_d (by omega), e2, if_neg (by split <;> omega)]
    · rw [xu_d (by omega), e2, if_neg (by split <;> omega), hP i hi]
  unfold f_m_use_49
  rw [if_pos (b_ib (by omega)), b_ix (by omega), Int.toNat_natCast, hm, b_xw (x := (p : Int)) (by omega), b_xw (x := (c : Int)) (by omega)]
  by_cases hp : p < c
  · rw [if_pos (by omega), if_pos hp]
    unfold f_m_use_66
    rw [if_pos (b_ib (by omega)), b_ix (by omega), Int.toNat_natCast, hm, b_xw (x := (p : Int)) (by omega), b_xw (x := (c : Int)) (by omega), if_neg (by omega), if_neg (by omega)]
    obtain ⟨m', e1, e2, e3, e4, e5⟩ := key 1 M (fun _ _ => rfl)
    exact ⟨m', e1, e2, by rw [e3, hm], e4, e5⟩
  · rw [if_neg (by omega), if_neg hp]
    unfold f_m_use_66
    rw [if_pos (b_ib (by omega)), b_ix (by omega), Int.toNat_natCast, hm, b_xw (x := (p : Int)) (by omega), b_xw (x := (c : Int)) (by omega), if_pos (by omega), b_xw (x := 8) (by omega)]
    by_cases h8 : c < 8
    · rw [if_pos (show ((p : Int) < 8) by omega), if_pos (show xib (ci : Int) 3530 from b_ib (by omega)), if_pos (show xib (ci : Int) 3530 from b_ib (by omega)), if_pos (show p = c ∧ c < 8 by omega)]
      obtain ⟨m', e1, e2, e3, e4, e5⟩ := key 3 (xu M 1 ci ((c : Int) + 1)) (fun i hi => xu_d hi)
      exact ⟨m', e1, e2, by rw [e3, xu_s rfl], e4, fun k hk => by rw [e5 k hk, xu_K hk]⟩
    · rw [if_neg (show ¬ ((p : Int) < 8) by omega), if_neg (show ¬ (p = c ∧ c < 8) by omega)]
      obtain ⟨m', e1, e2, e3, e4, e5⟩ := key 3 M (fun _ _ => rfl)
      exact ⟨m', e1, e2, by rw [e3, hm], e4, e5⟩
/-! ===== what the class's cells and the reference's numbers have to do with each other ===== -/
def bRD (kc kb : Nat) (m : xM) (ci wi : Nat) (N : Nat → Int) : Prop := ∃ c : Nat, c ≤ 8 ∧ m kc 1 = c ∧ N ci = c ∧ ∀ j, j < c → N (wi + j) = m kb j
theorem b_pw_cg {g h : Nat → Int} {v : Int} {p c : Nat} (H : ∀ j, j < c → g j = h j) (hp : p ≤ c) (j : Nat) (hj : j < c ∨ (j ≤ c ∧ p = c)) (h8 : j < 8) : b_pw g v p j = b_pw h v p j := by
  unfold b_pw
  by_cases h0 : j = 0
  · rw [if_pos h0, if_pos h0]
  · rw [if_neg h0, if_neg h0]
    by_cases h1 : j ≤ p ∧ j < 8
    · rw [if_pos h1, if_pos h1, H _ (by omega)]
    · rw [if_neg h1, if_neg h1]
      by_cases h2 : j < c
      · exact H _ h2
      · exact absurd h1 (by omega)

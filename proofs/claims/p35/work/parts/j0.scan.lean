/-! ===== the reference reads a text: tokens ===== -/
/-- at r of the text T -/
def rP (T : List Nat) (M : xM) (pre r : List Nat) : Prop := T = pre ++ r ∧ M 0 15 = (pre.length : Int) ∧ (M 0 18 = 0 ∧ M 0 14 = (T.length : Int) ∧ T.length ≤ 600 ∧ ∀ i, i < T.length → M 8 i = ((T.getD i 0 : Nat) : Int) ∧ T.getD i 0 < 256)
/-- the token b of the kind K stands in front of r -/
def rC (T : List Nat) (M : xM) (K : Int) (b r : List Nat) : Prop := ∃ pre : List Nat, T = pre ++ (b ++ r) ∧ M 0 16 = (pre.length : Int) ∧ M 0 15 = ((pre.length + b.length : Nat) : Int) ∧ M 0 17 = K ∧ (M 0 18 = 0 ∧ M 0 14 = (T.length : Int) ∧ T.length ≤ 600 ∧ ∀ i, i < T.length → M 8 i = ((T.getD i 0 : Nat) : Int) ∧ T.getD i 0 < 256)
/-- the next token in r is b, of the kind K; r' is left -/
def tk (r : List Nat) (K : Int) (b r' : List Nat) : Prop := ∃ sp : List Nat, (sp = [] ∨ sp = [32]) ∧ r = sp ++ (b ++ r') ∧ ((K = 0 ∧ b = [] ∧ r' = []) ∨ (K = 3 ∧ ∃ c : Nat, b = [c] ∧ bKd (c : Int) = 3 ∧ c ≠ 32 ∧ c ≠ 10) ∨ ((K = 1 ∨ K = 2) ∧ b ≠ [] ∧ (∀ x, x ∈ b → bKd ((x : Nat) : Int) = K) ∧ ∀ x : Nat, r'.head? = some x → bKd (x : Int) ≠ K))
theorem getD_appN (p q : List Nat) (j : Nat) : (p ++ q).getD j 0 = if j < p.length then p.getD j 0 else q.getD (j - p.length) 0 := by
  by_cases c : j < p.length
  · rw [if_pos c, List.getD_eq_getElem?_getD, List.getElem?_append_left c, List.getD_eq_getElem?_getD]
  · rw [if_neg c, List.getD_eq_getElem?_getD, List.getElem?_append_right (by omega), List.getD_eq_getElem?_getD]
theorem bEnd_run (B : Nat → Int) (K : Int) : ∀ (j q n : Nat), (∀ i, i < j → bKd (B (q + i)) = K) → j ≤ n → (n = j ∨ bKd (B (q + j)) ≠ K) → bEnd B K n q = q + j
  | 0, q, 0, _, _, _ => rfl
  | 0, q, n + 1, _, _, h => by
    rcases h with h | h
    · omega
    · rw [Nat.add_zero] at h
      rw [bEnd, if_neg h]; rfl
  | j + 1, q, 0, _, h, _ => by omega
  | j + 1, q, n + 1, h1, h2, h3 => by
    have e := h1 0 (by omega)
    rw [Nat.add_zero] at e
    have ih := bEnd_run B K j (q + 1) n (fun i hi => by
      have := h1 (i + 1) (by omega)
      rw [show q + 1 + i = q + (i + 1) by omega]
      exact this) (by omega) (by
      rcases h3 with h | h
      · exact Or.inl (by omega)
      · exact Or.inr (by rw [show q + 1 + j = q + (j + 1) by omega]; exact h))
    rw [bEnd, if_pos e, ih]
    omega
theorem bKd_32 : bKd 32 = 3 ∧ bKd 10 = 3 := by decide
section
variable {T : List Nat} {M : xM}
theorem rC.P {K : Int} {b r : List Nat} (h : rC T M K b r) : ∃ pre, rP T M pre r := by
  obtain ⟨pre, h1, h2, h3, h4, h5⟩ := h
  exact ⟨pre ++ b, by rw [List.append_assoc]; exact h1, by rw [h3, List.length_append], h5⟩
theorem r_scan {pre r : List Nat} (h : rP T M pre r) {K : Int} {b r' : List Nat} (ht : tk r K b r') : ∃ M' : xM, f_m_scan M = some M' ∧ rC T M' K b r' ∧ (∀ j, j ≠ 15 → j ≠ 16 → j ≠ 17 → M' 0 j = M 0 j) ∧ ∀ k, k ≠ 0 → M' k = M k := by
  obtain ⟨h1, h2, h3, h4, h5, h6⟩ := h
  obtain ⟨sp, t1, t2, t3⟩ := ht
  obtain ⟨B, hB⟩ : ∃ B : Nat → Int, B = fun i => ((T.getD i 0 : Nat) : Int) := ⟨_, rfl⟩
  have hL : T.length = pre.length + (sp.length + (b.length + r'.length)) := by rw [h1, t2, List.length_append, List.length_append, List.length_append]
  obtain ⟨M', s, e, m1, m2, m3, m4, m5, m6, m7, m8⟩ := m_scan_sp B T.length pre.length h5 (by omega) M h4 (fun i hi => by
    obtain ⟨x1, x2⟩ := h6 i hi
    rw [hB]
    exact ⟨x1, by dsimp only; omega, by dsimp only; omega⟩) h2
  have bat : ∀ i, i < b.length → B (pre.length + sp.length + i) = ((b.getD i 0 : Nat) : Int) := fun i hi => by
    rw [hB]
    dsimp only
    rw [h1, t2, getD_appN, if_neg (by omega), getD_appN, if_neg (by omega), getD_appN, if_pos (by omega)]
    congr 2
    omega
  have rat : B (pre.length + sp.length + b.length) = ((r'.getD 0 0 : Nat) : Int) := by
    rw [hB]
    dsimp only
    rw [h1, t2, getD_appN, if_neg (by omega), getD_appN, if_neg (by omega), getD_appN, if_neg (by omega)]
    congr 2
    omega
  have spat : sp = [32] → B pre.length = 32 := fun q => by
    rw [hB]
    dsimp only
    rw [h1, t2, q, getD_appN, if_neg (by omega), Nat.sub_self]
    rfl
  -- the first byte of the token is no space
  have nb : b ≠ [] → ¬ (B (pre.length + sp.length) = 32 ∨ B (pre.length + sp.length) = 10) := fun hb => by
    have hbl : 0 < b.length := List.length_pos_iff.mpr hb
    have e0 := bat 0 hbl
    rw [Nat.add_zero] at e0
    rw [e0]
    rcases t3 with ⟨-, q, -⟩ | ⟨-, c, q1, q2, q3, q4⟩ | ⟨q1, q2, q3, q4⟩
    · exact absurd q hb
    · rw [q1]
      show ¬ (((c : Nat) : Int) = 32 ∨ ((c : Nat) : Int) = 10)
      omega
    · have := q3 (b.getD 0 0) (by
        rw [List.getD_eq_getElem?_getD, List.getElem?_eq_getElem hbl]
        exact List.getElem_mem hbl)
      intro w
      obtain ⟨k1, k2⟩ := bKd_32
      rcases w with w | w
      · rw [w, k1] at this; omega
      · rw [w, k2] at this; omega
  have hs : s = pre.length + sp.length := by
    rw [m2]
    have tail : ∀ p n, p = pre.length + sp.length → n = b.length + r'.length → bSkip B n p = p := fun p n hp hn => by
      cases n with
      | zero => rfl
      | succ n =>
        have hb : b ≠ [] := fun q => by
          rcases t3 with ⟨-, -, q2⟩ | ⟨-, c, q1, -⟩ | ⟨-, q2, -⟩
          · rw [q, q2] at hn; exact absurd hn (by simp)
          · rw [q] at q1; exact absurd q1 (by simp)
          · exact q2 q
        have := nb hb
        rw [bSkip, hp, if_neg this]
    rcases t1 with q | q
    · have l0 : sp.length = 0 := by rw [q]; rfl
      rw [tail pre.length _ (by omega) (by omega)]
      omega
    · have l1 : sp.length = 1 := by rw [q]; rfl
      have e1 : T.length - pre.length = (b.length + r'.length) + 1 := by omega
      rw [e1, bSkip, if_pos (Or.inl (spat q)), tail (pre.length + 1) _ (by omega) rfl]
      omega
  have he : bK B T.length s = K ∧ e = s + b.length := by
    rw [m3]
    unfold bE
    rcases t3 with ⟨q1, q2, q3⟩ | ⟨q1, c, q2, q3, q4⟩ | ⟨q1, q2, q3, q4⟩
    · have z : s = T.length := by rw [hs, hL, q2, q3]; rfl
      have k : bK B T.length s = 0 := by unfold bK; rw [if_neg (by omega)]
      rw [k, if_neg (by decide), z, Nat.sub_self, q2]
      exact ⟨q1.symm, rfl⟩
    · have lb : b.length = 1 := by rw [q2]; rfl
      have k : bK B T.length s = 3 := by
        unfold bK
        rw [if_pos (by omega), hs]
        have := bat 0 (by omega)
        rw [Nat.add_zero] at this
        rw [this, q2]
        exact q3
      rw [k, if_pos rfl, lb]
      exact ⟨q1.symm, rfl⟩
    · have lb : 0 < b.length := List.length_pos_iff.mpr q2
      have kb : ∀ i, i < b.length → bKd (B (s + i)) = K := fun i hi => by
        rw [hs, bat i hi]
        exact q3 _ (by
          rw [List.getD_eq_getElem?_getD, List.getElem?_eq_getElem hi]
          exact List.getElem_mem hi)
      have k : bK B T.length s = K := by
        unfold bK
        rw [if_pos (by omega)]
        exact kb 0 lb
      rw [k, if_neg (by omega)]
      refine ⟨rfl, bEnd_run B K b.length s _ kb (by omega) ?_⟩
      cases hr : r' with
      | nil =>
        have : r'.length = 0 := by rw [hr]; rfl
        exact Or.inl (by omega)
      | cons x y =>
        refine Or.inr ?_
        rw [hs, rat, hr]
        exact q4 x (by rw [hr]; rfl)
  refine ⟨M', m1, ⟨pre ++ sp, by rw [List.append_assoc, ← t2]; exact h1, by rw [m4, hs, List.length_append], by rw [m6, he.2, hs, List.length_append], by rw [m5, he.1], by rw [m7 18 (by omega) (by omega) (by omega)]; exact h3, by rw [m7 14 (by omega) (by omega) (by omega)]; exact h4, h5, fun i hi => by rw [m8 8 (by omega)]; exact h6 i hi⟩, m7, m8⟩
theorem r_check {v z : Int} (h : xw v ≠ 0) : f_m_check v z M = some M := by
  unfold f_m_check
  rw [if_neg h]
theorem r_advance {K K' : Int} {b r b' r' : List Nat} (h : rC T M K b r) (ht : tk r K' b' r') : ∃ M' : xM, f_m_advance M = some M' ∧ rC T M' K' b' r' ∧ (∀ j, j ≠ 15 → j ≠ 16 → j ≠ 17 → M' 0 j = M 0 j) ∧ ∀ k, k ≠ 0 → M' k = M k := by
  obtain ⟨pre, hp⟩ := h.P
  obtain ⟨M', m1, m2⟩ := r_scan hp ht
  obtain ⟨-, -, h18, -⟩ := hp
  refine ⟨M', ?_, m2⟩
  unfold f_m_advance
  rw [h18, if_pos (by decide), m1, Option.bind_some]
/-- the bytes of the token -/
theorem rC.byte {K : Int} {b r : List Nat} (h : rC T M K b r) {i : Nat} (hi : i < b.length) : ∃ p : Nat, M 0 16 = (p : Int) ∧ p + b.length ≤ 600 ∧ M 0 15 = ((p + b.length : Nat) : Int) ∧ M 8 (p + i) = ((b.getD i 0 : Nat) : Int) ∧ b.getD i 0 < 256 := by
  obtain ⟨pre, h1, h2, h3, h4, h5, h6, h7, h8⟩ := h
  have hl : T.length = pre.length + (b.length + r.length) := by rw [h1, List.length_append, List.length_append]
  have e : T.getD (pre.length + i) 0 = b.getD i 0 := by
    rw [h1, getD_appN, if_neg (by omega), getD_appN, if_pos (by omega)]
    congr 1
    omega
  obtain ⟨x1, x2⟩ := h8 (pre.length + i) (by omega)
  rw [e] at x1 x2
  exact ⟨pre.length, h2, by omega, h3, x1, x2⟩
theorem r_isWord_39 {K : Int} {b r : List Nat} (h : rC T M K b r) {i : Nat} (hi : i < 28) (hbl : b.length = (wb i).length) : ∀ (j k n : Nat), k + j = b.length → j < n → (∀ q, q < k → b.getD q 0 = (wb i).getD q 0) → f_m_isWord_39 i M n 1 (k : Int) = some (if b = wb i then 1 else 0) := by
  intro j
  have hwl := wb_len i
  have hs := wb_short i hi
  induction j with
  | zero =>
    intro k n h1 h2 h3
    obtain ⟨n, rfl⟩ : ∃ z, n = z + 1 := ⟨n - 1, by omega⟩
    have e : b = wb i := by
      refine List.ext_getElem? fun q => ?_
      by_cases c : q < b.length
      · have := h3 q (by omega)
        rw [List.getD_eq_getElem?_getD, List.getD_eq_getElem?_getD, List.getElem?_eq_getElem c, List.getElem?_eq_getElem (by omega)] at this
        rw [List.getElem?_eq_getElem c, List.getElem?_eq_getElem (by omega)]
        exact congrArg some this
      · rw [List.getElem?_eq_none (by omega), List.getElem?_eq_none (by omega)]
    rw [f_m_isWord_39, if_neg (by decide), if_neg (by unfold xsl; rw [xw_nat (by omega), xw_nat (by omega)]; omega), if_pos (show xbz 1 from Or.inr rfl), if_pos e]
  | succ j ih =>
    intro k n h1 h2 h3
    obtain ⟨n, rfl⟩ : ∃ z, n = z + 1 := ⟨n - 1, by omega⟩
    obtain ⟨p, p1, p2, p3, p4, p5⟩ := h.byte (i := k) (by omega)
    obtain ⟨w1, w2⟩ := wb_all i hi k (by omega)
    rw [f_m_isWord_39, if_neg (by decide), if_pos (by unfold xsl; rw [xw_nat (by omega), xw_nat (by omega)]; omega), if_pos (by unfold xib; rw [xw_nat (by omega)]; omega), p1, show (p : Int) + (k : Int) = ((p + k : Nat) : Int) by omega, if_pos (by unfold xib; rw [xw_nat (by omega)]; omega), xix_nat (by omega), xix_nat (by omega), w1, p4, xw_nat (by omega), xw_nat (by omega)]
    unfold f_m_isWord_75
    rw [show (k : Int) + 1 = ((k + 1 : Nat) : Int) by omega]
    by_cases c : (wb i).getD k 0 = b.getD k 0
    · rw [if_pos (by omega)]
      exact ih (k + 1) n (by omega) (by omega) fun q hq => by
        by_cases d : q = k
        · rw [d, c]
        · exact h3 q (by omega)
    · rw [if_neg (by omega), if_neg (fun e => c (by rw [e]))]
      obtain ⟨n, rfl⟩ : ∃ z, n = z + 1 := ⟨n - 1, by omega⟩
      rw [f_m_isWord_39, if_pos (by decide), if_pos (show xbz 0 from Or.inl rfl)]
/-- is the token a word -/
theorem r_isWord {b r : List Nat} (h : rC T M 1 b r) {i : Nat} (hi : i < 28) : f_m_isWord i M = some (if b = wb i then 1 else 0) := by
  have hwl := wb_len i
  have hs := wb_short i hi
  have hh := h
  obtain ⟨pre, h1, h2, h3, h4, h5, h6, h7, h8⟩ := hh
  have hl : T.length = pre.length + (b.length + r.length) := by rw [h1, List.length_append, List.length_append]
  unfold f_m_isWord
  rw [h5, if_pos (by decide), h4, if_pos rfl, h2, h3, show ((pre.length + b.length : Nat) : Int) - (pre.length : Int) = (b.length : Int) by omega]
  unfold xsl
  rw [xw_nat (by omega), xw_nat (by omega)]
  by_cases c : ((xSby.getD i []).length : Int) = (b.length : Int)
  · rw [if_pos c]
    unfold f_m_isWord_36
    exact r_isWord_39 h hi (by omega) b.length 0 fu (by omega) (by show _ < 5000; omega) fun q hq => absurd hq (Nat.not_lt_zero q)
  · rw [if_neg c, if_neg (fun e => c (by rw [e, hwl]))]
    unfold f_m_isWord_35 f_m_isWord_36
    obtain ⟨q, hq⟩ : ∃ q, fu = q + 1 := ⟨4999, rfl⟩
    rw [hq, f_m_isWord_39, if_pos (by decide), if_pos (show xbz 0 from Or.inl rfl)]
theorem r_expectWord {r : List Nat} {i : Nat} (h : rC T M 1 (wb i) r) (hi : i < 28) {K' : Int} {b' r' : List Nat} (ht : tk r K' b' r') : ∃ M' : xM, f_m_expectWord i M = some M' ∧ rC T M' K' b' r' ∧ (∀ j, j ≠ 15 → j ≠ 16 → j ≠ 17 → M' 0 j = M 0 j) ∧ ∀ k, k ≠ 0 → M' k = M k := by
  obtain ⟨M', m1, m2⟩ := r_advance h ht
  refine ⟨M', ?_, m2⟩
  unfold f_m_expectWord
  rw [r_isWord h hi, Option.bind_some, if_pos rfl, r_check (by decide), Option.bind_some, m1, Option.bind_some]
theorem r_acceptY {r : List Nat} {i : Nat} (h : rC T M 1 (wb i) r) (hi : i < 28) {K' : Int} {b' r' : List Nat} (ht : tk r K' b' r') : ∃ M' : xM, f_m_accept i M = some (1, M') ∧ rC T M' K' b' r' ∧ (∀ j, j ≠ 15 → j ≠ 16 → j ≠ 17 → M' 0 j = M 0 j) ∧ ∀ k, k ≠ 0 → M' k = M k := by
  obtain ⟨pre, hp⟩ := h.P
  obtain ⟨M', m1, m2⟩ := r_scan hp ht
  refine ⟨M', ?_, m2⟩
  unfold f_m_accept
  rw [r_isWord h hi, Option.bind_some, if_pos rfl, if_neg (by decide), m1, Option.bind_some, if_pos (show xbz 1 from Or.inr rfl)]
theorem r_acceptN {b r : List Nat} {i : Nat} (h : rC T M 1 b r) (hi : i < 28) (hne : b ≠ wb i) : f_m_accept i M = some (0, M) := by
  unfold f_m_accept
  rw [r_isWord h hi, Option.bind_some, if_neg hne, if_pos (by decide), if_pos (show xbz 0 from Or.inl rfl)]
theorem r_isSymbol {b r : List Nat} {K : Int} (h : rC T M K b r) (z : Nat) (hz : z < 256) (hk : K = 3 → b.length = 1) (hK : K = 0 ∨ K = 1 ∨ K = 2 ∨ K = 3) : f_m_isSymbol (z : Int) M = some (if K = 3 ∧ b = [z] then 1 else 0) := by
  have hh := h
  obtain ⟨pre, h1, h2, h3, h4, h5, h6, h7, h8⟩ := hh
  unfold f_m_isSymbol
  rw [h5, if_pos (by decide), h4, show xw 3 = 3 by decide, xw_id (x := K) (by omega) (by omega)]
  by_cases c : K = 3
  · obtain ⟨p, p1, p2, p3, p4, p5⟩ := h.byte (i := 0) (by rw [hk c]; omega)
    have lb := hk c
    rw [if_pos c, p1, if_pos (by unfold xib; rw [xw_nat (by omega)]; omega), xix_nat (by omega)]
    rw [Nat.add_zero] at p4
    rw [p4, xw_nat (by omega), xw_nat (by omega)]
    obtain ⟨y, hy⟩ : ∃ y, b = [y] := List.length_eq_one_iff.mp lb
    subst hy
    have e0 : ([y] : List Nat).getD 0 0 = y := rfl
    rw [e0]
    by_cases d : y = z
    · rw [if_pos (by omega), if_pos ⟨c, by rw [d]⟩]
    · rw [if_neg (by omega), if_neg (fun w => d (by
        have := w.2
        exact List.head_eq_of_cons_eq this))]
  · rw [if_neg c, if_neg (fun w => c w.1)]
theorem r_expect {z : Nat} {r : List Nat} (h : rC T M 3 [z] r) (hz : z < 256) {K' : Int} {b' r' : List Nat} (ht : tk r K' b' r') : ∃ M' : xM, f_m_expect (z : Int) M = some M' ∧ rC T M' K' b' r' ∧ (∀ j, j ≠ 15 → j ≠ 16 → j ≠ 17 → M' 0 j = M 0 j) ∧ ∀ k, k ≠ 0 → M' k = M k := by
  obtain ⟨M', m1, m2⟩ := r_advance h ht
  refine ⟨M', ?_, m2⟩
  unfold f_m_expect
  rw [r_isSymbol h z hz (fun _ => rfl) (by omega), Option.bind_some, if_pos ⟨rfl, rfl⟩, r_check (by decide), Option.bind_some, m1, Option.bind_some]
/-- the number that stands here -/
theorem r_value {v : Nat} {r : List Nat} (h : rC T M 2 (dgN v) r) (hv : v < 100) : f_m_value M = some (v : Int) := by
  have h17 : M 0 17 = 2 := by
    obtain ⟨pre, h1, h2, h3, h4, h5⟩ := h
    exact h4
  have step : ∀ (n p q d : Nat) (x : Int), M 0 15 = (q : Int) → p < q → q ≤ 600 → M 8 p = (d : Int) → d < 256 → 0 ≤ x → x ≤ 100 → f_m_value_7 M (n + 1) x (p : Int) = f_m_value_7 M n (10 * x + (d : Int) - 48) ((p : Int) + 1) := fun n p q d x q1 q2 q3 q4 q5 q6 q7 => by
    rw [f_m_value_7, q1, if_pos (by rw [xw_nat (by omega), xw_nat (by omega)]; omega), h17, if_pos rfl, if_pos (by unfold xib; rw [xw_nat (by omega)]; omega), xix_nat (by omega), q4, xw_nat (by omega), xw_id (x := x) (by omega) (by omega), if_pos (by
      have e1 : xwl (10 * x + (d : Int) - 48) = 10 * x + (d : Int) - 48 := Int64.toInt_ofInt_of_le (by omega) (by omega)
      have e2 : xwl 2000000000 = 2000000000 := by decide
      rw [e1, e2]
      omega)]
  have stop : ∀ (n q : Nat) (x : Int), M 0 15 = (q : Int) → q ≤ 600 → f_m_value_7 M (n + 1) x (q : Int) = some x := fun n q x q1 q2 => by
    rw [f_m_value_7, q1, if_neg (by omega)]
  obtain ⟨q, hq⟩ : ∃ q, fu = q + 3 := ⟨4997, rfl⟩
  unfold f_m_value
  by_cases c : v < 10
  · have eb : dgN v = [48 + v] := if_pos c
    rw [eb] at h
    obtain ⟨p, p1, p2, p3, p4, p5⟩ := h.byte (i := 0) (by show 0 < 1; omega)
    have l1 : ([48 + v] : List Nat).length = 1 := rfl
    rw [l1] at p2 p3
    rw [Nat.add_zero] at p4
    have e0 : ([48 + v] : List Nat).getD 0 0 = 48 + v := rfl
    rw [e0] at p4 p5
    rw [p1, hq, step (q + 2) p (p + 1) (48 + v) 0 p3 (by omega) p2 p4 p5 (by omega) (by omega), show (p : Int) + 1 = ((p + 1 : Nat) : Int) by omega, stop (q + 1) (p + 1) _ p3 p2]
    congr 1
    omega
  · have eb : dgN v = [48 + v / 10, 48 + v % 10] := if_neg c
    rw [eb] at h
    obtain ⟨p, p1, p2, p3, p4, p5⟩ := h.byte (i := 0) (by show 0 < 2; omega)
    obtain ⟨p', p1', p2', p3', p4', p5'⟩ := h.byte (i := 1) (by show 1 < 2; omega)
    have l1 : ([48 + v / 10, 48 + v % 10] : List Nat).length = 2 := rfl
    rw [l1] at p2 p3 p3'
    rw [Nat.add_zero] at p4
    have hp : p' = p := by omega
    rw [hp] at p4'
    have e0 : ([48 + v / 10, 48 + v % 10] : List Nat).getD 0 0 = 48 + v / 10 := rfl
    have e1 : ([48 + v / 10, 48 + v % 10] : List Nat).getD 1 0 = 48 + v % 10 := rfl
    rw [e0] at p4 p5
    rw [e1] at p4' p5'
    rw [p1, hq, step (q + 2) p (p + 2) (48 + v / 10) 0 p3 (by omega) p2 p4 p5 (by omega) (by omega), show (p : Int) + 1 = ((p + 1 : Nat) : Int) by omega, step (q + 1) (p + 1) (p + 2) (48 + v % 10) _ p3 (by omega) p2 p4' p5' (by omega) (by omega), show ((p + 1 : Nat) : Int) + 1 = ((p + 2 : Nat) : Int) by omega, stop q (p + 2) _ p3 p2]
    congr 1
    omega
end

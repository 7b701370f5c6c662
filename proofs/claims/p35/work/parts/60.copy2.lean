/-! ===== a line copied: the wire, the log, the whole ===== -/
theorem W_cp_sp (m : xM) (h : 0 ≤ m 5 5 ∧ m 5 5 ≤ 1000) : ∃ m' : xM, f_W_cp m = some m' ∧ (m' 0 4 = m 5 4 ∧ m' 0 5 = m 5 5) ∧ (m 5 5 ≠ 0 → ∀ k, 1 ≤ k → k ≤ 4 → ∀ i, i < 64 → m' k i = m (5 + k) i) ∧ ∀ k, 5 ≤ k → m' k = m k := by
  obtain ⟨m1, hm1⟩ : ∃ Z, Z = xu (xu m 0 4 (m 5 4)) 0 5 (m 5 5) := ⟨_, rfl⟩
  have a4 : m1 0 4 = m 5 4 := by rw [hm1, xu_d (by omega), xu_s rfl]
  have a5 : m1 0 5 = m 5 5 := by rw [hm1, xu_s rfl]
  have ak : ∀ k, k ≠ 0 → m1 k = m k := fun k hk => by rw [hm1, xu_K hk, xu_K hk]
  have cb : xcb 0 0 64 64 64 := by decide
  unfold f_W_cp
  have e45 : xu m 0 4 (m 5 4) 5 5 = m 5 5 := by rw [xu_k (by omega)]
  by_cases h0 : m 5 5 = 0
  · have q0 : xw (m 5 5) = 0 := by rw [h0]; decide
    rw [if_pos q0]
    exact ⟨m1, by rw [hm1], ⟨a4, a5⟩, fun z => absurd h0 z, fun k hk => ak k (by omega)⟩
  · have q0 : ¬ xw (m 5 5) = 0 := by rw [b_xw (by omega)]; exact h0
    unfold f_W_cp_54
    rw [if_neg q0, if_pos cb, if_pos cb, if_pos cb, if_pos cb, ← hm1]
    refine ⟨_, rfl, ⟨?_, ?_⟩, fun _ k h1 h2 i hi => ?_, fun k hk => ?_⟩
    · rw [xcp_K (by omega), xcp_K (by omega), xcp_K (by omega), xcp_K (by omega), a4]
    · rw [xcp_K (by omega), xcp_K (by omega), xcp_K (by omega), xcp_K (by omega), a5]
    · rcases (by omega : k = 1 ∨ k = 2 ∨ k = 3 ∨ k = 4) with rfl | rfl | rfl | rfl
      · rw [xcp_K (by omega), xcp_K (by omega), xcp_K (by omega), xcp_at hi, ak 6 (by omega)]
      · rw [xcp_K (by omega), xcp_K (by omega), xcp_at hi, xcp_K (by omega), ak 7 (by omega)]
      · rw [xcp_K (by omega), xcp_at hi, xcp_K (by omega), xcp_K (by omega), ak 8 (by omega)]
      · rw [xcp_at hi, xcp_K (by omega), xcp_K (by omega), xcp_K (by omega), ak 9 (by omega)]
    · rw [xcp_K (by omega), xcp_K (by omega), xcp_K (by omega), xcp_K (by omega), ak k (by omega)]
theorem G_cp_sp (m : xM) (h : 0 ≤ m 2 2 ∧ m 2 2 ≤ 60) : ∃ m' : xM, f_G_cp m = some m' ∧ (m' 0 1 = m 2 1 ∧ m' 0 2 = m 2 2) ∧ (∀ i : Nat, (i : Int) < m 2 2 * 4 → m' 1 i = m 3 i) ∧ ∀ k, 2 ≤ k → m' k = m k := by
  obtain ⟨c, hc⟩ : ∃ c : Nat, m 2 2 = c := ⟨(m 2 2).toNat, by omega⟩
  have cb : xcb 0 0 (m 2 2 * 4) 240 240 := by
    unfold xcb
    rw [b_xw (x := m 2 2 * 4) (by omega), b_xw (x := 0) (by omega)]
    omega
  have hx : xix (m 2 2 * 4) = c * 4 := by rw [b_ix (by omega)]; omega
  have e2 : ∀ n j : Nat, xcp m 3 1 0 0 n 2 j = m 2 j := fun n j => by rw [xcp_K (by omega)]
  have e3 : ∀ v : Int, xu (xcp m 3 1 0 0 (c * 4)) 0 1 v 2 2 = m 2 2 := fun v => by rw [xu_k (by omega), e2]
  unfold f_G_cp f_G_cp_27
  rw [if_pos cb, hx, e2, e3]
  refine ⟨_, rfl, ⟨?_, ?_⟩, fun i hi => ?_, fun k hk => ?_⟩
  · rw [xu_d (by omega), xu_s rfl]
  · rw [xu_s rfl]
  · rw [xu_k (by omega), xu_k (by omega), xcp_at (by omega)]
  · rw [xu_K (by omega), xu_K (by omega), xcp_K (by omega)]
abbrev bTa : List Nat := [1, 2, 3, 4, 5, 6, 7, 8, 9, 10, 11, 34, 35, 36, 37, 38, 39, 40, 41, 42, 43, 44]
abbrev bTb : List Nat := [12, 13, 14, 15, 16, 17, 18, 19, 20, 21, 22, 45, 46, 47, 48, 49, 50, 51, 52, 53, 54, 55]
theorem bSE.at {k k' : Nat} {m m' : xM} {j j' : Nat} {p p' : xM} (h : bSE k k' m m') (h1 : ∀ i, i ≤ 10 → p (j + i) = m (k + i)) (h2 : ∀ i, i ≤ 10 → p' (j' + i) = m' (k' + i)) : bSE j j' p p' := by
  have h10 : p j = m k := h1 0 (by omega)
  have h20 : p' j' = m' k' := h2 0 (by omega)
  unfold bSE at *
  rw [h10, h20, h1 1 (by omega), h1 2 (by omega), h1 3 (by omega), h1 4 (by omega), h1 5 (by omega), h1 6 (by omega), h1 7 (by omega), h1 8 (by omega), h1 9 (by omega), h1 10 (by omega), h2 1 (by omega), h2 2 (by omega), h2 3 (by omega), h2 4 (by omega), h2 5 (by omega), h2 6 (by omega), h2 7 (by omega), h2 8 (by omega), h2 9 (by omega), h2 10 (by omega)]
  exact h
theorem bCpE.at {k j : Nat} {m p : xM} (h : bCpE k m) (h0 : p j = m k) : bCpE j p := by
  unfold bCpE at *
  rw [h0]
  exact h
theorem L_cp_sp (m : xM) (h : bCp 33 m) : ∃ m' : xM, f_L_cp m = some m' ∧ bSLo 33 0 m m' ∧ ∀ k, 33 ≤ k → m' k = m k := by
  obtain ⟨h1, h2, h3, h4⟩ := h
  -- the first end
  obtain ⟨q, p1, p2, p3⟩ := E_cp_sp (xvw bTa m) (h1.at rfl)
  obtain ⟨ma, hma⟩ : ∃ Z, Z = xmg bTa 22 m q := ⟨_, rfl⟩
  have va : ∀ i, i ≤ 10 → xvw bTa m (11 + i) = m (34 + i) := b_11 rfl rfl rfl rfl rfl rfl rfl rfl rfl rfl rfl
  have ga : ∀ i, i ≤ 10 → ma (1 + i) = q i := by rw [hma]; exact b_11 rfl rfl rfl rfl rfl rfl rfl rfl rfl rfl rfl
  have ga2 : ∀ i, i ≤ 10 → ma (34 + i) = q (11 + i) := by rw [hma]; exact b_11 rfl rfl rfl rfl rfl rfl rfl rfl rfl rfl rfl
  have ka : ∀ k, (k < 1 ∨ 11 < k) → ma k = m k := fun k hk => by
    by_cases hk2 : 34 ≤ k ∧ k ≤ 44
    · have e1 := ga2 (k - 34) (by omega)
      have e2 := va (k - 34) (by omega)
      rw [show 34 + (k - 34) = k by omega] at e1 e2
      rw [e1, p3 _ (by omega), e2]
    · rw [hma]
      refine xmg_no _ _ (xpos_not (fun hz => ?_))
      have hz' : k ∈ bTa := hz
      simp only [bTa, List.mem_cons, List.not_mem_nil, or_false] at hz'
      omega
  have sa : bSE 34 1 m ma := p2.at (fun i hi => (va i hi).symm) (fun i hi => by rw [ga i hi, Nat.zero_add])
  -- the second
  obtain ⟨r, q1, q2, q3⟩ := E_cp_sp (xvw bTb ma) (h2.at (by show ma 45 = _; rw [ka 45 (by omega)]))
  obtain ⟨mb, hmb⟩ : ∃ Z, Z = xmg bTb 22 ma r := ⟨_, rfl⟩
  have vb : ∀ i, i ≤ 10 → xvw bTb ma (11 + i) = ma (45 + i) := b_11 rfl rfl rfl rfl rfl rfl rfl rfl rfl rfl rfl
  have gb : ∀ i, i ≤ 10 → mb (12 + i) = r i := by rw [hmb]; exact b_11 rfl rfl rfl rfl rfl rfl rfl rfl rfl rfl rfl
  have gb2 : ∀ i, i ≤ 10 → mb (45 + i) = r (11 + i) := by rw [hmb]; exact b_11 rfl rfl rfl rfl rfl rfl rfl rfl rfl rfl rfl
  have kb : ∀ k, (k < 12 ∨ 22 < k) → mb k = ma k := fun k hk => by
    by_cases hk2 : 45 ≤ k ∧ k ≤ 55
    · have e1 := gb2 (k - 45) (by omega)
      have e2 := vb (k - 45) (by omega)
      rw [show 45 + (k - 45) = k by omega] at e1 e2
      rw [e1, q3 _ (by omega), e2]
    · rw [hmb]
      refine xmg_no _ _ (xpos_not (fun hz => ?_))
      have hz' : k ∈ bTb := hz
      simp only [bTb, List.mem_cons, List.not_mem_nil, or_false] at hz'
      omega
  have sb : bSE 45 12 m mb := q2.at (fun i hi => by rw [vb i hi, ka _ (by omega)]) (fun i hi => by rw [gb i hi, Nat.zero_add])
  have kab : ∀ k, (k < 1 ∨ 22 < k) → mb k = m k := fun k hk => by rw [kb k (by omega), ka k (by omega)]
  -- the wire
  obtain ⟨w, w1, ⟨w2, w3⟩, w4, w5⟩ := W_cp_sp (xvw [23, 24, 25, 26, 27, 56, 57, 58, 59, 60] mb) (by show 0 ≤ mb 56 5 ∧ mb 56 5 ≤ 1000; rw [kab 56 (by omega)]; exact h3)
  obtain ⟨mc, hmc⟩ : ∃ Z, Z = xmg [23, 24, 25, 26, 27, 56, 57, 58, 59, 60] 10 mb w := ⟨_, rfl⟩
  have gc : ∀ i, i ≤ 4 → mc (23 + i) = w i := fun i hi => by
    rw [hmc]
    rcases (by omega : i = 0 ∨ i = 1 ∨ i = 2 ∨ i = 3 ∨ i = 4) with rfl | rfl | rfl | rfl | rfl <;> rfl
  have gc2 : ∀ i, i ≤ 4 → mc (56 + i) = w (5 + i) := fun i hi => by
    rw [hmc]
    rcases (by omega : i = 0 ∨ i = 1 ∨ i = 2 ∨ i = 3 ∨ i = 4) with rfl | rfl | rfl | rfl | rfl <;> rfl
  have vc : ∀ i, i ≤ 4 → xvw [23, 24, 25, 26, 27, 56, 57, 58, 59, 60] mb (5 + i) = mb (56 + i) := fun i hi => by
    rcases (by omega : i = 0 ∨ i = 1 ∨ i = 2 ∨ i = 3 ∨ i = 4) with rfl | rfl | rfl | rfl | rfl <;> rfl
  have kc : ∀ k, (k < 23 ∨ 27 < k) → mc k = mb k := fun k hk => by
    by_cases hk2 : 56 ≤ k ∧ k ≤ 60
    · have e1 := gc2 (k - 56) (by omega)
      have e2 := vc (k - 56) (by omega)
      rw [show 56 + (k - 56) = k by omega] at e1 e2
      rw [e1, w5 _ (by omega), e2]
    · rw [hmc]
      refine xmg_no _ _ (xpos_not (fun hz => ?_))
      have hz' : k ∈ [23, 24, 25, 26, 27, 56, 57, 58, 59, 60] := hz
      simp only [List.mem_cons, List.not_mem_nil, or_false] at hz'
      omega
  -- the log
  obtain ⟨g, g1, ⟨g2, g3⟩, g4, g5⟩ := G_cp_sp (xvw [28, 29, 61, 62] mc) (by show 0 ≤ mc 61 2 ∧ mc 61 2 ≤ 60; rw [kc 61 (by omega), kab 61 (by omega)]; exact h4)
  obtain ⟨md, hmd⟩ : ∃ Z, Z = xmg [28, 29, 61, 62] 4 mc g := ⟨_, rfl⟩
  have gd0 : md 28 = g 0 := by rw [hmd]; rfl
  have gd1 : md 29 = g 1 := by rw [hmd]; rfl
  have kd : ∀ k, k ≠ 28 → k ≠ 29 → md k = mc k := fun k h28 h29 => by
    by_cases h61 : k = 61
    · rw [h61, hmd]; show g 2 = _; rw [g5 2 (by omega)]; rfl
    · by_cases h62 : k = 62
      · rw [h62, hmd]; show g 3 = _; rw [g5 3 (by omega)]; rfl
      · rw [hmd]; exact xmg_no _ _ (xpos_not (by simp [h28, h29, h61, h62]))
  have kall : ∀ k, 33 ≤ k → md k = m k := fun k hk => by rw [kd k (by omega) (by omega), kc k (by omega), kab k (by omega)]
  obtain ⟨me, hme⟩ : ∃ Z, Z = xcp md 63 30 0 0 11 := ⟨_, rfl⟩
  have me30 : ∀ i, i < 11 → me 30 i = m 63 i := fun i hi => by rw [hme, xcp_at hi, kall 63 (by omega)]
  have mek : ∀ k, k ≠ 30 → me k = md k := fun k hk => by rw [hme, xcp_K hk]
  have me33 : me 33 = m 33 := by rw [mek 33 (by omega), kall 33 (by omega)]
  obtain ⟨mf, hmf⟩ : ∃ Z, Z = xu (xu (xu (xu (xu (xu (xu (xu (xu (xu me 0 7 (m 33 7)) 0 8 (m 33 8)) 0 9 (m 33 9)) 0 10 (m 33 10)) 0 11 (m 33 11)) 0 12 (m 33 12)) 0 13 (m 33 13)) 0 14 (m 33 14)) 0 15 (m 33 15)) 0 16 (m 33 16) := ⟨_, rfl⟩
  have mfk : ∀ k, k ≠ 0 → mf k = me k := fun k hk => by rw [hmf, xu_K hk, xu_K hk, xu_K hk, xu_K hk, xu_K hk, xu_K hk, xu_K hk, xu_K hk, xu_K hk, xu_K hk]
  have n33 : ∀ (x : xM) (j : Nat) (v : Int), x 33 = m 33 → xu x 0 j v 33 = m 33 := fun x j v hx => by rw [xu_K (by omega), hx]
  have cb : xcb 0 0 11 11 11 := by decide
  have eC : f_L_cp m = some mf := by
    unfold f_L_cp
    rw [p1, b_bs, ← hma]
    unfold f_L_cp_11
    rw [q1, b_bs, ← hmb]
    unfold f_L_cp_22
    rw [w1, b_bs, ← hmc, g1, b_bs, ← hmd]
    unfold f_L_cp_44
    have x0 : xcp md 63 30 0 0 11 = me := hme.symm
    rw [if_pos cb, x0]
    unfold f_L_cp_67
    rw [n33 _ _ _ me33, me33]
    unfold f_L_cp_99
    rw [n33 _ _ _ (n33 _ _ _ (n33 _ _ _ (n33 _ _ _ (n33 _ _ _ me33))))]
    unfold f_L_cp_123
    rw [n33 _ _ _ (n33 _ _ _ (n33 _ _ _ (n33 _ _ _ (n33 _ _ _ (n33 _ _ _ (n33 _ _ _ (n33 _ _ _ me33))))))), hmf]
  have kf : ∀ k, k ≠ 0 → k ≠ 30 → mf k = md k := fun k h1 h2 => by rw [mfk k h1, mek k h2]
  refine ⟨mf, eC, ⟨?_, ?_, ⟨?_, ?_⟩, fun hz k k1 k2 i hi => ?_, ⟨?_, ?_⟩, fun i hi => ?_, fun i hi => ?_, fun j j1 j2 => ?_⟩, fun k hk => by rw [kf k (by omega) (by omega), kall k hk]⟩
  · rw [Nat.zero_add]
    exact sa.at (fun _ _ => rfl) (fun i hi => by rw [kf _ (by omega) (by omega), kd _ (by omega) (by omega), kc _ (by omega), kb _ (by omega)])
  · rw [Nat.zero_add]
    exact sb.at (fun _ _ => rfl) (fun i hi => by rw [kf _ (by omega) (by omega), kd _ (by omega) (by omega), kc _ (by omega)])
  · rw [Nat.zero_add, kf 23 (by omega) (by omega), kd 23 (by omega) (by omega), gc 0 (by omega), w2]
    show mb 56 4 = _; rw [kab 56 (by omega)]
  · rw [Nat.zero_add, kf 23 (by omega) (by omega), kd 23 (by omega) (by omega), gc 0 (by omega), w3]
    show mb 56 5 = _; rw [kab 56 (by omega)]
  · rw [Nat.zero_add, kf k (by omega) (by omega), kd k (by omega) (by omega)]
    have e1 := gc (k - 23) (by omega)
    rw [show 23 + (k - 23) = k by omega] at e1
    rw [e1, w4 (by show mb 56 5 ≠ 0; rw [kab 56 (by omega)]; exact hz) (k - 23) (by omega) (by omega) i hi, vc (k - 23) (by omega), kab _ (by omega), show 56 + (k - 23) = 33 + k by omega]
  · rw [Nat.zero_add, kf 28 (by omega) (by omega), gd0, g2]
    show mc 61 1 = _; rw [kc 61 (by omega), kab 61 (by omega)]
  · rw [Nat.zero_add, kf 28 (by omega) (by omega), gd0, g3]
    show mc 61 2 = _; rw [kc 61 (by omega), kab 61 (by omega)]
  · rw [Nat.zero_add, kf 29 (by omega) (by omega), gd1, g4 i (by show (i : Int) < mc 61 2 * 4; rw [kc 61 (by omega), kab 61 (by omega)]; exact hi)]
    show mc 62 i = _; rw [kc 62 (by omega), kab 62 (by omega)]
  · rw [Nat.zero_add, mfk 30 (by omega), me30 i hi]
  · rw [hmf]
    rcases (by omega : j = 7 ∨ j = 8 ∨ j = 9 ∨ j = 10 ∨ j = 11 ∨ j = 12 ∨ j = 13 ∨ j = 14 ∨ j = 15 ∨ j = 16) with rfl | rfl | rfl | rfl | rfl | rfl | rfl | rfl | rfl | rfl
    all_goals (repeat rw [xu_d (by omega)])
    all_goals rw [xu_s rfl]
/-- the line that begins at b in the whole object, with what is set -/
def bV (b : Nat) : List Nat := (List.range 33).map (fun i => b + i) ++ [1, 2, 3, 4, 5]
theorem bV_lo (b : Nat) (hb : b < 900) {i : Nat} (hi : i < 33) : xT (bV b) i = b + i := by
  rw [xT_lo (by omega), List.getD_eq_getElem?_getD]
  unfold bV
  rw [List.getElem?_append_left (by rw [List.length_map, List.length_range]; exact hi), List.getElem?_map, List.getElem?_range hi]
  rfl
theorem bV_hi (b : Nat) {i : Nat} (hi : 33 ≤ i ∧ i ≤ 37) : xT (bV b) i = i - 32 := by
  rw [xT_lo (by omega), List.getD_eq_getElem?_getD]
  unfold bV
  rw [List.getElem?_append_right (by rw [List.length_map, List.length_range]; omega), List.length_map, List.length_range]
  rcases (by omega : i = 33 ∨ i = 34 ∨ i = 35 ∨ i = 36 ∨ i = 37) with rfl | rfl | rfl | rfl | rfl <;> rfl
/-- the places of a copy -/
def bTok (T : List Nat) (d s : Nat) : Bool := (T.take 66 == T) && ((List.range 66).all fun i => xpos T 0 (if i < 33 then d + i else s + (i - 33)) == some i && T.getD i 0 == (if i < 33 then d + i else s + (i - 33)))
theorem X_cp (T : List Nat) (d s : Nat) (m M : xM) (hT : bTok T d s = true) (hd : d < 900 ∧ s < 900 ∧ 5 < d ∧ 5 < s) (hds : d + 33 ≤ s ∨ s + 33 ≤ d) (h : bLine (xvw (bV s) m) M) : ∃ q : xM, f_L_cp (xvw T m) = some q ∧ bLine (xvw (bV d) (xmg T 66 m q)) M ∧ ∀ k, (k < d ∨ d + 33 ≤ k) → xmg T 66 m q k = m k := by
  unfold bTok at hT
  simp only [Bool.and_eq_true, List.all_eq_true, beq_iff_eq] at hT
  obtain ⟨hT0, hT1⟩ := hT
  have hv : ∀ i, i < 66 → xT T i = (if i < 33 then d + i else s + (i - 33)) := fun i hi => by rw [xT_lo (by omega)]; exact (hT1 i (List.mem_range.mpr hi)).2
  have hv2 : ∀ i, i < 33 → xvw T m (33 + i) = m (s + i) := fun i hi => by
    show m (xT T (33 + i)) = _
    rw [hv _ (by omega), if_neg (by omega), show 33 + i - 33 = i by omega]
  have hs2 : ∀ i, i < 33 → xvw (bV s) m i = m (s + i) := fun i hi => by show m (xT (bV s) i) = _; rw [bV_lo s hd.2.1 hi]
  have hc := h.cp
  have hcp : bCp 33 (xvw T m) := by
    obtain ⟨c1, c2, c3, c4⟩ := hc
    have e23 : xvw T m (33 + 23) = xvw (bV s) m 23 := by rw [hv2 23 (by omega), hs2 23 (by omega)]
    have e28 : xvw T m (33 + 28) = xvw (bV s) m 28 := by rw [hv2 28 (by omega), hs2 28 (by omega)]
    refine ⟨c1.at (by rw [hv2 1 (by omega), hs2 (0 + 1) (by omega)]), c2.at (by rw [hv2 12 (by omega), hs2 (0 + 12) (by omega)]), ?_, ?_⟩
    · rw [e23]; exact c3
    · rw [e28]; exact c4
  obtain ⟨q, q1, q2, q3⟩ := L_cp_sp (xvw T m) hcp
  have hg : ∀ i, i < 66 → xmg T 66 m q (if i < 33 then d + i else s + (i - 33)) = q i := fun i hi => by
    unfold xmg
    rw [hT0, (hT1 i (List.mem_range.mpr hi)).1]
  have gd : ∀ i, i < 33 → xvw (bV d) (xmg T 66 m q) i = q i := fun i hi => by
    show xmg T 66 m q (xT (bV d) i) = _
    have := hg i (by omega)
    rw [if_pos hi] at this
    rw [bV_lo d hd.1 hi, this]
  have hk : ∀ k, (k < d ∨ d + 33 ≤ k) → xmg T 66 m q k = m k := fun k hk => by
    by_cases hk2 : s ≤ k ∧ k < s + 33
    · have := hg (33 + (k - s)) (by omega)
      rw [if_neg (by omega), show s + (33 + (k - s) - 33) = k by omega] at this
      rw [this, q3 _ (by omega), hv2 (k - s) (by omega), show s + (k - s) = k by omega]
    · refine xmg_no _ _ ?_
      rw [hT0]
      refine xpos_not (fun hz => ?_)
      obtain ⟨i, hi, hi2⟩ := List.getElem_of_mem hz
      have hlen : T.length ≤ 66 := by
        have := congrArg List.length hT0
        rw [List.length_take] at this
        omega
      have h2 := (hT1 i (List.mem_range.mpr (by omega))).2
      rw [List.getD_eq_getElem?_getD, List.getElem?_eq_getElem hi, hi2] at h2
      have h2' : k = if i < 33 then d + i else s + (i - 33) := h2
      by_cases hi3 : i < 33
      · rw [if_pos hi3] at h2'; omega
      · rw [if_neg hi3] at h2'; omega
  refine ⟨q, q1, ?_, hk⟩
  have h5 : ∀ k, 33 ≤ k → k ≤ 37 → xvw (bV d) (xmg T 66 m q) k = xvw (bV s) m k := fun k k1 k2 => by
    show xmg T 66 m q (xT (bV d) k) = m (xT (bV s) k)
    rw [bV_hi d ⟨k1, k2⟩, bV_hi s ⟨k1, k2⟩, hk _ (by omega)]
  refine bLine.sim h ?_ h5
  obtain ⟨s1, s2, ⟨s3, s4⟩, s5, ⟨s6, s7⟩, s8, s9, s10⟩ := q2
  have e : ∀ i, i < 33 → xvw (bV s) m i = xvw T m (33 + i) := fun i hi => by rw [hs2 i hi, hv2 i hi]
  have e0 : xvw (bV s) m 0 = xvw T m 33 := e 0 (by omega)
  have f0 : xvw (bV d) (xmg T 66 m q) 0 = q 0 := gd 0 (by omega)
  refine ⟨s1.at (fun i hi => by rw [show 0 + 1 + i = 1 + i by omega, e _ (by omega), show 33 + (1 + i) = 33 + 1 + i by omega]) (fun i hi => by rw [gd _ (by omega)]), s2.at (fun i hi => by rw [show 0 + 12 + i = 12 + i by omega, e _ (by omega), show 33 + (12 + i) = 33 + 12 + i by omega]) (fun i hi => by rw [gd _ (by omega)]), ⟨?_, ?_⟩, fun hz k k1 k2 i hi => ?_, ⟨?_, ?_⟩, fun i hi => ?_, fun i hi => ?_, fun j j1 j2 => ?_⟩
  · rw [gd _ (by omega), e _ (by omega)]; exact s3
  · rw [gd _ (by omega), e _ (by omega)]; exact s4
  · rw [e _ (by omega)] at hz
    rw [gd _ (by omega), e _ (by omega), show 33 + (0 + k) = 33 + k by omega]
    exact s5 hz k k1 k2 i hi
  · rw [gd _ (by omega), e _ (by omega)]; exact s6
  · rw [gd _ (by omega), e _ (by omega)]; exact s7
  · rw [e _ (by omega)] at hi
    rw [gd _ (by omega), e _ (by omega)]
    exact s8 i hi
  · rw [gd _ (by omega), e _ (by omega)]
    exact s9 i hi
  · rw [f0, e0]
    exact s10 j j1 j2

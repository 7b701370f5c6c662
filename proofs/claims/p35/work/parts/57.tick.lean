/-! ===== a tick of the whole line ===== -/
theorem N_note {k z : Int} {m m' : xM} (h : f_L_note k z m = some m') : m' 23 = m 23 := by
  unfold f_L_note f_L_note_26 at h
  split at h
  · obtain ⟨q, -, h⟩ := x_bind h
    cases h; rfl
  · obtain ⟨q, -, h⟩ := x_bind h
    cases h; rfl
theorem N_cut {m m' : xM} (h : f_L_cut m = some m') : m' 23 4 = m 23 4 := by
  unfold f_L_cut f_L_cut_19 at h
  obtain ⟨q0, -, h⟩ := x_bind h
  obtain ⟨q1, -, h⟩ := x_bind h
  obtain ⟨-, h⟩ := x_some1 h
  obtain ⟨-, h⟩ := x_some1 h
  obtain ⟨q2, h2, h⟩ := x_bind h
  cases h
  rw [N_note h2, xu_k (by omega), xu_d (by omega)]
  rfl
theorem N_fall {m m' : xM} (h : f_L_fall m = some m') : m' 23 4 = m 23 4 := by
  unfold f_L_fall f_L_fall_42 at h
  split at h
  · obtain ⟨-, h⟩ := x_some1 h
    obtain ⟨-, h⟩ := x_some1 h
    obtain ⟨q2, h2, h⟩ := x_bind h
    cases h
    rw [N_note h2, xu_k (by omega), xu_k (by omega), xu_k (by omega), xu_k (by omega)]
  · obtain ⟨q2, h2, h⟩ := x_bind h
    cases h
    exact N_cut h2
theorem N_timer0 {e : Int} {m m' : xM} (h : f_L_timer0 e m = some m') : m' 23 4 = m 23 4 := by
  unfold f_L_timer0 f_L_timer0_69 at h
  split at h
  · cases h; rfl
  · obtain ⟨q1, -, h⟩ := x_bind h
    obtain ⟨-, h⟩ := x_some1 h
    split at h
    · cases h; rfl
    · obtain ⟨-, h⟩ := x_some1 h
      obtain ⟨-, h⟩ := x_some1 h
      obtain ⟨q2, h2, h⟩ := x_bind h
      have e2 : q2 23 4 = m 23 4 := by rw [N_note h2, xu_k (by omega), xu_k (by omega), xu_k (by omega), xu_k (by omega), xu_k (by omega)]
      split at h
      · cases h; exact e2
      · obtain ⟨q3, h3, h⟩ := x_bind h
        cases h
        rw [N_fall h3, e2]
theorem N_timer1 {e : Int} {m m' : xM} (h : f_L_timer1 e m = some m') : m' 23 4 = m 23 4 := by
  unfold f_L_timer1 f_L_timer1_69 at h
  split at h
  · cases h; rfl
  · obtain ⟨q1, -, h⟩ := x_bind h
    obtain ⟨-, h⟩ := x_some1 h
    split at h
    · cases h; rfl
    · obtain ⟨-, h⟩ := x_some1 h
      obtain ⟨-, h⟩ := x_some1 h
      obtain ⟨q2, h2, h⟩ := x_bind h
      have e2 : q2 23 4 = m 23 4 := by rw [N_note h2, xu_k (by omega), xu_k (by omega), xu_k (by omega), xu_k (by omega), xu_k (by omega)]
      split at h
      · cases h; exact e2
      · obtain ⟨q3, h3, h⟩ := x_bind h
        cases h
        show q3 23 4 = _
        rw [N_fall h3]
        exact e2
theorem N_hold {m m' : xM} (h : f_L_hold m = some m') : m' 23 4 = m 23 4 := by
  unfold f_L_hold at h
  split at h
  · obtain ⟨q2, h2, h⟩ := x_bind h
    cases h
    exact N_cut h2
  · cases h; rfl
theorem N_beginStep {z : Int} {m m' : xM} (h : f_L_beginStep z m = some m') : m' 23 4 = m 23 4 := by
  unfold f_L_beginStep at h
  obtain ⟨q2, -, h⟩ := x_bind h
  cases h
  rw [xu_k (by omega), xu_k (by omega)]
theorem N_wait {m m' : xM} (h : f_L_wait m = some m') : m' 23 4 = m 23 4 := by
  unfold f_L_wait f_L_beginTraining at h
  split at h
  · obtain ⟨q2, h2, h⟩ := x_bind h
    cases h
    rw [N_hold h2, xu_k (by omega)]
  · obtain ⟨q2, h2, h⟩ := x_bind h
    obtain ⟨q3, h3, h2⟩ := x_bind h2
    cases h
    cases h2
    rw [N_beginStep h3, xu_k (by omega), xu_k (by omega)]
theorem N_lose {m m' : xM} (h : f_L_loseCarrier m = some m') : m' 23 4 = m 23 4 := by
  unfold f_L_loseCarrier f_L_loseCarrier_29 at h
  obtain ⟨-, h⟩ := x_some1 h
  obtain ⟨-, h⟩ := x_some1 h
  obtain ⟨q2, h2, h⟩ := x_bind h
  obtain ⟨q3, h3, h⟩ := x_bind h
  cases h
  rw [N_hold h3, N_note h2, xu_k (by omega), xu_d (by omega), xu_k (by omega), xu_k (by omega)]
theorem N_online {m m' : xM} (h : f_L_comeOnline m = some m') : m' 23 4 = m 23 4 := by
  unfold f_L_comeOnline f_L_comeOnline_56 f_L_comeOnline_81 at h
  obtain ⟨q0, -, h⟩ := x_bind h
  split at h
  · obtain ⟨q2, h2, h⟩ := x_bind h
    cases h
    exact N_cut h2
  · obtain ⟨q1, -, h⟩ := x_bind h
    obtain ⟨q2, -, h⟩ := x_bind h
    obtain ⟨-, h⟩ := x_some1 h
    obtain ⟨-, h⟩ := x_some1 h
    obtain ⟨q3, h3, h⟩ := x_bind h
    cases h
    rw [N_note h3, xu_k (by omega)]
    rfl
theorem N_train {m m' : xM} (h : f_L_train m = some m') : m' 23 4 = m 23 4 := by
  unfold f_L_train at h
  split at h
  · obtain ⟨q2, h2, h⟩ := x_bind h
    split at h
    · obtain ⟨q3, h3, h⟩ := x_bind h
      cases h
      rw [N_cut h3, xu_k (by omega), N_beginStep h2]
    · cases h
      rw [xu_k (by omega), N_beginStep h2]
  · split at h
    · cases h
      rw [xu_k (by omega)]
    · split at h
      · obtain ⟨q2, h2, h⟩ := x_bind h
        cases h
        rw [N_beginStep h2, xu_k (by omega)]
      · obtain ⟨q2, h2, h⟩ := x_bind h
        cases h
        rw [N_online h2, xu_k (by omega)]
/-- class and reference, a whole line -/
def bLine (m M : xM) : Prop := bRL 0 m (M 1) ∧ bB m ∧ M 1 20 = m 23 5 ∧ (0 ≤ m 23 4 ∧ m 23 4 ≤ 64) ∧ (m 0 8 = 2 → ∃ f c : Nat, bWire 0 m (M 1) (m 0 7 - m 33 10) (m 0 7) f c)
/-- the time goes on, all else as it is -/
theorem bRL.time {e : Nat} {m M : xM} (t : Int) (h : bRL e m (M 1)) : bRL e (xu m 0 7 t) ((xu M 1 0 t) 1) := by
  obtain ⟨r1, r2, r3, r4, r5, r6⟩ := h
  have gk : ∀ k, k ≠ 0 → xu m 0 7 t k = m k := fun k hk => xu_K hk
  have gN : ∀ i, i ≠ 0 → xu M 1 0 t 1 i = M 1 i := fun i hi => xu_d hi
  refine ⟨r1.cg (fun i h1 h2 => gk i (by omega)) (fun i h1 h2 => gN i (by omega)), r2.cg (fun i h1 h2 => gk i (by omega)) (fun i h1 h2 => gN i (by omega)), r3.cg (gk _ (by omega)) (gk _ (by omega)) (gN _ (by omega)) (fun i h1 h2 => gN i (by omega)), r4.cg (gk _ (by omega)) (fun i h1 h2 => gN i (by omega)), r5.cg (fun k h1 h2 => gk k (by omega)) (fun i h1 h2 h3 => gN i (by omega)), ?_⟩
  unfold bRSc at r6 ⊢
  rw [gk 33 (by omega), gN 1 (by omega), gN 2 (by omega), gN 3 (by omega), gN 4 (by omega), gN 5 (by omega), gN 6 (by omega), gN 7 (by omega), gN 8 (by omega), gN 9 (by omega), xu_s rfl, xu_s rfl, xu_d (j' := 8) (by omega), xu_d (j' := 9) (by omega), xu_d (j' := 10) (by omega), xu_d (j' := 11) (by omega), xu_d (j' := 12) (by omega), xu_d (j' := 13) (by omega), xu_d (j' := 14) (by omega), xu_d (j' := 15) (by omega), xu_d (j' := 16) (by omega)]
  exact ⟨rfl, r6.2⟩
theorem bB.time {m : xM} (h : bB m) (ht : m 0 7 < 1000000) : bB (xu m 0 7 (m 0 7 + 1)) := by
  obtain ⟨⟨t1, t2⟩, ⟨s1, s2⟩, ⟨a1, a2, a3, a4, a5, a6, a7, a8⟩, ⟨b1, b2, b3, b4, b5, b6, b7, b8⟩, w⟩ := h
  unfold bB bBe
  rw [xu_s rfl, xu_d (j' := 8) (by omega), xu_k (k' := 30) (by omega), xu_k (k' := 4) (by omega), xu_k (k' := 4) (by omega), xu_k (k' := 12) (by omega), xu_k (k' := 1) (by omega), xu_k (k' := 1) (by omega), xu_k (k' := 1) (by omega), xu_k (k' := 15) (by omega), xu_k (k' := 15) (by omega), xu_k (k' := 1) (by omega), xu_k (k' := 12) (by omega), xu_k (k' := 12) (by omega), xu_k (k' := 12) (by omega), xu_k (k' := 23) (by omega)]
  exact ⟨⟨by omega, by omega⟩, ⟨s1, by omega⟩, ⟨by omega, a2, a3, a4, a5, by omega, a7, a8⟩, ⟨by omega, b2, b3, b4, b5, by omega, b7, b8⟩, w⟩
/-- a line that has just come online has nothing under way -/
theorem bFresh.wire {m : xM} {N : Nat → Int} (lo hi : Int) (f : Nat) (hf : m 23 4 = f) (hf64 : f ≤ 64) (h : bFresh m) (hR : bRL 0 m N) (h20 : N 20 = 0) : bWire 0 m N lo hi f 0 := by
  obtain ⟨h1, h2, h3, h4, h5⟩ := h
  obtain ⟨F, C, S, a1, a2, a3, a4, a5, -⟩ := hR.1.1
  obtain ⟨F', C', S', b1, b2, b3, b4, b5, -⟩ := hR.2.1.1
  rw [show (1 + 3 : Nat) = 4 from rfl] at a1 a2 a3
  rw [show (12 + 3 : Nat) = 15 from rfl] at b1 b2 b3
  refine ⟨⟨hf, hf64, h1, h20⟩, fun i hi => by omega, fun i j _ hj => by omega, ⟨⟨by omega, by omega, by omega, by omega, by omega⟩, fun i hi => by omega, fun i j _ hj => by omega, fun i hi => by omega, fun i j hi => by omega, fun i hi => by omega, fun i j _ hj => by omega, fun n q1 q2 => by omega, fun n q1 q2 => by omega⟩, ⟨by omega, by omega, by omega, by omega, by omega⟩, fun i hi => by omega, fun i j _ hj => by omega, fun i hi => by omega, fun i j hi => by omega, fun i hi => by omega, fun i j _ hj => by omega, fun n q1 q2 => by omega, fun n q1 q2 => by omega⟩
/-- the entries of the earliest tick come first -/
theorem b_due (T : Nat → Int) (lo : Int) : ∀ c : Nat, (∀ i, i < c → lo ≤ T i) → (∀ i j, i < j → j < c → T i ≤ T j) → ∃ k, k ≤ c ∧ (∀ i, i < k → T i = lo) ∧ ∀ i, k ≤ i → i < c → lo < T i := by
  intro c
  induction c with
  | zero => intro _ _; exact ⟨0, Nat.le_refl _, fun i hi => by omega, fun i _ hi => by omega⟩
  | succ c ih =>
    intro h1 h2
    obtain ⟨k, k1, k2, k3⟩ := ih (fun i hi => h1 i (by omega)) (fun i j q1 q2 => h2 i j q1 (by omega))
    by_cases hk : k < c
    · refine ⟨k, by omega, k2, fun i q1 q2 => ?_⟩
      by_cases hi : i = c
      · have := k3 k (Nat.le_refl _) hk
        have := h2 k i (by omega) (by omega)
        omega
      · exact k3 i q1 (by omega)
    · by_cases hT : T c = lo
      · exact ⟨c + 1, Nat.le_refl _, fun i hi => by
          by_cases hic : i = c
          · rw [hic, hT]
          · exact k2 i (by omega), fun i q1 q2 => by omega⟩
      · refine ⟨c, by omega, fun i hi => k2 i (by omega), fun i q1 q2 => ?_⟩
        have := h1 i q2
        have hic : i = c := by omega
        subst hic
        omega
/-- bounds online, between the parts of a tick -/
def bBo (a1 a2 r s : Int) (m : xM) : Prop := (0 ≤ m 30 0 ∧ m 30 0 ≤ s) ∧ (m 4 3 + m 4 4 ≤ a1 ∧ 0 ≤ m 12 7 ∧ m 12 7 ≤ m 4 3 + m 4 4 ∧ m 1 6 ≤ r ∧ 0 ≤ m 1 8 ∧ m 1 8 ≤ 108) ∧ (m 15 3 + m 15 4 ≤ a2 ∧ 0 ≤ m 1 7 ∧ m 1 7 ≤ m 15 3 + m 15 4 ∧ m 12 6 ≤ r ∧ 0 ≤ m 12 8 ∧ m 12 8 ≤ 108)
theorem bBo.tw {a1 a2 r s : Int} {m q : xM} (h : bBo a1 a2 r s m) (t : bTw m q) : bBo a2 a1 r s q := by
  obtain ⟨p1, p2, p3⟩ := h
  obtain ⟨t1, t2, t0, t3⟩ := t
  have w1 : q 1 = m 12 := t1 0 (by omega)
  have w4 : q 4 = m 15 := t1 3 (by omega)
  have w12 : q 12 = m 1 := t2 0 (by omega)
  have w15 : q 15 = m 4 := t2 3 (by omega)
  have w30 : q 30 = m 30 := t3 7 (by omega)
  unfold bBo
  rw [w1, w4, w12, w15, w30]
  exact ⟨p1, p3, p2⟩
theorem bBo.lv {a1 a2 r s : Int} {m m' : xM} (h : bBo a1 a2 r s m) (l : bLv m m') : bBo a1 a2 r s m' := by
  obtain ⟨⟨p1, p2⟩, ⟨p3, p4, p5, p6, p7, p8⟩, ⟨p9, p10, p11, p12, p13, p14⟩⟩ := h
  obtain ⟨l1, ⟨l2, l3⟩, ⟨l4, l5⟩, l6, l7⟩ := l
  unfold bBo
  rw [l6, l4 6 (by omega) (by omega), l4 7 (by omega) (by omega), l4 8 (by omega) (by omega), l5 6 (by omega) (by omega), l5 7 (by omega) (by omega), l5 8 (by omega) (by omega), l2, l3]
  exact ⟨⟨p1, p2⟩, ⟨p3, p4, p5, p6, p7, p8⟩, ⟨p9, p10, p11, p12, p13, p14⟩⟩
theorem bBo.snf {a1 a2 r s : Int} {m m' : xM} (h : bBo a1 a2 r s m) (l : bSnf m m') (hC : m' 4 4 ≤ 7 ∧ 0 ≤ m 4 4) : bBo (a1 + 7) a2 r (s + 7) m' := by
  obtain ⟨⟨p1, p2⟩, ⟨p3, p4, p5, p6, p7, p8⟩, ⟨p9, p10, p11, p12, p13, p14⟩⟩ := h
  obtain ⟨l1, l2, l3, ⟨l4, l5⟩, ⟨l6, l7⟩, ⟨l8, l9⟩, l10, l11⟩ := l
  unfold bBo
  rw [l10 12 (by omega) (by omega), l10 15 (by omega) (by omega), l4, l5, l2]
  exact ⟨⟨by omega, by omega⟩, ⟨by omega, p4, by omega, p6, l6, l7⟩, ⟨p9, p10, p11, p12, p13, p14⟩⟩
theorem bWire.mono {e : Nat} {m : xM} {N : Nat → Int} {lo hi hi' : Int} {f c : Nat} (h : bWire e m N lo hi f c) (hh : hi ≤ hi') : bWire e m N lo hi' f c := by
  obtain ⟨a, b, d, g⟩ := h
  refine ⟨a, fun i hi => ?_, d, g⟩
  obtain ⟨b1, b2, b3, b4, b5⟩ := b i hi
  exact ⟨b1, b2, b3, b4, fun hx => ⟨by have := (b5 hx).1; omega, (b5 hx).2⟩⟩

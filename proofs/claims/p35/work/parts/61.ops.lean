/-! ===== many ticks ===== -/
def bRun : Nat → xM → Option xM
  | 0, M => some M
  | k + 1, M => (f_m_passTick M).bind (bRun k)
theorem L_run_sp (z : Nat) (hz : z ≤ 1000) : ∀ (k x n : Nat) (m M : xM), x + k = z → k < n → bLine m M → m 0 7 + k ≤ 1000000 → ∃ m' M' : xM, f_L_run_2 (z : Int) n (x : Int) m = some m' ∧ bRun k M = some M' ∧ bLine m' M' ∧ m' 0 7 = m 0 7 + k ∧ (∀ k, 33 ≤ k → k ≤ 37 → m' k = m k) ∧ bMK M M' := by
  intro k
  induction k with
  | zero =>
    intro x n m M h1 h2 h3 h4
    obtain ⟨n, rfl⟩ : ∃ z, n = z + 1 := ⟨n - 1, by omega⟩
    refine ⟨m, M, ?_, rfl, h3, by omega, fun _ _ _ => rfl, bMK.refl M⟩
    rw [f_L_run_2, if_neg (by rw [b_xw (by omega), b_xw (by omega)]; omega)]
  | succ k ih =>
    intro x n m M h1 h2 h3 h4
    obtain ⟨n, rfl⟩ : ∃ z, n = z + 1 := ⟨n - 1, by omega⟩
    obtain ⟨m1, M1, p1, p2, p3, ⟨p4, p5⟩, p6⟩ := L_tick_sp m M h3 (by omega)
    obtain ⟨m2, M2, q1, q2, q3, q4, q5, q6⟩ := ih (x + 1) n m1 M1 (by omega) (by omega) p3 (by omega)
    refine ⟨m2, M2, ?_, ?_, q3, by omega, fun k k1 k2 => by rw [q5 k k1 k2, p5 k k1 k2], p6.trans q6⟩
    · rw [f_L_run_2, if_pos (by rw [b_xw (by omega), b_xw (by omega)]; omega), p1, b_bs, show (x : Int) + 1 = ((x + 1 : Nat) : Int) by omega, q1]
    · unfold bRun
      rw [p2, b_bs, q2]
theorem m_pass_52 (z : Nat) (hz : z ≤ 1000) (x2 : Int) : ∀ (k x n : Nat) (M M' : xM), x + k = z → k < n → bRun k M = some M' → f_m_pass_52 (z : Int) n x2 (x : Int) M = f_m_pass_67 (z : Int) x2 M' := by
  intro k
  induction k with
  | zero =>
    intro x n M M' h1 h2 h3
    obtain ⟨n, rfl⟩ : ∃ z, n = z + 1 := ⟨n - 1, by omega⟩
    cases h3
    rw [f_m_pass_52, if_neg (by rw [b_xw (by omega), b_xw (by omega)]; omega)]
  | succ k ih =>
    intro x n M M' h1 h2 h3
    obtain ⟨n, rfl⟩ : ∃ z, n = z + 1 := ⟨n - 1, by omega⟩
    unfold bRun at h3
    obtain ⟨M1, e1, e2⟩ := x_bind h3
    rw [f_m_pass_52, if_pos (by rw [b_xw (by omega), b_xw (by omega)]; omega), e1, b_bs, show (x : Int) + 1 = ((x + 1 : Nat) : Int) by omega]
    exact ih (x + 1) n M1 M' (by omega) (by omega) e2
theorem m_behind_55 (e : Int) (z : Nat) (hz : z ≤ 1000) : ∀ (k x n : Nat) (M M' : xM), x + k = z → k < n → bRun k M = some M' → f_m_receivedBehind_55 e (z : Int) n (x : Int) M = f_m_receivedBehind_70 e (z : Int) M' := by
  intro k
  induction k with
  | zero =>
    intro x n M M' h1 h2 h3
    obtain ⟨n, rfl⟩ : ∃ z, n = z + 1 := ⟨n - 1, by omega⟩
    cases h3
    rw [f_m_receivedBehind_55, if_neg (by rw [b_xw (by omega), b_xw (by omega)]; omega)]
  | succ k ih =>
    intro x n M M' h1 h2 h3
    obtain ⟨n, rfl⟩ : ∃ z, n = z + 1 := ⟨n - 1, by omega⟩
    unfold bRun at h3
    obtain ⟨M1, e1, e2⟩ := x_bind h3
    rw [f_m_receivedBehind_55, if_pos (by rw [b_xw (by omega), b_xw (by omega)]; omega), e1, b_bs, show (x : Int) + 1 = ((x + 1 : Nat) : Int) by omega]
    exact ih (x + 1) n M1 M' (by omega) (by omega) e2
theorem b_and1 (a b : Int) (ha : a = 0 ∨ a = 1) (hb : b = 0 ∨ b = 1) : xiand a b = if a = 1 ∧ b = 1 then 1 else 0 := by
  rcases ha with rfl | rfl <;> rcases hb with rfl | rfl <;> decide
/-- whether all is sent and acknowledged -/
theorem L_done_sp (m M : xM) (h : bLine m M) : ∃ d : Int, (d = 0 ∨ d = 1) ∧ f_L_finished m = some d ∧ f_m_isDone M = some d ∧ (d = 1 → m 0 8 = 2) := by
  obtain ⟨hR, -⟩ := h
  have s1 : M 1 1 = m 0 8 := hR.2.2.2.2.2.2.1
  have s8 := hR.2.2.2.2.2.2.2.2.2.2.2.2.2.1
  obtain ⟨q, q1, q2, q3, -⟩ := hR.1.2.2.2.1
  obtain ⟨p, p1, p2, p3, -⟩ := hR.2.1.2.2.2.1
  obtain ⟨F, C, S, a1, a2, a3, a4, a5, a6, a7, -⟩ := hR.1.1
  obtain ⟨F', C', S', b1, b2, b3, b4, b5, b6, b7, -⟩ := hR.2.1.1
  rw [show (1 + 3 : Nat) = 4 from rfl] at a2
  rw [show (12 + 3 : Nat) = 15 from rfl] at b2
  have n0 : M 1 56 = q := q3
  have n1 : M 1 57 = C := a7
  have n2 : M 1 773 = p := p3
  have n3 : M 1 774 = C' := b7
  obtain ⟨d0, hd0⟩ : ∃ d : Int, d = if q = 0 ∧ C = 0 then 1 else 0 := ⟨_, rfl⟩
  obtain ⟨d1, hd1⟩ : ∃ d : Int, d = if p = 0 ∧ C' = 0 then 1 else 0 := ⟨_, rfl⟩
  have o0 : d0 = 0 ∨ d0 = 1 := by rw [hd0]; split <;> omega
  have o1 : d1 = 0 ∨ d1 = 1 := by rw [hd1]; split <;> omega
  have st : ∀ (e c l : Nat) (k8 : Int → Int → Option Int) (x : Int) (i j : Nat), i = 56 + 717 * e → j = i + 1 → e < 2 → M 1 i = (c : Int) → M 1 j = (l : Int) → c ≤ 1000 → l ≤ 1000 → ((f_m_of (e : Int) 0 M).bind fun q1 => if xw q1 = 0 then (f_m_of (e : Int) 1 M).bind fun q2 => if xw q2 = 0 then f_m_isDone_37 M k8 (e : Int) 1 x else f_m_isDone_36 M k8 (e : Int) x else f_m_isDone_36 M k8 (e : Int) x) = k8 (xiand x (if c = 0 ∧ l = 0 then 1 else 0)) ((e : Int) + 1) := by
    intro e c l k8 x i j hi hj he hc hl hc2 hl2
    rw [m_of (i := i) M (by omega) (by omega), b_bs, hc, b_xw (by omega)]
    by_cases h0 : c = 0
    · rw [if_pos (by omega), m_of (i := j) M (by omega) (by omega), b_bs, hl, b_xw (by omega)]
      by_cases h1 : l = 0
      · rw [if_pos (by omega), if_pos ⟨h0, h1⟩]; rfl
      · rw [if_neg (by omega), if_neg (fun z => h1 z.2)]; rfl
    · rw [if_neg (by omega), if_neg (fun z => h0 z.1)]; rfl
  have z0 : xw (0 : Int) < xw 2 := by decide
  have z1 : xw ((0 : Int) + 1) < xw 2 := by decide
  have z2 : ¬ xw ((0 : Int) + 1 + 1) < xw 2 := by decide
  obtain ⟨a, ha⟩ : ∃ a : Int, a = if m 0 8 = 2 then 1 else 0 := ⟨_, rfl⟩
  have oa : a = 0 ∨ a = 1 := by rw [ha]; split <;> omega
  have eM : f_m_isDone M = some (xiand (xiand a d0) d1) := by
    unfold f_m_isDone
    have t0 := st 0 q C (f_m_isDone_8 M 4999) a 56 57 rfl rfl (by omega) n0 n1 (by omega) (by omega)
    have t1 := st 1 p C' (f_m_isDone_8 M 4998) (xiand a d0) 773 774 rfl rfl (by omega) n2 n3 (by omega) (by omega)
    have t0' : ((f_m_of 0 0 M).bind fun q1 => if xw q1 = 0 then (f_m_of 0 1 M).bind fun q2 => if xw q2 = 0 then f_m_isDone_37 M (f_m_isDone_8 M 4999) 0 1 a else f_m_isDone_36 M (f_m_isDone_8 M 4999) 0 a else f_m_isDone_36 M (f_m_isDone_8 M 4999) 0 a) = f_m_isDone_8 M 4999 (xiand a d0) (0 + 1) := by rw [hd0]; exact t0
    have t1' : ((f_m_of (0 + 1) 0 M).bind fun q1 => if xw q1 = 0 then (f_m_of (0 + 1) 1 M).bind fun q2 => if xw q2 = 0 then f_m_isDone_37 M (f_m_isDone_8 M 4998) (0 + 1) 1 (xiand a d0) else f_m_isDone_36 M (f_m_isDone_8 M 4998) (0 + 1) (xiand a d0) else f_m_isDone_36 M (f_m_isDone_8 M 4998) (0 + 1) (xiand a d0)) = f_m_isDone_8 M 4998 (xiand (xiand a d0) d1) (0 + 1 + 1) := by rw [hd1]; exact t1
    have zb : xbz (xiand (xiand a d0) d1) := by
      rcases oa with rfl | rfl <;> rcases o0 with rfl | rfl <;> rcases o1 with rfl | rfl <;> decide
    rw [m_isPhase 2 M (by rw [s1]; exact s8) (by omega), b_bs, s1, ← ha, show fu = 4999 + 1 from rfl, f_m_isDone_8, if_pos z0, t0', show (4999 : Nat) = 4998 + 1 from rfl, f_m_isDone_8, if_pos z1, t1', show (4998 : Nat) = 4997 + 1 from rfl, f_m_isDone_8, if_neg z2, if_pos zb]
  have e2 : (xw (m 0 8) = xw 2) ↔ m 0 8 = 2 := by rw [b_xw (by omega), b_xw (by omega)]
  have e3 : (xw (m 1 5) = 0) ↔ q = 0 := by rw [q2, b_xw (by omega)]; omega
  have e4 : (xw (m 12 5) = 0) ↔ p = 0 := by rw [p2, b_xw (by omega)]; omega
  have e5 : (xw (m 4 4) = 0) ↔ C = 0 := by rw [a2, b_xw (by omega)]; omega
  have e6 : (xw (m 15 4) = 0) ↔ C' = 0 := by rw [b2, b_xw (by omega)]; omega
  refine ⟨xiand (xiand a d0) d1, ?_, ?_, eM, ?_⟩
  · rcases oa with rfl | rfl <;> rcases o0 with rfl | rfl <;> rcases o1 with rfl | rfl <;> decide
  · unfold f_L_finished
    rw [b_and1 _ _ (by rcases oa with rfl | rfl <;> rcases o0 with rfl | rfl <;> decide) o1, b_and1 a d0 oa o0]
    by_cases c1 : m 0 8 = 2
    · rw [if_pos (e2.mpr c1)]
      rw [if_pos c1] at ha
      by_cases c2 : q = 0
      · rw [if_pos (e3.mpr c2)]
        by_cases c3 : p = 0
        · rw [if_pos (e4.mpr c3)]
          by_cases c4 : C = 0
          · rw [if_pos (e5.mpr c4)]
            rw [if_pos ⟨c2, c4⟩] at hd0
            by_cases c5 : C' = 0
            · rw [if_pos (e6.mpr c5)]
              rw [if_pos ⟨c3, c5⟩] at hd1
              rw [ha, hd0, hd1]; rfl
            · rw [if_neg (fun z => c5 (e6.mp z))]
              rw [if_neg (fun z => c5 z.2)] at hd1
              rw [hd1, if_neg (by omega)]
          · rw [if_neg (fun z => c4 (e5.mp z))]
            rw [if_neg (fun z => c4 z.2)] at hd0
            rw [hd0, if_neg (by rw [if_neg (by omega)]; omega)]
        · rw [if_neg (fun z => c3 (e4.mp z))]
          rw [if_neg (fun z => c3 z.1)] at hd1
          rw [hd1, if_neg (by omega)]
      · rw [if_neg (fun z => c2 (e3.mp z))]
        rw [if_neg (fun z => c2 z.1)] at hd0
        rw [hd0, if_neg (by rw [if_neg (by omega)]; omega)]
    · rw [if_neg (fun z => c1 (e2.mp z))]
      rw [if_neg c1] at ha
      rw [ha, if_neg (by rw [if_neg (by omega)]; omega)]
  · intro hd
    by_cases c1 : m 0 8 = 2
    · exact c1
    · rw [if_neg c1] at ha
      rw [ha] at hd
      rcases o0 with rfl | rfl <;> rcases o1 with rfl | rfl <;> exact absurd hd (by decide)
theorem L_finish_sp : ∀ (k x n n' : Nat) (m M : xM), x + k = 400 → k < n → k + 1 < n' → bLine m M → m 0 7 + k + 1 ≤ 1000000 → ∃ (r : Int) (m' M' : xM), f_L_runToFinish_2 n (x : Int) m = some (r, m') ∧ f_m_finishOf_2 n' (x : Int) M = some (r, M') ∧ (-1 ≤ r ∧ r ≤ 400) ∧ (∀ k, 33 ≤ k → k ≤ 37 → m' k = m k) ∧ bMK M M' := by
  intro k
  induction k with
  | zero =>
    intro x n n' m M h1 h2 h3 h4 h5
    obtain ⟨n, rfl⟩ : ∃ z, n = z + 1 := ⟨n - 1, by omega⟩
    obtain ⟨n', rfl⟩ : ∃ z, n' = z + 1 := ⟨n' - 1, by omega⟩
    obtain ⟨n', rfl⟩ : ∃ z, n' = z + 1 := ⟨n' - 1, by omega⟩
    obtain ⟨d, o, f1, f2, f3⟩ := L_done_sp m M h4
    have s1 : M 1 1 = m 0 8 := h4.1.2.2.2.2.2.2.1
    have s8 := h4.1.2.2.2.2.2.2.2.2.2.2.2.2.2.1
    obtain ⟨m1, M1, p1, p2, p3, ⟨p4, p5⟩, p6⟩ := L_tick_sp m M h4 (by omega)
    have hx : x = 400 := by omega
    subst hx
    have c1 : ¬ xw ((400 : Nat) : Int) < xw 400 := by decide
    have c2 : ¬ xw 400 < xw ((400 : Nat) : Int) := by decide
    have c3 : xw 400 < xw (((400 : Nat) : Int) + 1) := by decide
    have z0 : xw (0 : Int) = 0 := by decide
    have z1 : ¬ xw (1 : Int) = 0 := by decide
    rw [f_L_runToFinish_2, if_neg c1, f_m_finishOf_2, if_neg c2, m_isPhase 0 M (by rw [s1]; exact s8) (by omega), b_bs, s1]
    unfold f_L_runToFinish_37
    rw [f1, b_bs]
    rcases o with rfl | rfl
    · rw [if_pos z0]
      by_cases h0 : m 0 8 = 0
      · rw [if_pos h0, if_neg z1]
        exact ⟨-1, m, M, rfl, rfl, by omega, fun _ _ _ => rfl, bMK.refl M⟩
      · rw [if_neg h0, if_pos z0, f2, b_bs, if_pos z0, p2, b_bs, f_m_finishOf_2, if_pos c3]
        exact ⟨-1, m, M1, rfl, rfl, by omega, fun _ _ _ => rfl, p6⟩
    · have h2 := f3 rfl
      rw [if_neg z1, if_neg (show ¬ m 0 8 = 0 by omega), if_pos z0, f2, b_bs, if_neg z1]
      exact ⟨400, m, M, rfl, rfl, by omega, fun _ _ _ => rfl, bMK.refl M⟩
  | succ k ih =>
    intro x n n' m M h1 h2 h3 h4 h5
    obtain ⟨n, rfl⟩ : ∃ z, n = z + 1 := ⟨n - 1, by omega⟩
    obtain ⟨n', rfl⟩ : ∃ z, n' = z + 1 := ⟨n' - 1, by omega⟩
    obtain ⟨d, o, f1, f2, f3⟩ := L_done_sp m M h4
    have s1 : M 1 1 = m 0 8 := h4.1.2.2.2.2.2.2.1
    have s8 := h4.1.2.2.2.2.2.2.2.2.2.2.2.2.2.1
    have c1 : xw (x : Int) < xw 400 := by rw [b_xw (by omega), b_xw (by omega)]; omega
    have c2 : ¬ xw 400 < xw (x : Int) := by rw [b_xw (by omega), b_xw (by omega)]; omega
    have z0 : xw (0 : Int) = 0 := by decide
    have z1 : ¬ xw (1 : Int) = 0 := by decide
    have e8 : (xw (m 0 8) = 0) ↔ m 0 8 = 0 := by rw [b_xw (by omega)]
    rw [f_L_runToFinish_2, if_pos c1, f_m_finishOf_2, if_neg c2, m_isPhase 0 M (by rw [s1]; exact s8) (by omega), b_bs, s1]
    by_cases h0 : m 0 8 = 0
    · rw [if_pos (e8.mpr h0), if_pos h0, if_neg z1]
      exact ⟨-1, m, M, rfl, rfl, by omega, fun _ _ _ => rfl, bMK.refl M⟩
    · rw [if_neg (fun z => h0 (e8.mp z)), if_neg h0, if_pos z0, f1, f2, b_bs, b_bs]
      rcases o with rfl | rfl
      · obtain ⟨m1, M1, p1, p2, p3, ⟨p4, p5⟩, p6⟩ := L_tick_sp m M h4 (by omega)
        rw [if_pos z0, if_pos z0, p1, p2, b_bs, b_bs, show (x : Int) + 1 = ((x + 1 : Nat) : Int) by omega]
        obtain ⟨r, m2, M2, q1, q2, q3, q4, q5⟩ := ih (x + 1) n n' m1 M1 (by omega) (by omega) (by omega) p3 (by omega)
        exact ⟨r, m2, M2, q1, q2, q3, fun k k1 k2 => by rw [q4 k k1 k2, p5 k k1 k2], p6.trans q5⟩
      · rw [if_neg z1, if_neg z1]
        exact ⟨x, m, M, rfl, rfl, by omega, fun _ _ _ => rfl, bMK.refl M⟩

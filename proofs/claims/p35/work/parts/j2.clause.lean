/-! ===== the reference reads clauses and a whole text ===== -/
section
variable {T : List Nat} {M : xM} {K' : Int} {b' r r' R : List Nat}
theorem hd_sep2 (L R : List Nat) : hd (sep L ++ (59 :: R)) 2 := by
  cases L with
  | nil => exact hd_c (by decide)
  | cons y L =>
    rw [sep_cons]
    exact hd_c (by decide)
theorem hd_sep1 (L R : List Nat) : hd (sep L ++ (59 :: R)) 1 := by
  cases L with
  | nil => exact hd_c (by decide)
  | cons y L =>
    rw [sep_cons]
    exact hd_c (by decide)
theorem tk_sep {v : Nat} (hv : v < 100) (L R : List Nat) : tk (sep (v :: L) ++ (59 :: R)) 2 (dgN v) (sep L ++ (59 :: R)) := by
  have e : sep (v :: L) ++ (59 :: R) = 32 :: (dgN v ++ (sep L ++ (59 :: R))) := by
    rw [sep_cons]
    simp only [List.cons_append, List.append_assoc]
  rw [e]
  exact tk_num hv (hd_sep2 L R)
theorem tk_59 (R : List Nat) : tk (59 :: R) 3 [59] R := tk_sym (by decide) R
/-- the end of a clause -/
theorem c_154 (h : rC T M 3 [59] R) (ht : tk R K' b' r') : ∃ M' : xM, f_m_readClause_154 M = some M' ∧ rC T M' K' b' r' ∧ M' 2 = M 2 ∧ sM M M' := by
  obtain ⟨M', m1, m2, m3, m4⟩ := r_expect h (by omega) ht
  have m1' : f_m_expect 59 M = some M' := m1
  refine ⟨M', ?_, m2, m4 2 (by omega), m3, fun k a _ => m4 k a⟩
  unfold f_m_readClause_154
  rw [m1', Option.bind_some]

theorem c_13 {v : Nat} (h : rC T M 1 (wb 13) (sep [v] ++ (59 :: R))) (hv : 0 ≤ v ∧ v ≤ 9) (ht : tk R K' b' r') : ∃ M' : xM, f_m_readClause M = some M' ∧ rC T M' K' b' r' ∧ M' 2 = ups (M 2) [(12, (v : Int))] ∧ sM M M' := by
  obtain ⟨M1, a1, a2, a3, a4⟩ := r_acceptY h (by omega) (tk_sep (by omega) [] R)
  obtain ⟨M2, b1, b2, b3, b4⟩ := r_one (f := 12) (a := 0) (b := 9) a2 (by omega) hv (by omega) (by omega) (tk_59 R)
  obtain ⟨M3, c1, c2, c3, c4⟩ := c_154 b2 ht
  have s1 : sM M M1 := ⟨a3, fun k x _ => a4 k x⟩
  have b1' : f_m_readOne 12 0 9 M1 = some M2 := b1
  refine ⟨M3, ?_, c2, by rw [c3, b3, a4 2 (by omega)], (s1.tr b4).tr c4⟩
  unfold f_m_readClause
  rw [r_acceptN h (i := 12) (by omega) (wb_df 13 (by omega) 12 (by omega) ⟨by omega, by omega, by omega⟩), Option.bind_some, if_pos (show xw (0 : Int) = 0 by decide), a1, Option.bind_some, if_neg (show ¬ xw (1 : Int) = 0 by decide), b1', Option.bind_some, c1]
theorem c_14 {v : Nat} (h : rC T M 1 (wb 14) (sep [v] ++ (59 :: R))) (hv : 0 ≤ v ∧ v ≤ 50) (ht : tk R K' b' r') : ∃ M' : xM, f_m_readClause M = some M' ∧ rC T M' K' b' r' ∧ M' 2 = ups (M 2) [(13, (v : Int))] ∧ sM M M' := by
  obtain ⟨M1, a1, a2, a3, a4⟩ := r_acceptY h (by omega) (tk_sep (by omega) [] R)
  obtain ⟨M2, b1, b2, b3, b4⟩ := r_one (f := 13) (a := 0) (b := 50) a2 (by omega) hv (by omega) (by omega) (tk_59 R)
  obtain ⟨M3, c1, c2, c3, c4⟩ := c_154 b2 ht
  have s1 : sM M M1 := ⟨a3, fun k x _ => a4 k x⟩
  have b1' : f_m_readOne 13 0 50 M1 = some M2 := b1
  refine ⟨M3, ?_, c2, by rw [c3, b3, a4 2 (by omega)], (s1.tr b4).tr c4⟩
  unfold f_m_readClause
  rw [r_acceptN h (i := 12) (by omega) (wb_df 14 (by omega) 12 (by omega) ⟨by omega, by omega, by omega⟩), Option.bind_some, if_pos (show xw (0 : Int) = 0 by decide), r_acceptN h (i := 13) (by omega) (wb_df 14 (by omega) 13 (by omega) ⟨by omega, by omega, by omega⟩), Option.bind_some, if_pos (show xw (0 : Int) = 0 by decide), a1, Option.bind_some, if_neg (show ¬ xw (1 : Int) = 0 by decide), b1', Option.bind_some, c1]
theorem c_15 {v : Nat} (h : rC T M 1 (wb 15) (sep [v] ++ (59 :: R))) (hv : 1 ≤ v ∧ v ≤ 7) (ht : tk R K' b' r') : ∃ M' : xM, f_m_readClause M = some M' ∧ rC T M' K' b' r' ∧ M' 2 = ups (M 2) [(14, (v : Int))] ∧ sM M M' := by
  obtain ⟨M1, a1, a2, a3, a4⟩ := r_acceptY h (by omega) (tk_sep (by omega) [] R)
  obtain ⟨M2, b1, b2, b3, b4⟩ := r_one (f := 14) (a := 1) (b := 7) a2 (by omega) hv (by omega) (by omega) (tk_59 R)
  obtain ⟨M3, c1, c2, c3, c4⟩ := c_154 b2 ht
  have s1 : sM M M1 := ⟨a3, fun k x _ => a4 k x⟩
  have b1' : f_m_readOne 14 1 7 M1 = some M2 := b1
  refine ⟨M3, ?_, c2, by rw [c3, b3, a4 2 (by omega)], (s1.tr b4).tr c4⟩
  unfold f_m_readClause
  rw [r_acceptN h (i := 12) (by omega) (wb_df 15 (by omega) 12 (by omega) ⟨by omega, by omega, by omega⟩), Option.bind_some, if_pos (show xw (0 : Int) = 0 by decide), r_acceptN h (i := 13) (by omega) (wb_df 15 (by omega) 13 (by omega) ⟨by omega, by omega, by omega⟩), Option.bind_some, if_pos (show xw (0 : Int) = 0 by decide), r_acceptN h (i := 14) (by omega) (wb_df 15 (by omega) 14 (by omega) ⟨by omega, by omega, by omega⟩), Option.bind_some, if_pos (show xw (0 : Int) = 0 by decide), a1, Option.bind_some, if_neg (show ¬ xw (1 : Int) = 0 by decide), b1', Option.bind_some, c1]
theorem c_17 {v : Nat} (h : rC T M 1 (wb 17) (sep [v] ++ (59 :: R))) (hv : 1 ≤ v ∧ v ≤ 5) (ht : tk R K' b' r') : ∃ M' : xM, f_m_readClause M = some M' ∧ rC T M' K' b' r' ∧ M' 2 = ups (M 2) [(17, (v : Int))] ∧ sM M M' := by
  obtain ⟨M1, a1, a2, a3, a4⟩ := r_acceptY h (by omega) (tk_sep (by omega) [] R)
  obtain ⟨M2, b1, b2, b3, b4⟩ := r_one (f := 17) (a := 1) (b := 5) a2 (by omega) hv (by omega) (by omega) (tk_59 R)
  obtain ⟨M3, c1, c2, c3, c4⟩ := c_154 b2 ht
  have s1 : sM M M1 := ⟨a3, fun k x _ => a4 k x⟩
  have b1' : f_m_readOne 17 1 5 M1 = some M2 := b1
  refine ⟨M3, ?_, c2, by rw [c3, b3, a4 2 (by omega)], (s1.tr b4).tr c4⟩
  unfold f_m_readClause
  rw [r_acceptN h (i := 12) (by omega) (wb_df 17 (by omega) 12 (by omega) ⟨by omega, by omega, by omega⟩), Option.bind_some, if_pos (show xw (0 : Int) = 0 by decide), r_acceptN h (i := 13) (by omega) (wb_df 17 (by omega) 13 (by omega) ⟨by omega, by omega, by omega⟩), Option.bind_some, if_pos (show xw (0 : Int) = 0 by decide), r_acceptN h (i := 14) (by omega) (wb_df 17 (by omega) 14 (by omega) ⟨by omega, by omega, by omega⟩), Option.bind_some, if_pos (show xw (0 : Int) = 0 by decide), r_acceptN h (i := 15) (by omega) (wb_df 17 (by omega) 15 (by omega) ⟨by omega, by omega, by omega⟩), Option.bind_some, if_pos (show xw (0 : Int) = 0 by decide), r_acceptN h (i := 16) (by omega) (wb_df 17 (by omega) 16 (by omega) ⟨by omega, by omega, by omega⟩), Option.bind_some, if_pos (show xw (0 : Int) = 0 by decide), a1, Option.bind_some, if_neg (show ¬ xw (1 : Int) = 0 by decide), b1', Option.bind_some, c1]
theorem c_18 {v : Nat} (h : rC T M 1 (wb 18) (sep [v] ++ (59 :: R))) (hv : 1 ≤ v ∧ v ≤ 50) (ht : tk R K' b' r') : ∃ M' : xM, f_m_readClause M = some M' ∧ rC T M' K' b' r' ∧ M' 2 = ups (M 2) [(18, (v : Int))] ∧ sM M M' := by
  obtain ⟨M1, a1, a2, a3, a4⟩ := r_acceptY h (by omega) (tk_sep (by omega) [] R)
  obtain ⟨M2, b1, b2, b3, b4⟩ := r_one (f := 18) (a := 1) (b := 50) a2 (by omega) hv (by omega) (by omega) (tk_59 R)
  obtain ⟨M3, c1, c2, c3, c4⟩ := c_154 b2 ht
  have s1 : sM M M1 := ⟨a3, fun k x _ => a4 k x⟩
  have b1' : f_m_readOne 18 1 50 M1 = some M2 := b1
  refine ⟨M3, ?_, c2, by rw [c3, b3, a4 2 (by omega)], (s1.tr b4).tr c4⟩
  unfold f_m_readClause
  rw [r_acceptN h (i := 12) (by omega) (wb_df 18 (by omega) 12 (by omega) ⟨by omega, by omega, by omega⟩), Option.bind_some, if_pos (show xw (0 : Int) = 0 by decide), r_acceptN h (i := 13) (by omega) (wb_df 18 (by omega) 13 (by omega) ⟨by omega, by omega, by omega⟩), Option.bind_some, if_pos (show xw (0 : Int) = 0 by decide), r_acceptN h (i := 14) (by omega) (wb_df 18 (by omega) 14 (by omega) ⟨by omega, by omega, by omega⟩), Option.bind_some, if_pos (show xw (0 : Int) = 0 by decide), r_acceptN h (i := 15) (by omega) (wb_df 18 (by omega) 15 (by omega) ⟨by omega, by omega, by omega⟩), Option.bind_some, if_pos (show xw (0 : Int) = 0 by decide), r_acceptN h (i := 16) (by omega) (wb_df 18 (by omega) 16 (by omega) ⟨by omega, by omega, by omega⟩), Option.bind_some, if_pos (show xw (0 : Int) = 0 by decide), r_acceptN h (i := 17) (by omega) (wb_df 18 (by omega) 17 (by omega) ⟨by omega, by omega, by omega⟩), Option.bind_some, if_pos (show xw (0 : Int) = 0 by decide), a1, Option.bind_some, if_neg (show ¬ xw (1 : Int) = 0 by decide), b1', Option.bind_some, c1]
theorem c_12 {v : Nat} {L : List Nat} (h : rC T M 1 (wb 12) (sep (v :: L) ++ (59 :: R))) (hl : L.length = 3) (hv : ∀ x, x ∈ v :: L → 1 ≤ x ∧ x ≤ 20) (ht : tk R K' b' r') : ∃ M' : xM, f_m_readClause M = some M' ∧ rC T M' K' b' r' ∧ M' 2 = ups (M 2) (trU (v :: L) 0) ∧ sM M M' := by
  obtain ⟨M1, a1, a2, a3, a4⟩ := r_acceptY h (by omega) (tk_sep (by have := hv v List.mem_cons_self; omega) L R)
  obtain ⟨M2, b1, b2, b3, b4⟩ := r_trainL L 0 fu v M1 _ a2 (by omega) (by rw [hl]; show _ < 5000; omega) hv ⟨59 :: R, rfl, hd_c (by decide), tk_59 R⟩
  obtain ⟨M3, c1, c2, c3, c4⟩ := c_154 b2 ht
  have s1 : sM M M1 := ⟨a3, fun k x _ => a4 k x⟩
  have b1' : f_m_readTrain M1 = some M2 := b1
  refine ⟨M3, ?_, c2, by rw [c3, b3, a4 2 (by omega)], (s1.tr b4).tr c4⟩
  unfold f_m_readClause
  rw [a1, Option.bind_some, if_neg (show ¬ xw (1 : Int) = 0 by decide), b1', Option.bind_some, c1]
theorem c_16 {v t : Nat} (h : rC T M 1 (wb 16) (sep [v, t] ++ (59 :: R))) (hv : 1 ≤ v ∧ v ≤ 9) (htt : 2 * v < t ∧ t ≤ 60) (ht : tk R K' b' r') : ∃ M' : xM, f_m_readClause M = some M' ∧ rC T M' K' b' r' ∧ M' 2 = ups (M 2) [(15, (v : Int)), (16, (t : Int))] ∧ sM M M' := by
  obtain ⟨M1, a1, a2, a3, a4⟩ := r_acceptY h (by omega) (tk_sep (by omega) [t] R)
  obtain ⟨M2, b1, b2, b3, b4⟩ := r_delay a2 hv htt (tk_sep (by omega) [] R) (tk_59 R)
  obtain ⟨M3, c1, c2, c3, c4⟩ := c_154 b2 ht
  have s1 : sM M M1 := ⟨a3, fun k x _ => a4 k x⟩
  refine ⟨M3, ?_, c2, by rw [c3, b3, a4 2 (by omega)], (s1.tr b4).tr c4⟩
  unfold f_m_readClause
  rw [r_acceptN h (i := 12) (by omega) (wb_df 16 (by omega) 12 (by omega) ⟨by omega, by omega, by omega⟩), Option.bind_some, if_pos (show xw (0 : Int) = 0 by decide), r_acceptN h (i := 13) (by omega) (wb_df 16 (by omega) 13 (by omega) ⟨by omega, by omega, by omega⟩), Option.bind_some, if_pos (show xw (0 : Int) = 0 by decide), r_acceptN h (i := 14) (by omega) (wb_df 16 (by omega) 14 (by omega) ⟨by omega, by omega, by omega⟩), Option.bind_some, if_pos (show xw (0 : Int) = 0 by decide), r_acceptN h (i := 15) (by omega) (wb_df 16 (by omega) 15 (by omega) ⟨by omega, by omega, by omega⟩), Option.bind_some, if_pos (show xw (0 : Int) = 0 by decide), a1, Option.bind_some, if_neg (show ¬ xw (1 : Int) = 0 by decide), b1, Option.bind_some, c1]
theorem c_19 {v : Nat} {L : List Nat} (h : rC T M 1 (wb 19) (sep (v :: L) ++ (59 :: R))) (hl : L.length ≤ 9) (hv : ∀ x, x ∈ v :: L → x ≤ 9) (ht : tk R K' b' r') : ∃ M' : xM, f_m_readClause M = some M' ∧ rC T M' K' b' r' ∧ M' 2 = ups (M 2) ((19, 0) :: noU (v :: L) 0) ∧ sM M M' := by
  obtain ⟨M1, a1, a2, a3, a4⟩ := r_expectWord h (by omega) (tk_sep (by have := hv v List.mem_cons_self; omega) L R)
  obtain ⟨e18, e17⟩ := a2.e18
  obtain ⟨M2, b1, b2, b3, b4⟩ := r_noise L 0 fu v (xu M1 2 19 0) _ (a2.up 19 0) (xu_s rfl) (by omega) (by show _ < 5000; omega) hv ⟨59 :: R, rfl, hd_c (by decide), tk_59 R⟩ rfl
  obtain ⟨M3, c1, c2, c3, c4⟩ := c_154 b2 ht
  have s1 : sM M M1 := ⟨a3, fun k x _ => a4 k x⟩
  have b1' : f_m_readNoise M1 = some M2 := by
    unfold f_m_readNoise f_m_readNoise_24 f_m_readNoise_29
    rw [if_pos (by decide), e18, if_pos (by decide), e17, if_pos rfl, r_check (by decide), Option.bind_some]
    exact b1
  refine ⟨M3, ?_, c2, by rw [c3, b3, xu2, a4 2 (by omega)]; rfl, ((s1.tr (sM.up _ _ _)).tr b4).tr c4⟩
  unfold f_m_readClause
  rw [r_acceptN h (i := 12) (by omega) (wb_df 19 (by omega) 12 (by omega) ⟨by omega, by omega, by omega⟩), Option.bind_some, if_pos (show xw (0 : Int) = 0 by decide), r_acceptN h (i := 13) (by omega) (wb_df 19 (by omega) 13 (by omega) ⟨by omega, by omega, by omega⟩), Option.bind_some, if_pos (show xw (0 : Int) = 0 by decide), r_acceptN h (i := 14) (by omega) (wb_df 19 (by omega) 14 (by omega) ⟨by omega, by omega, by omega⟩), Option.bind_some, if_pos (show xw (0 : Int) = 0 by decide), r_acceptN h (i := 15) (by omega) (wb_df 19 (by omega) 15 (by omega) ⟨by omega, by omega, by omega⟩), Option.bind_some, if_pos (show xw (0 : Int) = 0 by decide), r_acceptN h (i := 16) (by omega) (wb_df 19 (by omega) 16 (by omega) ⟨by omega, by omega, by omega⟩), Option.bind_some, if_pos (show xw (0 : Int) = 0 by decide), r_acceptN h (i := 17) (by omega) (wb_df 19 (by omega) 17 (by omega) ⟨by omega, by omega, by omega⟩), Option.bind_some, if_pos (show xw (0 : Int) = 0 by decide), r_acceptN h (i := 18) (by omega) (wb_df 19 (by omega) 18 (by omega) ⟨by omega, by omega, by omega⟩), Option.bind_some, if_pos (show xw (0 : Int) = 0 by decide), a1, Option.bind_some, b1', Option.bind_some, c1]
theorem ups3 (D : Nat → Int) (k : Nat) (s n x : Int) : ups D [(35 + k, s), (40 + k, n), (11, x)] = xup (xup (xup D (35 + k) s) (40 + k) n) 11 x := rfl
theorem ups1 (D : Nat → Int) (f : Nat) (v : Int) : ups D [(f, v)] = xup D f v := rfl
/-- rates behind the first -/
def rtx : List (Nat × Nat) → List Nat
  | [] => []
  | p :: R => 44 :: (dgN p.1 ++ (32 :: (dgN p.2 ++ rtx R)))
def rl : List (Nat × Nat) → Nat → List (Nat × Int)
  | [], _ => []
  | p :: R, k => [(35 + k, (p.1 : Int)), (40 + k, (p.2 : Int)), (11, ((k + 1 : Nat) : Int))] ++ rl R (k + 1)
/-- speeds and needs rise -/
def rOk : Nat → Nat → List (Nat × Nat) → Prop
  | _, _, [] => True
  | a, b, p :: R => (a < p.1 ∧ 4 ≤ p.1 ∧ p.1 ≤ 80) ∧ (b < p.2 ∧ 1 ≤ p.2 ∧ p.2 ≤ 9) ∧ rOk p.1 p.2 R
theorem hd_rtx2 (Q : List (Nat × Nat)) (R : List Nat) : hd (rtx Q ++ (59 :: R)) 2 := by
  cases Q with
  | nil => exact hd_c (by decide)
  | cons p Q => exact hd_c (by decide)
theorem r_rates : ∀ (Q : List (Nat × Nat)) (k n ps pn : Nat) (M : xM) (b : List Nat) (r : List Nat), rC T M 3 b r → b ++ r = rtx Q ++ (59 :: R) → k + Q.length ≤ 5 → 1 ≤ k → Q.length < n → M 2 11 = (k : Int) → M 2 (35 + (k - 1)) = (ps : Int) → M 2 (40 + (k - 1)) = (pn : Int) → rOk ps pn Q → b.length = 1 → ∃ M' : xM, f_m_readAll_32 n M = f_m_readAll_80 M' ∧ rC T M' 3 [59] R ∧ M' 2 = ups (M 2) (rl Q k) ∧ sM M M'
  | [], k, n, ps, pn, M, b, r, h, e, h1, h2, h3, h4, h5, h6, h7, hb => by
    obtain ⟨n, rfl⟩ : ∃ z, n = z + 1 := ⟨n - 1, by omega⟩
    obtain ⟨y, hy⟩ : ∃ y, b = [y] := List.length_eq_one_iff.mp hb
    subst hy
    have e' : y = 59 ∧ r = R := by
      have : y :: r = 59 :: R := e
      injection this with q1 q2
      exact ⟨q1, q2⟩
    obtain ⟨q1, q2⟩ := e'
    subst q1 q2
    obtain ⟨e18, e17⟩ := h.e18
    refine ⟨M, ?_, h, rfl, sM.rf M⟩
    have s44 : f_m_isSymbol 44 M = some 0 := by
      have := r_isSymbol h 44 (by omega) (fun _ => rfl) (by omega)
      rw [if_neg (fun w => absurd w.2 (by decide))] at this
      exact this
    rw [f_m_readAll_32, e18, if_pos (by decide), s44, Option.bind_some, if_pos (by decide)]
  | p :: Q, k, n, ps, pn, M, b, r, h, e, h1, h2, h3, h4, h5, h6, h7, hb => by
    obtain ⟨n, rfl⟩ : ∃ z, n = z + 1 := ⟨n - 1, by omega⟩
    rw [List.length_cons] at h1 h3
    obtain ⟨y, hy⟩ : ∃ y, b = [y] := List.length_eq_one_iff.mp hb
    subst hy
    have e' : y = 44 ∧ r = dgN p.1 ++ (32 :: (dgN p.2 ++ (rtx Q ++ (59 :: R)))) := by
      have : y :: r = 44 :: ((dgN p.1 ++ (32 :: (dgN p.2 ++ rtx Q))) ++ (59 :: R)) := e
      injection this with q1 q2
      exact ⟨q1, by rw [q2]; simp only [List.append_assoc, List.cons_append]⟩
    obtain ⟨q1, q2⟩ := e'
    subst q1
    rw [q2] at h
    obtain ⟨⟨g1, g2⟩, ⟨g3, g4⟩, g5⟩ := h7
    obtain ⟨e18, e17⟩ := h.e18
    obtain ⟨M1, a1, a2, a3, a4⟩ := r_advance h (tk_num0 (by omega) (hd_c (by decide)))
    -- the symbol behind the rate
    obtain ⟨c, r9, hc, hr9⟩ : ∃ (c : Nat) (r9 : List Nat), rtx Q ++ (59 :: R) = c :: r9 ∧ (c = 44 ∨ c = 59) := by
      cases Q with
      | nil => exact ⟨59, R, rfl, Or.inr rfl⟩
      | cons p' Q' => exact ⟨44, _, rfl, Or.inl rfl⟩
    have hk : tk (rtx Q ++ (59 :: R)) 3 [c] r9 := by
      rw [hc]
      exact tk_sym (by rcases hr9 with w | w <;> (rw [w]; decide)) r9
    have d2 := a4 2 (by omega)
    obtain ⟨M2, b1, b2, b3, b4⟩ := r_rate (k := k) (ps := ps) (pn := pn) a2 (by omega) (by rw [d2]; exact h4) g2 g4 (fun _ => ⟨by rw [d2]; exact h5, g1⟩) (fun _ => ⟨by rw [d2]; exact h6, g3⟩) (tk_num (by omega) (hd_rtx2 Q R)) hk
    have s1 : sM M M1 := ⟨a3, fun k x _ => a4 k x⟩
    have v11 : M2 2 11 = ((k + 1 : Nat) : Int) := by
      rw [b3, ups3]
      unfold xup
      rw [if_pos rfl]
    have v35 : M2 2 (35 + (k + 1 - 1)) = (p.1 : Int) := by
      rw [b3, ups3]
      unfold xup
      rw [if_neg (by omega), if_neg (by omega), if_pos (by omega)]
    have v40 : M2 2 (40 + (k + 1 - 1)) = (p.2 : Int) := by
      rw [b3, ups3]
      unfold xup
      rw [if_neg (by omega), if_pos (by omega)]
    obtain ⟨M3, c1, c2, c3, c4⟩ := r_rates Q (k + 1) n p.1 p.2 M2 [c] r9 b2 hc.symm (by omega) (by omega) (by omega) v11 v35 v40 g5 rfl
    refine ⟨M3, ?_, c2, ?_, (s1.tr b4).tr c4⟩
    · have s44 : f_m_isSymbol 44 M = some 1 := by
        have := r_isSymbol h 44 (by omega) (fun _ => rfl) (by omega)
        rw [if_pos ⟨rfl, rfl⟩] at this
        exact this
      rw [f_m_readAll_32, e18, if_pos (by decide), s44, Option.bind_some, if_neg (by decide), if_pos (by decide), h4, if_pos (by rw [xw_nat (by omega), show xw 5 = 5 by decide]; omega)]
      unfold f_m_readAll_65
      rw [r_check (by decide), Option.bind_some, a1, Option.bind_some, b1, Option.bind_some]
      exact c1
    · rw [c3, b3, d2, ← ups_app]
      rfl
/-- the head of a text: quality and rates -/
def txH (q : Nat) (p : Nat × Nat) (Q : List (Nat × Nat)) (R : List Nat) : List Nat := wb 10 ++ (sep [q] ++ (59 :: (wb 11 ++ (32 :: (dgN p.1 ++ (32 :: (dgN p.2 ++ (rtx Q ++ (59 :: R)))))))))
theorem r_head {q : Nat} {p : Nat × Nat} {Q : List (Nat × Nat)} (h : rC (txH q p Q R) M 1 (wb 10) (sep [q] ++ (59 :: (wb 11 ++ (32 :: (dgN p.1 ++ (32 :: (dgN p.2 ++ (rtx Q ++ (59 :: R))))))))))  (hq : q ≤ 9) (hp : rOk 0 0 (p :: Q)) (hl : Q.length ≤ 4) (hD : M 2 11 = 0) (ht : tk R K' b' r') : ∃ M' : xM, f_m_readAll M = f_m_readAll_86 fu M' ∧ rC (txH q p Q R) M' K' b' r' ∧ M' 2 = ups (M 2) ((2, (q : Int)) :: rl (p :: Q) 0) ∧ sM M M' := by
  obtain ⟨⟨g1, g2⟩, ⟨g3, g4⟩, g5⟩ := hp
  obtain ⟨M1, a1, a2, a3, a4⟩ := r_expectWord h (by omega) (tk_sep (by omega) [] _)
  obtain ⟨M2, b1, b2, b3, b4⟩ := r_one (f := 2) (a := 0) (b := 9) a2 (by omega) ⟨by omega, hq⟩ (by omega) (by omega) (tk_59 _)
  obtain ⟨M3, c1, c2, c3, c4⟩ := r_expect b2 (by omega) (tk_word (i := 11) (by omega) (hd_c (by decide)))
  obtain ⟨M4, d1, d2, d3, d4⟩ := r_expectWord c2 (by omega) (tk_num (by omega) (hd_c (by decide)))
  obtain ⟨c, r9, hc, hr9⟩ : ∃ (c : Nat) (r9 : List Nat), rtx Q ++ (59 :: R) = c :: r9 ∧ (c = 44 ∨ c = 59) := by
    cases Q with
    | nil => exact ⟨59, R, rfl, Or.inr rfl⟩
    | cons p' Q' => exact ⟨44, _, rfl, Or.inl rfl⟩
  have hk : tk (rtx Q ++ (59 :: R)) 3 [c] r9 := by
    rw [hc]
    exact tk_sym (by rcases hr9 with w | w <;> (rw [w]; decide)) r9
  have z4 : M4 2 = ups (M 2) [(2, (q : Int))] := by rw [d4 2 (by omega), c4 2 (by omega), b3, a4 2 (by omega)]
  have z11 : M4 2 11 = ((0 : Nat) : Int) := by
    rw [z4, ups1]
    unfold xup
    rw [if_neg (by omega), hD]
    rfl
  obtain ⟨M5, e1, e2, e3, e4⟩ := r_rate (k := 0) (ps := 0) (pn := 0) d2 (by omega) z11 g2 g4 (fun w => absurd rfl w) (fun w => absurd rfl w) (tk_num (by omega) (hd_rtx2 Q R)) hk
  have v11 : M5 2 11 = ((1 : Nat) : Int) := by
    rw [e3, ups3]
    unfold xup
    rw [if_pos rfl]
  have v35 : M5 2 (35 + (1 - 1)) = (p.1 : Int) := by
    rw [e3, ups3]
    unfold xup
    rw [if_neg (by omega), if_neg (by omega), if_pos (by omega)]
  have v40 : M5 2 (40 + (1 - 1)) = (p.2 : Int) := by
    rw [e3, ups3]
    unfold xup
    rw [if_neg (by omega), if_pos (by omega)]
  obtain ⟨M6, f1, f2, f3, f4⟩ := r_rates Q 1 fu p.1 p.2 M5 [c] r9 e2 hc.symm (by omega) (by omega) (by show _ < 5000; omega) v11 v35 v40 g5 rfl
  obtain ⟨M7, k1, k2, k3, k4⟩ := r_expect f2 (by omega) ht
  have b1' : f_m_readOne 2 0 9 M1 = some M2 := b1
  have c1' : f_m_expect 59 M2 = some M3 := c1
  have k1' : f_m_expect 59 M6 = some M7 := k1
  refine ⟨M7, ?_, k2, ?_, ?_⟩
  · unfold f_m_readAll
    rw [a1, Option.bind_some, b1', Option.bind_some, c1', Option.bind_some, d1, Option.bind_some, e1, Option.bind_some, f1]
    unfold f_m_readAll_80
    rw [k1', Option.bind_some]
  · rw [k4 2 (by omega), f3, e3, z4, ← ups_app, ← ups_app]
    rfl
  · have s1 : sM M M1 := ⟨a3, fun k x _ => a4 k x⟩
    have s3 : sM M2 M3 := ⟨c3, fun k x _ => c4 k x⟩
    have s4 : sM M3 M4 := ⟨d3, fun k x _ => d4 k x⟩
    have s7 : sM M6 M7 := ⟨k3, fun k x _ => k4 k x⟩
    exact (((((s1.tr b4).tr s3).tr s4).tr e4).tr f4).tr s7
theorem r_86 {n : Nat} {b : List Nat} {M1 : xM} (h : rC T M 1 b r) (h1 : f_m_readClause M = some M1) : f_m_readAll_86 (n + 1) M = f_m_readAll_86 n M1 := by
  obtain ⟨e18, e17⟩ := h.e18
  rw [f_m_readAll_86, e18, if_pos (by decide), e17, if_neg (by decide), h1, Option.bind_some]
theorem r_86e {n : Nat} {b : List Nat} (h : rC T M 0 b r) : f_m_readAll_86 (n + 1) M = some M := by
  obtain ⟨e18, e17⟩ := h.e18
  rw [f_m_readAll_86, e18, if_pos (by decide), e17, if_pos (by decide)]
end

/-! ===== the reference reads numbers and clauses ===== -/
def ups (D : Nat → Int) (l : List (Nat × Int)) : Nat → Int := l.foldl (fun D p => xup D p.1 p.2) D
theorem ups_app (D : Nat → Int) (l r : List (Nat × Int)) : ups D (l ++ r) = ups (ups D l) r := by unfold ups; rw [List.foldl_append]
theorem ups_cons (D : Nat → Int) (p : Nat × Int) (l : List (Nat × Int)) : ups D (p :: l) = ups (xup D p.1 p.2) l := rfl
/-- nothing but the draft and the place in the text differs -/
def sM (M M' : xM) : Prop := (∀ j, j ≠ 15 → j ≠ 16 → j ≠ 17 → M' 0 j = M 0 j) ∧ ∀ k, k ≠ 0 → k ≠ 2 → M' k = M k
theorem sM.rf (M : xM) : sM M M := ⟨fun _ _ _ _ => rfl, fun _ _ _ => rfl⟩
theorem sM.tr {M M' M'' : xM} (p : sM M M') (q : sM M' M'') : sM M M'' := ⟨fun j a b c => by rw [q.1 j a b c, p.1 j a b c], fun k a b => by rw [q.2 k a b, p.2 k a b]⟩
theorem sM.up (M : xM) (j : Nat) (x : Int) : sM M (xu M 2 j x) := ⟨fun _ _ _ _ => xu_k (by omega), fun k a b => xu_K b⟩
theorem xu2 (M : xM) (j : Nat) (x : Int) : (xu M 2 j x) 2 = xup (M 2) j x := by
  funext i
  unfold xup
  by_cases c : i = j
  · rw [c, xu_s rfl, if_pos rfl]
  · rw [xu_d c, if_neg c]
/-- the next byte is of another kind -/
def hd (r : List Nat) (K : Int) : Prop := ∀ x : Nat, r.head? = some x → bKd (x : Int) ≠ K
theorem hd_c {c : Nat} {r : List Nat} {K : Int} (h : bKd (c : Int) ≠ K) : hd (c :: r) K := fun x hx => by
  cases hx
  exact h
theorem dgN_kd {v : Nat} (hv : v < 100) : ∀ x, x ∈ dgN v → bKd ((x : Nat) : Int) = 2 := by
  have : ∀ v, v < 100 → ∀ x, x ∈ dgN v → bKd ((x : Nat) : Int) = 2 := by decide
  exact this v hv
theorem dgN_ne (v : Nat) : dgN v ≠ [] := fun e => by
  have := (dgN_len v).1
  rw [e] at this
  exact absurd this (by decide)
theorem tk_num {v : Nat} (hv : v < 100) {r : List Nat} (hr : hd r 2) : tk (32 :: (dgN v ++ r)) 2 (dgN v) r := ⟨[32], Or.inr rfl, rfl, Or.inr (Or.inr ⟨Or.inr rfl, dgN_ne v, dgN_kd hv, hr⟩)⟩
theorem tk_num0 {v : Nat} (hv : v < 100) {r : List Nat} (hr : hd r 2) : tk (dgN v ++ r) 2 (dgN v) r := ⟨[], Or.inl rfl, rfl, Or.inr (Or.inr ⟨Or.inr rfl, dgN_ne v, dgN_kd hv, hr⟩)⟩
theorem tk_sym {z : Nat} (h : bKd (z : Int) = 3 ∧ z ≠ 32 ∧ z ≠ 10) (r : List Nat) : tk (z :: r) 3 [z] r := ⟨[], Or.inl rfl, rfl, Or.inr (Or.inl ⟨rfl, z, rfl, h.1, h.2.1, h.2.2⟩)⟩
theorem tk_end : tk [] 0 [] [] := ⟨[], Or.inl rfl, rfl, Or.inl ⟨rfl, rfl, rfl⟩⟩
theorem wb_kd : ∀ i, i < 20 → 10 ≤ i → ∀ x, x ∈ wb i → bKd ((x : Nat) : Int) = 1 := by decide +kernel
theorem wb_ne : ∀ i, i < 20 → 10 ≤ i → wb i ≠ [] := by decide +kernel
theorem wb_df : ∀ i, i < 20 → ∀ j, j < 20 → (10 ≤ i ∧ 10 ≤ j ∧ i ≠ j) → wb i ≠ wb j := by decide +kernel
theorem tk_word {i : Nat} (hi : 10 ≤ i ∧ i < 20) {r : List Nat} (hr : hd r 1) : tk (wb i ++ r) 1 (wb i) r := ⟨[], Or.inl rfl, rfl, Or.inr (Or.inr ⟨Or.inl rfl, wb_ne i hi.2 hi.1, wb_kd i hi.2 hi.1, hr⟩)⟩
section
variable {T : List Nat} {M : xM} {K' : Int} {b' r r' : List Nat}
theorem rC.up {K : Int} {b : List Nat} (h : rC T M K b r) (j : Nat) (x : Int) : rC T (xu M 2 j x) K b r := by
  obtain ⟨pre, h1, h2, h3, h4, h5, h6, h7, h8⟩ := h
  exact ⟨pre, h1, by rw [xu_k (by omega)]; exact h2, by rw [xu_k (by omega)]; exact h3, by rw [xu_k (by omega)]; exact h4, by rw [xu_k (by omega)]; exact h5, by rw [xu_k (by omega)]; exact h6, h7, fun i hi => by rw [xu_K (by omega)]; exact h8 i hi⟩
theorem rC.e18 {K : Int} {b : List Nat} (h : rC T M K b r) : M 0 18 = 0 ∧ M 0 17 = K := by
  obtain ⟨pre, h1, h2, h3, h4, h5, h6⟩ := h
  exact ⟨h5, h4⟩
theorem r_num {v : Nat} (h : rC T M 2 (dgN v) r) (hv : v < 100) {a b : Nat} (hab : a ≤ v ∧ v ≤ b) (hb : b < 1000) (ht : tk r K' b' r') : ∃ M' : xM, f_m_readNumber (a : Int) (b : Int) M = some ((v : Int), M') ∧ rC T M' K' b' r' ∧ M' 2 = M 2 ∧ sM M M' := by
  obtain ⟨M', m1, m2, m3, m4⟩ := r_advance h ht
  obtain ⟨e18, e17⟩ := h.e18
  have e18' := m2.e18.1
  refine ⟨M', ?_, m2, m4 2 (by omega), m3, fun k k0 _ => m4 k k0⟩
  unfold f_m_readNumber f_m_readNumber_16 f_m_readNumber_21 f_m_readNumber_47 f_m_readNumber_52
  rw [e18, if_pos (by decide), e17, if_pos rfl, r_check (by decide), Option.bind_some, r_value h hv, Option.bind_some, e18, if_pos (by decide), r_inR (v := (v : Int)) (a := (a : Int)) (b := (b : Int)) (by unfold bI; omega) (by unfold bI; omega) (by unfold bI; omega) (by omega), Option.bind_some, if_neg (by decide), r_check (by decide), Option.bind_some, m1, Option.bind_some, e18', if_pos (by decide)]
theorem r_one {v f : Nat} (h : rC T M 2 (dgN v) r) (hv : v < 100) {a b : Nat} (hab : a ≤ v ∧ v ≤ b) (hb : b < 1000) (hf : f < 3530) (ht : tk r K' b' r') : ∃ M' : xM, f_m_readOne (f : Int) (a : Int) (b : Int) M = some M' ∧ rC T M' K' b' r' ∧ M' 2 = ups (M 2) [(f, (v : Int))] ∧ sM M M' := by
  obtain ⟨M1, m1, m2, m3, m4⟩ := r_num h hv hab hb ht
  refine ⟨xu M1 2 f (v : Int), ?_, m2.up f _, by rw [xu2, m3]; rfl, m4.tr (sM.up M1 f _)⟩
  unfold f_m_readOne f_m_readOne_31
  rw [m1, Option.bind_some]
  dsimp only
  rw [if_pos (show xw (M1 0 18) = 0 by rw [m2.e18.1]; decide), if_pos (by unfold xib; rw [xw_nat (by omega)]; omega), xix_nat (by omega)]
theorem r_gt {v : Nat} (h : rC T M 2 (dgN v) r) (hv : v < 100) {a b t : Nat} (hab : a ≤ v ∧ v ≤ b) (hb : b < 1000) (hlt : t < v) (ht : tk r K' b' r') : ∃ M' : xM, f_m_readGreater (a : Int) (b : Int) (t : Int) M = some ((v : Int), M') ∧ rC T M' K' b' r' ∧ M' 2 = M 2 ∧ sM M M' := by
  obtain ⟨M', m1, m2, m3, m4⟩ := r_advance h ht
  obtain ⟨e18, e17⟩ := h.e18
  refine ⟨M', ?_, m2, m4 2 (by omega), m3, fun k k0 _ => m4 k k0⟩
  unfold f_m_readGreater f_m_readGreater_16 f_m_readGreater_21 f_m_readGreater_45 f_m_readGreater_50 f_m_readGreater_70 f_m_readGreater_75
  rw [e18, if_pos (by decide), e17, if_pos rfl, r_check (by decide), Option.bind_some, e18, if_pos (by decide), r_value h hv, Option.bind_some, r_inR (v := (v : Int)) (a := (a : Int)) (b := (b : Int)) (by unfold bI; omega) (by unfold bI; omega) (by unfold bI; omega) (by omega), Option.bind_some, if_neg (by decide), r_check (by decide), Option.bind_some, e18, if_pos (by decide), r_value h hv, Option.bind_some, if_pos (by rw [xw_nat (by omega), xw_nat (by omega)]; omega), r_check (by decide), Option.bind_some, r_value h hv, Option.bind_some, m1, Option.bind_some]
/-- one rate: k stand already -/
theorem r_rate {k sp nd : Nat} {r1 : List Nat} (h : rC T M 2 (dgN sp) r) (hk : k < 5) (hD : M 2 11 = (k : Int)) (hsp : 4 ≤ sp ∧ sp ≤ 80) (hnd : 1 ≤ nd ∧ nd ≤ 9) {ps pn : Nat} (hps : k ≠ 0 → M 2 (35 + (k - 1)) = (ps : Int) ∧ ps < sp) (hpn : k ≠ 0 → M 2 (40 + (k - 1)) = (pn : Int) ∧ pn < nd) (h1 : tk r 2 (dgN nd) r1) (ht : tk r1 K' b' r') : ∃ M' : xM, f_m_readRate M = some M' ∧ rC T M' K' b' r' ∧ M' 2 = ups (M 2) [(35 + k, (sp : Int)), (40 + k, (nd : Int)), (11, ((k + 1 : Nat) : Int))] ∧ sM M M' := by
  have e11 : xib 11 3530 := by decide
  have key : ∀ (p1 p2 : Nat), p1 < sp → p2 < nd → ∃ M1 M2 : xM, f_m_readGreater 4 80 (p1 : Int) M = some ((sp : Int), M1) ∧ M1 2 = M 2 ∧ f_m_readGreater 1 9 (p2 : Int) M1 = some ((nd : Int), M2) ∧ rC T M2 K' b' r' ∧ M2 2 = M 2 ∧ sM M M2 := fun p1 p2 q1 q2 => by
    obtain ⟨M1, a1, a2, a3, a4⟩ := r_gt (a := 4) (b := 80) (t := p1) h (by omega) hsp (by omega) q1 h1
    obtain ⟨M2, b1, b2, b3, b4⟩ := r_gt (a := 1) (b := 9) (t := p2) a2 (by omega) hnd (by omega) q2 ht
    exact ⟨M1, M2, a1, a3, b1, b2, by rw [b3, a3], a4.tr b4⟩
  have fin : ∀ M2 : xM, rC T M2 K' b' r' → M2 2 = M 2 → sM M M2 → ∃ M' : xM, (if xw (M2 0 18) = 0 then (if xib (35 + (k : Int)) 3530 then (if xib (40 + (k : Int)) 3530 then (if xib 11 3530 then (if xib 11 3530 then some (xu (xu (xu M2 2 (xix (35 + (k : Int))) (sp : Int)) 2 (xix (40 + (k : Int))) (nd : Int)) 2 11 (((xu (xu M2 2 (xix (35 + (k : Int))) (sp : Int)) 2 (xix (40 + (k : Int))) (nd : Int)) 2 11) + 1)) else none) else none) else none) else none) else some M2) = some M' ∧ rC T M' K' b' r' ∧ M' 2 = ups (M 2) [(35 + k, (sp : Int)), (40 + k, (nd : Int)), (11, ((k + 1 : Nat) : Int))] ∧ sM M M' := fun M2 c1 c2 c3 => by
    have i35 : (35 : Int) + (k : Int) = ((35 + k : Nat) : Int) := by omega
    have i40 : (40 : Int) + (k : Int) = ((40 + k : Nat) : Int) := by omega
    rw [show M2 0 18 = 0 from c1.e18.1, if_pos (show xw 0 = 0 by decide), i35, i40, if_pos (by unfold xib; rw [xw_nat (by omega)]; omega), if_pos (by unfold xib; rw [xw_nat (by omega)]; omega), if_pos e11, if_pos e11, xix_nat (by omega), xix_nat (by omega)]
    refine ⟨_, rfl, ((c1.up _ _).up _ _).up _ _, ?_, ((c3.tr (sM.up _ _ _)).tr (sM.up _ _ _)).tr (sM.up _ _ _)⟩
    have d11 : xu (xu M2 2 (35 + k) (sp : Int)) 2 (40 + k) (nd : Int) 2 11 = (k : Int) := by
      rw [xu_d (by omega), xu_d (by omega), c2, hD]
    rw [d11, xu2, xu2, xu2, c2, show (k : Int) + 1 = ((k + 1 : Nat) : Int) by omega]
    rfl
  unfold f_m_readRate f_m_readRate_31 f_m_readRate_58
  rw [if_pos e11, hD, xw_nat (by omega)]
  by_cases c : (k : Int) = 0
  · rw [if_pos c]
    obtain ⟨M1, M2, a1, a2, a3, a4, a5, a6⟩ := key 0 0 (by omega) (by omega)
    have a1' : f_m_readGreater 4 80 0 M = some ((sp : Int), M1) := a1
    have a3' : f_m_readGreater 1 9 0 M1 = some ((nd : Int), M2) := a3
    rw [a1', Option.bind_some]
    dsimp only
    rw [if_pos c, a3', Option.bind_some]
    exact fin M2 a4 a5 a6
  · obtain ⟨s1, s2⟩ := hps (by omega)
    obtain ⟨n1, n2⟩ := hpn (by omega)
    obtain ⟨M1, M2, a1, a2, a3, a4, a5, a6⟩ := key ps pn s2 n2
    have i35 : (35 : Int) + (k : Int) - 1 = ((35 + (k - 1) : Nat) : Int) := by omega
    have i40 : (40 : Int) + (k : Int) - 1 = ((40 + (k - 1) : Nat) : Int) := by omega
    rw [if_neg c, i35, if_pos (by unfold xib; rw [xw_nat (by omega)]; omega), xix_nat (by omega), s1, a1, Option.bind_some]
    dsimp only
    rw [if_neg c, i40, if_pos (by unfold xib; rw [xw_nat (by omega)]; omega), xix_nat (by omega), a2, n1, a3, Option.bind_some]
    exact fin M2 a4 a5 a6
/-- the steps of the training -/
def trU : List Nat → Nat → List (Nat × Int)
  | [], _ => []
  | v :: L, k => (21 + k, (v : Int)) :: trU L (k + 1)
theorem r_trainL : ∀ (L : List Nat) (k n : Nat) (v : Nat) (M : xM) (r : List Nat), rC T M 2 (dgN v) r → k + (L.length + 1) = 4 → L.length + 1 < n → (∀ x, x ∈ v :: L → 1 ≤ x ∧ x ≤ 20) → (∃ R, r = sep L ++ R ∧ hd R 2 ∧ tk R K' b' r') → ∃ M' : xM, f_m_readTrain_2 n (k : Int) M = some M' ∧ rC T M' K' b' r' ∧ M' 2 = ups (M 2) (trU (v :: L) k) ∧ sM M M'
  | [], k, n, v, M, r, h, h1, h2, h3, ⟨R, hR, hR2, ht⟩ => by
    obtain ⟨n, rfl⟩ : ∃ z, n = z + 2 := ⟨n - 2, by simp at h2; omega⟩
    have hR' : r = R := hR
    subst hR'
    have hv := h3 v List.mem_cons_self
    obtain ⟨M1, m1, m2, m3, m4⟩ := r_num (a := 1) (b := 20) h (by omega) hv (by omega) ht
    have m1' : f_m_readNumber 1 20 M = some ((v : Int), M1) := m1
    simp only [List.length_nil] at h1
    have i21 : (21 : Int) + (k : Int) = ((21 + k : Nat) : Int) := by omega
    refine ⟨xu M1 2 (21 + k) (v : Int), ?_, m2.up _ _, by rw [xu2, m3]; rfl, m4.tr (sM.up _ _ _)⟩
    rw [f_m_readTrain_2, if_pos (by rw [xw_nat (by omega), show xw 4 = 4 by decide]; omega), m1', Option.bind_some]
    dsimp only
    rw [if_pos (show xw (M1 0 18) = 0 by rw [m2.e18.1]; decide), i21]
    unfold f_m_readTrain_43
    rw [if_pos (by unfold xib; rw [xw_nat (by omega)]; omega), xix_nat (by omega), f_m_readTrain_2, if_neg (by rw [show (k : Int) + 1 = ((k + 1 : Nat) : Int) by omega, xw_nat (by omega), show xw 4 = 4 by decide]; omega)]
  | x :: L, k, n, v, M, r, h, h1, h2, h3, ⟨R, hR, hR2, ht⟩ => by
    obtain ⟨n, rfl⟩ : ∃ z, n = z + 1 := ⟨n - 1, by omega⟩
    rw [List.length_cons] at h1 h2
    have hv := h3 v List.mem_cons_self
    have hx := h3 x (List.mem_cons_of_mem _ List.mem_cons_self)
    have er : r = 32 :: (dgN x ++ (sep L ++ R)) := by
      rw [hR, sep_cons]
      simp only [List.cons_append, List.append_assoc]
    have hh : hd (sep L ++ R) 2 := by
      cases L with
      | nil => exact hR2
      | cons y L =>
        rw [sep_cons]
        exact hd_c (by decide)
    rw [er] at h
    obtain ⟨M1, m1, m2, m3, m4⟩ := r_num (a := 1) (b := 20) h (by omega) hv (by omega) (tk_num (by omega) hh)
    have m1' : f_m_readNumber 1 20 M = some ((v : Int), M1) := m1
    have i21 : (21 : Int) + (k : Int) = ((21 + k : Nat) : Int) := by omega
    obtain ⟨M2, a1, a2, a3, a4⟩ := r_trainL L (k + 1) n x (xu M1 2 (21 + k) (v : Int)) (sep L ++ R) (m2.up _ _) (by omega) (by omega) (fun y hy => h3 y (List.mem_cons_of_mem _ hy)) ⟨R, rfl, hR2, ht⟩
    refine ⟨M2, ?_, a2, by rw [a3, xu2, m3]; rfl, (m4.tr (sM.up _ _ _)).tr a4⟩
    rw [f_m_readTrain_2, if_pos (by rw [xw_nat (by omega), show xw 4 = 4 by decide]; omega), m1', Option.bind_some]
    dsimp only
    rw [if_pos (show xw (M1 0 18) = 0 by rw [m2.e18.1]; decide), i21]
    unfold f_m_readTrain_43
    rw [if_pos (by unfold xib; rw [xw_nat (by omega)]; omega), xix_nat (by omega), show (k : Int) + 1 = ((k + 1 : Nat) : Int) by omega]
    exact a1
theorem r_delay {v t : Nat} {r1 : List Nat} (h : rC T M 2 (dgN v) r) (hv : 1 ≤ v ∧ v ≤ 9) (htt : 2 * v < t ∧ t ≤ 60) (h1 : tk r 2 (dgN t) r1) (ht : tk r1 K' b' r') : ∃ M' : xM, f_m_readDelay M = some M' ∧ rC T M' K' b' r' ∧ M' 2 = ups (M 2) [(15, (v : Int)), (16, (t : Int))] ∧ sM M M' := by
  obtain ⟨M1, a1, a2, a3, a4⟩ := r_num (a := 1) (b := 9) h (by omega) hv (by omega) h1
  obtain ⟨M2, b1, b2, b3, b4⟩ := r_gt (a := 0) (b := 60) (t := 2 * v) a2 (by omega) ⟨by omega, htt.2⟩ (by omega) htt.1 ht
  have a1' : f_m_readNumber 1 9 M = some ((v : Int), M1) := a1
  have b1' : f_m_readGreater 0 60 (2 * (v : Int)) M1 = some ((t : Int), M2) := by
    have : 2 * (v : Int) = ((2 * v : Nat) : Int) := by omega
    rw [this]; exact b1
  refine ⟨xu (xu M2 2 15 (v : Int)) 2 16 (t : Int), ?_, (b2.up _ _).up _ _, by rw [xu2, xu2, b3, a3]; rfl, ((a4.tr b4).tr (sM.up _ _ _)).tr (sM.up _ _ _)⟩
  unfold f_m_readDelay
  rw [a1', Option.bind_some]
  dsimp only
  rw [b1', Option.bind_some]
  dsimp only
  rw [if_pos (show xw (M2 0 18) = 0 by rw [b2.e18.1]; decide), if_pos (by decide), if_pos (by decide)]
/-- noises: k stand already -/
def noU : List Nat → Nat → List (Nat × Int)
  | [], _ => []
  | v :: L, k => (25 + k, (v : Int)) :: (19, ((k + 1 : Nat) : Int)) :: noU L (k + 1)
theorem r_noise : ∀ (L : List Nat) (k n : Nat) (v : Nat) (M : xM) (r : List Nat), rC T M 2 (dgN v) r → M 2 19 = (k : Int) → k + (L.length + 1) ≤ 10 → L.length + 2 < n → (∀ x, x ∈ v :: L → x ≤ 9) → (∃ R, r = sep L ++ R ∧ hd R 2 ∧ tk R K' b' r') → K' = 3 → ∃ M' : xM, f_m_readNoise_33 n M = some M' ∧ rC T M' K' b' r' ∧ M' 2 = ups (M 2) (noU (v :: L) k) ∧ sM M M' := by
  have one : ∀ (k n v : Nat) (M : xM) (r : List Nat) (K1 : Int) (b1 r1 : List Nat), rC T M 2 (dgN v) r → M 2 19 = (k : Int) → k < 10 → v ≤ 9 → tk r K1 b1 r1 → ∃ M1 : xM, f_m_readNoise_33 (n + 1) M = f_m_readNoise_33 n M1 ∧ rC T M1 K1 b1 r1 ∧ M1 2 = ups (M 2) [(25 + k, (v : Int)), (19, ((k + 1 : Nat) : Int))] ∧ sM M M1 := fun k n v M r K1 b1 r1 h hk hk2 hv ht => by
    obtain ⟨e18, e17⟩ := h.e18
    obtain ⟨Z, hZ⟩ : ∃ Z, Z = xu (xu M 2 (25 + k) (v : Int)) 2 19 (((k + 1 : Nat) : Int)) := ⟨_, rfl⟩
    have hZr : rC T Z 2 (dgN v) r := by rw [hZ]; exact (h.up _ _).up _ _
    obtain ⟨M1, m1, m2, m3, m4⟩ := r_advance hZr ht
    have sZ : sM M Z := by rw [hZ]; exact (sM.up _ _ _).tr (sM.up _ _ _)
    refine ⟨M1, ?_, m2, by rw [m4 2 (by omega), hZ, xu2, xu2]; rfl, sZ.tr ⟨m3, fun q q0 _ => m4 q q0⟩⟩
    have d19 : xu M 2 (25 + k) (v : Int) 2 19 + 1 = ((k + 1 : Nat) : Int) := by
      rw [xu_d (by omega), hk]; omega
    rw [f_m_readNoise_33, e18, if_pos (by decide), e17, if_pos rfl, r_value h (by omega), Option.bind_some, r_inR (v := (v : Int)) (a := 0) (b := 9) (by unfold bI; omega) (by unfold bI; omega) (by unfold bI; omega) (by omega), Option.bind_some, r_check (by decide), Option.bind_some, e18, if_pos (by decide), if_pos (by decide), hk, if_pos (by rw [xw_nat (by omega), show xw 10 = 10 by decide]; omega)]
    unfold f_m_readNoise_83 f_m_readNoise_88 f_m_readNoise_129
    rw [r_check (by decide), Option.bind_some, e18, if_pos (by decide), if_pos (by decide), r_value h (by omega), Option.bind_some, hk, show (25 : Int) + (k : Int) = ((25 + k : Nat) : Int) by omega, if_pos (by unfold xib; rw [xw_nat (by omega)]; omega), if_pos (by decide), if_pos (by decide), xix_nat (by omega), d19, ← hZ, m1, Option.bind_some]
  intro L
  induction L with
  | nil =>
    intro k n v M r h hk h1 h2 h3 ⟨R, hR, hR2, ht⟩ hK
    obtain ⟨n, rfl⟩ : ∃ z, n = z + 2 := ⟨n - 2, by simp at h2; omega⟩
    have hR' : r = R := hR
    subst hR'
    simp only [List.length_nil] at h1
    obtain ⟨M1, a1, a2, a3, a4⟩ := one k (n + 1) v M r K' b' r' h hk (by omega) (h3 v List.mem_cons_self) ht
    refine ⟨M1, ?_, a2, a3, a4⟩
    obtain ⟨e18, e17⟩ := a2.e18
    rw [a1, f_m_readNoise_33, e18, if_pos (by decide), e17, hK, if_neg (by decide)]
  | cons x L ih =>
    intro k n v M r h hk h1 h2 h3 ⟨R, hR, hR2, ht⟩ hK
    obtain ⟨n, rfl⟩ : ∃ z, n = z + 1 := ⟨n - 1, by omega⟩
    rw [List.length_cons] at h1 h2
    have hx := h3 x (List.mem_cons_of_mem _ List.mem_cons_self)
    have er : r = 32 :: (dgN x ++ (sep L ++ R)) := by
      rw [hR, sep_cons]
      simp only [List.cons_append, List.append_assoc]
    have hh : hd (sep L ++ R) 2 := by
      cases L with
      | nil => exact hR2
      | cons y L =>
        rw [sep_cons]
        exact hd_c (by decide)
    rw [er] at h
    obtain ⟨M1, a1, a2, a3, a4⟩ := one k n v M _ 2 (dgN x) (sep L ++ R) h hk (by omega) (h3 v List.mem_cons_self) (tk_num (by omega) hh)
    have k1 : M1 2 19 = ((k + 1 : Nat) : Int) := by
      rw [a3]
      show xup (xup (M 2) (25 + k) (v : Int)) 19 ((k + 1 : Nat) : Int) 19 = _
      unfold xup
      rw [if_pos rfl]
    obtain ⟨M2, c1, c2, c3, c4⟩ := ih (k + 1) n x M1 (sep L ++ R) a2 k1 (by omega) (by omega) (fun y hy => h3 y (List.mem_cons_of_mem _ hy)) ⟨R, rfl, hR2, ht⟩ hK
    refine ⟨M2, by rw [a1]; exact c1, c2, ?_, a4.tr c4⟩
    rw [c3, a3, ← ups_app]
    rfl
end

/-! ===== a line as it begins, and loading it ===== -/
def sN (D : Nat → Int) : aS := (fun j => if j < 3530 then D j else 0, fun _ => [], fun _ => [])
def dN (D : Nat → Int) : Prop := (∀ j, j < 3530 → j ≠ 2 → ¬ (11 ≤ j ∧ j < 20) → ¬ (21 ≤ j ∧ j < 45) → D j = 0) ∧ (0 ≤ D 2 ∧ D 2 ≤ 9) ∧ (∀ j, j < 45 → 0 ≤ D j ∧ D j ≤ 255) ∧ aSu (sN D)
theorem sN_1 (D : Nat → Int) {j : Nat} (h : j < 3530) : (sN D).1 j = D j := if_pos h
section
variable {D N : Nat → Int}
theorem dN.z (h : dN D) {j : Nat} (h1 : j ≠ 2) (h2 : ¬ (11 ≤ j ∧ j < 20)) (h3 : ¬ (21 ≤ j ∧ j < 45)) : (sN D).1 j = 0 := by
  by_cases c : j < 3530
  · rw [sN_1 D c]; exact h.1 j c h1 h2 h3
  · exact if_neg c
theorem dN.RA (h : dN D) (hN : ∀ j, j < 3530 → N j = D j) : RA N (sN D) := by
  have z : ∀ j, j < 3530 → j ≠ 2 → ¬ (11 ≤ j ∧ j < 20) → ¬ (21 ≤ j ∧ j < 45) → N j = 0 := fun j a b c d => by rw [hN j a]; exact h.1 j a b c d
  refine ⟨fun j hj => ?_, fun e he => ⟨⟨⟨Nat.zero_le _, z _ (by omega) (by omega) (by omega) (by omega), fun i hi => absurd hi (Nat.not_lt_zero i)⟩, ⟨Nat.zero_le _, z _ (by omega) (by omega) (by omega) (by omega), fun i hi => absurd hi (Nat.not_lt_zero i)⟩, ⟨Nat.zero_le _, z _ (by omega) (by omega) (by omega) (by omega), fun i hi => absurd hi (Nat.not_lt_zero i)⟩⟩, ⟨Nat.zero_le _, fun i hi => absurd hi (Nat.not_lt_zero i)⟩, ⟨Nat.zero_le _, z _ (by omega) (by omega) (by omega) (by omega), fun i hi => absurd hi (Nat.not_lt_zero i)⟩⟩, ⟨Nat.zero_le _, z _ (by omega) (by omega) (by omega) (by omega), fun i hi => absurd hi (Nat.not_lt_zero i)⟩, ⟨Nat.zero_le _, z _ (by omega) (by omega) (by omega) (by omega), fun i _ hi => absurd hi (Nat.not_lt_zero i)⟩⟩
  unfold aIx at hj
  rw [hN j (by omega), sN_1 D (by omega)]
theorem dN.aI (h : dN D) : aI 255 (sN D) := by
  have z := fun j a b c => h.z (j := j) a b c
  refine ⟨⟨h.2.2.2, ?_⟩, ⟨fun j => ?_, fun j x hx => absurd hx List.not_mem_nil, fun j f hf => absurd hf List.not_mem_nil⟩, Nat.zero_le _, fun e he => ⟨aFrOk.nil _, ⟨Nat.zero_le _, Nat.zero_le _, Nat.zero_le _, Nat.zero_le _⟩, ?_, ?_, ?_⟩, fun it hit => absurd hit List.not_mem_nil⟩
  · unfold aSc
    rw [z 1 (by omega) (by omega) (by omega), z 3 (by omega) (by omega) (by omega), z 4 (by omega) (by omega) (by omega), z 45 (by omega) (by omega) (by omega), sN_1 D (by omega)]
    have := h.2.2.2.1.1
    have := h.2.1
    omega
  · unfold aB
    by_cases c : j < 45
    · rw [sN_1 D (by omega)]
      have := h.2.2.1 j c
      omega
    · rw [z j (by omega) (by omega) (by omega)]
      omega
  · rw [z _ (by omega) (by omega) (by omega)]; omega
  · rw [z _ (by omega) (by omega) (by omega)]; omega
  · rw [z _ (by omega) (by omega) (by omega)]; omega
theorem dN.aU (h : dN D) : aU (sN D) := fun e he => by
  refine ⟨⟨List.nodup_nil, List.nodup_nil⟩, Nat.zero_le _, Or.inl ?_⟩
  rw [h.z (by omega) (by omega) (by omega)]
  exact ⟨by omega, by omega, rfl⟩
theorem dN.vB (h : dN D) : vB (sN D) := by
  have z := fun j a b c => h.z (j := j) a b c
  refine ⟨?_, ⟨fun p hp => absurd hp (Nat.not_lt_zero p), fun p hp => absurd hp (Nat.not_lt_zero _), fun p hp => absurd hp (Nat.succ_ne_zero p)⟩, fun e he f hf => absurd hf List.not_mem_nil⟩
  unfold vNum
  rw [z 60 (by omega) (by omega) (by omega), z 777 (by omega) (by omega) (by omega), z 55 (by omega) (by omega) (by omega), z 46 (by omega) (by omega) (by omega), z 45 (by omega) (by omega) (by omega), z 54 (by omega) (by omega) (by omega), z 53 (by omega) (by omega) (by omega), z 51 (by omega) (by omega) (by omega), z 52 (by omega) (by omega) (by omega), z 1 (by omega) (by omega) (by omega)]
  decide
theorem dN.toI (h : dN D) (h17 : D 17 ≤ 4) (h11 : D 11 ≤ 4) (h14 : D 14 ≤ 7) (h18 : D 18 = 1 → D 14 ≤ 5) : pI (sN D) := by
  have z := fun j a b c => h.z (j := j) a b c
  have w := h.2.2.2.2.1.1.1
  rw [sN_1 D (by omega)] at w
  unfold pI
  rw [z 8 (by omega) (by omega) (by omega), z 9 (by omega) (by omega) (by omega), z 1 (by omega) (by omega) (by omega), sN_1 D (j := 17) (by omega), sN_1 D (j := 11) (by omega), sN_1 D (j := 14) (by omega), sN_1 D (j := 18) (by omega)]
  exact ⟨⟨⟨by omega, by omega⟩, by omega, fun _ => rfl, fun q => absurd q (by decide)⟩, ⟨h17, h11, h14, h18⟩, fun e he => by show (0 : Int) ≤ _; omega⟩
theorem dN.toP (h : dN D) : pP (sN D) ≤ 1736 ∧ pX (sN D) = 0 := by
  have z := fun j a b c => h.z (j := j) a b c
  have ee : ∀ e, e < 2 → pEnd (sN D) e = 0 ∧ pXe (sN D) e = 0 := fun e he => by
    unfold pEnd pXe
    have a2 := (pPs_nn ((sN D).1 14) ((sN D).1 ((56 + 717 * e) + 9)) (aCnt 1 []) (([] : List (List Int)).length)).2.1 (show aCnt 1 [] < 1 by decide)
    have a2' : pPs ((sN D).1 14) ((sN D).1 ((56 + 717 * e) + 9)) (aCnt 1 (((sN D).2.2 (56 + 717 * e + 26)))) ((((sN D).2.2 (56 + 717 * e + 26))).length) = 0 := a2
    have a3 : pAge ((sN D).1 0) (((sN D).2.2 (56 + 717 * e + 26))) = 0 := rfl
    have a4 : pCl (((sN D).2.1 (56 + 717 * e + 117))) = 0 := by
      show pCl [] = 0
      rfl
    rw [a2', a3, a4, z ((56 + 717 * e) + 2) (by omega) (by omega) (by omega), z ((56 + 717 * (1 - e)) + 3) (by omega) (by omega) (by omega)]
    exact ⟨rfl, rfl⟩
  have er : pRest (sN D) ≤ 1736 := by
    unfold pRest pOn pVw pVv
    rw [z 8 (by omega) (by omega) (by omega), z 9 (by omega) (by omega) (by omega), z 3 (by omega) (by omega) (by omega), z 1 (by omega) (by omega) (by omega), pH_0, if_neg (show ¬ ((0 : Int) = 1 ∨ (0 : Int) = 3 ∧ 0 < (sN D).1 2) by omega)]
    have : pAcks (((sN D).2.2 1730)) = 0 := rfl
    rw [this]
    split <;> decide
  obtain ⟨x1, x2⟩ := ee 0 (by omega)
  obtain ⟨y1, y2⟩ := ee 1 (by omega)
  refine ⟨?_, ?_⟩
  · show pEnd (sN D) 0 + pEnd (sN D) 1 + pRest (sN D) ≤ 1736
    omega
  · show pXe (sN D) 0 + pXe (sN D) 1 = 0
    omega
end
/-- what a draft is before a text is read -/
def dDef (j : Nat) : Int := if j = 12 then 2 else if j = 13 then 5 else if j = 14 then 4 else if j = 15 then 1 else if j = 16 then 3 else if j = 17 then 2 else if j = 18 then 8 else if j = 19 then 1 else if 21 ≤ j ∧ j < 25 then 2 else 0
section
variable {s : aS} {B : Int} {M : xM} {H : List aS} {S : Option aS} {bf : List Int} {D : Nat → Int}
theorem r_load (h : rX B M s H S bf) {T pad : List Nat} (hb : bf = cI (T ++ pad)) (hT : bys T) (hD : dN D) {K0 : Int} {b0 r0 : List Nat} (ht : tk T K0 b0 r0) (hrd : ∀ M2 : xM, rC T M2 K0 b0 r0 → (∀ j, j < 3530 → M2 2 j = dDef j) → ∃ M3 : xM, f_m_readAll M2 = some M3 ∧ M3 0 18 = 0 ∧ sM M2 M3 ∧ ∀ j, j < 3530 → M3 2 j = D j) : ∃ M' : xM, f_m_load (T.length : Int) M = some (D 11, M') ∧ M' 0 6 = 0 ∧ rX 255 M' (sN D) [] none [] := by
  obtain ⟨h1, h2, h3, h13, h600, hby⟩ := h.z06
  obtain ⟨M0, hM0⟩ : ∃ Z, Z = xu M 0 6 0 := ⟨_, rfl⟩
  rw [← hM0] at h1 h2 h3 h13 hby
  have lb : bf.length = T.length + pad.length := by rw [hb, cI_len, List.length_append]
  have e6 : M0 0 6 = 0 := by rw [hM0, xu_s rfl]
  obtain ⟨qc, a1, a2, a3, a4, a5⟩ := m_clear_sp (xvw [2] M0)
  obtain ⟨M1, b1, b2, b3⟩ := C_mg M0 qc
  obtain ⟨Z, hZ⟩ : ∃ Z, Z = xu (xu (xu (xu M1 0 14 (T.length : Int)) 0 15 0) 0 18 0) 0 21 0 := ⟨_, rfl⟩
  have zk : ∀ k, k ≠ 0 → Z k = M1 k := fun k hk => by rw [hZ, xu_K hk, xu_K hk, xu_K hk, xu_K hk]
  have z0 : ∀ j, j ≠ 14 → j ≠ 15 → j ≠ 18 → j ≠ 21 → Z 0 j = M0 0 j := fun j x1 x2 x3 x4 => by rw [hZ, xu_d x4, xu_d x3, xu_d x2, xu_d x1, b3 0 (by omega)]
  have hP : rP T Z [] T := ⟨rfl, by rw [hZ, xu_d (by omega), xu_d (by omega), xu_s rfl]; rfl, by rw [hZ, xu_d (by omega), xu_s rfl], by rw [hZ, xu_d (by omega), xu_d (by omega), xu_d (by omega), xu_s rfl], by omega, fun i hi => by
    refine ⟨?_, hT.get i⟩
    rw [zk 8 (by omega), b3 8 (by omega), hby i (by omega), hb, List.getD_eq_getElem?_getD]
    unfold cI
    rw [List.getElem?_map, List.getElem?_append_left hi, List.getElem?_eq_getElem hi, List.getD_eq_getElem?_getD, List.getElem?_eq_getElem hi]
    rfl⟩
  obtain ⟨M2, c1, c2, c3, c4⟩ := r_scan hP ht
  obtain ⟨M3, d1, d2, d3, d4⟩ := hrd M2 c2 fun j hj => by
    rw [c4 2 (by omega), zk 2 (by omega), b2]
    unfold dDef
    obtain ⟨x12, x13, x14, x15, x16, x17, x18, x19⟩ := a2
    by_cases j12 : j = 12
    · rw [if_pos j12, j12, x12]
    · rw [if_neg j12]
      by_cases j13 : j = 13
      · rw [if_pos j13, j13, x13]
      · rw [if_neg j13]
        by_cases j14 : j = 14
        · rw [if_pos j14, j14, x14]
        · rw [if_neg j14]
          by_cases j15 : j = 15
          · rw [if_pos j15, j15, x15]
          · rw [if_neg j15]
            by_cases j16 : j = 16
            · rw [if_pos j16, j16, x16]
            · rw [if_neg j16]
              by_cases j17 : j = 17
              · rw [if_pos j17, j17, x17]
              · rw [if_neg j17]
                by_cases j18 : j = 18
                · rw [if_pos j18, j18, x18]
                · rw [if_neg j18]
                  by_cases j19 : j = 19
                  · rw [if_pos j19, j19, x19]
                  · rw [if_neg j19]
                    by_cases j21 : 21 ≤ j ∧ j < 25
                    · rw [if_pos j21, a3 j j21.1 j21.2]
                    · rw [if_neg j21, a4 j (by omega) hj]
  obtain ⟨M4, f1, f2, f3, f4, f5⟩ := m_finish_sp M3 (by omega)
  obtain ⟨Q, g1, g2, g3⟩ := copyA_21 M4
  obtain ⟨M5, hM5⟩ : ∃ Z, Z = xmg [2, 1] 2 M4 Q := ⟨_, rfl⟩
  rw [← hM5] at g2 g3
  have r1 : ∀ j, j < 3530 → M5 1 j = D j := fun j hj => by rw [g2 j hj, f5 2 (by omega), d4 j hj]
  refine ⟨xu (xu M5 0 5 0) 0 7 0, ?_, ?_, ⟨?_, hD.aI, hD.aU⟩, ⟨?_, Nat.zero_le _, fun i t ht => (by cases ht)⟩, fun t ht => (by cases ht), ?_, Nat.zero_le _, fun i hi => absurd hi (Nat.not_lt_zero i)⟩
  · have hin : f_m_inRange (T.length : Int) 0 (M 0 13) (xvw [] (xu M 0 6 0)) = some 1 := by
      have : M 0 13 = (bf.length : Int) := h.2.2.2.1
      exact r_inR (by unfold bI; omega) (by unfold bI; omega) (by rw [this]; unfold bI; omega) (by rw [this]; omega)
    unfold f_m_load
    rw [hin, Option.bind_some, if_neg (show ¬ xw 1 = 0 by decide), ← hM0, a1, Option.bind_some, b1]
    unfold f_m_startText
    rw [← hZ, c1, Option.bind_some, Option.bind_some, d1, Option.bind_some, f1, Option.bind_some]
    dsimp only
    rw [if_pos (by rw [d2]; decide), g1, Option.bind_some, ← hM5, if_pos (by decide), r1 11 (by omega)]
  · rw [xu_d (by omega), xu_d (by omega), g3 0 (by omega), f4 6 (by omega) (by omega), d3.1 6 (by omega) (by omega) (by omega), c3 6 (by omega) (by omega) (by omega), z0 6 (by omega) (by omega) (by omega) (by omega), e6]
  · exact hD.RA fun j hj => by rw [xu_K (by omega), xu_K (by omega), r1 j hj]
  · rw [xu_d (by omega), xu_s rfl]; rfl
  · rw [xu_d (by omega), xu_d (by omega), g3 0 (by omega), f2]
    rfl
theorem aX.load {m : xM} (h : aX B m s H S bf) {T pad : List Nat} (hb : bf = cI (T ++ pad)) (hT : bys T) (hTl : T.length < 1000000) (hD : dN D) {K0 : Int} {b0 r0 : List Nat} (ht : tk T K0 b0 r0) (hrd : ∀ M2 : xM, rC T M2 K0 b0 r0 → (∀ j, j < 3530 → M2 2 j = dDef j) → ∃ M3 : xM, f_m_readAll M2 = some M3 ∧ M3 0 18 = 0 ∧ sM M2 M3 ∧ ∀ j, j < 3530 → M3 2 j = D j) : ∃ m' : xM, f_X_load (T.length : Int) m = some (D 11, m') ∧ aX 255 m' (sN D) [] none [] := by
  obtain ⟨G, M, g1, g2⟩ := h
  obtain ⟨M', e1, e2, e3⟩ := r_load g2 hb hT hD ht hrd
  rcases X_load_sp (T.length : Int) (by unfold bI; omega) m M g1 with f | f
  · obtain ⟨m', f1, f2⟩ := f.val e1
    exact ⟨m', f1, G, M', f2, e3⟩
  · exact absurd (f.no e1 e2 (by decide)) id
end

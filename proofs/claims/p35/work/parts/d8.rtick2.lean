/-! ===== a whole tick of the reference ===== -/
section
variable {s : aS} {B : Int}
theorem bLine.fly {m M : xM} (h : bLine m M) : 0 ≤ M 1 20 ∧ M 1 20 ≤ 42 := by
  obtain ⟨hR, hB, h20, hf, hW⟩ := h
  by_cases h2 : m 0 8 = 2
  · obtain ⟨f, c, hw⟩ := hW h2
    obtain ⟨⟨z1, z2, z3, z4⟩, we, ws, d1, d2⟩ := id hw
    have hc42 : c ≤ 42 := bUnder (dl := m 33 10) d1 d2 (fun i hi => (we i hi).2.1)
    omega
  · have := hB.2.2.2.2 h2
    omega
theorem aLand_sc (it : List Int) (s : aS) (j : Nat) (h1 : j ≠ 8) (h2 : j ≠ 9) (h3 : j ≠ 47) (h4 : j ≠ 55) (h5 : j ≠ (56 + 717 * (it.getD 2 0).toNat) + 3) (h6 : j ≠ (56 + 717 * (it.getD 2 0).toNat) + 4) : (aLand it s).1 j = s.1 j := by
  unfold aLand aAck aTake
  by_cases h1' : it.getD 1 0 = 1
  · rw [if_pos h1', aN_1, if_neg h2, aN_1, if_neg h1]; rfl
  · rw [if_neg h1']
    by_cases h2' : it.getD 4 0 = 1 ∨ it.getD 3 0 ≠ s.1 ((56 + 717 * (it.getD 2 0).toNat) + 3)
    · rw [if_pos h2', aN_1, if_neg h3]
    · rw [if_neg h2']
      dsimp only
      rw [aF_1, aN_1, if_neg h5, aRecvs_sc _ _ _ _ h6 h4]
      by_cases h3' : it.getD 5 0 = 1
      · rw [if_pos h3', aTell_sc, aL_1]
      · rw [if_neg h3']
theorem aLands_lo (t : Int) (j : Nat) (h1 : j < 8 ∨ (10 ≤ j ∧ j < 47) ∨ (48 ≤ j ∧ j < 55)) : ∀ (l : List (List Int)) (s : aS), (aLands t l s).1 j = s.1 j := by
  intro l
  induction l with
  | nil => exact fun _ => rfl
  | cons it r ih =>
    intro s
    rw [aLands, ih]
    by_cases c : it.getD 0 0 = t
    · rw [if_pos c, aLand_sc it s j (by omega) (by omega) (by omega) (by omega) (by omega) (by omega)]
    · rw [if_neg c]
theorem aArr_lo (s : aS) (j : Nat) (h1 : j < 8 ∨ (10 ≤ j ∧ j < 47) ∨ (48 ≤ j ∧ j < 55)) : (aArr s).1 j = s.1 j := by
  unfold aArr
  rw [aLands_lo _ j h1]
  rfl
theorem r_phase {M : xM} (h : RA (M 1) s) (hi : aI B s) (z : Int) (hz : 0 ≤ z ∧ z ≤ 3) : f_m_isPhase z M = some (if s.1 1 = z then 1 else 0) := by
  have n1 := h.n 1 (by unfold aIx; omega)
  have r1 := hi.1.2.1
  unfold f_m_isPhase
  rw [if_pos (by decide), n1, xw_id (x := s.1 1) (by omega) (by omega), xw_id (x := z) (by omega) (by omega)]
  by_cases c : s.1 1 = z
  · rw [if_pos c, if_pos c]
  · rw [if_neg c, if_neg c]
theorem r_out {M : xM} (h : RA (M 1) s) (hi : aI B s) (hu : aU s) (h1 : 108 ≤ B) (hB : B ≤ 600000000) (hl : ((s.2.2 1730)).length ≤ 50) : ∃ M' : xM, f_m_passOnline_44 M = some M' ∧ RA (M' 1) (aOut s) ∧ aU (aOut s) ∧ bMK M M' := by
  unfold f_m_passOnline_44 aOut
  rw [r_phase h hi 2 (by omega), Option.bind_some]
  by_cases c : s.1 1 = 2
  · rw [if_pos c, if_pos c, if_neg (by decide)]
    obtain ⟨M1, a1, a2, a3, a4⟩ := r_rise h hi hu (by omega)
    have i1 := hi.rise (by omega)
    have f1 := aRise_fl s
    have f1' : (((aRise s).2.2 1730)).length ≤ 50 := by rw [f1]; exact hl
    obtain ⟨M2, b1, b2, b3, b4⟩ := r_send (e := 0) (by omega) a2 i1 a3 (by omega) (by omega) (by omega)
    obtain ⟨i2, f2⟩ := i1.send (e := 0) (by omega) (by omega)
    obtain ⟨M3, d1, d2, d3, d4⟩ := r_send (e := 1) (by omega) b2 i2 b3 (by omega) (by omega) (by omega)
    have b1' : f_m_sendAll 0 M1 = some M2 := b1
    have d1' : f_m_sendAll 1 M2 = some M3 := d1
    rw [a1, Option.bind_some, b1', Option.bind_some, d1', Option.bind_some]
    exact ⟨M3, rfl, d2, d3, ((bMK.of a4).trans b4).trans d4⟩
  · rw [if_neg c, if_neg c, if_pos (by decide)]
    exact ⟨M, rfl, h, hu, bMK.refl M⟩
theorem r_times {M : xM} (h : RA (M 1) s) (hi : aI B s) (hu : aU s) (h1 : 108 ≤ B) (hB : B ≤ 550000000) (hl : ((s.2.2 1730)).length ≤ 50) (hp : s.1 1 = 2) : ∃ M' : xM, f_m_passOnline_20 fu 0 M = some M' ∧ RA (M' 1) (aOut (aTimes s)) ∧ aU (aOut (aTimes s)) ∧ bMK M M' := by
  obtain ⟨Ma, a1, a2, a3, a4⟩ := r_timer h hi hu (by omega) (by omega) (e := 0) (by omega)
  have a1' : f_m_timer 0 M = some Ma := a1
  have ia := hi.timer (e := 0) (by omega) (by omega)
  obtain ⟨it, ft⟩ := hi.times (by omega)
  show ∃ M' : xM, f_m_passOnline_20 (4997 + 1 + 1 + 1) 0 M = some M' ∧ _
  rw [f_m_passOnline_20, if_pos (by decide), r_phase h hi 2 (by omega), Option.bind_some, if_pos hp, if_neg (by decide), a1', Option.bind_some, f_m_passOnline_20, if_pos (by decide), r_phase a2 ia 2 (by omega), Option.bind_some]
  by_cases c : (aTimer 0 s).1 1 = 2
  · obtain ⟨Mb, b1, b2, b3, b4⟩ := r_timer a2 ia a3 (by omega) (by omega) (e := 1) (by omega)
    have b1' : f_m_timer (0 + 1) Ma = some Mb := b1
    have et : aTimes s = aTimer 1 (aTimer 0 s) := by unfold aTimes; rw [if_pos c]
    rw [if_pos c, if_neg (by decide), b1', Option.bind_some, f_m_passOnline_20, if_neg (by decide), et]
    rw [et] at it ft
    obtain ⟨Mc, d1, d2, d3, d4⟩ := r_out b2 it b3 (by omega) (by omega) (by omega)
    exact ⟨Mc, d1, d2, d3, ((bMK.of a4).trans (bMK.of b4)).trans d4⟩
  · have et : aTimes s = aTimer 0 s := by unfold aTimes; rw [if_neg c]
    rw [if_neg c, if_pos (by decide), et]
    rw [et] at it ft
    obtain ⟨Mc, d1, d2, d3, d4⟩ := r_out a2 it a3 (by omega) (by omega) (by omega)
    exact ⟨Mc, d1, d2, d3, (bMK.of a4).trans d4⟩
theorem r_live {M : xM} (h : RA (M 1) s) (hi : aI B s) (hu : aU s) (h1 : 108 ≤ B) (hB : B ≤ 500000000) (hl : ((s.2.2 1730)).length ≤ 50) (hp : s.1 1 = 2) : ∃ M' : xM, f_m_passOnline M = some M' ∧ RA (M' 1) (aLive s) ∧ aU (aLive s) ∧ bMK M M' := by
  have n2 := h.n 2 (by unfold aIx; omega)
  unfold f_m_passOnline aLive
  rw [if_pos (by decide), n2, (hi.2.1.1 2).xw (by omega)]
  by_cases c : s.1 2 = 0
  · rw [if_pos c, if_pos c]
    obtain ⟨Ma, a1, a2, a3, a4⟩ := r_lose h hi hu (by omega)
    rw [a1, Option.bind_some]
    exact ⟨Ma, rfl, a2, a3, bMK.of a4⟩
  · rw [if_neg c, if_neg c]
    obtain ⟨Ma, a1, a2, a3, a4⟩ := r_arrivals h hi hu hB (by omega) hl
    obtain ⟨ia, fa, _⟩ := hi.arr (by omega)
    rw [a1, Option.bind_some]
    obtain ⟨Mb, b1, b2, b3, b4⟩ := r_times a2 ia a3 (by omega) (by omega) (by omega) (by rw [aArr_lo s 1 (by omega)]; exact hp)
    exact ⟨Mb, b1, b2, b3, (bMK.of a4).trans b4⟩
theorem r_tick {M : xM} (h : RA (M 1) s) (hi : aI B s) (hu : aU s) (h1 : 108 ≤ B) (hB : B ≤ 500000000) (hl : ((s.2.2 1730)).length ≤ 50) : ∃ M' : xM, f_m_passTick M = some M' ∧ RA (M' 1) (aTick s) ∧ aU (aTick s) ∧ bMK M M' := by
  have n1 := h.n 1 (by unfold aIx; omega)
  have r1 := hi.1.2.1
  have fin : ∀ (t : aS) (Z : xM), RA (Z 1) t → aU t → bMK M Z → ∃ M' : xM, f_m_passTick_53 Z = some M' ∧ RA (M' 1) (aN t 0 (t.1 0 + 1)) ∧ aU (aN t 0 (t.1 0 + 1)) ∧ bMK M M' := fun t Z z1 z2 z3 => by
    have m0 := z1.n 0 (by unfold aIx; omega)
    unfold f_m_passTick_53
    rw [if_pos (by decide), if_pos (by decide), m0]
    exact ⟨_, rfl, z1.num (j := 0) (by unfold aIx; omega) _, z2.same rfl (fun e he => by rw [aN_1, if_neg (by omega)]), z3.trans (bMK.of fun k hk => xu_K hk)⟩
  unfold f_m_passTick aTick aDo
  rw [if_pos (by decide), n1, xw_id (x := s.1 1) (by omega) (by omega)]
  by_cases c1 : s.1 1 = 1
  · rw [if_pos c1, if_pos c1]
    obtain ⟨Ma, a1, a2, a3, a4⟩ := r_train h hi hu (by omega) (by omega)
    rw [a1, Option.bind_some]
    exact fin _ _ a2 a3 (bMK.of a4)
  · rw [if_neg c1, if_neg c1]
    by_cases c2 : s.1 1 = 2
    · rw [if_pos c2, if_neg (by omega), if_pos c2]
      obtain ⟨Ma, a1, a2, a3, a4⟩ := r_live h hi hu h1 hB hl c2
      rw [a1, Option.bind_some]
      exact fin _ _ a2 a3 a4
    · rw [if_neg c2]
      by_cases c3 : s.1 1 = 3
      · rw [if_pos c3, if_pos c3]
        obtain ⟨Ma, a1, a2, a3, a4⟩ := r_wait h hi hu (by omega)
        rw [a1, Option.bind_some]
        exact fin _ _ a2 a3 (bMK.of a4)
      · rw [if_neg c3, if_neg c3, if_neg c2]
        exact fin _ _ h hu (bMK.refl M)
end

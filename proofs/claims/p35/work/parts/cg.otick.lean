/-! ===== the own line's tick ===== -/
section
variable {u : Nat} {A ρ : Nat → Nat} {R : Nat → List Nat} {a b : Int} {h : gH} {s : aS}
/-- while an end sends -/
def aK (e : Nat) (B : Int) (N : Nat) (k : Nat) (t : aS) : Prop := aI (B + 101 * (120 - (k : Int))) t ∧ k ≤ 120 ∧ t.1 ((56 + 717 * e) + 5) ≤ 5 * (k : Int) ∧ 5 * (((t.2.2 1730)).length : Int) + t.1 ((56 + 717 * e) + 5) ≤ 5 * (N : Int) + 108
theorem aK.sn {e : Nat} (he : e < 2) {B : Int} {N k : Nat} {t : aS} (h : aK e B N k t) (h1 : 1 ≤ B) (hB : B ≤ 800000000) (hN : N ≤ 170) : oSn 900000000 e t ∧ ∀ t', aStep e t = some t' → ∃ k', k = k' + 1 ∧ aK e B N k' t' := by
  obtain ⟨a1, a2, a3, a4⟩ := h
  obtain ⟨c1, c2, c3, c4, c5⟩ := a1.2.2.2.1 e he
  have h15 := a1.1.1.2.1.2.1
  refine ⟨⟨a1.sm, a1.2.1.le (by omega), c1.fw, c1.1, c2.2.2.1, c2.1, by omega, a1.1.2.2.2.2.2, by omega, by omega⟩, fun t' ht => ?_⟩
  obtain ⟨b1, b2, b3⟩ := a1.step he ht (by omega)
  have c3' := (b1.2.2.2.1 e he).2.2.1
  refine ⟨k - 1, by omega, b1.le (by omega), by omega, by omega, by omega⟩
theorem OO.sendI (o : OO u A ρ h s) {B : Int} (hi : aI B s) (h1 : 108 ≤ B) (hB : B ≤ 700000000) (hf : ((s.2.2 1730)).length ≤ 170) (e : Nat) {z : Int} (hz : z = (e : Int)) (he : e < 2) : ∃ (ρ' : Nat → Nat) (h' : gH), f_O_send u z h = some h' ∧ OO u A ρ' h' (aSend e s) ∧ hC (aSendC e s) (aSendZ e s) ρ h ρ' h' := by
  have hc := hi.cred he h1
  have hcr := (hc.2.2.2.1 e he).2.2.1
  exact o.send hi.sm e hz he (by omega : (900000000 : Int) ≤ 900000000) (hi.2.1.le (by omega)) hi.1.2.2.2.1 (aK e B ((s.2.2 1730)).length) (fun k t ht => ht.sn he (by omega) (by omega) hf) ⟨hc.le (by omega), Nat.le_refl _, by omega, by show 5 * (((s.2.2 1730)).length : Int) + _ ≤ _; omega⟩
theorem OO.outI (o : OO u A ρ h s) {B : Int} (hi : aI B s) (h1 : 108 ≤ B) (hB : B ≤ 600000000) (hf : ((s.2.2 1730)).length ≤ 120) : ∃ (ρ' : Nat → Nat) (h' : gH), f_O_live_75 u h = some h' ∧ OO u A ρ' h' (aOut s) ∧ hC (aOutC s) (aOutZ s) ρ h ρ' h' := by
  obtain ⟨R, o'⟩ := id o
  have hsu := hi.1.1
  have hsc := hi.1.2
  unfold f_O_live_75 aOut aOutC aOutZ
  rw [o'.f1, Option.bind_some, (hi.2.1.1 1).xw (by omega), show xw 2 = 2 by decide]
  by_cases hp : s.1 1 = 2
  · rw [if_pos hp, if_pos hp, if_pos hp, if_pos hp, o'.f9, Option.bind_some, o'.k16, Option.bind_some, o'.set 6 (z := 6) rfl (by omega), Option.bind_some, (hi.2.1.1 9).xw (by omega), show s.1 (12 + 6) = s.1 18 from rfl, (hi.2.1.1 18).xw (by omega)]
    have go : ∀ (h1 : gH) (ρ1 : Nat → Nat), OO u A ρ1 h1 (aRise s) → hC (aRiseC s) (4 * aRiseC s) ρ h ρ1 h1 → ∃ (ρ' : Nat → Nat) (h' : gH), f_O_live_161 u h1 = some h' ∧ OO u A ρ' h' (aSend 1 (aSend 0 (aRise s))) ∧ hC (aRiseC s + (aSendC 0 (aRise s) + aSendC 1 (aSend 0 (aRise s)))) (4 * aRiseC s + (aSendZ 0 (aRise s) + aSendZ 1 (aSend 0 (aRise s)))) ρ h ρ' h' := fun h1 ρ1 o1 c1 => by
      have hr := hi.rise (by omega)
      have fr := aRise_fl s
      obtain ⟨ρ2, h2, a1, a2, a3⟩ := o1.sendI hr (by omega) (by omega) (by rw [fr]; omega) 0 (z := 0) rfl (by omega)
      obtain ⟨hs, fs⟩ := hr.send (e := 0) (by omega) (by omega)
      rw [fr] at fs
      obtain ⟨ρ3, h3, b1, b2, b3⟩ := a2.sendI hs (by omega) (by omega) (by omega) 1 (z := 1) rfl (by omega)
      obtain ⟨R1, o1'⟩ := o1
      obtain ⟨R2, o2'⟩ := a2
      unfold f_O_live_161
      rw [a1, Option.bind_some, if_pos o1'.ob, b1, Option.bind_some, if_pos o2'.ob]
      exact ⟨ρ3, h3, rfl, b2, (c1.tr (a3.tr b3)).le (by omega) (by omega)⟩
    have no : ¬ (s.1 18 ≤ s.1 9 ∧ s.1 3 + 1 < s.1 11 ∧ s.1 (40 + (s.1 3 + 1).toNat) ≤ s.1 2) → ∃ (ρ' : Nat → Nat) (h' : gH), f_O_live_161 u h = some h' ∧ OO u A ρ' h' (aSend 1 (aSend 0 (aRise s))) ∧ hC (aRiseC s + (aSendC 0 (aRise s) + aSendC 1 (aSend 0 (aRise s)))) (4 * aRiseC s + (aSendZ 0 (aRise s) + aSendZ 1 (aSend 0 (aRise s)))) ρ h ρ' h' := fun hn => by
      have e1 : aRise s = s := by unfold aRise; rw [if_neg hn]
      exact go h ρ (by rw [e1]; exact o) (hC.rf.le (by omega) (by omega))
    by_cases c1 : s.1 9 < s.1 18
    · rw [if_pos c1]
      exact no (fun w => by omega)
    · have r3 := hsc.2.2.1
      have r11 := hsu.1.1
      rw [if_neg c1, o'.f3, Option.bind_some, o'.k13, Option.bind_some, o'.rates hi.sm, Option.bind_some, xw_id (x := s.1 3 + 1) (by omega) (by omega), (hi.2.1.1 11).xw (by omega)]
      by_cases c2 : s.1 3 + 1 < s.1 11
      · rw [if_pos c2, Option.bind_some, Option.bind_some, o'.need hi.sm (s.1 3 + 1).toNat (z := s.1 3 + 1) (by omega) (by omega), Option.bind_some, o'.f2, Option.bind_some, (hi.2.1.1 2).xw (by omega), (hi.2.1.1 (40 + (s.1 3 + 1).toNat)).xw (by omega)]
        by_cases c3 : s.1 2 < s.1 (40 + (s.1 3 + 1).toNat)
        · rw [if_pos c3]
          exact no (fun w => by omega)
        · rw [if_neg c3, Option.bind_some]
          have hy : s.1 18 ≤ s.1 9 ∧ s.1 3 + 1 < s.1 11 ∧ s.1 (40 + (s.1 3 + 1).toNat) ≤ s.1 2 := ⟨by omega, c2, by omega⟩
          obtain ⟨h2, a1, a2, a3⟩ := o'.w3 hi.sm (s.1 3 + 1)
          have m2 := hi.sm.N (j := 3) (x := s.1 3 + 1) (by omega)
          rw [a1, Option.bind_some]
          obtain ⟨h3, b1, b2, b3⟩ := a2.w9 m2 0
          have m3 := m2.N (j := 9) (x := 0) (by omega)
          rw [b1, Option.bind_some, b2.k17, Option.bind_some, b2.tot 5 (z := 5) rfl (by omega), Option.bind_some]
          have e50 : (aN (aN s 3 (s.1 3 + 1)) 9 0).1 (45 + 5) = s.1 50 := rfl
          rw [e50]
          obtain ⟨h4, d1, d2, d3⟩ := b2.wtot m3 5 (z := 5) rfl (by omega) (s.1 50 + 1)
          rw [d1, Option.bind_some]
          have x50 := hi.2.1.1 50
          unfold aB at x50
          have r4 : aR 700000000 (aN (aN (aN s 3 (s.1 3 + 1)) 9 0) (45 + 5) (s.1 50 + 1)) := (((hi.2.1.le (by omega)).N (by unfold aB; omega)).N (by unfold aB; omega)).N (by unfold aB; omega)
          obtain ⟨h5, f1, f2, f3⟩ := d2.tell (by exact hi.2.2.1) (by omega) r4 3 (-1)
          rw [f1, Option.bind_some, if_pos d2.ob]
          have er : aRise s = aTell 3 (-1) (aN (aN (aN s 3 (s.1 3 + 1)) 9 0) (45 + 5) (s.1 50 + 1)) := by unfold aRise; rw [if_pos hy]
          refine go h5 ρ ⟨R, ?_⟩ ?_
          · rw [er, aTell_fl]
            exact f2
          · unfold aRiseC
            rw [if_pos hy]
            exact (((a3.tr b3).tr d3).tr f3).le (by omega) (by omega)
      · rw [if_neg c2]
        exact no (fun w => by omega)
  · rw [if_neg hp, if_neg hp, if_neg hp, if_neg hp]
    exact ⟨ρ, h, rfl, o, hC.rf⟩
theorem OO.liveI (o : OO u A ρ h s) {B : Int} (hi : aI B s) (h1 : 108 ≤ B) (hB : B ≤ 500000000) (hf : ((s.2.2 1730)).length ≤ 100) : ∃ (A' ρ' : Nat → Nat) (h' : gH), f_O_live u h = some h' ∧ OO u A' ρ' h' (aLive s) ∧ hC (aLiveC s) (aLiveZ s) ρ h ρ' h' := by
  obtain ⟨R, o'⟩ := id o
  unfold f_O_live aLive aLiveC aLiveZ
  rw [o'.f2, Option.bind_some, (hi.2.1.1 2).xw (by omega)]
  by_cases c : s.1 2 = 0
  · rw [if_pos c, if_pos c, if_pos c, if_pos c]
    obtain ⟨h2, a1, a2, a3⟩ := o'.w1 hi.sm 3
    have m2 := hi.sm.N (j := 1) (x := 3) (by omega)
    obtain ⟨h3, b1, b2, b3⟩ := a2.w7 m2 1
    have m3 := m2.N (j := 7) (x := 1) (by omega)
    obtain ⟨h4, d1, d2, d3⟩ := b2.wb 0
    have o4 := d2.fl0
    have m4 : oSm (aF (aN (aN s 1 3) 7 1) 1730 []) := m3
    rw [a1, Option.bind_some, b1, Option.bind_some, d1, Option.bind_some, o4.k17, Option.bind_some, o4.tot 6 (z := 6) rfl (by omega), Option.bind_some]
    have e51 : (aF (aN (aN s 1 3) 7 1) 1730 []).1 (45 + 6) = s.1 51 := rfl
    rw [e51]
    obtain ⟨h5, f1, f2, f3⟩ := o4.wtot m4 6 (z := 6) rfl (by omega) (s.1 51 + 1)
    rw [f1, Option.bind_some]
    have x51 := hi.2.1.1 51
    unfold aB at x51
    have r5 : aR 600000000 (aN (aF (aN (aN s 1 3) 7 1) 1730 []) (45 + 6) (s.1 51 + 1)) := ((((hi.2.1.le (by omega)).N (by unfold aB; omega)).N (by unfold aB; omega)).F fun f hf => absurd hf List.not_mem_nil).N (by unfold aB; omega)
    obtain ⟨h6, g1, g2, g3⟩ := f2.tell (by exact hi.2.2.1) (by omega) r5 4 (-1)
    rw [g1, Option.bind_some, if_pos f2.ob, g2.k16, Option.bind_some, g2.set 1 (z := 1) rfl (by omega), Option.bind_some]
    have c6 : hC 1 4 ρ h ρ h6 := ((((a3.tr b3).tr d3).tr f3).tr g3).le (by omega) (by omega)
    have r6 := aTell_R r5 (k := 4) (e := -1) (by unfold aB; omega) (by unfold aB; omega) (by omega)
    have o6 : OO u A ρ h6 (aTell 4 (-1) (aN (aF (aN (aN s 1 3) 7 1) 1730 []) 51 (s.1 51 + 1))) := ⟨R, by
      rw [aTell_fl, aN_2, aF_3, if_pos rfl]
      exact g2⟩
    have e13 : (aTell 4 (-1) (aN (aF (aN (aN s 1 3) 7 1) 1730 []) (45 + 6) (s.1 51 + 1))).1 (12 + 1) = s.1 13 := rfl
    have e13' : (aTell 4 (-1) (aN (aF (aN (aN s 1 3) 7 1) 1730 []) 51 (s.1 51 + 1))).1 13 = s.1 13 := rfl
    unfold aLose
    dsimp only
    rw [e13, (hi.2.1.1 13).xw (by omega)]
    by_cases c2 : s.1 13 = 0
    · rw [if_pos c2, if_pos c2]
      obtain ⟨h7, k1, k2, k3⟩ := o6.hang m4 (aTell_len _ _ _ (by exact hi.2.2.1)) (by omega : (600000000 : Int) ≤ 1000000000) r6
      rw [k1, Option.bind_some, if_pos g2.ob]
      exact ⟨A, ρ, h7, rfl, k2, (c6.tr k3).le (by omega) (by omega)⟩
    · rw [if_neg c2, if_neg c2]
      exact ⟨A, ρ, h6, rfl, o6, c6.le (by omega) (by omega)⟩
  · rw [if_neg c, if_neg c, if_neg c, if_neg c]
    obtain ⟨A1, ρ1, h2, a1, a2, a3⟩ := o.arrivals (by omega : (900000000 : Int) ≤ 900000000) (by omega) (aJ (s.1 0) B ((s.2.2 1730)).length ((s.2.2 1730)).length) (fun it r t ht => by
      obtain ⟨s1, s2⟩ := ht.step (by omega)
      obtain ⟨q1, q2, q3, q4, q5⟩ := ht
      obtain ⟨i1, i2⟩ := q4 it List.mem_cons_self
      rw [List.length_cons] at q2 q5
      refine ⟨⟨i1.1, i2.le (by omega), (q2.2.1.1 0).le (by omega)⟩, fun hc => ⟨⟨⟨q2.sm, q2.2.1.le (by omega), q2.2.2.1, by omega⟩, fun e he => ⟨q2.fw e he, (q2.2.2.2.1 e he).2.1.2.2.2, (q2.2.2.2.1 e he).2.1.2.1⟩⟩, s1 hc⟩, s2⟩) (by omega) ((hi.2.1.1 0).le (by omega)) (fun it hit => by
      obtain ⟨i1, i2⟩ := hi.2.2.2.2 it hit
      have := i1.1.1
      exact ⟨by rcases i1.2 with w | w <;> omega, by omega, (hi.2.1.2.2 _ it hit).le (by omega)⟩) (aJ.begin hi)
    obtain ⟨i2, l2, t2⟩ := hi.arr (by omega)
    obtain ⟨R1, o2⟩ := id a2
    rw [a1, Option.bind_some, if_pos o'.ob]
    obtain ⟨h3, b1, b2, b3⟩ := a2.timer i2.sm 0 (z := 0) rfl (by omega) (by omega : B + 30 * (((s.2.2 1730)).length : Int) ≤ 900000000) (by omega) i2.2.1 i2.2.2.1 (i2.fw 0 (by omega))
    rw [b1, Option.bind_some, if_pos o2.ob]
    have i3 := i2.timer (e := 0) (by omega) (by omega)
    have l3 := aTimer_fl 0 (by omega) (aArr s)
    obtain ⟨R3, o3⟩ := id b2
    rw [o3.f1, Option.bind_some, (i3.2.1.1 1).xw (by omega), show xw 2 = 2 by decide]
    unfold aTimes aTimesC
    dsimp only
    by_cases hp : (aTimer 0 (aArr s)).1 1 = 2
    · rw [if_pos hp, if_pos hp, if_pos hp]
      obtain ⟨h4, d1, d2, d3⟩ := b2.timer i3.sm 1 (z := 1) rfl (by omega) (by omega : B + 30 * (((s.2.2 1730)).length : Int) + 2 ≤ 900000000) (by omega) i3.2.1 i3.2.2.1 (i3.fw 1 (by omega))
      rw [d1, Option.bind_some, if_pos o3.ob]
      have i4 := i3.timer (e := 1) (by omega) (by omega)
      have l4 := aTimer_fl 1 (by omega) (aTimer 0 (aArr s))
      obtain ⟨ρ5, h5, f1, f2, f3⟩ := d2.outI i4 (by omega) (by omega) (by omega)
      exact ⟨A1, ρ5, h5, f1, f2, (((a3.tr b3).tr d3).tr f3).le (by omega) (by omega)⟩
    · rw [if_neg hp, if_neg hp, if_neg hp]
      obtain ⟨ρ5, h5, f1, f2, f3⟩ := b2.outI i3 (by omega) (by omega) (by omega)
      exact ⟨A1, ρ5, h5, f1, f2, ((a3.tr b3).tr f3).le (by omega) (by omega)⟩
theorem OO.tick97 (o : OO u A ρ h s) (hm : oSm s) : ∃ h', f_O_tick_97 u h = some h' ∧ OO u A ρ h' (aN s 0 (s.1 0 + 1)) ∧ hC 0 0 ρ h ρ h' := by
  obtain ⟨R, o⟩ := o
  unfold f_O_tick_97
  rw [o.f0, Option.bind_some]
  obtain ⟨h2, a1, a2, a3⟩ := o.w0 hm (s.1 0 + 1)
  rw [a1, Option.bind_some]
  exact ⟨h2, rfl, ⟨R, a2⟩, a3⟩
theorem OO.training (o : OO u A ρ h s) {B : Int} (hi : aI B s) (h1 : 108 ≤ B) (hB : B ≤ 500000000) : ∃ h', f_O_training u h = some h' ∧ OO u A ρ h' (aTrain s) ∧ hC 20 140 ρ h ρ h' := by
  obtain ⟨R, o'⟩ := id o
  have r4 := hi.1.2.2.2.2.1
  have x6 := hi.2.1.1 6
  have x5 := hi.2.1.1 5
  unfold aB at x6 x5
  unfold f_O_training aTrain
  rw [o'.f2, Option.bind_some, (hi.2.1.1 2).xw (by omega)]
  by_cases c : s.1 2 = 0
  · rw [if_pos c, if_pos c, o'.k14, Option.bind_some, o'.f4, Option.bind_some, o'.train (s.1 4).toNat (z := s.1 4) (by omega) (by omega), Option.bind_some]
    obtain ⟨h2, a1, a2, a3⟩ := o'.w5 hi.sm (s.1 (21 + (s.1 4).toNat))
    have m2 := hi.sm.N (j := 5) (x := s.1 (21 + (s.1 4).toNat)) (by omega)
    rw [a1, Option.bind_some, a2.f6, Option.bind_some]
    have e6 : (aN s 5 (s.1 (21 + (s.1 4).toNat))).1 6 = s.1 6 := rfl
    rw [e6]
    obtain ⟨h3, b1, b2, b3⟩ := a2.w6 m2 (s.1 6 + 1)
    have m3 := m2.N (j := 6) (x := s.1 6 + 1) (by omega)
    rw [b1, Option.bind_some, b2.k16, Option.bind_some, b2.set 0 (z := 0) rfl (by omega), Option.bind_some]
    have e12 : (aN (aN s 5 (s.1 (21 + (s.1 4).toNat))) 6 (s.1 6 + 1)).1 (12 + 0) = s.1 12 := rfl
    have e12' : (aN (aN s 5 (s.1 (21 + (s.1 4).toNat))) 6 (s.1 6 + 1)).1 12 = s.1 12 := rfl
    have e66 : (aN (aN s 5 (s.1 (21 + (s.1 4).toNat))) 6 (s.1 6 + 1)).1 6 = s.1 6 + 1 := rfl
    dsimp only
    rw [e12, e66, (hi.2.1.1 12).xw (by omega), xw_id (x := s.1 6 + 1) (by omega) (by omega)]
    have o3 : OO u A ρ h3 (aN (aN s 5 (s.1 (21 + (s.1 4).toNat))) 6 (s.1 6 + 1)) := ⟨R, b2⟩
    by_cases d : s.1 12 < s.1 6 + 1
    · rw [if_pos d, if_pos d]
      obtain ⟨h4, k1, k2, k3⟩ := o3.hang m3 hi.2.2.1 (by omega : (600000000 : Int) ≤ 1000000000) (((hi.2.1.le (by omega)).N ((hi.2.1.1 _).le (by omega))).N (by unfold aB; omega))
      rw [k1, Option.bind_some, if_pos b2.ob]
      exact ⟨h4, rfl, k2, ((a3.tr b3).tr k3).le (by omega) (by omega)⟩
    · rw [if_neg d, if_neg d]
      exact ⟨h3, rfl, o3, (a3.tr b3).le (by omega) (by omega)⟩
  · rw [if_neg c, if_neg c, o'.f5, Option.bind_some]
    obtain ⟨h2, a1, a2, a3⟩ := o'.w5 hi.sm (s.1 5 - 1)
    have m2 := hi.sm.N (j := 5) (x := s.1 5 - 1) (by omega)
    rw [a1, Option.bind_some, xw_id (x := s.1 5 - 1) (by omega) (by omega)]
    dsimp only
    have e5 : (aN s 5 (s.1 5 - 1)).1 5 = s.1 5 - 1 := rfl
    have e4 : (aN s 5 (s.1 5 - 1)).1 4 = s.1 4 := rfl
    rw [e5, e4]
    have o2 : OO u A ρ h2 (aN s 5 (s.1 5 - 1)) := ⟨R, a2⟩
    by_cases d : 0 < s.1 5 - 1
    · rw [if_pos d, if_pos d]
      exact ⟨h2, rfl, o2, a3.le (by omega) (by omega)⟩
    · rw [if_neg d, if_neg d, a2.f4, Option.bind_some, e4, (hi.2.1.1 4).xw (by omega), show xw 3 = 3 by decide]
      by_cases f : s.1 4 = 3
      · rw [if_pos f, if_pos f]
        obtain ⟨h3, k1, k2, k3⟩ := o2.online m2 (by omega : (600000000 : Int) ≤ 1000000000) (by omega) ((hi.2.1.le (by omega)).N (by unfold aB; omega)) hi.2.2.1 hi.fw
        rw [k1, Option.bind_some, if_pos a2.ob]
        exact ⟨h3, rfl, k2, (a3.tr k3).le (by omega) (by omega)⟩
      · rw [if_neg f, if_neg f, a2.k14, Option.bind_some, Option.bind_some]
        obtain ⟨h3, b1, b2, b3⟩ := a2.w4 m2 (s.1 4 + 1)
        have m3 := m2.N (j := 4) (x := s.1 4 + 1) (by omega)
        rw [b1, Option.bind_some, b2.train (s.1 4 + 1).toNat (z := s.1 4 + 1) (by omega) (by omega), Option.bind_some]
        have e9 : (aN (aN s 5 (s.1 5 - 1)) 4 (s.1 4 + 1)).1 (21 + (s.1 4 + 1).toNat) = (aN s 5 (s.1 5 - 1)).1 (21 + (s.1 4 + 1).toNat) := by rw [aN_1, if_neg (by omega)]
        rw [e9]
        obtain ⟨h4, d1, d2, d3⟩ := b2.w5 m3 ((aN s 5 (s.1 5 - 1)).1 (21 + (s.1 4 + 1).toNat))
        rw [d1, Option.bind_some]
        exact ⟨h4, rfl, ⟨R, d2⟩, ((a3.tr b3).tr d3).le (by omega) (by omega)⟩
theorem OO.tick (o : OO u A ρ h s) {B : Int} (hi : aI B s) (h1 : 108 ≤ B) (hB : B ≤ 500000000) (hf : ((s.2.2 1730)).length ≤ 100) : ∃ (A' ρ' : Nat → Nat) (h' : gH), f_O_tick u h = some h' ∧ OO u A' ρ' h' (aTick s) ∧ hC (aTickC s) (aTickZ s) ρ h ρ' h' := by
  obtain ⟨R, o'⟩ := id o
  have id2 := (hi.do h1 (by omega)).1
  unfold f_O_tick aTick aTickC aTickZ
  rw [o'.f1, Option.bind_some, Option.bind_some, Option.bind_some, (hi.2.1.1 1).xw (by omega), show xw 1 = 1 by decide, show xw 3 = 3 by decide, show xw 2 = 2 by decide]
  unfold aDo at *
  by_cases c1 : s.1 1 = 1
  · rw [if_pos c1] at id2 ⊢
    rw [if_pos c1, if_pos c1, if_pos c1]
    obtain ⟨h2, a1, a2, a3⟩ := o.training hi h1 hB
    rw [a1, Option.bind_some, if_pos o'.ob]
    obtain ⟨h3, b1, b2, b3⟩ := a2.tick97 id2.sm
    exact ⟨A, ρ, h3, b1, b2, (a3.tr b3).le (by omega) (by omega)⟩
  · rw [if_neg c1] at id2 ⊢
    rw [if_neg c1, if_neg c1, if_neg c1]
    by_cases c3 : s.1 1 = 3
    · rw [if_pos c3] at id2 ⊢
      rw [if_pos c3, if_pos c3, if_pos c3, o'.f2, Option.bind_some, (hi.2.1.1 2).xw (by omega)]
      unfold aWait at *
      by_cases c : 0 < s.1 2
      · rw [if_pos c] at id2 ⊢
        rw [if_pos c]
        obtain ⟨h2, a1, a2, a3⟩ := o'.w1 hi.sm 1
        have m2 := hi.sm.N (j := 1) (x := 1) (by omega)
        obtain ⟨h3, b1, b2, b3⟩ := a2.w4 m2 2
        have m3 := m2.N (j := 4) (x := 2) (by omega)
        rw [a1, Option.bind_some, b1, Option.bind_some, b2.k14, Option.bind_some, b2.train 2 (z := 2) rfl (by omega), Option.bind_some]
        have e23 : (aN (aN s 1 1) 4 2).1 (21 + 2) = s.1 23 := rfl
        rw [e23]
        obtain ⟨h4, d1, d2, d3⟩ := b2.w5 m3 (s.1 23)
        have m4 := m3.N (j := 5) (x := s.1 23) (by omega)
        obtain ⟨h5, f1, f2, f3⟩ := d2.w6 m4 0
        rw [d1, Option.bind_some, f1, Option.bind_some]
        have o5 : OO u A ρ h5 (aN (aN (aN (aN s 1 1) 4 2) 5 (s.1 23)) 6 0) := ⟨R, f2⟩
        obtain ⟨h6, g1, g2, g3⟩ := o5.tick97 id2.sm
        exact ⟨A, ρ, h6, g1, g2, ((((a3.tr b3).tr d3).tr f3).tr g3).le (by omega) (by omega)⟩
      · rw [if_neg c] at id2 ⊢
        rw [if_neg c, o'.f7, Option.bind_some]
        have x7 := hi.2.1.1 7
        unfold aB at x7
        obtain ⟨h2, a1, a2, a3⟩ := o'.w7 hi.sm (s.1 7 + 1)
        have m2 := hi.sm.N (j := 7) (x := s.1 7 + 1) (by omega)
        have e13 : (aN s 7 (s.1 7 + 1)).1 (12 + 1) = s.1 13 := rfl
        have e13' : (aN s 7 (s.1 7 + 1)).1 13 = s.1 13 := rfl
        have e77 : (aN s 7 (s.1 7 + 1)).1 7 = s.1 7 + 1 := rfl
        dsimp only at id2 ⊢
        rw [e13', e77] at id2 ⊢
        rw [a1, Option.bind_some, a2.k16, Option.bind_some, a2.set 1 (z := 1) rfl (by omega), Option.bind_some, e13, (hi.2.1.1 13).xw (by omega), xw_id (x := s.1 7 + 1) (by omega) (by omega)]
        have o2 : OO u A ρ h2 (aN s 7 (s.1 7 + 1)) := ⟨R, a2⟩
        by_cases d : s.1 13 < s.1 7 + 1
        · rw [if_pos d] at id2 ⊢
          rw [if_pos d]
          obtain ⟨h3, k1, k2, k3⟩ := o2.hang m2 hi.2.2.1 (by omega : (600000000 : Int) ≤ 1000000000) ((hi.2.1.le (by omega)).N (by unfold aB; omega))
          rw [k1, Option.bind_some, if_pos a2.ob]
          obtain ⟨h4, g1, g2, g3⟩ := k2.tick97 id2.sm
          exact ⟨A, ρ, h4, g1, g2, ((a3.tr k3).tr g3).le (by omega) (by omega)⟩
        · rw [if_neg d] at id2 ⊢
          rw [if_neg d]
          obtain ⟨h4, g1, g2, g3⟩ := o2.tick97 id2.sm
          exact ⟨A, ρ, h4, g1, g2, (a3.tr g3).le (by omega) (by omega)⟩
    · rw [if_neg c3] at id2 ⊢
      rw [if_neg c3, if_neg c3, if_neg c3]
      by_cases c2 : s.1 1 = 2
      · rw [if_pos c2] at id2 ⊢
        rw [if_pos c2, if_pos c2, if_pos c2]
        obtain ⟨A2, ρ2, h2, a1, a2, a3⟩ := o.liveI hi h1 hB hf
        rw [a1, Option.bind_some, if_pos o'.ob]
        obtain ⟨h3, b1, b2, b3⟩ := a2.tick97 id2.sm
        exact ⟨A2, ρ2, h3, b1, b2, (a3.tr b3).le (by omega) (by omega)⟩
      · rw [if_neg c2] at id2 ⊢
        rw [if_neg c2, if_neg c2, if_neg c2]
        obtain ⟨h3, b1, b2, b3⟩ := o.tick97 id2.sm
        exact ⟨A, ρ, h3, b1, b2, b3⟩
end

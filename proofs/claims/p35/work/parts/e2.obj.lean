/-! ===== the class, over states ===== -/
section
variable {s : aS} {B : Int} {M : xM} {H : List aS} {S : Option aS} {bf : List Int}
theorem r_least_22 : ∀ (k : Nat) (n : Nat) (q : Int) (M y : xM), q + k = 10 → 0 ≤ q → k < n → bLine y M → y 0 7 ≤ 99999 → rX B M s H S bf → (∀ j, j < 3530 → M 3 j = M 1 j) → M 0 6 = 0 → 108 ≤ B → B + 30000 * 401 ≤ 500000000 → ∃ M' : xM, f_m_leastQuality_22 n (-1) q M = some (aLeast s k q, M') ∧ M' 0 6 = 0 ∧ rX B M' s H S bf := by
  intro k
  induction k with
  | zero =>
    intro n q M y h1 h2 h3 hb ht h hr h6 hB1 hB
    obtain ⟨n, rfl⟩ : ∃ z, n = z + 1 := ⟨n - 1, by omega⟩
    rw [f_m_leastQuality_22, if_pos (by rw [xw_id (x := q) (by omega) (by omega), xw_id (x := 9) (by omega) (by omega)]; omega)]
    exact ⟨M, rfl, h6, h⟩
  | succ k ih =>
    intro n q M y h1 h2 h3 hb ht h hr h6 hB1 hB
    obtain ⟨n, rfl⟩ : ∃ z, n = z + 1 := ⟨n - 1, by omega⟩
    have hq := hb.qual q ⟨h2, by omega⟩
    have hs : rS B ((xu M 1 2 q) 1) (aN s 2 q) := ⟨h.1.1.num (j := 2) (by unfold aIx; omega) q, h.1.2.1.N 2 q (by unfold aB; omega) (by omega) (by omega) (fun e he => by omega), h.1.2.2.same rfl (fun e he => by rw [aN_1, if_neg (by omega)])⟩
    obtain ⟨M2, d1, d2⟩ := r_fin 401 fu 0 B (xu M 1 2 q) (xu y 0 9 q) (aN s 2 q) (by omega) (by omega) (by show _ < 5000; omega) hq (by rw [xu_d (by omega)]; omega) hs hB1 hB
    obtain ⟨Q2, g1, g2, g3, g4, g5⟩ := r_back h (M1 := M2) (M2 := M2) (Q := M2) (by rw [d2.2 6 (by omega), xu_K (by omega), h6]) (fun j hj => by rw [d2.1 3 (by omega) (by omega) (by omega), xu_K (by omega), hr j hj]) (by rw [d2.1 4 (by omega) (by omega) (by omega), xu_K (by omega)]) (by rw [d2.1 5 (by omega) (by omega) (by omega), xu_K (by omega)]) (by rw [d2.1 8 (by omega) (by omega) (by omega), xu_K (by omega)]) (fun j hj => by rw [d2.2 j (by omega), xu_K (by omega)])
    have d1' : f_m_finishOf (xu M 1 2 q) = some (aFin 401 0 (aN s 2 q), M2) := d1
    rw [f_m_leastQuality_22, if_neg (by rw [xw_id (x := q) (by omega) (by omega), xw_id (x := 9) (by omega) (by omega)]; omega), if_pos (by decide), if_pos (by decide), d1', Option.bind_some, aLeast]
    unfold f_m_leastQuality_53
    have hfin : ∀ (k : Nat) (x : Int) (t : aS), 0 ≤ x → x + k ≤ 1000 → -1 ≤ aFin k x t ∧ aFin k x t ≤ 1000 := by
      intro k
      induction k with
      | zero => intro x t h1 h2; rw [aFin]; omega
      | succ k ih =>
        intro x t h1 h2
        rw [aFin]
        have := ih (x + 1) (aTick t) (by omega) (by omega)
        split
        · omega
        · split
          · omega
          · exact this
    have hv := hfin 401 0 (aN s 2 q) (by omega) (by omega)
    by_cases c : aFin 401 0 (aN s 2 q) = -1
    · rw [if_pos c, if_pos (by rw [c]), g1, Option.bind_some]
      have g5' : xmg [3, 1] 2 M2 Q2 3 = M2 3 := g5 3 (by omega)
      refine ih n (q + 1) _ y (by omega) (by omega) (by omega) (hb.cgN g4) ht g3 (fun j hj => ?_) g2 hB1 hB
      rw [g5', g4 j hj, d2.1 3 (by omega) (by omega) (by omega), xu_K (by omega), hr j hj]
    · rw [if_neg c, if_neg (fun w => c (by rw [xw_id (x := aFin 401 0 (aN s 2 q)) (by omega) (by omega), xw_id (x := -1) (by omega) (by omega)] at w; exact w)), g1, Option.bind_some]
      obtain ⟨n, rfl⟩ : ∃ z, n = z + 1 := ⟨n - 1, by omega⟩
      rw [f_m_leastQuality_22]
      refine ⟨_, ?_, g2, g3⟩
      by_cases c9 : xw 9 < xw (q + 1)
      · rw [if_pos c9]
      · rw [if_neg c9, if_neg (fun w => by rw [xw_id (x := q) (by omega) (by omega), xw_id (x := -1) (by omega) (by omega)] at w; omega)]
theorem r_least {y : xM} (h : rX B M s H S bf) (hb : bLine y M) (ht : y 0 7 ≤ 99999) (h1 : 108 ≤ B) (hB : B + 30000 * 401 ≤ 500000000) : ∃ M' : xM, f_m_leastQuality M = some (aLeast s 10 0, M') ∧ M' 0 6 = 0 ∧ rX B M' s H S bf := by
  obtain ⟨Q, c1, c2, c3⟩ := r_aside h (v := 0)
  obtain ⟨M1, hM1⟩ : ∃ Z, Z = xmg [1, 3] 2 (xu M 0 6 0) Q := ⟨_, rfl⟩
  rw [← hM1] at c2 c3
  have e1 : M1 1 = M 1 := by rw [c3 1 (by omega), xu06]
  have hb1 : bLine y M1 := hb.cgN fun i hi => by rw [e1]
  have h2 : rX B M1 s H S bf := h.cg (by rw [e1]; exact h.1) (by rw [c3 4 (by omega), xu_K (by omega)]) (by rw [c3 5 (by omega), xu_K (by omega)]) (by rw [c3 8 (by omega), xu_K (by omega)]) (fun j hj => by rw [c3 0 (by omega), xu_d (by omega)])
  obtain ⟨M', d1, d2, d3⟩ := r_least_22 (B := B) (s := s) (H := H) (S := S) (bf := bf) 10 fu 0 M1 y (by omega) (by omega) (by show _ < 5000; omega) hb1 ht h2 (fun j hj => by rw [c2 j hj, e1]) (by rw [c3 0 (by omega), xu_s rfl]) h1 hB
  refine ⟨M', ?_, d2, d3⟩
  unfold f_m_leastQuality
  rw [c1, Option.bind_some, ← hM1, d1]
end
/-- what reads of a class's memory answer -/
def aSee (m : xM) (s : aS) : Prop :=
  (∀ w : Nat, w ≤ 10 → f_X_size (w : Int) m = some (aSize s w)) ∧
  (∀ w : Nat, w ≤ 10 → f_X_total (w : Int) m = some (s.1 (45 + w))) ∧
  (∀ e w : Nat, e < 2 → w ≤ 9 → f_X_end (e : Int) (w : Int) m = some (aEndN s e w)) ∧
  (∀ e p w : Nat, e < 2 → p < ((s.2.2 (56 + 717 * e + 26))).length → w ≤ 3 → f_X_frame (e : Int) (p : Int) (w : Int) m = some (aFrmN (((s.2.2 (56 + 717 * e + 26))).getD p []) w)) ∧
  (∀ e p : Nat, e < 2 → p ≤ 500 → f_X_received (e : Int) (p : Int) m = some (if p < ((s.2.1 (56 + 717 * e + 317))).length then ((s.2.1 (56 + 717 * e + 317))).getD p 0 else -1)) ∧
  (∀ e p : Nat, e < 2 → p < 8 → f_X_word (e : Int) 1 (p : Int) m = some (if p < ((s.2.1 (56 + 717 * e + 10))).length then ((s.2.1 (56 + 717 * e + 10))).getD p 0 else -1) ∧ f_X_word (e : Int) 0 (p : Int) m = some (if p < (s.2.1 ((56 + 717 * e) + 18)).length then (s.2.1 ((56 + 717 * e) + 18)).getD p 0 else -1)) ∧
  ∀ p w : Nat, p < ((s.2.2 1490)).length → w ≤ 3 → f_X_event (p : Int) (w : Int) m = some ((((s.2.2 1490)).getD p []).getD w 0)
/-- the class holds: a line in state s, what can be undone, a snapshot, a buffer -/
def aX (B : Int) (m : xM) (s : aS) (H : List aS) (S : Option aS) (bf : List Int) : Prop := ∃ (G : bGt) (M : xM), bX G m M ∧ rX B M s H S bf
theorem bRd.val {fc : Option Int} {hc : Option Nat} {fm : Option (Int × xM)} {k : Nat} {M : xM} {v : Int} (h : bRd fc hc fm k M) (hm : fm = some (v, xu M 0 6 0)) : fc = some v := by
  rcases h with ⟨r, h1, h2⟩ | ⟨h1, r, h2⟩
  · rw [hm] at h2
    have := congrArg (fun x => x.1) (Option.some.inj h2)
    dsimp only at this
    rw [h1, this]
  · rw [hm] at h2
    have := congrArg (fun x : Int × xM => x.2 0 6) (Option.some.inj h2)
    dsimp only at this
    rw [xu_s rfl, xu_s rfl] at this
    exact absurd this (by decide)
theorem bOk.val {G : bGt} {fc fm : Option (Int × xM)} {v : Int} {M1 : xM} (h : bOk G fc fm) (hm : fm = some (v, M1)) : ∃ m' : xM, fc = some (v, m') ∧ bX G m' M1 := by
  obtain ⟨r, m', M', h1, h2, h3, h4⟩ := h
  rw [hm] at h2
  cases h2
  exact ⟨m', h1, h4⟩
theorem bTh.no {G : bGt} {hc : Option Nat} {fm : Option (Int × xM)} {k : Nat} {t v : Int} {m M1 : xM} (h : bTh G hc fm k t m) (hm : fm = some (v, M1)) (h6 : M1 0 6 = 0) (ht : t ≠ 0) : False := by
  obtain ⟨h1, r, M', h2, h3, h4⟩ := h
  rw [hm] at h2
  cases h2
  exact ht (by rw [← h3, h6])
section
variable {s : aS} {B : Int} {m : xM} {H : List aS} {S : Option aS} {bf : List Int}
theorem aX.le {B' : Int} (h : aX B m s H S bf) (hB : B ≤ B') : aX B' m s H S bf := by
  obtain ⟨G, M, h1, h2⟩ := h
  exact ⟨G, M, h1, h2.le hB⟩
theorem aX.ai (h : aX B m s H S bf) : aI B s ∧ aU s := by
  obtain ⟨G, M, h1, h2⟩ := h
  exact h2.1.2
theorem bX.line1 {G : bGt} {M : xM} (h : bX G m M) (h2 : RA (M 1) s) : bLine (xvw (bV 11) m) M ∧ (xvw (bV 11) m) 0 7 = s.1 0 ∧ 0 ≤ s.1 0 ∧ s.1 0 ≤ 99999 := by
  have hl := h.1
  have hb : bLine (xvw (bV 11) m) M := hl.1.cgN fun i hi => rfl
  have e0 : M 1 0 = (xvw (bV 11) m) 0 7 := hb.1.2.2.2.2.2.1
  have n0 := h2.n 0 (by unfold aIx; omega)
  have t0 := hb.2.1.1.1
  exact ⟨hb, by rw [← e0, n0], by rw [← n0, e0]; exact t0, by rw [← n0, e0]; exact hl.2⟩
theorem aX.line (h : aX B m s H S bf) : ∃ y X : xM, bLine y X ∧ RA (X 1) s := by
  obtain ⟨G, M, h1, h2⟩ := h
  exact ⟨_, M, (h1.line1 h2.1.1).1, h2.1.1⟩
theorem aX.time (h : aX B m s H S bf) : 0 ≤ s.1 0 ∧ s.1 0 ≤ 99999 := by
  obtain ⟨G, M, h1, h2⟩ := h
  exact (h1.line1 h2.1.1).2.2
theorem aX.see (h : aX B m s H S bf) (hB : B ≤ 1000000000) : aSee m s := by
  obtain ⟨G, M, h1, h2⟩ := h
  obtain ⟨g1, g2, g3⟩ := h2.1
  refine ⟨fun w hw => (X_size_sp (w : Int) m M h1 (by unfold bI; omega)).val (r_size g1 g2 w hw), fun w hw => (X_total_sp (w : Int) m M h1 (by unfold bI; omega)).val (r_total g1 w hw), fun e w he hw => (X_end_sp (e : Int) (w : Int) m M h1 (by unfold bI; omega) (by unfold bI; omega)).val (r_end he g1 g2 (by omega) w hw), fun e p w he hp hw => ?_, fun e p he hp => (X_received_sp (e : Int) (p : Int) m M h1 (by unfold bI; omega) (by unfold bI; omega)).val (r_received he g1 g2 g3 (by omega) p hp), fun e p he hp => ⟨(X_word_sp (e : Int) 1 (p : Int) m M h1 (by unfold bI; omega) (Or.inr rfl) (by unfold bI; omega)).val (r_word he g1 p hp).1, (X_word_sp (e : Int) 0 (p : Int) m M h1 (by unfold bI; omega) (Or.inl rfl) (by unfold bI; omega)).val (r_word he g1 p hp).2⟩, fun p w hp hw => ?_⟩
  · have := (g1.2.1 e he).2.2.1
    have hp2 : ((s.2.2 (56 + 717 * e + 26))).length ≤ 7 := this
    exact (X_frame_sp (e : Int) (p : Int) (w : Int) m M h1 (by unfold bI; omega) (by unfold bI; omega) (by unfold bI; omega)).val (r_frame he g1 hp w hw)
  · have := g1.2.2.2.1
    have hp2 : ((s.2.2 1490)).length ≤ 60 := this
    exact (X_event_sp (p : Int) (w : Int) m M h1 (by unfold bI; omega) (by unfold bI; omega)).val (r_event g1 hp w hw)
theorem aX.count (h : aX B m s H S bf) : f_X_undoCount m = some (H.length : Int) := by
  obtain ⟨G, M, h1, h2⟩ := h
  obtain ⟨r, e1, e2⟩ := X_undoCount_sp m M h1
  unfold f_m_undoCount at e2
  rw [h2.2.1.1] at e2
  rw [e1]
  have := congrArg (fun x => x.1) (Option.some.inj e2)
  dsimp only at this
  rw [this]
theorem aX.pass (h : aX B m s H S bf) (k : Nat) (hk : 1 ≤ k ∧ k ≤ 200) (ht : s.1 0 + k ≤ 99999) (h1 : 108 ≤ B) (hB : B + 30000 * k ≤ 500000000) : ∃ m' : xM, f_X_pass (k : Int) m = some ((aTicks k s).1 55 - s.1 55, m') ∧ aX (B + 30000 * k) m' (aTicks k s) (aPush H s) S bf := by
  obtain ⟨G, M, g1, g2⟩ := h
  obtain ⟨l1, l2, l3, l4⟩ := g1.line1 g2.1.1
  obtain ⟨M', e1, e2, e3⟩ := r_pass g2 l1 k hk (by omega) (by omega) h1 hB
  rcases X_pass_sp (k : Int) m M g1 (by unfold bI; omega) with ⟨r, m', M'', f1, f2, f3, f4⟩ | ⟨f1, r, M'', f2, f3, f4⟩
  · rw [e1] at f2
    cases f2
    exact ⟨m', f1, G, M', f4, e3⟩
  · rw [e1] at f2
    cases f2
    rw [e2] at f3
    exact absurd f3 (by decide)
theorem aX.finish (h : aX B m s H S bf) (h1 : 108 ≤ B) (hB : B + 30000 * 401 ≤ 500000000) : ∃ m' : xM, f_X_ticksToFinish m = some (aFin 401 0 s, m') ∧ aX B m' s H S bf := by
  obtain ⟨G, M, g1, g2⟩ := h
  obtain ⟨l1, l2, l3, l4⟩ := g1.line1 g2.1.1
  obtain ⟨M', e1, e2, e3⟩ := r_finish g2 l1 (by omega) h1 hB
  obtain ⟨m', f1, f2⟩ := (X_finish_sp m M g1).val e1
  exact ⟨m', f1, G, M', f2, e3⟩
theorem aX.least (h : aX B m s H S bf) (h1 : 108 ≤ B) (hB : B + 30000 * 401 ≤ 500000000) : ∃ m' : xM, f_X_leastQuality m = some (aLeast s 10 0, m') ∧ aX B m' s H S bf := by
  obtain ⟨G, M, g1, g2⟩ := h
  obtain ⟨l1, l2, l3, l4⟩ := g1.line1 g2.1.1
  obtain ⟨M', e1, e2, e3⟩ := r_least g2 l1 (by omega) h1 hB
  obtain ⟨m', f1, f2⟩ := (X_least_sp m M g1).val e1
  exact ⟨m', f1, G, M', f2, e3⟩
theorem aX.behind (h : aX B m s H S bf) {e : Nat} (he : e < 2) (k : Nat) (hk : k ≤ 400) (h1 : 108 ≤ B) (hB : B + 30000 * k ≤ 500000000) : ∃ m' : xM, f_X_receivedBehind (e : Int) (k : Int) m = some ((aTicks k s).1 ((56 + 717 * e) + 4), m') ∧ aX B m' s H S bf := by
  obtain ⟨G, M, g1, g2⟩ := h
  obtain ⟨l1, l2, l3, l4⟩ := g1.line1 g2.1.1
  obtain ⟨M', e1, e2, e3⟩ := r_behind he g2 l1 k hk (by omega) h1 hB
  rcases X_behind_sp (e : Int) (k : Int) m M g1 (by unfold bI; omega) (by unfold bI; omega) with f | f | f
  · obtain ⟨m', f1, f2⟩ := f.val e1
    exact ⟨m', f1, G, M', f2, e3⟩
  · exact absurd (f.no e1 e2 (by decide)) id
  · exact absurd (f.no e1 e2 (by decide)) id
theorem aX.dial (h : aX B m s H S bf) (hp : s.1 1 = 0) (h1 : 1 ≤ B) (hB : B ≤ 1000000000) : ∃ m' : xM, f_X_dial m = some (s.1 21 + s.1 22 + s.1 23 + s.1 24, m') ∧ aX B m' (aDial s) (aPush H s) S bf := by
  obtain ⟨G, M, g1, g2⟩ := h
  obtain ⟨l1, l2, l3, l4⟩ := g1.line1 g2.1.1
  obtain ⟨M', e1, e2, e3⟩ := r_dial g2 l1 hp h1 hB
  obtain ⟨m', f1, f2⟩ := (X_dial_sp m M g1).val e1
  exact ⟨m', f1, G, M', f2, e3⟩
theorem aX.dialN (h : aX B m s H S bf) (hp : s.1 1 ≠ 0) : ∃ m' : xM, f_X_dial m = some (-2, m') ∧ aX B m' s H S bf := by
  obtain ⟨G, M, g1, g2⟩ := h
  obtain ⟨e1, e3⟩ := r_dialN g2 hp
  obtain ⟨m', f1, f2⟩ := (X_dial_sp m M g1).val e1
  exact ⟨m', f1, G, _, f2, e3⟩
theorem aX.hangUp (h : aX B m s H S bf) (hp : s.1 1 ≠ 0) (h1 : 5 ≤ B) (hB : B ≤ 900000000) : ∃ m' : xM, f_X_hangUp m = some (aLosing s, m') ∧ aX (B + 1) m' (aHang s) (aPush H s) S bf := by
  obtain ⟨G, M, g1, g2⟩ := h
  obtain ⟨M', e1, e2, e3⟩ := r_hangUp g2 hp h1 hB
  obtain ⟨m', f1, f2⟩ := (X_hangUp_sp m M g1).val e1
  exact ⟨m', f1, G, M', f2, e3⟩
theorem aX.setQ (h : aX B m s H S bf) {q : Int} (hq : 0 ≤ q ∧ q ≤ 9) (h1 : 9 ≤ B) : ∃ m' : xM, f_X_setQuality q m = some (s.1 2, m') ∧ aX B m' (aN s 2 q) (aPush H s) S bf := by
  obtain ⟨G, M, g1, g2⟩ := h
  obtain ⟨M', e1, e2, e3⟩ := r_setQ g2 hq h1
  rcases X_setQ_sp q m M g1 (by unfold bI; omega) with f | f
  · obtain ⟨m', f1, f2⟩ := f.val e1
    exact ⟨m', f1, G, M', f2, e3⟩
  · exact absurd (f.no e1 e2 (by decide)) id
theorem aX.esc (h : aX B m s H S bf) {e : Nat} (he : e < 2) {z : Int} (hz : z = 0 ∨ z = 1) (h1 : 1 ≤ B) (hB : B ≤ 1000000000) : ∃ m' : xM, f_X_setEscaped (e : Int) z m = some (if s.1 1 = 2 then (if s.1 ((56 + 717 * e) + 6) = z then -3 else (((s.2.1 (56 + 717 * e + 117))).length : Int)) else -2, m') ∧ aX B m' (if s.1 1 = 2 ∧ s.1 ((56 + 717 * e) + 6) ≠ z then aN s ((56 + 717 * e) + 6) z else s) (if s.1 1 = 2 ∧ s.1 ((56 + 717 * e) + 6) ≠ z then aPush H s else H) S bf := by
  obtain ⟨G, M, g1, g2⟩ := h
  obtain ⟨M', e1, e2, e3⟩ := r_esc he g2 hz h1 hB
  rcases X_esc_sp (e : Int) z m M g1 (by unfold bI; omega) hz with f | f
  · obtain ⟨m', f1, f2⟩ := f.val e1
    exact ⟨m', f1, G, M', f2, e3⟩
  · exact absurd (f.no e1 e2 (by decide)) id
theorem aX.bytes (h : aX B m s H S bf) : ∀ x, x ∈ bf → 0 ≤ x ∧ x ≤ 255 := by
  obtain ⟨G, M, g1, g2⟩ := h
  obtain ⟨n, a1, a2, a3, a4⟩ := g1.2.2.2.1
  obtain ⟨c1, c2, c3⟩ := g2.2.2.2
  intro x hx
  obtain ⟨i, hi, e⟩ := List.getElem_of_mem hx
  have h1 := c3 i hi
  have h2 := a4 i (by omega)
  rw [List.getD_eq_getElem?_getD, List.getElem?_eq_getElem hi] at h1
  have h3 : M 8 i = x := by rw [h1]; exact e
  omega
theorem aX.send (h : aX B m s H S bf) {e : Nat} (he : e < 2) {z : Nat} (hz : z ≤ bf.length) (h1 : 255 ≤ B) (hB : B ≤ 1000000000) : ∃ m' : xM, f_X_send (e : Int) (z : Int) m = some (aSendN e z s, m') ∧ aX B m' (if aSendN e z s < 0 then s else aL s ((56 + 717 * e) + 117) ((s.2.1 (56 + 717 * e + 117)) ++ bf.take z)) (if aSendN e z s < 0 then H else aPush H s) S [] := by
  have hby := h.bytes
  obtain ⟨G, M, g1, g2⟩ := h
  have hl := g2.2.2.2.2.1
  obtain ⟨M', e1, e2, e3⟩ := r_sendX he g2 hby hz h1 hB
  rcases X_send_sp (e : Int) (z : Int) m M g1 (by unfold bI; omega) (by unfold bI; omega) with f | f | f
  · obtain ⟨m', f1, f2⟩ := f.val e1
    exact ⟨m', f1, G, M', f2, e3⟩
  · exact absurd (f.no e1 e2 (by decide)) id
  · exact absurd (f.no e1 e2 (by decide)) id
theorem aX.undo {t : aS} {H' : List aS} (h : aX B m s (H' ++ [t]) S bf) : ∃ m' : xM, f_X_undo m = some ((H'.length : Int), m') ∧ aX B m' t H' S bf := by
  obtain ⟨G, M, g1, g2⟩ := h
  obtain ⟨M', e1, e2, e3⟩ := r_undo g2
  obtain ⟨m', f1, f2⟩ := (X_undo_sp m M g1).val e1
  exact ⟨m', f1, G, M', f2, e3⟩
theorem aX.undoN (h : aX B m s [] S bf) : ∃ m' : xM, f_X_undo m = some (-1, m') ∧ aX B m' s [] S bf := by
  obtain ⟨G, M, g1, g2⟩ := h
  obtain ⟨e1, e3⟩ := r_undoN g2
  obtain ⟨m', f1, f2⟩ := (X_undo_sp m M g1).val e1
  exact ⟨m', f1, G, _, f2, e3⟩
theorem aX.save (h : aX B m s H S bf) : ∃ m' : xM, f_X_saveSnapshot m = some m' ∧ aX B m' s H (some s) bf := by
  obtain ⟨G, M, g1, g2⟩ := h
  obtain ⟨M', e1, e2, e3⟩ := r_save g2
  obtain ⟨m', M'', f1, f2, f3, f4⟩ := X_save_sp m M g1
  rw [e1] at f2
  cases f2
  exact ⟨m', f1, G, M', f4, e3⟩
theorem aX.restore {t : aS} (h : aX B m s H (some t) bf) : ∃ m' : xM, f_X_restoreSnapshot m = some (1, m') ∧ aX B m' t [] (some t) bf := by
  obtain ⟨G, M, g1, g2⟩ := h
  obtain ⟨M', e1, e2, e3⟩ := r_restore g2
  obtain ⟨r, m', M'', f1, f2, f3, f4, f5⟩ := X_restore_sp m M g1
  rw [e1] at f2
  cases f2
  exact ⟨m', f1, G, M', f5, e3⟩
theorem aX.cost (h : aX B m s H S bf) {e : Nat} (he : e < 2) (hB : B ≤ 1000000000) : ∃ m' : xM, f_X_nextCost (e : Int) m = some (aNextC e s, m') ∧ aX B m' s H S bf := by
  obtain ⟨G, M, g1, g2⟩ := h
  obtain ⟨M', e1, e2, e3⟩ := r_cost he g2 hB
  rcases X_cost_sp (e : Int) m M g1 (by unfold bI; omega) with f | f
  · obtain ⟨m', f1, f2⟩ := f.val e1
    exact ⟨m', f1, G, M', f2, e3⟩
  · exact absurd (f.no e1 e2 (by decide)) id
end

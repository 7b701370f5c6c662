/-- an end begun anew, against a row of zeros -/
theorem bE0.rel {k o : Nat} {m : xM} {N : Nat → Int} (h : bE0 k m) (hN : ∀ i, o ≤ i → i < o + 717 → N i = 0) : bRF (k + 3) m o N ∧ bRQ k m o N ∧ bRS k m o N := by
  obtain ⟨a, ⟨b3, b4, b5⟩, c, d⟩ := h
  have z : ∀ i, i < 717 → N (o + i) = 0 := fun i hi => hN _ (by omega) (by omega)
  refine ⟨⟨0, 0, 0, b3, b4, b5, by omega, by omega, by omega, z 1 (by omega), z 2 (by omega), fun p hp => by omega⟩, ⟨0, by omega, a 5 (by omega) (by omega), z 0 (by omega), fun i hi => by omega⟩, ?_⟩
  refine ⟨by rw [z 3 (by omega), a 7 (by omega) (by omega)], by rw [z 5 (by omega), a 8 (by omega) (by omega)], by rw [z 6 (by omega), a 9 (by omega) (by omega)], by rw [z 9 (by omega), a 10 (by omega) (by omega)], Or.inl (a 9 (by omega) (by omega)), Or.inl (a 10 (by omega) (by omega))⟩
theorem bE0.re {k o : Nat} {m : xM} {N : Nat → Int} (h : bE0 k m) (hN : ∀ i, o ≤ i → i < o + 717 → N i = 0) : bRE k m o N := by
  obtain ⟨r1, r2, r3⟩ := h.rel hN
  obtain ⟨a, b, c, d⟩ := h
  have z : ∀ i, i < 717 → N (o + i) = 0 := fun i hi => hN _ (by omega) (by omega)
  exact ⟨r1, ⟨0, by omega, c, z 7 (by omega), fun j hj => by omega⟩, ⟨0, by omega, d, z 8 (by omega), fun j hj => by omega⟩, r2, ⟨0, by omega, a 6 (by omega) (by omega), z 4 (by omega), fun i _ hi => by omega⟩, r3⟩
/-- a line begun anew, against a row of zeros but for what is set -/
theorem bLn_begin {m : xM} {N : Nat → Int} (h1 : bE0 1 m) (h12 : bE0 12 m) (h23 : m 23 5 = 0) (h234 : 0 ≤ m 23 4 ∧ m 23 4 ≤ 64) (h28 : m 28 1 = 0 ∧ m 28 2 = 0) (h30 : ∀ w, w < 11 → m 30 w = 0) (h0 : m 0 7 = 0 ∧ m 0 8 = 0 ∧ m 0 9 = N 2 ∧ m 0 10 = 0 ∧ m 0 15 = 0 ∧ m 0 16 = 0) (h9 : 0 ≤ N 2 ∧ N 2 ≤ 9) (hP : bRP m N) (hN : ∀ i, i < 3530 → (i < 2 ∨ (3 ≤ i ∧ i < 11) ∨ i = 20 ∨ 45 ≤ i) → N i = 0) : bLn m N := by
  obtain ⟨a7, a8, a9, a10, a15, a16⟩ := h0
  have p4 : 1 ≤ m 33 4 := hP.1.2.1
  obtain ⟨e1, ⟨f1, f2, f3⟩, g1, g2⟩ := id h1
  obtain ⟨e2, ⟨f4, f5, f6⟩, g3, g4⟩ := id h12
  have F4 : m 4 3 = 0 := f1
  have F5 : m 4 4 = 0 := f2
  have G4 : m 15 3 = 0 := f4
  have G5 : m 15 4 = 0 := f5
  refine ⟨⟨⟨h1.re (fun i u v => hN i (by omega) (by omega)), h12.re (fun i u v => hN i (by omega) (by omega)), ⟨0, 0, h28.1, h28.2, by omega, by omega, fun _ => rfl, hN 10 (by omega) (by omega), fun i w u => by omega⟩, fun w hw => by show N (45 + w) = m 30 w; rw [hN _ (by omega) (by omega), h30 w hw], hP, ?_⟩, ?_, by rw [h23]; exact hN 20 (by omega) (by omega), h234, fun u => by omega⟩, by omega⟩
  · unfold bRSc
    dsimp only
    rw [a7, a8, a9, a10, a15, a16, hN 0 (by omega) (by omega), hN 1 (by omega) (by omega), hN 3 (by omega) (by omega), hN 8 (by omega) (by omega), hN 9 (by omega) (by omega)]
    exact ⟨rfl, rfl, rfl, rfl, rfl, rfl, fun u => by omega, fun u => by omega, by omega, h9, by omega, by omega⟩
  · have t0 := h30 0 (by omega)
    have q1 := e1 5 (by omega) (by omega)
    have q2 := e1 6 (by omega) (by omega)
    have q3 := e1 7 (by omega) (by omega)
    have q4 := e1 8 (by omega) (by omega)
    have r1 := e2 5 (by omega) (by omega)
    have r2 := e2 6 (by omega) (by omega)
    have r3 := e2 7 (by omega) (by omega)
    have r4 := e2 8 (by omega) (by omega)
    unfold bB bBe
    refine ⟨by omega, by omega, ⟨by omega, by omega, by omega, fun u => by omega, fun u => by omega, by omega, by omega, by omega⟩, ⟨by omega, by omega, by omega, fun u => by omega, fun u => by omega, by omega, by omega, by omega⟩, fun u => h23⟩

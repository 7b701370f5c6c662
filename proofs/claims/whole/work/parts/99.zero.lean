/-- an end begun anew, against a row of zeros -/
theorem bE0.rel {k o : Nat} {m : xM} {N : Nat → Int} (h : bE0 k m) (hN : ∀ i, o ≤ i → i < o + 717 → N i = 0) : bRF (k + 3) m o N ∧ bRQ k m o N ∧ bRS k m o N := by
  obtain ⟨a, ⟨b3, b4, b5⟩, c, d⟩ := h
  have z : ∀ i, i < 717 → N (o + i) = 0 := fun i hi => hN _ (by omega) (by omega)
  refine ⟨⟨0, 0, 0, b3, b4, b5, by omega, by omega, by omega, z 1 (by omega), z 2 (by omega), fun p hp => by omega⟩, ⟨0, by omega, a 5 (by omega) (by omega), z 0 (by omega), fun i hi => by omega⟩, ?_⟩
  refine ⟨by rw [z 3 (by omega), a 7 (by omega) (by omega)], by rw [z 5 (by omega), a 8 (by omega) (by omega)], by rw [z 6 (by omega), a 9 (by omega) (by omega)], by rw [z 9 (by omega), a 10 (by omega) (by omega)], Or.inl (a 9 (by omega) (by omega)), Or.inl (a 10 (by omega) (by omega))⟩
theorem bE0.re {k o : Nat} {m : xM} {N : Nat → Int} (h : bE0 k m) (hN : ∀ i, o ≤ i → i < o + 717 → N i = 0) : bRE k m o N := by
  obtain ⟨r1, r2, r3⟩ := h.rel hN
  obtain ⟨a, b, c, d⟩ := h
  have z : ∀ i, i < 717 → N (o + i) = 0 := fun i hi => hN _ (by omega) (by omega)
  exact ⟨r1, ⟨0, by omega, c, z 7 (by omega), fun j hj => by omega⟩, ⟨0, by omega, d, z 8 (by omega), fun j hj => by omega⟩, r2, ⟨0, by omega, a 6 (by omega) (by omega), z 4 (by omega), fun i _ hi => by omega⟩, r3⟩

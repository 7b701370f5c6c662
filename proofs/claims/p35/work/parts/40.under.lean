/-! ===== what is under way: rows of (tick, sender, number, trait), oldest first ===== -/
/-- the latest copy of a frame that counts as sent -/
def bFre (F S : Int) (st : Int → Int) (T Nn : Nat → Int) (i : Nat) : Prop := Nn i < F + S ∧ T i = st (Nn i)
/-- a direction: frames of s, acknowledgements to s -/
def bDir (s F C S X : Int) (st : Int → Int) (time dl : Int) (c : Nat) (T Sn Nn Tr : Nat → Int) : Prop :=
  (0 ≤ S ∧ S ≤ C ∧ C ≤ 7 ∧ F ≤ X ∧ X ≤ F + S) ∧
  (∀ i, i < c → Sn i = s → Tr i ≠ 1 → X ≤ Nn i ∧ Nn i < F + C) ∧
  (∀ i j, i < j → j < c → Sn i = s → Tr i ≠ 1 → Sn j = s → Tr j ≠ 1 → Nn i = Nn j → ¬ bFre F S st T Nn i ∧ bFre F S st T Nn j) ∧
  (∀ i, i < c → Sn i = s → Tr i ≠ 1 → ¬ bFre F S st T Nn i → X < Nn i ∧ T i < time ∧ ∀ n, F ≤ n → n < F + S → T i ≤ st n) ∧
  (∀ i j, i < c → j < c → Sn i = s → Tr i ≠ 1 → Sn j = s → Tr j ≠ 1 → bFre F S st T Nn i → ¬ bFre F S st T Nn j → j < i) ∧
  (∀ i, i < c → Sn i = 1 - s → Tr i = 1 → F ≤ Nn i ∧ Nn i < X ∧ T i ≤ st (Nn i) + dl) ∧
  (∀ i j, i < j → j < c → Sn i = 1 - s → Tr i = 1 → Sn j = 1 - s → Tr j = 1 → Nn i < Nn j) ∧
  (∀ n, F ≤ n → n < X → ∃ i, i < c ∧ Sn i = 1 - s ∧ Tr i = 1 ∧ Nn i = n) ∧
  ∀ n, F ≤ n → n < F + S → 0 ≤ st n ∧ st n ≤ time
/-- the oldest is gone, and it was no acknowledgement of this direction -/
theorem bDir.shift {s F C S X : Int} {st : Int → Int} {time dl : Int} {c : Nat} {T Sn Nn Tr : Nat → Int} (h : bDir s F C S X st time dl (c + 1) T Sn Nn Tr) (h0 : ¬ (Sn 0 = 1 - s ∧ Tr 0 = 1)) : bDir s F C S X st time dl c (fun i => T (i + 1)) (fun i => Sn (i + 1)) (fun i => Nn (i + 1)) (fun i => Tr (i + 1)) := by
  obtain ⟨a, b1, b2, b3, b4, b5, b6, b7, b8⟩ := h
  refine ⟨a, fun i hi => b1 (i + 1) (by omega), fun i j hi hj => b2 (i + 1) (j + 1) (by omega) (by omega), fun i hi => b3 (i + 1) (by omega), fun i j hi hj h1 h2 h3 h4 h5 h6 => ?_, fun i hi => b5 (i + 1) (by omega), fun i j hi hj => b6 (i + 1) (j + 1) (by omega) (by omega), fun n h1 h2 => ?_, b8⟩
  · have := b4 (i + 1) (j + 1) (by omega) (by omega) h1 h2 h3 h4 h5 h6
    omega
  · obtain ⟨i, q1, q2, q3, q4⟩ := b7 n h1 h2
    cases i with
    | zero => exact absurd ⟨q2, q3⟩ h0
    | succ i => exact ⟨i, by omega, q2, q3, q4⟩
/-- one more is under way that is not of this direction -/
theorem bDir.app {s F C S X : Int} {st : Int → Int} {time dl : Int} {c : Nat} {T Sn Nn Tr : Nat → Int} {T' Sn' Nn' Tr' : Nat → Int} (h : bDir s F C S X st time dl c T Sn Nn Tr) (hT : ∀ i, i < c → T' i = T i ∧ Sn' i = Sn i ∧ Nn' i = Nn i ∧ Tr' i = Tr i) (h1 : ¬ (Sn' c = s ∧ Tr' c ≠ 1)) (h2 : ¬ (Sn' c = 1 - s ∧ Tr' c = 1)) : bDir s F C S X st time dl (c + 1) T' Sn' Nn' Tr' := by
  obtain ⟨a, b1, b2, b3, b4, b5, b6, b7, b8⟩ := h
  have hf : ∀ i, i < c → (bFre F S st T' Nn' i ↔ bFre F S st T Nn i) := fun i hi => by
    unfold bFre
    rw [(hT i hi).1, (hT i hi).2.2.1]
  have hD : ∀ i, i < c + 1 → Sn' i = s → Tr' i ≠ 1 → i < c ∧ Sn i = s ∧ Tr i ≠ 1 := fun i hi e1 e2 => by
    by_cases hc : i = c
    · exact absurd ⟨by rw [← hc]; exact e1, by rw [← hc]; exact e2⟩ h1
    · have hi' : i < c := by omega
      obtain ⟨q1, q2, q3, q4⟩ := hT i hi'
      exact ⟨hi', by rw [← q2]; exact e1, by rw [← q4]; exact e2⟩
  have hA : ∀ i, i < c + 1 → Sn' i = 1 - s → Tr' i = 1 → i < c ∧ Sn i = 1 - s ∧ Tr i = 1 := fun i hi e1 e2 => by
    by_cases hc : i = c
    · exact absurd ⟨by rw [← hc]; exact e1, by rw [← hc]; exact e2⟩ h2
    · have hi' : i < c := by omega
      obtain ⟨q1, q2, q3, q4⟩ := hT i hi'
      exact ⟨hi', by rw [← q2]; exact e1, by rw [← q4]; exact e2⟩
  refine ⟨a, fun i hi e1 e2 => ?_, fun i j hi hj e1 e2 e3 e4 e5 => ?_, fun i hi e1 e2 e3 => ?_, fun i j hi hj e1 e2 e3 e4 e5 e6 => ?_, fun i hi e1 e2 => ?_, fun i j hi hj e1 e2 e3 e4 => ?_, fun n e1 e2 => ?_, b8⟩
  · obtain ⟨k1, k2, k3⟩ := hD i hi e1 e2
    rw [(hT i k1).2.2.1]
    exact b1 i k1 k2 k3
  · obtain ⟨k1, k2, k3⟩ := hD i (by omega) e1 e2
    obtain ⟨l1, l2, l3⟩ := hD j hj e3 e4
    rw [(hT i k1).2.2.1, (hT j l1).2.2.1] at e5
    rw [hf i k1, hf j l1]
    exact b2 i j hi l1 k2 k3 l2 l3 e5
  · obtain ⟨k1, k2, k3⟩ := hD i hi e1 e2
    rw [hf i k1] at e3
    rw [(hT i k1).2.2.1, (hT i k1).1]
    exact b3 i k1 k2 k3 e3
  · obtain ⟨k1, k2, k3⟩ := hD i hi e1 e2
    obtain ⟨l1, l2, l3⟩ := hD j hj e3 e4
    rw [hf i k1] at e5
    rw [hf j l1] at e6
    exact b4 i j k1 l1 k2 k3 l2 l3 e5 e6
  · obtain ⟨k1, k2, k3⟩ := hA i hi e1 e2
    rw [(hT i k1).2.2.1, (hT i k1).1]
    exact b5 i k1 k2 k3
  · obtain ⟨k1, k2, k3⟩ := hA i (by omega) e1 e2
    obtain ⟨l1, l2, l3⟩ := hA j hj e3 e4
    rw [(hT i k1).2.2.1, (hT j l1).2.2.1]
    exact b6 i j hi l1 k2 k3 l2 l3
  · obtain ⟨i, q1, q2, q3, q4⟩ := b7 n e1 e2
    obtain ⟨w1, w2, w3, w4⟩ := hT i q1
    exact ⟨i, by omega, by rw [w2, q2], by rw [w4, q3], by rw [w3, q4]⟩
/-- an acknowledgement of this direction is the oldest: its number is that of the first frame -/
theorem bDir.ackNo {s F C S X : Int} {st : Int → Int} {time dl : Int} {c : Nat} {T Sn Nn Tr : Nat → Int} (h : bDir s F C S X st time dl (c + 1) T Sn Nn Tr) (h0 : Sn 0 = 1 - s) (h1 : Tr 0 = 1) : Nn 0 = F ∧ F < X ∧ 1 ≤ S := by
  obtain ⟨⟨a1, a2, a3, a4, a5⟩, b1, b2, b3, b4, b5, b6, b7, b8⟩ := h
  obtain ⟨c1, c2, c3⟩ := b5 0 (by omega) h0 h1
  have hF : Nn 0 = F := by
    obtain ⟨i, q1, q2, q3, q4⟩ := b7 F (Int.le_refl _) (by omega)
    cases i with
    | zero => exact q4
    | succ i =>
      have := b6 0 (i + 1) (by omega) q1 h0 h1 q2 q3
      omega
  exact ⟨hF, by omega, by omega⟩
theorem bDir.ack {s F C S X : Int} {st : Int → Int} {time dl : Int} {c : Nat} {T Sn Nn Tr : Nat → Int} (h : bDir s F C S X st time dl (c + 1) T Sn Nn Tr) (h0 : Sn 0 = 1 - s) (h1 : Tr 0 = 1) : bDir s (F + 1) (C - 1) (S - 1) X st time dl c (fun i => T (i + 1)) (fun i => Sn (i + 1)) (fun i => Nn (i + 1)) (fun i => Tr (i + 1)) := by
  obtain ⟨e1, e2, e3⟩ := h.ackNo h0 h1
  obtain ⟨⟨a1, a2, a3, a4, a5⟩, b1, b2, b3, b4, b5, b6, b7, b8⟩ := h
  have hS : F + 1 + (S - 1) = F + S := by omega
  have hC : F + 1 + (C - 1) = F + C := by omega
  refine ⟨⟨by omega, by omega, by omega, by omega, by omega⟩, ?_, ?_, ?_, ?_, ?_, ?_, ?_, ?_⟩
  · rw [hC]; exact fun i hi => b1 (i + 1) (by omega)
  · unfold bFre at *
    rw [hS]; exact fun i j hi hj => b2 (i + 1) (j + 1) (by omega) (by omega)
  · unfold bFre at *
    rw [hS]
    intro i hi q1 q2 q3
    obtain ⟨w1, w2, w3⟩ := b3 (i + 1) (by omega) q1 q2 q3
    exact ⟨w1, w2, fun n hn hn2 => w3 n (by omega) hn2⟩
  · unfold bFre at *
    rw [hS]
    intro i j hi hj q1 q2 q3 q4 q5 q6
    have := b4 (i + 1) (j + 1) (by omega) (by omega) q1 q2 q3 q4 q5 q6
    omega
  · intro i hi q1 q2
    obtain ⟨w1, w2, w3⟩ := b5 (i + 1) (by omega) q1 q2
    have := b6 0 (i + 1) (by omega) (by omega) h0 h1 q1 q2
    exact ⟨by show F + 1 ≤ Nn (i + 1); omega, w2, w3⟩
  · exact fun i j hi hj => b6 (i + 1) (j + 1) (by omega) (by omega)
  · intro n hn hn2
    obtain ⟨i, q1, q2, q3, q4⟩ := b7 n (by omega) hn2
    cases i with
    | zero => omega
    | succ i => exact ⟨i, by omega, q2, q3, q4⟩
  · rw [hS]; exact fun n hn hn2 => b8 n (by omega) hn2
/-- the frame that is expected arrives, and its acknowledgement goes out -/
theorem bDir.take {s F C S X : Int} {st : Int → Int} {time dl : Int} {c : Nat} {T Sn Nn Tr : Nat → Int} {T' Sn' Nn' Tr' : Nat → Int} (h : bDir s F C S X st time dl (c + 1) T Sn Nn Tr) (h0 : Sn 0 = s) (h1 : Tr 0 ≠ 1) (hX : Nn 0 = X) (ht : T 0 + dl = time)
    (hT : ∀ i, i < c → T' i = T (i + 1) ∧ Sn' i = Sn (i + 1) ∧ Nn' i = Nn (i + 1) ∧ Tr' i = Tr (i + 1)) (hn : T' c = time ∧ Sn' c = 1 - s ∧ Nn' c = X ∧ Tr' c = 1) : bDir s F C S (X + 1) st time dl (c + 1) T' Sn' Nn' Tr' := by
  obtain ⟨⟨a1, a2, a3, a4, a5⟩, b1, b2, b3, b4, b5, b6, b7, b8⟩ := h
  have hf0 : bFre F S st T Nn 0 := Classical.byContradiction fun hf => by
    have := (b3 0 (by omega) h0 h1 hf).1
    omega
  have hf : ∀ i, i < c → (bFre F S st T' Nn' i ↔ bFre F S st T Nn (i + 1)) := fun i hi => by
    unfold bFre
    rw [(hT i hi).1, (hT i hi).2.2.1]
  have hD : ∀ i, i < c + 1 → Sn' i = s → Tr' i ≠ 1 → i < c ∧ Sn (i + 1) = s ∧ Tr (i + 1) ≠ 1 := fun i hi e1 e2 => by
    by_cases hc : i = c
    · rw [hc] at e2; exact absurd hn.2.2.2 e2
    · have hi' : i < c := by omega
      obtain ⟨q1, q2, q3, q4⟩ := hT i hi'
      exact ⟨hi', by rw [← q2]; exact e1, by rw [← q4]; exact e2⟩
  have hall : ∀ i, i < c + 1 → Sn' i = s → Tr' i ≠ 1 → bFre F S st T' Nn' i := fun i hi e1 e2 => by
    obtain ⟨k1, k2, k3⟩ := hD i hi e1 e2
    rw [hf i k1]
    refine Classical.byContradiction fun hx => ?_
    have := b4 0 (i + 1) (by omega) (by omega) h0 h1 k2 k3 hf0 hx
    omega
  obtain ⟨hf1, hf2⟩ := hf0
  refine ⟨⟨a1, a2, a3, by omega, by omega⟩, fun i hi e1 e2 => ?_, fun i j hi hj e1 e2 e3 e4 e5 => ?_, fun i hi e1 e2 e3 => absurd (hall i hi e1 e2) e3, fun i j hi hj e1 e2 e3 e4 e5 e6 => absurd (hall j hj e3 e4) e6, fun i hi e1 e2 => ?_, fun i j hi hj e1 e2 e3 e4 => ?_, fun n e1 e2 => ?_, b8⟩
  · obtain ⟨k1, k2, k3⟩ := hD i hi e1 e2
    rw [(hT i k1).2.2.1]
    obtain ⟨w1, w2⟩ := b1 (i + 1) (by omega) k2 k3
    refine ⟨?_, w2⟩
    by_cases hx : Nn 0 = Nn (i + 1)
    · exact absurd ⟨hf1, hf2⟩ (b2 0 (i + 1) (by omega) (by omega) h0 h1 k2 k3 hx).1
    · omega
  · obtain ⟨k1, k2, k3⟩ := hD i (by omega) e1 e2
    obtain ⟨l1, l2, l3⟩ := hD j hj e3 e4
    rw [(hT i k1).2.2.1, (hT j l1).2.2.1] at e5
    rw [hf i k1, hf j l1]
    exact b2 (i + 1) (j + 1) (by omega) (by omega) k2 k3 l2 l3 e5
  · by_cases hc : i = c
    · rw [hc, hn.1, hn.2.2.1]
      rw [hX] at hf2
      exact ⟨by omega, by omega, by omega⟩
    · have hi' : i < c := by omega
      obtain ⟨q1, q2, q3, q4⟩ := hT i hi'
      obtain ⟨w1, w2, w3⟩ := b5 (i + 1) (by omega) (by rw [← q2]; exact e1) (by rw [← q4]; exact e2)
      rw [q1, q3]
      exact ⟨w1, by omega, w3⟩
  · have hi' : i < c := by omega
    obtain ⟨q1, q2, q3, q4⟩ := hT i hi'
    by_cases hc : j = c
    · rw [hc, hn.2.2.1, q3]
      exact (b5 (i + 1) (by omega) (by rw [← q2]; exact e1) (by rw [← q4]; exact e2)).2.1
    · obtain ⟨p1, p2, p3, p4⟩ := hT j (by omega)
      rw [q3, p3]
      exact b6 (i + 1) (j + 1) (by omega) (by omega) (by rw [← q2]; exact e1) (by rw [← q4]; exact e2) (by rw [← p2]; exact e3) (by rw [← p4]; exact e4)
  · by_cases hx : n = X
    · exact ⟨c, by omega, hn.2.1, hn.2.2.2, by rw [hn.2.2.1, hx]⟩
    · obtain ⟨i, q1, q2, q3, q4⟩ := b7 n e1 (by omega)
      cases i with
      | zero => exact absurd q3 h1
      | succ i =>
        obtain ⟨w1, w2, w3, w4⟩ := hT i (by omega)
        exact ⟨i, by omega, by rw [w2, q2], by rw [w4, q3], by rw [w3, q4]⟩
/-- the first frame is too old: all count as not sent -/
theorem bDir.fail {s F C S X : Int} {st : Int → Int} {time dl : Int} {c : Nat} {T Sn Nn Tr : Nat → Int} (h : bDir s F C S X st time dl c T Sn Nn Tr) (hS : 1 ≤ S) (hold : st F + 2 * dl < time) (hlo : ∀ i, i < c → time - dl < T i) (hhi : ∀ i, i < c → Sn i = s → Tr i ≠ 1 → T i < time) (hdl : 0 ≤ dl) : bDir s F C 0 X st time dl c T Sn Nn Tr := by
  obtain ⟨⟨a1, a2, a3, a4, a5⟩, b1, b2, b3, b4, b5, b6, b7, b8⟩ := h
  have hXF : X = F := by
    by_cases hx : F < X
    · obtain ⟨i, q1, q2, q3, q4⟩ := b7 F (Int.le_refl _) hx
      have h1 := (b5 i q1 q2 q3).2.2
      have h2 := hlo i q1
      rw [q4] at h1
      omega
    · omega
  have hfre : ∀ i, i < c → Sn i = s → Tr i ≠ 1 → bFre F S st T Nn i := fun i hi e1 e2 => Classical.byContradiction fun hf => by
    have h1 := (b3 i hi e1 e2 hf).2.2 F (Int.le_refl _) (by omega)
    have h2 := hlo i hi
    omega
  have hnof : ∀ i, i < c → Sn i = s → Tr i ≠ 1 → ¬ bFre F 0 st T Nn i := fun i hi e1 e2 hf => by
    have := (b1 i hi e1 e2).1
    have := hf.1
    omega
  refine ⟨⟨by omega, by omega, a3, a4, by omega⟩, b1, fun i j hi hj e1 e2 e3 e4 e5 => absurd (hfre i (by omega) e1 e2) (b2 i j hi hj e1 e2 e3 e4 e5).1, fun i hi e1 e2 e3 => ⟨?_, hhi i hi e1 e2, fun n h1 h2 => by omega⟩, fun i j hi hj e1 e2 e3 e4 e5 => absurd e5 (hnof i hi e1 e2), b5, b6, b7, fun n h1 h2 => by omega⟩
  have h1 := (b1 i hi e1 e2).1
  by_cases hx : Nn i = F
  · have h2 := (hfre i hi e1 e2).2
    rw [hx] at h2
    have h3 := hlo i hi
    omega
  · omega
/-- the frame behind those that are sent goes out -/
theorem bDir.send {s F C C' S X : Int} {st st' : Int → Int} {time dl : Int} {c : Nat} {T Sn Nn Tr : Nat → Int} {T' Sn' Nn' Tr' : Nat → Int} (h : bDir s F C S X st time dl c T Sn Nn Tr) (hC : C ≤ C' ∧ S < C' ∧ C' ≤ 7) (hst : st' (F + S) = time) (hst2 : ∀ n, F ≤ n → n < F + C' → n ≠ F + S → st' n = st n) (ht0 : 0 ≤ time) (htl : ∀ i, i < c → T i ≤ time)
    (hT : ∀ i, i < c → T' i = T i ∧ Sn' i = Sn i ∧ Nn' i = Nn i ∧ Tr' i = Tr i) (hn : T' c = time ∧ Sn' c = s ∧ Nn' c = F + S ∧ Tr' c ≠ 1) : bDir s F C' (S + 1) X st' time dl (c + 1) T' Sn' Nn' Tr' := by
  obtain ⟨⟨a1, a2, a3, a4, a5⟩, b1, b2, b3, b4, b5, b6, b7, b8⟩ := h
  have hD : ∀ i, i < c → Sn' i = s → Tr' i ≠ 1 → Sn i = s ∧ Tr i ≠ 1 := fun i hi e1 e2 => by
    obtain ⟨q1, q2, q3, q4⟩ := hT i hi
    exact ⟨by rw [← q2]; exact e1, by rw [← q4]; exact e2⟩
  have hf : ∀ i, i < c → Sn i = s → Tr i ≠ 1 → (bFre F (S + 1) st' T' Nn' i ↔ bFre F S st T Nn i) := fun i hi e1 e2 => by
    obtain ⟨q1, q2, q3, q4⟩ := hT i hi
    obtain ⟨w1, w2⟩ := b1 i hi e1 e2
    unfold bFre
    rw [q1, q3]
    by_cases hx : Nn i = F + S
    · have hnf : ¬ bFre F S st T Nn i := fun hz => by have := hz.1; omega
      have hlt := (b3 i hi e1 e2 hnf).2.1
      rw [hx, hst]
      constructor
      · intro hz; omega
      · intro hz; omega
    · rw [hst2 _ (by omega) (by omega) hx]
      constructor
      · intro hz; exact ⟨by omega, hz.2⟩
      · intro hz; exact ⟨by omega, hz.2⟩
  have hfc : bFre F (S + 1) st' T' Nn' c := by
    unfold bFre
    rw [hn.1, hn.2.2.1, hst]
    exact ⟨by omega, rfl⟩
  refine ⟨⟨by omega, by omega, hC.2.2, a4, by omega⟩, fun i hi e1 e2 => ?_, fun i j hi hj e1 e2 e3 e4 e5 => ?_, fun i hi e1 e2 e3 => ?_, fun i j hi hj e1 e2 e3 e4 e5 e6 => ?_, fun i hi e1 e2 => ?_, fun i j hi hj e1 e2 e3 e4 => ?_, fun n e1 e2 => ?_, fun n e1 e2 => ?_⟩
  · by_cases hc : i = c
    · rw [hc, hn.2.2.1]; omega
    · have hi' : i < c := by omega
      obtain ⟨k2, k3⟩ := hD i hi' e1 e2
      rw [(hT i hi').2.2.1]
      have := b1 i hi' k2 k3
      omega
  · have hi' : i < c := by omega
    obtain ⟨k2, k3⟩ := hD i hi' e1 e2
    by_cases hc : j = c
    · rw [hc] at e5 ⊢
      rw [hn.2.2.1, (hT i hi').2.2.1] at e5
      refine ⟨fun hz => ?_, hfc⟩
      rw [hf i hi' k2 k3] at hz
      have := hz.1
      omega
    · have hj' : j < c := by omega
      obtain ⟨l2, l3⟩ := hD j hj' e3 e4
      rw [(hT i hi').2.2.1, (hT j hj').2.2.1] at e5
      rw [hf i hi' k2 k3, hf j hj' l2 l3]
      exact b2 i j hi hj' k2 k3 l2 l3 e5
  · by_cases hc : i = c
    · rw [hc] at e3; exact absurd hfc e3
    · have hi' : i < c := by omega
      obtain ⟨k2, k3⟩ := hD i hi' e1 e2
      rw [hf i hi' k2 k3] at e3
      obtain ⟨w1, w2, w3⟩ := b3 i hi' k2 k3 e3
      rw [(hT i hi').2.2.1, (hT i hi').1]
      refine ⟨w1, w2, fun n h1 h2 => ?_⟩
      by_cases hx : n = F + S
      · rw [hx, hst]; exact htl i hi'
      · rw [hst2 n h1 (by omega) hx]
        exact w3 n h1 (by omega)
  · by_cases hcj : j = c
    · rw [hcj] at e6; exact absurd hfc e6
    · have hj' : j < c := by omega
      by_cases hci : i = c
      · omega
      · have hi' : i < c := by omega
        obtain ⟨k2, k3⟩ := hD i hi' e1 e2
        obtain ⟨l2, l3⟩ := hD j hj' e3 e4
        rw [hf i hi' k2 k3] at e5
        rw [hf j hj' l2 l3] at e6
        exact b4 i j hi' hj' k2 k3 l2 l3 e5 e6
  · by_cases hc : i = c
    · rw [hc] at e2; exact absurd e2 hn.2.2.2
    · have hi' : i < c := by omega
      obtain ⟨q1, q2, q3, q4⟩ := hT i hi'
      obtain ⟨w1, w2, w3⟩ := b5 i hi' (by rw [← q2]; exact e1) (by rw [← q4]; exact e2)
      rw [q1, q3, hst2 _ w1 (by omega) (by omega)]
      exact ⟨w1, w2, w3⟩
  · have hj' : j < c := by
      by_cases hc : j = c
      · rw [hc] at e4; exact absurd e4 hn.2.2.2
      · omega
    obtain ⟨q1, q2, q3, q4⟩ := hT i (by omega)
    obtain ⟨p1, p2, p3, p4⟩ := hT j hj'
    rw [q3, p3]
    exact b6 i j hi hj' (by rw [← q2]; exact e1) (by rw [← q4]; exact e2) (by rw [← p2]; exact e3) (by rw [← p4]; exact e4)
  · obtain ⟨i, q1, q2, q3, q4⟩ := b7 n e1 e2
    obtain ⟨w1, w2, w3, w4⟩ := hT i q1
    exact ⟨i, by omega, by rw [w2, q2], by rw [w4, q3], by rw [w3, q4]⟩
  · by_cases hx : n = F + S
    · rw [hx, hst]; omega
    · rw [hst2 n e1 (by omega) hx]
      exact b8 n e1 (by omega)

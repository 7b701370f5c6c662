/-! ===== the line online: what is under way in class and reference ===== -/
abbrev bSq (m : xM) (k f : Nat) : Nat → Int := fun i => m k ((f + i) % 64)
/-- a frame under way carries what its sender still holds -/
def bWc (kf : Nat) (m : xM) (N : Nat → Int) (i : Nat) (n : Int) : Prop := N (1730 + 15 * i + 4) = m (kf + 2) (n % 7).toNat ∧ ∀ j : Nat, j < 8 → (j : Int) < m (kf + 2) (n % 7).toNat → N (1730 + 15 * i + 7 + j) = m (kf + 1) ((n % 7).toNat * 8 + j)
def bWe (e : Nat) (m : xM) (N : Nat → Int) (lo hi : Int) (f i : Nat) : Prop :=
  (N (1730 + 15 * i) = bSq m 24 f i + m 33 10 ∧ N (1730 + 15 * i + 1) = (if bSq m 27 f i = 1 then 1 else 0) ∧ N (1730 + 15 * i + 2) = 1 - bSq m 25 f i ∧ N (1730 + 15 * i + 3) = bSq m 26 f i) ∧ (bSq m 25 f i = 0 ∨ bSq m 25 f i = 1) ∧ (bSq m 27 f i = 0 ∨ bSq m 27 f i = 1 ∨ bSq m 27 f i = 2 ∨ bSq m 27 f i = 4 ∨ bSq m 27 f i = 6) ∧ (lo ≤ bSq m 24 f i ∧ bSq m 24 f i ≤ m 0 7) ∧
  (bSq m 27 f i ≠ 1 → bSq m 24 f i < hi ∧ N (1730 + 15 * i + 5) = (if bSq m 27 f i = 2 ∨ bSq m 27 f i = 6 then 1 else 0) ∧ N (1730 + 15 * i + 6) = (if bSq m 27 f i = 4 ∨ bSq m 27 f i = 6 then 1 else 0) ∧ (bSq m 25 f i = (e : Int) → bWc 4 m N i (bSq m 26 f i)) ∧ (bSq m 25 f i = 1 - (e : Int) → bWc 15 m N i (bSq m 26 f i)))
abbrev bSt (m : xM) (k : Nat) : Int → Int := fun n => m k (n % 7).toNat
def bWd (e : Nat) (m : xM) (f c : Nat) : Prop := bDir (e : Int) (m 4 3) (m 4 4) (m 4 5) (m 12 7) (bSt m 7) (m 0 7) (m 33 10) c (bSq m 24 f) (bSq m 25 f) (bSq m 26 f) (bSq m 27 f) ∧ bDir (1 - (e : Int)) (m 15 3) (m 15 4) (m 15 5) (m 1 7) (bSt m 18) (m 0 7) (m 33 10) c (bSq m 24 f) (bSq m 25 f) (bSq m 26 f) (bSq m 27 f)
def bWire (e : Nat) (m : xM) (N : Nat → Int) (lo hi : Int) (f c : Nat) : Prop := (m 23 4 = f ∧ f ≤ 64 ∧ m 23 5 = c ∧ N 20 = c) ∧ (∀ i, i < c → bWe e m N lo hi f i) ∧ (∀ i j, i < j → j < c → bSq m 24 f i ≤ bSq m 24 f j) ∧ bWd e m f c
/-- the other end first -/
theorem bSw (m : xM) : (∀ k, k ≤ 10 → xvw xT_1 m (1 + k) = m (12 + k)) ∧ (∀ k, k ≤ 10 → xvw xT_1 m (12 + k) = m (1 + k)) ∧ xvw xT_1 m 0 = m 0 ∧ ∀ k, k ≤ 10 → xvw xT_1 m (23 + k) = m (23 + k) := ⟨b_11 rfl rfl rfl rfl rfl rfl rfl rfl rfl rfl rfl, b_11 rfl rfl rfl rfl rfl rfl rfl rfl rfl rfl rfl, rfl, b_11 rfl rfl rfl rfl rfl rfl rfl rfl rfl rfl rfl⟩
theorem bSx (m q : xM) : (∀ k, k ≤ 10 → xmg xT_1 38 m q (1 + k) = q (12 + k)) ∧ (∀ k, k ≤ 10 → xmg xT_1 38 m q (12 + k) = q (1 + k)) ∧ xmg xT_1 38 m q 0 = q 0 ∧ ∀ k, k ≤ 10 → xmg xT_1 38 m q (23 + k) = q (23 + k) := ⟨b_11 rfl rfl rfl rfl rfl rfl rfl rfl rfl rfl rfl, b_11 rfl rfl rfl rfl rfl rfl rfl rfl rfl rfl rfl, rfl, b_11 rfl rfl rfl rfl rfl rfl rfl rfl rfl rfl rfl⟩
/-- a memory that is another with the ends changed -/
def bTw (m q : xM) : Prop := (∀ k, k ≤ 10 → q (1 + k) = m (12 + k)) ∧ (∀ k, k ≤ 10 → q (12 + k) = m (1 + k)) ∧ q 0 = m 0 ∧ ∀ k, k ≤ 14 → q (23 + k) = m (23 + k)
theorem b_15 {P : Nat → Prop} (h : ∀ k, k ≤ 10 → P k) (h1 : P 11) (h2 : P 12) (h3 : P 13) (h4 : P 14) : ∀ k, k ≤ 14 → P k := fun k hk => by
  by_cases h5 : k ≤ 10
  · exact h k h5
  · rcases (by omega : k = 11 ∨ k = 12 ∨ k = 13 ∨ k = 14) with rfl | rfl | rfl | rfl <;> assumption
theorem bTw.v (m : xM) : bTw m (xvw xT_1 m) := ⟨(bSw m).1, (bSw m).2.1, rfl, b_15 (bSw m).2.2.2 rfl rfl rfl rfl⟩
theorem bTw.g (m q : xM) : bTw q (xmg xT_1 38 m q) := ⟨(bSx m q).1, (bSx m q).2.1, rfl, b_15 (bSx m q).2.2.2 rfl rfl rfl rfl⟩
theorem bTw.rl {e : Nat} {m q : xM} {N : Nat → Int} (t : bTw m q) (he : e < 2) (h : bRL e m N) : bRL (1 - e) q N := by
  obtain ⟨t1, t2, t0, t3⟩ := t
  obtain ⟨r1, r2, r3, r4, r5, r6⟩ := h
  refine ⟨r2.tr t1, ?_, r3.tr (t3 5 (by omega)) (t3 6 (by omega)), r4.cg (t3 7 (by omega)) (fun _ _ _ => rfl), r5.cg (fun k h1 h2 => by have := t3 (k - 23) (by omega); rw [show 23 + (k - 23) = k by omega] at this; exact this) (fun _ _ _ _ => rfl), r6.cg (fun j _ _ => by rw [t0]) (by rw [show (33 : Nat) = 23 + 10 from rfl, t3 10 (by omega)]) (fun _ _ => rfl)⟩
  have := r1.tr t2
  rw [show 1 - (1 - e) = e by omega]
  exact this
theorem bTw.wire {e : Nat} {m q : xM} {N : Nat → Int} {lo hi : Int} {f c : Nat} (t : bTw m q) (he : e < 2) (h : bWire e m N lo hi f c) : bWire (1 - e) q N lo hi f c := by
  obtain ⟨t1, t2, t0, t3⟩ := t
  have w23 : q 23 = m 23 := t3 0 (by omega)
  have w24 : q 24 = m 24 := t3 1 (by omega)
  have w25 : q 25 = m 25 := t3 2 (by omega)
  have w26 : q 26 = m 26 := t3 3 (by omega)
  have w27 : q 27 = m 27 := t3 4 (by omega)
  have w33 : q 33 = m 33 := t3 10 (by omega)
  have w1 : q 1 = m 12 := t1 0 (by omega)
  have w4 : q 4 = m 15 := t1 3 (by omega)
  have w5 : q 5 = m 16 := t1 4 (by omega)
  have w6 : q 6 = m 17 := t1 5 (by omega)
  have w7 : q 7 = m 18 := t1 6 (by omega)
  have w12 : q 12 = m 1 := t2 0 (by omega)
  have w15 : q 15 = m 4 := t2 3 (by omega)
  have w16 : q 16 = m 5 := t2 4 (by omega)
  have w17 : q 17 = m 6 := t2 5 (by omega)
  have w18 : q 18 = m 7 := t2 6 (by omega)
  have he1 : ((1 - e : Nat) : Int) = 1 - (e : Int) := by omega
  have s24 : bSq q 24 = bSq m 24 := by funext f i; show q 24 _ = m 24 _; rw [w24]
  have s25 : bSq q 25 = bSq m 25 := by funext f i; show q 25 _ = m 25 _; rw [w25]
  have s26 : bSq q 26 = bSq m 26 := by funext f i; show q 26 _ = m 26 _; rw [w26]
  have s27 : bSq q 27 = bSq m 27 := by funext f i; show q 27 _ = m 27 _; rw [w27]
  have v7 : bSt q 7 = bSt m 18 := by funext n; show q 7 _ = m 18 _; rw [w7]
  have v18 : bSt q 18 = bSt m 7 := by funext n; show q 18 _ = m 7 _; rw [w18]
  obtain ⟨a, b, d, g1, g2⟩ := h
  unfold bWire bWe bWd bWc
  rw [w23, s24, s25, s26, s27, w33, w1, w4, show 4 + 1 = 5 from rfl, show 4 + 2 = 6 from rfl, show 15 + 1 = 16 from rfl, show 15 + 2 = 17 from rfl, w5, w6, v7, w12, w15, w16, w17, v18, t0, he1]
  refine ⟨a, fun i hi => ?_, d, g2, ?_⟩
  · obtain ⟨b1, b2, b3, b4, b5⟩ := b i hi
    refine ⟨b1, b2, b3, b4, fun hx => ?_⟩
    obtain ⟨c1, c2, c3, c4, c5⟩ := b5 hx
    exact ⟨c1, c2, c3, c5, fun hy => c4 (by omega)⟩
  · rw [show (1 : Int) - (1 - (e : Int)) = (e : Int) by omega]
    exact g1
/-- the entries behind the oldest one -/
theorem bWe.next {e : Nat} {m m' : xM} {N N' : Nat → Int} {lo hi : Int} {f f' i : Nat} (h : bWe e m N lo hi f (i + 1)) (hs : ∀ k, 24 ≤ k → k ≤ 27 → m' k = m k) (hf : (f' + i) % 64 = (f + (i + 1)) % 64) (h33 : m' 33 10 = m 33 10) (h7 : m' 0 7 = m 0 7) (hb : m' 5 = m 5 ∧ m' 6 = m 6 ∧ m' 16 = m 16 ∧ m' 17 = m 17) (hN : ∀ x, x < 15 → N' (1730 + 15 * i + x) = N (1730 + 15 * (i + 1) + x)) : bWe e m' N' lo hi f' i := by
  obtain ⟨b5, b6, b16, b17⟩ := hb
  unfold bWe bWc bSq at *
  rw [show 4 + 1 = 5 from rfl, show 4 + 2 = 6 from rfl, show 15 + 1 = 16 from rfl, show 15 + 2 = 17 from rfl] at *
  rw [hf, hs 24 (by omega) (by omega), hs 25 (by omega) (by omega), hs 26 (by omega) (by omega), hs 27 (by omega) (by omega), h33, h7, b5, b6, b16, b17]
  rw [show 1730 + 15 * i = 1730 + 15 * i + 0 from rfl, hN 0 (by omega), hN 1 (by omega), hN 2 (by omega), hN 3 (by omega), hN 4 (by omega), hN 5 (by omega), hN 6 (by omega)]
  obtain ⟨c1, c2, c3, c4, c5⟩ := h
  refine ⟨c1, c2, c3, c4, fun hx => ?_⟩
  obtain ⟨d1, d2, d3, d4, d5⟩ := c5 hx
  refine ⟨d1, d2, d3, fun hy => ⟨(d4 hy).1, fun j hj hj2 => ?_⟩, fun hy => ⟨(d5 hy).1, fun j hj hj2 => ?_⟩⟩
  · rw [show 1730 + 15 * i + 0 + 7 + j = 1730 + 15 * i + (7 + j) by omega, hN (7 + j) (by omega), ← (d4 hy).2 j hj hj2, show 1730 + 15 * (i + 1) + (7 + j) = 1730 + 15 * (i + 1) + 7 + j by omega]
  · rw [show 1730 + 15 * i + 0 + 7 + j = 1730 + 15 * i + (7 + j) by omega, hN (7 + j) (by omega), ← (d5 hy).2 j hj hj2, show 1730 + 15 * (i + 1) + (7 + j) = 1730 + 15 * (i + 1) + 7 + j by omega]

/-! ===== what stays true besides: counts, what was told, when frames were sent ===== -/
def vC (s : aS) : Int := if s.1 1 = 2 then s.1 3 else -1
def vNum (s : aS) : Prop := s.1 60 + s.1 777 = s.1 55 ∧ s.1 46 ≤ s.1 45 ∧ 5 * s.1 45 ≤ s.1 54 ∧ s.1 53 - s.1 51 - s.1 52 ≤ if s.1 1 = 2 then 1 else 0
def vE1 (v : List Int) : Prop := (v.getD 1 0 = 4 ∨ v.getD 1 0 = 5) ↔ v.getD 3 0 < 0
def vE2 (v w : List Int) : Prop := v.getD 0 0 ≤ w.getD 0 0 ∧ (0 ≤ v.getD 3 0 → (w.getD 1 0 = 2 → w.getD 3 0 = v.getD 3 0 - 1) ∧ (w.getD 1 0 = 3 → w.getD 3 0 = v.getD 3 0 + 1) ∧ ((w.getD 1 0 = 6 ∨ w.getD 1 0 = 7) → w.getD 3 0 = v.getD 3 0))
def vEv (T c : Int) (l : List (List Int)) : Prop := (∀ p, p < l.length → vE1 (l.getD p [])) ∧ (∀ p, p + 1 < l.length → vE2 (l.getD p []) (l.getD (p + 1) [])) ∧ ∀ p, p + 1 = l.length → (l.getD p []).getD 0 0 ≤ T ∧ (l.getD p []).getD 3 0 = c
def vFr (T : Int) (s : aS) : Prop := ∀ e, e < 2 → ∀ f, f ∈ (s.2.2 (56 + 717 * e + 26)) → f.getD 1 0 ≤ T
def vK (T c : Int) (s : aS) : Prop := s.1 0 = T ∧ vNum s ∧ vEv T c ((s.2.2 1490)) ∧ vFr T s
def vIx (j : Nat) : Prop := j = 0 ∨ j = 1 ∨ (45 ≤ j ∧ j ≤ 46) ∨ (51 ≤ j ∧ j ≤ 55) ∨ j = 60 ∨ j = 777
theorem getD_app3 (l : List (List Int)) (a : List Int) (p : Nat) : (l ++ [a]).getD p [] = if p < l.length then l.getD p [] else if p = l.length then a else [] := by
  rw [List.getD_eq_getElem?_getD, List.getD_eq_getElem?_getD]
  by_cases c : p < l.length
  · rw [if_pos c, List.getElem?_append_left c]
  · rw [if_neg c, List.getElem?_append_right (by omega)]
    by_cases d : p = l.length
    · rw [if_pos d, d, Nat.sub_self]; rfl
    · rw [if_neg d, List.getElem?_eq_none (by rw [List.length_singleton]; omega)]; rfl
theorem getD_drop1 (l : List (List Int)) (p : Nat) : (l.drop 1).getD p [] = l.getD (p + 1) [] := by
  rw [List.getD_eq_getElem?_getD, List.getD_eq_getElem?_getD, List.getElem?_drop, Nat.add_comm]
theorem vEv.drop {T c : Int} {l : List (List Int)} (h : vEv T c l) : vEv T c (l.drop 1) := by
  obtain ⟨h1, h2, h3⟩ := h
  have hl : (l.drop 1).length = l.length - 1 := List.length_drop
  refine ⟨fun p hp => ?_, fun p hp => ?_, fun p hp => ?_⟩
  · rw [getD_drop1]; exact h1 _ (by omega)
  · rw [getD_drop1, getD_drop1]; exact h2 _ (by omega)
  · rw [getD_drop1]; exact h3 _ (by omega)
theorem vEv.app {T c k e x : Int} {l : List (List Int)} (h : vEv T c l) (h1 : (k = 4 ∨ k = 5) ↔ x < 0) (h2 : 0 ≤ c → (k = 2 → x = c - 1) ∧ (k = 3 → x = c + 1) ∧ ((k = 6 ∨ k = 7) → x = c)) : vEv T x (l ++ [[T, k, e, x]]) := by
  obtain ⟨g1, g2, g3⟩ := h
  have hl : (l ++ [[T, k, e, x]]).length = l.length + 1 := List.length_append
  refine ⟨fun p hp => ?_, fun p hp => ?_, fun p hp => ?_⟩
  · rw [getD_app3]
    by_cases c : p < l.length
    · rw [if_pos c]; exact g1 p c
    · rw [if_neg c, if_pos (by omega)]
      exact h1
  · rw [getD_app3, if_pos (by omega), getD_app3]
    by_cases d : p + 1 < l.length
    · rw [if_pos d]; exact g2 p d
    · rw [if_neg d, if_pos (by omega)]
      obtain ⟨a1, a2⟩ := g3 p (by omega)
      refine ⟨a1, fun w => ?_⟩
      rw [a2] at w ⊢
      exact h2 w
  · rw [getD_app3, if_neg (by omega), if_pos (by omega)]
    exact ⟨Int.le_refl _, rfl⟩
section
variable {T c : Int} {s t : aS}
theorem vK.same (h : vK T c s) (hn : ∀ j, vIx j → t.1 j = s.1 j) (he : (t.2.2 1490) = (s.2.2 1490)) (hf : vFr T t) : vK T c t := by
  obtain ⟨h0, h1, h2, h3⟩ := h
  refine ⟨by rw [hn 0 (by unfold vIx; omega), h0], ?_, by rw [he]; exact h2, hf⟩
  unfold vNum
  rw [hn 60 (by unfold vIx; omega), hn 777 (by unfold vIx; omega), hn 55 (by unfold vIx; omega), hn 46 (by unfold vIx; omega), hn 45 (by unfold vIx; omega), hn 54 (by unfold vIx; omega), hn 53 (by unfold vIx; omega), hn 51 (by unfold vIx; omega), hn 52 (by unfold vIx; omega), hn 1 (by unfold vIx; omega)]
  exact h1
theorem vK.tell (h : vK T c s) {k e x : Int} (hx : vC s = x) (h1 : (k = 4 ∨ k = 5) ↔ x < 0) (h2 : 0 ≤ c → (k = 2 → x = c - 1) ∧ (k = 3 → x = c + 1) ∧ ((k = 6 ∨ k = 7) → x = c)) : vK T x (aTell k e s) := by
  obtain ⟨g0, g1, g2, g3⟩ := h
  subst hx
  have e1 : ((aTell k e s).2.2 1490) = (if ((s.2.2 1490)).length = 60 then ((s.2.2 1490)).drop 1 else (s.2.2 1490)) ++ [[T, k, e, vC s]] := by
    show (aF s 1490 _).2.2 1490 = _
    rw [aF_3, if_pos rfl, g0]
    rfl
  refine ⟨g0, g1, ?_, fun e' he' f hf => ?_⟩
  · rw [e1]
    refine vEv.app (c := c) ?_ h1 h2
    split
    · exact g2.drop
    · exact g2
  · have : ((aTell k e s).2.2 (56 + 717 * e' + 26)) = (s.2.2 (56 + 717 * e' + 26)) := aTell_F k e s _ (by omega)
    rw [this] at hf
    exact g3 e' he' f hf
theorem vFr.F (h : vFr T s) {j : Nat} (hj : j = 1490 ∨ j = 1730) (l : List (List Int)) : vFr T (aF s j l) := fun e he f hf => by
  have : ((aF s j l).2.2 (56 + 717 * e + 26)) = (s.2.2 (56 + 717 * e + 26)) := by
    show (aF s j l).2.2 _ = _
    rw [aF_3, if_neg (by omega)]
  rw [this] at hf
  exact h e he f hf
theorem vFr.Fr (h : vFr T s) {e : Nat} (he : e < 2) {l : List (List Int)} (hl : ∀ f, f ∈ l → f.getD 1 0 ≤ T) : vFr T (aF s ((56 + 717 * e) + 26) l) := fun e' he' f hf => by
  by_cases c : e' = e
  · subst c
    have : ((aF s ((56 + 717 * e') + 26) l).2.2 (56 + 717 * e' + 26)) = l := by
      show (aF s ((56 + 717 * e') + 26) l).2.2 _ = _
      rw [aF_3, if_pos rfl]
    rw [this] at hf
    exact hl f hf
  · have : ((aF s ((56 + 717 * e) + 26) l).2.2 (56 + 717 * e' + 26)) = (s.2.2 (56 + 717 * e' + 26)) := by
      show (aF s ((56 + 717 * e) + 26) l).2.2 _ = _
      rw [aF_3, if_neg (by omega)]
    rw [this] at hf
    exact h e' he' f hf
theorem vFr.of (h : vFr T s) (e : t.2.2 = s.2.2) : vFr T t := fun e' he' f hf => by
  have : (t.2.2 (56 + 717 * e' + 26)) = (s.2.2 (56 + 717 * e' + 26)) := by
    show t.2.2 _ = _
    rw [e]
  rw [this] at hf
  exact h e' he' f hf
/-- a number that doesn't count here -/
theorem vK.N (h : vK T c s) {j : Nat} (hj : ¬ vIx j) (x : Int) : vK T c (aN s j x) := h.same (fun i hi => by
  rw [aN_1, if_neg (by intro w; rw [w] at hi; exact hj hi)]) rfl (h.2.2.2.of rfl)
theorem vK.L (h : vK T c s) (j : Nat) (l : List Int) : vK T c (aL s j l) := h.same (fun i hi => rfl) rfl (h.2.2.2.of rfl)
theorem vK.Fl (h : vK T c s) (l : List (List Int)) : vK T c (aF s 1730 l) := h.same (fun i hi => rfl) (by
  show (aF s 1730 l).2.2 1490 = _
  rw [aF_3, if_neg (by omega)]) (h.2.2.2.F (Or.inr rfl) l)
theorem vK.Fr (h : vK T c s) {e : Nat} (he : e < 2) {l : List (List Int)} (hl : ∀ f, f ∈ l → f.getD 1 0 ≤ T) : vK T c (aF s ((56 + 717 * e) + 26) l) := h.same (fun i hi => rfl) (by
  show (aF s ((56 + 717 * e) + 26) l).2.2 1490 = _
  rw [aF_3, if_neg (by omega)]) (h.2.2.2.Fr he hl)
theorem vK.ack (h : vK T c s) {e : Nat} (he : e < 2) (num : Int) : vK T c (aAck e num s) := by
  unfold aAck
  exact ((h.Fr he fun f hf => h.2.2.2 e he f (List.mem_filter.mp hf).1).N (by unfold vIx; omega) _).N (by unfold vIx; omega) _
theorem vK.recv (h : vK T c s) {e : Nat} (he : e < 2) (v : Int) : vK T c (aRecv e v s) := by
  have hs := aRecv_sc e v s
  obtain ⟨h0, ⟨n1, n2, n3, n4⟩, h2, h3⟩ := h
  have F := aRecv_F e v s
  have e55 : (aRecv e v s).1 55 = s.1 55 + 1 := by
    unfold aRecv; rw [aN_1, if_pos rfl]
  have e4 : (aRecv e v s).1 ((56 + 717 * e) + 4) = s.1 ((56 + 717 * e) + 4) + 1 := by
    unfold aRecv; rw [aN_1, if_neg (by omega), aN_1, if_pos rfl]
  have hev : ((aRecv e v s).2.2 1490) = (s.2.2 1490) := by
    show (aRecv e v s).2.2 1490 = _
    rw [F]
  refine ⟨by rw [hs 0 (by omega) (by omega), h0], ?_, by rw [hev]; exact h2, h3.of F⟩
  unfold vNum
  rw [e55, hs 46 (by omega) (by omega), hs 45 (by omega) (by omega), hs 54 (by omega) (by omega), hs 53 (by omega) (by omega), hs 51 (by omega) (by omega), hs 52 (by omega) (by omega), hs 1 (by omega) (by omega)]
  refine ⟨?_, n2, n3, n4⟩
  rcases (by omega : e = 0 ∨ e = 1) with q | q
  · subst q
    have q4 : (aRecv 0 v s).1 60 = s.1 60 + 1 := e4
    rw [q4, hs 777 (by omega) (by omega)]
    omega
  · subst q
    have q4 : (aRecv 1 v s).1 777 = s.1 777 + 1 := e4
    rw [q4, hs 60 (by omega) (by omega)]
    omega
theorem vK.recvs {e : Nat} (he : e < 2) : ∀ (q : List Int) {s : aS}, vK T c s → vK T c (aRecvs e q s)
  | [], _, h => h
  | v :: q, _, h => vK.recvs he q (h.recv he v)
theorem vK.take (h : vK T c s) {e : Nat} (he : e < 2) (num mk : Int) (b : List Int) (hc : vC s = c) (h0 : 0 ≤ c) : vK T c (aTake e num mk b s) := by
  have h1 : vK T c (if mk = 1 then aTell 7 e (aL s ((56 + 717 * e) + 18) []) else s) := by
    split
    · refine vK.tell (c := c) (h.L ((56 + 717 * e) + 18) []) hc ⟨fun w => by omega, fun w => by omega⟩ fun _ => ⟨fun w => by omega, fun w => by omega, fun _ => rfl⟩
    · exact h
  unfold aTake
  exact ((vK.recvs he b h1).N (by unfold vIx; omega) _).Fl _
/-- online, at rate r -/
def vO (T r : Int) (s : aS) : Prop := (s.1 1 = 2 ∧ s.1 3 = r ∧ 0 ≤ r) ∧ vK T r s
theorem vO.cr {r : Int} (h : vO T r s) : vC s = r := by
  unfold vC
  rw [if_pos h.1.1, h.1.2.1]
theorem aTake_sc (e : Nat) (num mk : Int) (b : List Int) (s : aS) (j : Nat) (h3 : j ≠ (56 + 717 * e) + 3) (h4 : j ≠ (56 + 717 * e) + 4) (h5 : j ≠ 55) : (aTake e num mk b s).1 j = s.1 j := by
  unfold aTake
  show (aN _ _ _).1 j = _
  rw [aN_1, if_neg h3, aRecvs_sc e b _ j h4 h5]
  split <;> rfl
theorem aLand_sc13 {it : List Int} (hit : it.getD 2 0 = 0 ∨ it.getD 2 0 = 1) (s : aS) (j : Nat) (hj : j = 1 ∨ j = 3 ∨ j = 0) : (aLand it s).1 j = s.1 j := by
  unfold aLand
  split
  · unfold aAck
    rw [aN_1, if_neg (by omega), aN_1, if_neg (by omega)]
    rfl
  · split
    · rw [aN_1, if_neg (by omega)]
    · exact aTake_sc _ _ _ _ _ _ (by omega) (by omega) (by omega)
theorem vO.land {r : Int} (h : vO T r s) {it : List Int} (hit : it.getD 2 0 = 0 ∨ it.getD 2 0 = 1) : vO T r (aLand it s) := by
  have sc := aLand_sc13 hit s
  refine ⟨by rw [sc 1 (by omega), sc 3 (by omega)]; exact h.1, ?_⟩
  have he : (it.getD 2 0).toNat < 2 := by omega
  unfold aLand
  split
  · exact h.2.ack he _
  · split
    · exact h.2.N (by unfold vIx; omega) _
    · exact h.2.take he _ _ _ h.cr h.1.2.2
theorem vO.lands {r t : Int} : ∀ (l : List (List Int)) {s : aS}, vO T r s → (∀ it, it ∈ l → it.getD 2 0 = 0 ∨ it.getD 2 0 = 1) → vO T r (aLands t l s)
  | [], _, h, _ => h
  | it :: l, s, h, hl => by
    show vO T r (aLands t l (if it.getD 0 0 = t then aLand it s else s))
    refine vO.lands l ?_ fun x hx => hl x (List.mem_cons_of_mem _ hx)
    split
    · exact h.land (hl it List.mem_cons_self)
    · exact h
theorem vO.arr {r B : Int} (h : vO T r s) (hi : aI B s) : vO T r (aArr s) := by
  unfold aArr
  refine vO.lands _ ⟨h.1, h.2.Fl _⟩ fun it hit => ((hi.2.2.2.2 it hit).1).1.2
/-- hanging up -/
theorem vK.hang (h : vK T c s) : vK T (-1) (aHang s) := by
  obtain ⟨h0, ⟨n1, n2, n3, n4⟩, h2, h3⟩ := h
  have sc : ∀ j, j ≠ 1 → j ≠ 52 → (aHang s).1 j = s.1 j := fun j a b => aHang_sc s j a b
  have k0 : vK T c (aN (aOff 1 (aOff 0 (aF (aN s 1 0) 1730 []))) 52 ((aOff 1 (aOff 0 (aF (aN s 1 0) 1730 []))).1 52 + 1)) := by
    have e0 : ∀ j, j ≠ 52 → j ≠ 1 → (aN (aOff 1 (aOff 0 (aF (aN s 1 0) 1730 []))) 52 ((aOff 1 (aOff 0 (aF (aN s 1 0) 1730 []))).1 52 + 1)).1 j = s.1 j := fun j a b => by
      rw [aN_1, if_neg a]
      show (aN s 1 0).1 j = _
      rw [aN_1, if_neg b]
    refine ⟨by rw [e0 0 (by omega) (by omega), h0], ?_, ?_, ?_⟩
    · unfold vNum
      rw [e0 60 (by omega) (by omega), e0 777 (by omega) (by omega), e0 55 (by omega) (by omega), e0 46 (by omega) (by omega), e0 45 (by omega) (by omega), e0 54 (by omega) (by omega), e0 53 (by omega) (by omega), e0 51 (by omega) (by omega)]
      refine ⟨n1, n2, n3, ?_⟩
      have e52 : (aN (aOff 1 (aOff 0 (aF (aN s 1 0) 1730 []))) 52 ((aOff 1 (aOff 0 (aF (aN s 1 0) 1730 []))).1 52 + 1)).1 52 = s.1 52 + 1 := by
        rw [aN_1, if_pos rfl]
        rfl
      have e1 : (aN (aOff 1 (aOff 0 (aF (aN s 1 0) 1730 []))) 52 ((aOff 1 (aOff 0 (aF (aN s 1 0) 1730 []))).1 52 + 1)).1 1 = 0 := by
        rw [aN_1, if_neg (by omega)]
        rfl
      rw [e52, e1, if_neg (by omega)]
      split at n4 <;> omega
    · have : ((aN (aOff 1 (aOff 0 (aF (aN s 1 0) 1730 []))) 52 ((aOff 1 (aOff 0 (aF (aN s 1 0) 1730 []))).1 52 + 1)).2.2 1490) = (s.2.2 1490) := rfl
      rw [this]; exact h2
    · intro e he f hf
      rcases (by omega : e = 0 ∨ e = 1) with q | q
      · subst q
        have : ((aN (aOff 1 (aOff 0 (aF (aN s 1 0) 1730 []))) 52 ((aOff 1 (aOff 0 (aF (aN s 1 0) 1730 []))).1 52 + 1)).2.2 (56 + 717 * 0 + 26)) = [] := rfl
        rw [this] at hf
        exact absurd hf List.not_mem_nil
      · subst q
        have : ((aN (aOff 1 (aOff 0 (aF (aN s 1 0) 1730 []))) 52 ((aOff 1 (aOff 0 (aF (aN s 1 0) 1730 []))).1 52 + 1)).2.2 (56 + 717 * 1 + 26)) = [] := rfl
        rw [this] at hf
        exact absurd hf List.not_mem_nil
  unfold aHang
  refine vK.tell (c := c) k0 ?_ ⟨fun _ => by decide, fun _ => Or.inr rfl⟩ fun _ => ⟨fun w => absurd w (by decide), fun w => absurd w (by decide), fun w => absurd w (by decide)⟩
  unfold vC
  rw [if_neg ?_]
  show ¬ (aN (aOff 1 (aOff 0 (aF (aN s 1 0) 1730 []))) 52 _).1 1 = 2
  rw [aN_1, if_neg (by omega)]
  show ¬ (0 : Int) = 2
  decide
theorem aHang_ph (s : aS) : (aHang s).1 1 = 0 := rfl
theorem vC.hang (s : aS) : vC (aHang s) = -1 := by
  unfold vC
  rw [aHang_ph, if_neg (by decide)]
end

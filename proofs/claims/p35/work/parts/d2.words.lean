/-! ===== the reference's dictionaries and launches ===== -/
def aPos (v : Int) : List Int → Nat
  | [] => 0
  | x :: l => if x = v then 0 else aPos v l + 1
theorem aPos_le (v : Int) : ∀ l : List Int, aPos v l ≤ l.length
  | [] => Nat.le_refl _
  | x :: l => by
    have := aPos_le v l
    rw [aPos, List.length_cons]
    by_cases c : x = v
    · rw [if_pos c]; omega
    · rw [if_neg c]; omega
theorem aPos_mem (v : Int) : ∀ l : List Int, aPos v l < l.length ↔ v ∈ l
  | [] => by rw [aPos]; exact ⟨fun h => absurd h (Nat.not_lt_zero _), fun h => absurd h List.not_mem_nil⟩
  | x :: l => by
    have ih := aPos_mem v l
    rw [aPos, List.length_cons, List.mem_cons]
    by_cases c : x = v
    · rw [if_pos c]
      exact ⟨fun _ => Or.inl c.symm, fun _ => by omega⟩
    · rw [if_neg c]
      constructor
      · intro h; exact Or.inr (ih.mp (by omega))
      · rintro (h | h)
        · exact absurd h.symm c
        · have := ih.mpr h; omega
theorem b_fp_pos (v : Int) {B : Int} (hB : B ≤ 2147483647) (hv : aB B v) (g : Nat → Int) : ∀ (l : List Int) (p : Nat), aRl B l → (∀ j, j < l.length → g (p + j) = l.getD j 0) → b_fp g v l.length p = p + aPos v l
  | [], p, _, _ => rfl
  | x :: l, p, hl, hg => by
    have h0 : g p = x := by have := hg 0 (by rw [List.length_cons]; omega); rw [Nat.add_zero] at this; exact this
    have hx : aB B x := hl x List.mem_cons_self
    show (if xw (g p) = xw v then p else b_fp g v l.length (p + 1)) = _
    rw [h0, hx.xw hB, hv.xw hB, aPos]
    by_cases c : x = v
    · rw [if_pos c, if_pos c, Nat.add_zero]
    · rw [if_neg c, if_neg c, b_fp_pos v hB hv g l (p + 1) (fun y hy => hl y (List.mem_cons_of_mem _ hy)) (fun j hj => by
        have := hg (j + 1) (by rw [List.length_cons]; omega)
        rw [List.getD_cons_succ] at this
        rw [← this]
        congr 1
        omega)]
      omega
theorem filter_pos (v : Int) : ∀ l : List Int, l.Nodup → (l.filter fun w => decide (w ≠ v)).length = (if aPos v l < l.length then l.length - 1 else l.length) ∧ ∀ j, (l.filter fun w => decide (w ≠ v)).getD j 0 = if j < aPos v l then l.getD j 0 else l.getD (j + 1) 0
  | [], _ => ⟨rfl, fun j => by
    rw [aPos, if_neg (Nat.not_lt_zero _)]
    rfl⟩
  | x :: l, h => by
    obtain ⟨h1, h2⟩ := List.nodup_cons.mp h
    obtain ⟨i1, i2⟩ := filter_pos v l h2
    have hle := aPos_le v l
    rw [aPos]
    by_cases c : x = v
    · have e : (l.filter fun w => decide (w ≠ v)) = l := List.filter_eq_self.mpr fun y hy => by
        rw [decide_eq_true_eq]
        intro w
        exact h1 (by rw [c, ← w]; exact hy)
      rw [List.filter_cons_of_neg (by rw [decide_eq_true_eq]; exact fun w => w c), e, if_pos c, List.length_cons]
      refine ⟨by rw [if_pos (by omega)]; omega, fun j => ?_⟩
      rw [if_neg (Nat.not_lt_zero _), List.getD_cons_succ]
    · rw [List.filter_cons_of_pos (by rw [decide_eq_true_eq]; exact c), if_neg c, List.length_cons, List.length_cons]
      refine ⟨?_, fun j => ?_⟩
      · rw [i1]
        by_cases d : aPos v l < l.length
        · rw [if_pos d, if_pos (by omega)]; omega
        · rw [if_neg d, if_neg (by omega)]
      · cases j with
        | zero => rw [if_pos (by omega)]; rfl
        | succ j =>
          rw [List.getD_cons_succ, i2 j]
          by_cases d : j < aPos v l
          · rw [if_pos d, if_pos (by omega), List.getD_cons_succ]
          · rw [if_neg d, if_neg (by omega), List.getD_cons_succ]
theorem getD_take (l : List Int) (n j : Nat) (h : j < n) : (l.take n).getD j 0 = l.getD j 0 := by
  rw [List.getD_eq_getElem?_getD, List.getD_eq_getElem?_getD, List.getElem?_take, if_pos h]
/-- the words behind a byte, place by place -/
theorem aUse_get (v : Int) {l : List Int} (h : l.Nodup) (h8 : l.length ≤ 8) : (aUse v l).length = (if aPos v l = l.length ∧ l.length < 8 then l.length + 1 else l.length) ∧ ∀ j, j < (aUse v l).length → (aUse v l).getD j 0 = b_pw (fun j => l.getD j 0) v (aPos v l) j := by
  obtain ⟨f1, f2⟩ := filter_pos v l h
  have hle := aPos_le v l
  have hlen : (aUse v l).length = min 7 (l.filter fun w => decide (w ≠ v)).length + 1 := by unfold aUse; rw [List.length_cons, List.length_take]
  have hL : (aUse v l).length = (if aPos v l = l.length ∧ l.length < 8 then l.length + 1 else l.length) := by
    rw [hlen, f1]
    by_cases c : aPos v l < l.length
    · rw [if_pos c, if_neg (by omega)]; omega
    · rw [if_neg c]
      by_cases d : l.length < 8
      · rw [if_pos ⟨by omega, d⟩]; omega
      · rw [if_neg (by omega)]; omega
  refine ⟨hL, fun j hj => ?_⟩
  unfold b_pw
  cases j with
  | zero => rw [if_pos rfl]; rfl
  | succ j =>
    rw [if_neg (by omega)]
    rw [hlen] at hj
    unfold aUse
    rw [List.getD_cons_succ, getD_take _ _ _ (by omega), f2 j]
    by_cases c : j < aPos v l
    · rw [if_pos c, if_pos ⟨by omega, by omega⟩]
      rfl
    · rw [if_neg c, if_neg (by omega)]
theorem aUse_nodup (v : Int) {l : List Int} (h : l.Nodup) : (aUse v l).Nodup := by
  unfold aUse
  refine List.nodup_cons.mpr ⟨fun w => ?_, ((List.take_sublist _ _).trans List.filter_sublist).nodup h⟩
  have := (List.mem_filter.mp (List.mem_of_mem_take w)).2
  rw [decide_eq_true_eq] at this
  exact this rfl
theorem aWr_nodup : ∀ (q : List Int) {ws : List Int}, ws.Nodup → (aWr ws q).Nodup
  | [], _, h => h
  | v :: q, _, h => aWr_nodup q (aUse_nodup v h)
theorem r_use (e w v : Int) (M : xM) {wi ci : Nat} {l : List Int} {B : Int} (hB : B ≤ 2147483647) (hv : aB B v) (hr : aRl B l) (h : rL (M 1) ci wi 8 l) (hn : l.Nodup) (hw : wi + 8 ≤ 3530) (hci : ci < 3530) (hd : ci < wi ∨ wi + 8 ≤ ci) (h1 : f_m_wordsAt e w (xvw [] M) = some (wi : Int)) (h2 : f_m_countAt e w (xvw [] M) = some (ci : Int)) : ∃ M' : xM, f_m_use e w v M = some (aPay v l, M') ∧ rL (M' 1) ci wi 8 (aUse v l) ∧ (∀ i, i ≠ ci → (i < wi ∨ wi + 8 ≤ i) → M' 1 i = M 1 i) ∧ ∀ k, k ≠ 1 → M' k = M k := by
  obtain ⟨a1, a2, a3⟩ := h
  obtain ⟨M', m1, m2, m3, m4, m5⟩ := use_sp e w v M wi ci l.length a1 hw hci hd a2 h1 h2
  have hp : b_fp (fun j => M 1 (wi + j)) v l.length 0 = aPos v l := by
    rw [b_fp_pos v hB hv (fun j => M 1 (wi + j)) l 0 hr (fun j hj => by rw [Nat.zero_add]; exact a3 j hj), Nat.zero_add]
  rw [hp] at m1 m2 m3
  obtain ⟨u1, u2⟩ := aUse_get v hn a1
  have hle := aPos_le v l
  refine ⟨M', ?_, ⟨aUse_len v l, ?_, fun i hi => ?_⟩, m4, m5⟩
  · rw [m1]
    unfold aPay
    by_cases c : v ∈ l
    · rw [if_pos c, if_pos ((aPos_mem v l).mpr c)]
    · rw [if_neg c, if_neg (fun w => c ((aPos_mem v l).mp w))]
  · rw [m3, u1]
    by_cases c : aPos v l = l.length ∧ l.length < 8
    · rw [if_pos c, if_pos c]; rfl
    · rw [if_neg c, if_neg c]
  · have h8 := aUse_len v l
    rw [m2 i (by omega), u2 i hi]
    unfold b_pw
    by_cases c0 : i = 0
    · rw [if_pos c0, if_pos c0]
    · rw [if_neg c0, if_neg c0]
      by_cases c1 : i ≤ aPos v l ∧ i < 8
      · rw [if_pos c1, if_pos c1]
        exact a3 _ (by omega)
      · rw [if_neg c1, if_neg c1]
        refine a3 _ ?_
        rw [u1] at hi
        by_cases c2 : aPos v l = l.length ∧ l.length < 8
        · rw [if_pos c2] at hi; omega
        · rw [if_neg c2] at hi; exact hi
theorem r_write_50 (e fr : Nat) (he : e < 2) {l : List Int} {B : Int} (hB : B ≤ 2147483647) (hrl : aRl B l) (hl : l.length ≤ 8) (hfr : (56 + 717 * e) + 18 ≤ fr ∧ fr + l.length ≤ 1490) : ∀ (q p : List Int) (n : Nat) (acc : Int) (ws : List Int) (M : xM), l = p ++ q → q.length < n → (∀ i, i < l.length → M 1 (fr + i) = l.getD i 0) → rL (M 1) ((56 + 717 * e) + 7) ((56 + 717 * e) + 10) 8 ws → ws.Nodup → aRl B ws → ∃ M' : xM, f_m_write_50 (e : Int) (fr : Int) (l.length : Int) n acc (p.length : Int) M = some (acc + aCo ws q, M') ∧ rL (M' 1) ((56 + 717 * e) + 7) ((56 + 717 * e) + 10) 8 (aWr ws q) ∧ (∀ i, i ≠ (56 + 717 * e) + 7 → (i < (56 + 717 * e) + 10 ∨ (56 + 717 * e) + 18 ≤ i) → M' 1 i = M 1 i) ∧ ∀ k, k ≠ 1 → M' k = M k
  | [], p, n + 1, acc, ws, M, e1, hn, hs, hw, hnd, hr => by
    rw [List.append_nil] at e1
    subst e1
    refine ⟨M, ?_, hw, fun _ _ _ => rfl, fun _ _ => rfl⟩
    rw [f_m_write_50, if_neg (by omega), aCo, Int.add_zero]
  | v :: q, p, n + 1, acc, ws, M, e1, hn, hs, hw, hnd, hr => by
    have e2 : l.length = p.length + (q.length + 1) := by rw [e1, List.length_append]; rfl
    have e5 : l.getD p.length 0 = v := by rw [e1, getD_mid]
    have e6 : l = (p ++ [v]) ++ q := by rw [e1, List.append_assoc]; rfl
    have hv : aB B v := hrl v (by rw [e1]; exact List.mem_append_right _ List.mem_cons_self)
    obtain ⟨M1, a1, a2, a3, a4⟩ := r_use (e : Int) 1 v M hB hv hr hw hnd (by omega) (by omega) (by omega) (m_wordsAt _ (Or.inr ⟨rfl, by omega⟩)) (m_countAt _ (Or.inr ⟨rfl, by omega⟩))
    obtain ⟨M', b1, b2, b3, b4⟩ := r_write_50 e fr he hB hrl hl hfr q (p ++ [v]) n (acc + aPay v ws) (aUse v ws) M1 e6 (by simp only [List.length_cons] at hn; omega) (fun i hi => by rw [a3 _ (by omega) (by omega)]; exact hs i hi) a2 (aUse_nodup v hnd) (aUse_R hv hr)
    have hx : xix ((fr : Int) + (p.length : Int)) = fr + p.length := by rw [b_ix (by omega)]; omega
    refine ⟨M', ?_, b2, fun i h1 h2 => by rw [b3 i h1 h2, a3 i h1 h2], fun k hk => by rw [b4 k hk, a4 k hk]⟩
    rw [f_m_write_50, if_pos (by rw [b_xw (by omega), b_xw (by omega)]; omega), if_pos (b_ib (by omega)), hx, hs _ (by omega), e5, a1, Option.bind_some]
    rw [len_snoc] at b1
    dsimp only
    rw [b1, aCo, Int.add_assoc]
  | _, _, 0, _, _, _, _, hn, _, _, _, _ => by omega
/-- what else stays true: words differ, bytes are counted, the queue is short -/
def aU (s : aS) : Prop := ∀ e, e < 2 → (((s.2.1 (56 + 717 * e + 10))).Nodup ∧ ((s.2.1 (56 + 717 * e + 18))).Nodup) ∧ ((s.2.1 (56 + 717 * e + 117))).length ≤ 200 ∧ ((0 ≤ s.1 ((56 + 717 * e) + 4) ∧ s.1 ((56 + 717 * e) + 4) ≤ 400 ∧ (((s.2.1 (56 + 717 * e + 317))).length : Int) = s.1 ((56 + 717 * e) + 4)) ∨ (400 < s.1 ((56 + 717 * e) + 4) ∧ ((s.2.1 (56 + 717 * e + 317))).length = 400))
theorem r_write (e fr : Nat) (he : e < 2) {s : aS} {l : List Int} {B : Int} (hB : B ≤ 2147483647) (hi : aI B s) (hu : aU s) {M : xM} (h : RA (M 1) s) (hrl : aRl B l) (hl : l.length ≤ 8) (hfr : (56 + 717 * e) + 18 ≤ fr ∧ fr + l.length ≤ 1490) (hs : ∀ i, i < l.length → M 1 (fr + i) = l.getD i 0) : ∃ M' : xM, f_m_write (e : Int) (fr : Int) (l.length : Int) M = some (aCost e l s, M') ∧ rL (M' 1) ((56 + 717 * e) + 7) ((56 + 717 * e) + 10) 8 (aWr (aDict e s) l) ∧ (∀ i, i ≠ (56 + 717 * e) + 7 → (i < (56 + 717 * e) + 10 ∨ (56 + 717 * e) + 18 ≤ i) → M' 1 i = M 1 i) ∧ ∀ k, k ≠ 1 → M' k = M k := by
  have h9 := h.n ((56 + 717 * e) + 9) (by unfold aIx; omega)
  have hmk := (hi.2.2.2.1 e he).2.2.2.2
  have hw := (h.2.1 e he).1.2.1
  unfold f_m_write
  rw [m_of (i := (56 + 717 * e) + 9) M (by omega) (by omega), Option.bind_some, h9, (hi.2.1.1 _).xw hB, show xw 1 = 1 by decide]
  unfold aCost aDict
  by_cases c : s.1 ((56 + 717 * e) + 9) = 0
  · rw [if_neg (by omega), if_pos c, if_pos c]
    unfold f_m_write_16 f_m_write_35 f_m_write_45
    rw [if_pos (by decide), if_pos (by decide)]
    exact r_write_50 e fr he hB hrl hl hfr l [] fu 4 ((s.2.1 (56 + 717 * e + 10))) M rfl (by show _ < 5000; omega) hs hw (hu e he).1.1 (hi.2.1.2.1 _)
  · rw [if_pos (by omega), if_neg c, if_neg c]
    unfold f_m_write_16 f_m_write_35 f_m_write_45
    have hx : xix (56 + 717 * (e : Int) + 7) = (56 + 717 * e) + 7 := by rw [b_ix (by omega)]; omega
    rw [if_neg (by decide), m_endAt (i := (56 + 717 * e) + 7) _ (by omega), Option.bind_some, if_pos (b_ib (by omega)), if_neg (by decide), xix_nat (by omega)]
    obtain ⟨M', b1, b2, b3, b4⟩ := r_write_50 e fr he hB hrl hl hfr l [] fu 5 [] (xu M 1 ((56 + 717 * e) + 7) 0) rfl (by show _ < 5000; omega) (fun i hi => by rw [xu_d (by omega)]; exact hs i hi) ⟨Nat.zero_le _, by rw [xu_s rfl]; rfl, fun i hi => absurd hi (Nat.not_lt_zero _)⟩ List.nodup_nil (fun x hx => absurd hx List.not_mem_nil)
    exact ⟨M', b1, b2, fun i h1 h2 => by rw [b3 i h1 h2, xu_d h1], fun k hk => by rw [b4 k hk, xu_K hk]⟩

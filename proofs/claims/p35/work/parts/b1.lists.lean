/-! ===== Own's helpers over lists: with, part, has, used, more ===== -/
theorem xw_nat {i : Nat} (h : i < 2147483648) : xw (i : Int) = i := xw_id (by omega) (by omega)
theorem xix_nat {i : Nat} (h : i < 2147483648) : xix (i : Int) = i := by unfold xix; rw [xw_nat h]; rfl
theorem xib_nat {i n : Nat} (h : i < n) (hn : n < 2147483648) : xib (i : Int) n := by
  unfold xib
  rw [xw_nat (by omega)]
  omega
theorem gat_lt {h : gH} {k : Nat} {c : gC} (e : gat h k = some c) (g : gH) : gat (h ++ g) k = some c := by
  obtain ⟨h1, h2⟩ := gat_some e
  unfold gat
  rw [if_pos h1, List.getElem?_append_left (List.getElem?_eq_some_iff.mp h2).1]
  exact h2
theorem gat_nw (h : gH) (c : gC) (g : gH) : gat (h ++ c :: g) (2000 + h.length) = some c := by
  unfold gat
  rw [if_pos (Nat.le_add_right _ _), Nat.add_sub_cancel_left, List.getElem?_append_right (Nat.le_refl _), Nat.sub_self]
  rfl
theorem glc_N {h : gH} {k t : Nat} {l : List Int} (e : gat h k = some (.inl (t, l))) (ht : t = 0 ∨ t = 1 ∨ t = 3) : glc h k = some (l.length : Int) := by
  unfold glc
  rw [e]
  rcases ht with rfl | rfl | rfl <;> rfl
theorem gaN_N {h : gH} {k t : Nat} {l : List Int} (e : gat h k = some (.inl (t, l))) {i : Nat} (hi : i < l.length) (hl : l.length < 2147483648) : gaN t h k (i : Int) = some (l.getD i 0) := by
  unfold gaN
  rw [e]
  dsimp only
  rw [if_pos ⟨rfl, xib_nat hi hl⟩, xix_nat (by omega)]
theorem gsN_nw {h : gH} {t : Nat} {l : List Int} {i : Nat} (hi : i < l.length) (hl : l.length < 2147483648) (x : Int) : gsN t (h ++ [.inl (t, l)]) (2000 + h.length) (i : Int) x = some (h ++ [.inl (t, l.set i x)]) := by
  unfold gsN
  rw [gat_nw]
  dsimp only
  rw [if_pos ⟨rfl, xib_nat hi hl⟩, xix_nat (by omega), Nat.add_sub_cancel_left, List.set_append_right _ _ (Nat.le_refl _), Nat.sub_self]
  rfl
theorem gNw_nat (t : Nat) (h : gH) {n : Nat} (hn : n ≤ 100000000) : gNw t h (n : Int) = some (2000 + h.length, h ++ [.inl (t, List.replicate n 0)]) := by
  unfold gNw
  rw [xw_nat (by omega), xix_nat (by omega), if_pos ⟨by omega, by omega⟩]
theorem fill_step {α : Type} (p : List α) (k : Nat) (d x : α) : (p ++ List.replicate (k + 1) d).set p.length x = (p ++ [x]) ++ List.replicate k d := by
  rw [List.set_append_right _ _ (Nat.le_refl _), Nat.sub_self, List.append_assoc]
  rfl
theorem getD_mid {α : Type} (p : List α) (x : α) (q : List α) (d : α) : (p ++ x :: q).getD p.length d = x := by
  rw [List.getD_eq_getElem?_getD, List.getElem?_append_right (Nat.le_refl _), Nat.sub_self]
  rfl
theorem len_snoc {α : Type} (p : List α) (x : α) : ((p ++ [x]).length : Int) = (p.length : Int) + 1 := by
  rw [List.length_append]
  rfl
theorem O_with_loop {h : gH} {a : Nat} {l : List Int} (v : Int) (ha : gat h a = some (.inl (0, l))) (hl : l.length < 1000000) : ∀ (q p : List Int) (n : Nat), l = p ++ q → q.length < n → f_O_with_9 a v n (2000 + h.length) (p.length : Int) (h ++ [.inl (0, p ++ List.replicate (q.length + 1) 0)]) = some (2000 + h.length, h ++ [.inl (0, l ++ [v])])
  | [], p, n + 1, e, _ => by
    rw [List.append_nil] at e
    subst e
    rw [f_O_with_9, glc_N (gat_lt ha _) (Or.inl rfl), Option.bind_some, if_neg (by rw [xw_nat (by omega)]; omega)]
    unfold f_O_with_27
    rw [glc_N (gat_lt ha _) (Or.inl rfl), Option.bind_some, gsN_nw (by rw [List.length_append, List.length_replicate]; exact Nat.lt_succ_self _) (by rw [List.length_append, List.length_replicate]; simp; omega), Option.bind_some, fill_step]
    show some (_, h ++ [.inl (0, (l ++ [v]) ++ [])]) = _
    rw [List.append_nil]
  | x :: q, p, n + 1, e, hn => by
    have e1 : l.length = p.length + (q.length + 1) := by rw [e, List.length_append]; rfl
    rw [f_O_with_9, glc_N (gat_lt ha _) (Or.inl rfl), Option.bind_some, if_pos (by rw [xw_nat (by omega), xw_nat (by omega)]; omega), gaN_N (gat_lt ha _) (by omega) (by omega), Option.bind_some, e, getD_mid, ← e,
      gsN_nw (by rw [List.length_append, List.length_replicate]; omega) (by rw [List.length_append, List.length_replicate]; simp only [List.length_cons]; omega), Option.bind_some]
    show f_O_with_9 a v n _ _ (h ++ [.inl (0, (p ++ List.replicate ((q.length + 1) + 1) 0).set p.length x)]) = _
    rw [fill_step, ← len_snoc p x]
    exact O_with_loop v ha hl q (p ++ [x]) n (by rw [e, List.append_assoc]; rfl) (by simp only [List.length_cons] at hn; omega)
  | _, _, 0, _, hn => by omega
theorem O_with {h : gH} {a : Nat} {l : List Int} (v : Int) (ha : gat h a = some (.inl (0, l))) (hl : l.length < 4999) : f_O_with a v h = some (2000 + h.length, h ++ [.inl (0, l ++ [v])]) := by
  unfold f_O_with
  rw [glc_N ha (Or.inl rfl), Option.bind_some, show ((l.length : Nat) : Int) + 1 = ((l.length + 1 : Nat) : Int) by omega, gNw_nat 0 h (by omega), Option.bind_some]
  exact O_with_loop v ha (by omega) l [] fu rfl (by show _ < 5000; omega)
theorem O_part_loop {h : gH} {a b : Nat} {l u r : List Int} (ha : gat h a = some (.inl (0, l))) (hl : l.length < 1000000) (hu : u.length = b) : ∀ (q p : List Int) (n : Nat), l = u ++ ((p ++ q) ++ r) → q.length < n → f_O_part_9 a b ((b + (p ++ q).length : Nat) : Int) n (2000 + h.length) ((b + p.length : Nat) : Int) (h ++ [.inl (0, p ++ List.replicate q.length 0)]) = some (2000 + h.length, h ++ [.inl (0, p ++ q)])
  | [], p, n + 1, e, _ => by
    have e1 : l.length = u.length + (p.length + r.length) := by rw [e, List.length_append, List.length_append, List.length_append]; rfl
    rw [f_O_part_9, if_neg (by rw [List.append_nil, xw_nat (by omega)]; omega)]
    rfl
  | x :: q, p, n + 1, e, hn => by
    have e1 : l.length = u.length + (p.length + (q.length + 1) + r.length) := by rw [e, List.length_append, List.length_append, List.length_append]; rfl
    have e2 : l = (u ++ p) ++ x :: (q ++ r) := by rw [e]; simp only [List.append_assoc, List.cons_append]
    have e3 : (p ++ x :: q).length = p.length + (q.length + 1) := List.length_append
    have e4 : b + p.length = (u ++ p).length := by rw [List.length_append, hu]
    rw [f_O_part_9, if_pos (by rw [xw_nat (by omega), xw_nat (by omega)]; omega), gaN_N (gat_lt ha _) (by omega) (by omega), Option.bind_some]
    have e5 : l.getD (b + p.length) 0 = x := by rw [e4, e2, getD_mid]
    rw [e5, show ((b + p.length : Nat) : Int) - (b : Int) = (p.length : Int) by omega,
      gsN_nw (by rw [List.length_append, List.length_replicate]; simp only [List.length_cons]; omega) (by rw [List.length_append, List.length_replicate]; simp only [List.length_cons]; omega), Option.bind_some]
    show f_O_part_9 a b _ n _ _ (h ++ [.inl (0, (p ++ List.replicate (q.length + 1) 0).set p.length x)]) = _
    rw [fill_step, show ((b + p.length : Nat) : Int) + 1 = ((b + (p ++ [x]).length : Nat) : Int) by rw [List.length_append]; simp only [List.length_cons, List.length_nil]; omega,
      show p ++ x :: q = (p ++ [x]) ++ q by rw [List.append_assoc]; rfl]
    exact O_part_loop ha hl hu q (p ++ [x]) n (by rw [e, List.append_assoc p [x] q]; rfl) (by simp only [List.length_cons] at hn; omega)
  | _, _, 0, _, hn => by omega
theorem O_part {h : gH} {a b c : Nat} {l : List Int} (ha : gat h a = some (.inl (0, l))) (hl : l.length < 4999) (hb : b ≤ c) (hc : c ≤ l.length) : f_O_part a b c h = some (2000 + h.length, h ++ [.inl (0, (l.drop b).take (c - b))]) := by
  have h1 : ((l.drop b).take (c - b)).length = c - b := by rw [List.length_take, List.length_drop]; omega
  unfold f_O_part
  rw [show (c : Int) - (b : Int) = ((c - b : Nat) : Int) by omega, gNw_nat 0 h (by omega), Option.bind_some]
  have h2 := O_part_loop (h := h) (a := a) (b := b) (l := l) (u := l.take b) (r := (l.drop b).drop (c - b)) ha (by omega) (by rw [List.length_take]; omega) ((l.drop b).take (c - b)) [] fu (by rw [List.nil_append, List.take_append_drop, List.take_append_drop]) (by rw [h1]; show _ < 5000; omega)
  rw [List.nil_append, List.nil_append, h1, show b + (c - b) = c by omega] at h2
  exact h2
theorem O_bytes {h : gH} {a : Nat} {l : List Int} (ha : gat h a = some (.inl (0, l))) (hl : l.length < 4999) (h3 : 3 ≤ l.length) : f_O_bytes a h = some (2000 + h.length, h ++ [.inl (0, l.drop 3)]) := by
  unfold f_O_bytes
  rw [glc_N ha (Or.inl rfl), Option.bind_some]
  have h1 := O_part ha hl h3 (Nat.le_refl _)
  rw [show ((3 : Nat) : Int) = 3 from rfl] at h1
  rw [h1, Option.bind_some, List.take_of_length_le (by rw [List.length_drop]; omega)]
/-- v stands among the words -/
def hasL (v : Int) (l : List Int) : Int := if l.any (fun w => decide (xw w = xw v)) = true then 1 else 0
theorem O_has_loop {h : gH} {a x2 : Nat} {l : List Int} (v : Int) (ha : gat h x2 = some (.inl (0, l))) (hl : l.length < 1000000) : ∀ (q p : List Int) (n : Nat), l = p ++ q → q.length < n → f_O_has_8 a v h n x2 (l.length : Int) (p.length : Int) = some (hasL v q)
  | [], p, n + 1, e, _ => by
    rw [List.append_nil] at e
    subst e
    rw [f_O_has_8, if_neg (by omega)]
    rfl
  | x :: q, p, n + 1, e, hn => by
    have e1 : l.length = p.length + (q.length + 1) := by rw [e, List.length_append]; rfl
    rw [f_O_has_8, if_pos (by rw [xw_nat (by omega), xw_nat (by omega)]; omega), gaN_N ha (by omega) (by omega), Option.bind_some]
    have e5 : l.getD p.length 0 = x := by rw [e, getD_mid]
    rw [e5]
    by_cases hx : xw x = xw v
    · rw [if_pos hx]
      unfold hasL
      rw [List.any_cons, decide_eq_true hx, Bool.true_or, if_pos rfl]
    · rw [if_neg hx, ← len_snoc p x, O_has_loop v ha hl q (p ++ [x]) n (by rw [e, List.append_assoc]; rfl) (by simp only [List.length_cons] at hn; omega)]
      unfold hasL
      rw [List.any_cons, decide_eq_false hx, Bool.false_or]
  | _, _, 0, _, hn => by omega
theorem O_has {h : gH} {a : Nat} {l : List Int} (v : Int) (ha : gat h a = some (.inl (0, l))) (hl : l.length < 4999) : f_O_has a v h = some (hasL v l) := by
  unfold f_O_has
  rw [glc_N ha (Or.inl rfl), Option.bind_some]
  exact O_has_loop v ha (by omega) l [] fu rfl (by show _ < 5000; omega)
/-- a dictionary behind a byte -/
def usL (v : Int) : List Int → List Int → List Int
  | bl, [] => bl
  | bl, w :: ws => if xw w = xw v then usL v bl ws else if bl.length < 8 then usL v (bl ++ [w]) ws else usL v bl ws
theorem O_used_loop {a : Nat} {x3 : Nat} {l : List Int} (v : Int) (hl : l.length < 1000000) : ∀ (q p : List Int) (n : Nat) (bl : List Int) (x2 : Nat) (h : gH), gat h x3 = some (.inl (0, l)) → gat h x2 = some (.inl (0, bl)) → bl.length ≤ 8 → l = p ++ q → q.length < n → ∃ (r : Nat) (g : gH), f_O_used_17 a v n x2 x3 (l.length : Int) (p.length : Int) h = some (r, h ++ g) ∧ gat (h ++ g) r = some (.inl (0, usL v bl q)) ∧ (usL v bl q).length ≤ 8 ∧ g.length + bl.length ≤ 8 ∧ gsl g ≤ 8 * g.length
  | [], p, n + 1, bl, x2, h, ha, hb, h8, e, _ => by
    rw [List.append_nil] at e
    subst e
    refine ⟨x2, [], ?_, by rw [List.append_nil]; exact hb, h8, by simpa using h8, Nat.le_refl _⟩
    rw [f_O_used_17, if_neg (by omega), List.append_nil]
    rfl
  | x :: q, p, n + 1, bl, x2, h, ha, hb, h8, e, hn => by
    have e1 : l.length = p.length + (q.length + 1) := by rw [e, List.length_append]; rfl
    have e5 : l.getD p.length 0 = x := by rw [e, getD_mid]
    have e6 : l = (p ++ [x]) ++ q := by rw [e, List.append_assoc]; rfl
    have hn' : q.length < n := by simp only [List.length_cons] at hn; omega
    rw [f_O_used_17, if_pos (by rw [xw_nat (by omega), xw_nat (by omega)]; omega), gaN_N ha (by omega) (by omega), Option.bind_some, e5]
    by_cases hx : xw x = xw v
    · rw [if_pos hx]
      unfold f_O_used_50
      rw [← len_snoc p x]
      obtain ⟨r, g, h1, h2, h3, h4, h5⟩ := O_used_loop (a := a) v hl q (p ++ [x]) n bl x2 h ha hb h8 e6 hn'
      refine ⟨r, g, h1, ?_, ?_, h4, h5⟩ <;> rw [usL, if_pos hx] <;> assumption
    · rw [if_neg hx, glc_N hb (Or.inl rfl), Option.bind_some]
      by_cases hb8 : bl.length < 8
      · rw [if_pos (by rw [xw_nat (by omega), show xw 8 = 8 by decide]; omega), O_with x hb (by omega), Option.bind_some]
        unfold f_O_used_50
        rw [← len_snoc p x]
        obtain ⟨r, g, h1, h2, h3, h4, h5⟩ := O_used_loop (a := a) v hl q (p ++ [x]) n (bl ++ [x]) (2000 + h.length) (h ++ [.inl (0, bl ++ [x])]) (gat_lt ha _) (gat_nw h _ []) (by rw [List.length_append]; exact hb8) e6 hn'
        rw [List.length_append] at h4
        have hz : gsl (.inl (0, bl ++ [x]) :: g) = (bl.length + 1) + gsl g := by show (bl ++ [x]).length + gsl g = _; rw [List.length_append]; rfl
        refine ⟨r, .inl (0, bl ++ [x]) :: g, by rw [h1, List.append_assoc]; rfl, ?_, ?_, ?_, ?_⟩
        · rw [usL, if_neg hx, if_pos hb8]
          rw [List.append_assoc] at h2
          exact h2
        · rw [usL, if_neg hx, if_pos hb8]; exact h3
        · simp only [List.length_cons, List.length_nil] at h4 ⊢; omega
        · rw [hz]; simp only [List.length_cons]; omega
      · rw [if_neg (by rw [xw_nat (by omega), show xw 8 = 8 by decide]; omega)]
        unfold f_O_used_50
        rw [← len_snoc p x]
        obtain ⟨r, g, h1, h2, h3, h4, h5⟩ := O_used_loop (a := a) v hl q (p ++ [x]) n bl x2 h ha hb h8 e6 hn'
        refine ⟨r, g, h1, ?_, ?_, h4, h5⟩ <;> rw [usL, if_neg hx, if_neg hb8] <;> assumption
  | _, _, 0, _, _, _, _, _, _, _, hn => by omega
theorem O_used {h : gH} {a : Nat} {l : List Int} (v : Int) (ha : gat h a = some (.inl (0, l))) (hl : l.length < 4999) : ∃ (r : Nat) (g : gH), f_O_used a v h = some (r, h ++ g) ∧ gat (h ++ g) r = some (.inl (0, usL v [v] l)) ∧ (usL v [v] l).length ≤ 8 ∧ g.length ≤ 8 ∧ gsl g ≤ 8 * g.length := by
  unfold f_O_used
  rw [show (1 : Int) = ((1 : Nat) : Int) from rfl, gNw_nat 0 h (by omega), Option.bind_some]
  have h1 : gsN 0 (h ++ [.inl (0, List.replicate 1 0)]) (2000 + h.length) ((0 : Nat) : Int) v = _ := gsN_nw (h := h) (t := 0) (l := List.replicate 1 0) (i := 0) (by decide) (by decide) v
  rw [show ((0 : Nat) : Int) = 0 from rfl] at h1
  rw [h1, Option.bind_some, glc_N (gat_lt ha _) (Or.inl rfl), Option.bind_some]
  obtain ⟨r, g, k1, k2, k3, k4, k5⟩ := O_used_loop (a := a) (x3 := a) (l := l) v (by omega) l [] fu [v] (2000 + h.length) (h ++ [.inl (0, [v])]) (gat_lt ha _) (gat_nw h _ []) (Nat.le_of_ble_eq_true rfl) rfl (by show _ < 5000; omega)
  refine ⟨r, .inl (0, [v]) :: g, ?_, ?_, k3, ?_, ?_⟩
  · rw [List.append_assoc] at k1
    exact k1
  · rw [List.append_assoc] at k2
    exact k2
  · simp only [List.length_cons, List.length_nil] at k4 ⊢; omega
  · show [v].length + gsl g ≤ 8 * (g.length + 1)
    simp only [List.length_cons, List.length_nil]; omega

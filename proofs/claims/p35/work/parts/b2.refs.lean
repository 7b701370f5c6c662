/-! ===== Own's helpers over lists of references ===== -/
theorem glc_Q {h : gH} {k t : Nat} {l : List (Option Nat)} (e : gat h k = some (.inr (.inl (t, l)))) (ht : t = 4 ∨ t = 5) : glc h k = some (l.length : Int) := by
  unfold glc
  rw [e]
  rcases ht with rfl | rfl <;> rfl
theorem gaK_N {h : gH} {k t : Nat} {l : List (Option Nat)} (e : gat h k = some (.inr (.inl (t, l)))) {i : Nat} (hi : i < l.length) (hl : l.length < 2147483648) : gaK t h k (i : Int) = l.getD i none := by
  unfold gaK gaR
  rw [e]
  dsimp only
  rw [if_pos ⟨rfl, xib_nat hi hl⟩, xix_nat (by omega)]
  rfl
theorem gNq_nat (t : Nat) (h : gH) {n : Nat} (hn : n ≤ 100000000) : gNq t h (n : Int) = some (2000 + h.length, h ++ [.inr (.inl (t, List.replicate n none))]) := by
  unfold gNq
  rw [xw_nat (by omega), xix_nat (by omega), if_pos ⟨by omega, by omega⟩]
/-- a row of numbers stands there -/
def gRow (h : gH) (x : Nat) : Prop := ∃ l : List Int, gat h x = some (.inl (0, l))
theorem gRow.lt {h : gH} {x : Nat} (e : gRow h x) (g : gH) : gRow (h ++ g) x := by
  obtain ⟨l, e⟩ := e
  exact ⟨l, gat_lt e g⟩
theorem gokB_row {h : gH} {x : Nat} (e : gRow h x) : gokB 4 h (some x) = true := by
  obtain ⟨l, e⟩ := e
  unfold gokB
  dsimp only
  rw [e]
  rfl
theorem gsQ_nw {h : gH} {l : List (Option Nat)} {i x : Nat} (hi : i < l.length) (hl : l.length < 2147483648) (hx : gRow h x) : gsQ 4 (h ++ [.inr (.inl (4, l))]) (2000 + h.length) (i : Int) (some x) = some (h ++ [.inr (.inl (4, l.set i (some x)))]) := by
  unfold gsQ
  rw [if_pos (gokB_row (hx.lt _))]
  unfold gsR
  rw [gat_nw]
  dsimp only
  rw [if_pos ⟨rfl, xib_nat hi hl⟩, xix_nat (by omega), Nat.add_sub_cancel_left, List.set_append_right _ _ (Nat.le_refl _), Nat.sub_self]
  rfl
theorem O_more_loop {h : gH} {a f : Nat} {l : List Nat} (ha : gat h a = some (.inr (.inl (4, l.map some)))) (hf : gRow h f) (hr : ∀ x ∈ l, gRow h x) (hl : l.length < 1000000) : ∀ (q p : List Nat) (n : Nat), l = p ++ q → q.length < n → f_O_more_10 a f n (2000 + h.length) (p.length : Int) (h ++ [.inr (.inl (4, p.map some ++ List.replicate (q.length + 1) none))]) = some (2000 + h.length, h ++ [.inr (.inl (4, (l ++ [f]).map some))])
  | [], p, n + 1, e, _ => by
    rw [List.append_nil] at e
    subst e
    have hm : (l.map some).length = l.length := List.length_map _
    rw [f_O_more_10, glc_Q (gat_lt ha _) (Or.inl rfl), Option.bind_some, hm, if_neg (by omega)]
    unfold f_O_more_28
    rw [glc_Q (gat_lt ha _) (Or.inl rfl), Option.bind_some, gsQ_nw (by rw [List.length_append, List.length_replicate]; exact Nat.lt_succ_self _) (by rw [List.length_append, List.length_replicate, hm]; show l.length + 1 < _; omega) hf, Option.bind_some]
    show some (_, h ++ [.inr (.inl (4, (l.map some ++ List.replicate (0 + 1) none).set (l.map some).length (some f)))]) = _
    rw [fill_step, List.map_append]
    show some (_, h ++ [.inr (.inl (4, (l.map some ++ [some f]) ++ []))]) = _
    rw [List.append_nil]
    rfl
  | x :: q, p, n + 1, e, hn => by
    have e1 : l.length = p.length + (q.length + 1) := by rw [e, List.length_append]; rfl
    have hm : (l.map some).length = l.length := List.length_map _
    have hpm : (p.map some).length = p.length := List.length_map _
    have hx : gRow h x := hr x (by rw [e]; exact List.mem_append_right _ List.mem_cons_self)
    have hg : (l.map some).getD p.length none = some x := by rw [e, List.map_append, ← hpm]; exact getD_mid _ _ _ _
    rw [f_O_more_10, glc_Q (gat_lt ha _) (Or.inl rfl), Option.bind_some, if_pos (by rw [hm, xw_nat (by omega), xw_nat (by omega)]; omega), gaK_N (gat_lt ha _) (by omega) (by omega), hg, Option.bind_some]
    have hs := gsQ_nw (h := h) (l := p.map some ++ List.replicate ((q.length + 1) + 1) none) (i := p.length) (x := x) (by rw [List.length_append, List.length_replicate, hpm]; omega) (by rw [List.length_append, List.length_replicate, hpm]; omega) hx
    have hs2 : (p.map some ++ List.replicate ((q.length + 1) + 1) none).set p.length (some x) = (p ++ [x]).map some ++ List.replicate (q.length + 1) none := by
      rw [← hpm, fill_step, List.map_append]
      rfl
    rw [hs2] at hs
    show Option.bind (gsQ 4 (h ++ [.inr (.inl (4, p.map some ++ List.replicate ((q.length + 1) + 1) none))]) (2000 + h.length) (p.length : Int) (some x)) _ = _
    rw [hs, Option.bind_some, ← len_snoc p x]
    exact O_more_loop ha hf hr hl q (p ++ [x]) n (by rw [e, List.append_assoc]; rfl) (by simp only [List.length_cons] at hn; omega)
  | _, _, 0, _, hn => by omega
theorem O_more {h : gH} {a f : Nat} {l : List Nat} (ha : gat h a = some (.inr (.inl (4, l.map some)))) (hf : gRow h f) (hr : ∀ x ∈ l, gRow h x) (hl : l.length < 4999) : f_O_more a f h = some (2000 + h.length, h ++ [.inr (.inl (4, (l ++ [f]).map some))]) := by
  have hm : (l.map some).length = l.length := List.length_map _
  unfold f_O_more
  rw [glc_Q ha (Or.inl rfl), Option.bind_some, hm, show ((l.length : Nat) : Int) + 1 = ((l.length + 1 : Nat) : Int) by omega, gNq_nat 4 h (by omega), Option.bind_some]
  exact O_more_loop ha hf hr (by omega) l [] fu rfl (by show _ < 5000; omega)

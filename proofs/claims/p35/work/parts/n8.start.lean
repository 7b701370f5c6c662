/-! ===== the law from its entry ===== -/
section N8
variable {Γ : yG} {own : String} {cc : ByteArray} {nL d K N pc k n : Nat} {L : List (Nat × Value)} {st : List Value} {ws : va_W}
theorem y_astoren (C : yC Γ own cc nL d K N) {kk : Fin 4} {i x : Nat} {L' : List (Nat × Value)} (hd : decode cc pc = .ok (.astore_n kk, 1)) (hi : (kk : Nat) = i) (hn9 : i < nL) (hL : (i, Value.ref x) :: L.filter (fun q => !(q.1 == i) && !(q.1 + 1 == i && q.2.category == 2)) = L') (h : yW Γ nL (pc + 1) L' st ws k n) : yW Γ nL pc L (.ref x :: st) ws k n := by
  obtain ⟨⟨p, l, e, R, s, m0, args, below, meth, c⟩, ⟨A, dC, dI, dA, sa⟩, Q⟩ := Γ
  obtain ⟨hx, hb, -⟩ := C
  intro H locs ls hP hD hS hv
  exact lv_astore_n hx hb hd hi hv hn9 hL (fun ls' hv' => h H locs ls' hP hD hS hv')
theorem y_sub {L' : List (Nat × Value)} (pls : List Nat) (hL : lv_pick L pls = L') (h : yW Γ nL pc L' st ws k n) : yW Γ nL pc L st ws k n := by
  obtain ⟨⟨p, l, e, R, s, m0, args, below, meth, c⟩, ⟨A, dC, dI, dA, sa⟩, Q⟩ := Γ
  intro H locs ls hP hD hS hv
  exact h H locs ls hP hD hS (lv_sub hv pls hL)
end N8
theorem yc_L_9 : yCl RL 9 11 16 [.null, .null, .null, .null, .null, .int 0, .null, .int 0, .int 0, .null, .int 0, .int 0, .null, .null, .null, .null] := ⟨RX10, TX10, tyX10, rfl, inlX10, tyX10_ok, (xin_1 _ (List.mem_of_getElem? (i := 0) rfl)), (xin_1 _ (List.mem_of_getElem? (i := 1) rfl)), (xin_1 _ (List.mem_of_getElem? (i := 2) rfl)), fun j hj => by rcases (show j = 0 ∨ j = 1 ∨ j = 2 ∨ j = 3 ∨ j = 4 ∨ j = 5 ∨ j = 6 ∨ j = 7 ∨ j = 8 ∨ j = 9 ∨ j = 10 ∨ j = 11 ∨ j = 12 ∨ j = 13 ∨ j = 14 ∨ j = 15 by omega) with rfl | rfl | rfl | rfl | rfl | rfl | rfl | rfl | rfl | rfl | rfl | rfl | rfl | rfl | rfl | rfl <;> rfl⟩
theorem xy_X10_init : xY yX10_init cX10_init 2 none 0 := ⟨(xin_1 _ (List.mem_of_getElem? (i := 7) rfl)), (xin_1 _ (List.mem_of_getElem? (i := 2) rfl)), by decide +kernel, by decide +kernel, by decide +kernel⟩
set_option maxRecDepth 1000000 in
set_option maxHeartbeats 8000000 in
theorem whole_start {p : Program} {e : Env} {s : State} {m : MethodId} {below : List Frame} {meth : Method} {c : Code} (l : Launch) {b Ln : Nat} {xs : Nat → Int32} (hL : Ln ≤ 260) (C0 : lw_At p s m meth c b Ln xs) : W p l e room_1 s m #[Value.ref b] below meth c s.heap [] 0 0 (lw_Z below #[Value.ref b] s) (entryFrame m ([Value.ref b] : List Value).toArray 14) := by
  obtain ⟨hx, hb, hr, hml, hown, hts, hX, hbl, hlocks, hgv⟩ := id C0
  have g : ∀ w ∈ l_flat, w.before #[Value.ref b] s = true := flat_of_before _ hgv
  have hw := l_words hts
  have hA9 : ∀ a : Nat, a < s.heap.size → ¬ (fun q : Nat => s.heap.size ≤ q) a := fun a h => Nat.not_le.mpr h
  obtain ⟨sa, hsa⟩ := l_texts g hts hA9
  obtain ⟨dC, dI, hKn⟩ := l_kn hts hw
  obtain ⟨dA, hAr⟩ := l_arr hts
  obtain ⟨m9, h9, f1, f2, f3⟩ := law_pure Ln (fun j => (xs j).toInt) (by omega)
  have C : yC ((p, l, e, room_1, s, m, #[Value.ref b], below, meth, c), ((fun q : Nat => s.heap.size ≤ q), dC, dI, dA, sa), lw_Z below #[Value.ref b] s) RL cL_law 14 13 600086 7301442 := ⟨hx, hb, hml, hown, hw, ⟨hKn, hAr⟩, fun q h => h, ⟨by decide, by decide⟩, ⟨by decide, by decide⟩, l_tab hts, hsa, l_compact g hts hA9⟩
  have hEnd : ∀ aX : Nat → Nat, (∀ i : Nat, i < 300 → aX (1000 + i) = sa (1000 + i)) → yW ((p, l, e, room_1, s, m, #[Value.ref b], below, meth, c), ((fun q : Nat => s.heap.size ≤ q), dC, dI, dA, sa), lw_Z below #[Value.ref b] s) 14 10 [(0, .ref b), (1, .ref (aX 0))] [.int 6] (xwld aX dA mX9 0 lay_X ++ yWt2 dA aX) 447 26173 := by
    intro aX haX
    refine law_runs (m9 := m9) (h9 := h9) (Ln := Ln) (xs := xs) C (Nat.le_refl _) (Nat.le_refl _) (l_gT hts) haX hr hlocks (fun q h => h) hX (Nat.not_le.mpr hbl) (by omega) ?_ (by omega) (by omega) (by decide) (by decide) f1
    rw [List.length_append, xwld_len, g_layXn]
    rfl
  have hl := lv_entry ([.ref b]) (n := 14) (Nat.le_of_ble_eq_true rfl)
  rw [lg_entry_eq]
  suffices h : yW ((p, l, e, room_1, s, m, #[Value.ref b], below, meth, c), ((fun q : Nat => s.heap.size ≤ q), dC, dI, dA, sa), lw_Z below #[Value.ref b] s) 14 0 [(0, .ref b)] [] [] 0 0 from
    h s.heap [] _ (fun k q h => by simp at h) ⟨fun i j p q h => by simp at h, fun k q h => by simp at h⟩ va_S.rf hl
  obtain ⟨Γ, hΓ⟩ : ∃ Γ : yG, Γ = ((p, l, e, room_1, s, m, #[Value.ref b], below, meth, c), ((fun q : Nat => s.heap.size ≤ q), dC, dI, dA, sa), lw_Z below #[Value.ref b] s) := ⟨_, rfl⟩
  have eSA : ∀ i : Nat, ySA Γ i = sa i := by rw [hΓ]; exact fun i => rfl
  have eDA : yDA Γ = dA := by rw [hΓ]
  rw [← hΓ] at C hEnd ⊢
  clear hΓ
  refine y_new C dL_law_0 yc_L_9 (by omega) (by omega) (fun q0 => ?_)
  refine y_dup C dL_law_3 ?_
  refine y_ctor (ws := []) (st := [.ref q0]) C (yon (fun _ => q0) (ySA Γ)) dL_law_4 (xin_1 _ (List.mem_of_getElem? (i := 5) rfl)) xy_X10_init (xin_1 _ (List.mem_of_getElem? (i := 6) rfl)) rfl (k_X10_init _) (by omega) (by omega) rfl (Nat.le_of_ble_eq_true rfl) (by omega) (by omega) rfl (yon_hi _ _) rfl (fun aX hX9 => ?_)
  obtain rfl : q0 = aX 0 := (hX9 0 (Or.inl rfl)).symm
  refine y_astoren C dL_law_7 rfl (by omega) rfl ?_
  refine y_sub [1, 0] rfl ?_
  refine y_bipush (v := 6) C dL_law_8 (by decide) ?_
  rw [List.nil_append, eDA]
  exact hEnd aX (fun i _ => ((hX9 (1000 + i) (Or.inr (by omega))).trans (yon_hi _ _ i)).trans (eSA _))

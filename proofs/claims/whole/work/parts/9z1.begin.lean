/-! ===== the law from its entry ===== -/
theorem yc_L_8 : yCl RL 8 12 16 [.null, .null, .null, .null, .null, .int 0, .null, .int 0, .int 0, .null, .int 0, .int 0, .null, .null, .null, .null] := ⟨RX10, TX10, tyX10, rfl, inlX10, tyX10_ok, (xin_1 _ (List.mem_of_getElem? (i := 0) rfl)), (xin_1 _ (List.mem_of_getElem? (i := 1) rfl)), (xin_1 _ (List.mem_of_getElem? (i := 2) rfl)), fun j hj => by rcases (show j = 0 ∨ j = 1 ∨ j = 2 ∨ j = 3 ∨ j = 4 ∨ j = 5 ∨ j = 6 ∨ j = 7 ∨ j = 8 ∨ j = 9 ∨ j = 10 ∨ j = 11 ∨ j = 12 ∨ j = 13 ∨ j = 14 ∨ j = 15 by omega) with rfl | rfl | rfl | rfl | rfl | rfl | rfl | rfl | rfl | rfl | rfl | rfl | rfl | rfl | rfl | rfl <;> rfl⟩
theorem yc_L_72 : yCl RL 72 13 26 [.null, .null, .null, .null, .null, .int 0, .int 0, .int 0, .null, .int 0, .null, .int 0, .null, .int 0, .int 0, .int 0, .int 0, .int 0, .int 0, .int 0, .int 0, .int 0, .null, .null, .null, .int 0] := ⟨RX11, TX11, tyX11, rfl, inlX11, tyX11_ok, (xin_1 _ (List.mem_of_getElem? (i := 3) rfl)), (xin_1 _ (List.mem_of_getElem? (i := 4) rfl)), (xin_1 _ (List.mem_of_getElem? (i := 5) rfl)), fun j hj => by rcases (show j = 0 ∨ j = 1 ∨ j = 2 ∨ j = 3 ∨ j = 4 ∨ j = 5 ∨ j = 6 ∨ j = 7 ∨ j = 8 ∨ j = 9 ∨ j = 10 ∨ j = 11 ∨ j = 12 ∨ j = 13 ∨ j = 14 ∨ j = 15 ∨ j = 16 ∨ j = 17 ∨ j = 18 ∨ j = 19 ∨ j = 20 ∨ j = 21 ∨ j = 22 ∨ j = 23 ∨ j = 24 ∨ j = 25 by omega) with rfl | rfl | rfl | rfl | rfl | rfl | rfl | rfl | rfl | rfl | rfl | rfl | rfl | rfl | rfl | rfl | rfl | rfl | rfl | rfl | rfl | rfl | rfl | rfl | rfl | rfl <;> rfl⟩
theorem xy_X10_init : xY yX10_init cX10_init 2 none 0 := ⟨(xin_1 _ (List.mem_of_getElem? (i := 9) rfl)), (xin_1 _ (List.mem_of_getElem? (i := 2) rfl)), by decide +kernel, by decide +kernel, by decide +kernel⟩
theorem xy_X11_init : xY yX11_init cX11_init 1 none 0 := ⟨(xin_9 _ (List.mem_of_getElem? (i := 0) rfl)), (xin_1 _ (List.mem_of_getElem? (i := 5) rfl)), by decide +kernel, by decide +kernel, by decide +kernel⟩
theorem y_cnt3 {α : Type} (X T M O : List α) : ((([] ++ (X ++ T)) ++ M) ++ O).Perm ((O ++ X) ++ (T ++ M)) := by
  classical
  refine List.perm_iff_count.mpr (fun a => ?_)
  simp only [List.count_append, List.count_nil]
  omega
set_option maxRecDepth 1000000 in
set_option maxHeartbeats 8000000 in
theorem whole_start {p : Program} {e : Env} {s : State} {m : MethodId} {below : List Frame} {meth : Method} {c : Code} (l : Launch) (hflags : l.flags = flags0) {b L : Nat} {xs : Nat → Int32} (hL : L ≤ 3072) (C0 : lw_At p s m meth c b L xs) : W p l e room_1 s m #[Value.ref b] below meth c s.heap [] 0 0 (lw_Z below #[Value.ref b] s) (entryFrame m ([Value.ref b] : List Value).toArray 9) := by
  obtain ⟨hx, hb, hr, hml, hown, hts, hX, hbl, hlocks, hgv⟩ := id C0
  have g : ∀ w ∈ l_flat, w.before #[Value.ref b] s = true := flat_of_before _ hgv
  have hw := l_words hts
  have hA9 : ∀ a : Nat, a < s.heap.size → ¬ (fun q : Nat => s.heap.size ≤ q) a := fun a h => Nat.not_le.mpr h
  obtain ⟨sa, hsa, hdg⟩ := l_texts g hts hA9
  obtain ⟨dC, dI, hKn⟩ := l_kn hts hw
  obtain ⟨dA, hAr⟩ := l_arr hts
  have hst : l.stackTraces = false := by
    unfold Launch.stackTraces
    rw [hflags]
    decide
  obtain ⟨Γ, hΓ⟩ : ∃ Γ : yG, Γ = ((p, l, e, room_1, s, m, #[Value.ref b], below, meth, c), ((fun q : Nat => s.heap.size ≤ q), dC, dI, dA, sa), lw_Z below #[Value.ref b] s) := ⟨_, rfl⟩
  have C : yC Γ RL cL_law 9 100 601024 7293034 := by
    rw [hΓ]
    exact ⟨hx, hb, hml, hown, hw, ⟨hKn, hAr⟩, fun q h => h, ⟨by decide, by decide⟩, ⟨by decide, by decide⟩, l_tab hts, hsa, l_compact g hts hA9⟩
  have Z : lC Γ b L xs := by
    rw [hΓ]
    exact ⟨hX, hbl, Nat.not_le.mpr hbl, l_th g hts hA9, l_nc g, hL⟩
  have hst9 : Γ.1.2.1.stackTraces = false := by rw [hΓ]; exact hst
  have hDg9 : yDg Γ := by rw [hΓ]; exact hdg
  have hEnd : ∀ (aX aM : Nat → Nat) (o : Nat) (d : Drawn), ydB Γ d → ∀ (i : Nat) (ws : va_W) (k n : Nat), k ≤ 601024 → n ≤ 7293034 → yW (yd Γ d) 9 1644 (lL b aX aM o i) [] ws k n := by
    intro aX aM o d hd i ws k n hk hn
    rw [hΓ] at hd ⊢
    intro H locs ls hP hD hS hv
    refine lv_iconst (v := 1) hx hb dL_law_1644 rfl ?_
    refine va_forget (fun q hq => hS.2.2 q hq) ?_
    refine W.widen hk hn ?_
    exact lw_ret hd hx hb hr hlocks dL_law_1645
  have hl := lv_entry ([.ref b]) (n := 9) (Nat.le_of_ble_eq_true rfl)
  rw [lg_entry_eq]
  suffices h : yW Γ 9 0 [(0, .ref b)] [] [] 0 0 by
    rw [hΓ] at h
    exact h s.heap [] _ (fun k q h => by simp at h) ⟨fun i j p q h => by simp at h, fun k q h => by simp at h⟩ va_S.rf hl
  clear hΓ
  refine y_new C dL_law_0 yc_L_8 (by omega) (by omega) (fun q0 => ?_)
  refine y_dup C dL_law_3 ?_
  refine y_ctor (ws := []) (st := [.ref q0]) C (yon (fun _ => q0) (ySA Γ)) dL_law_4 (xin_1 _ (List.mem_of_getElem? (i := 7) rfl)) xy_X10_init (xin_1 _ (List.mem_of_getElem? (i := 8) rfl)) rfl (k_X10_init _) (by omega) (by omega) rfl (Nat.le_of_ble_eq_true rfl) (by omega) (by omega) rfl (yon_hi _ _) rfl (fun aX hX9 => ?_)
  obtain rfl : q0 = aX 0 := (hX9 0 (Or.inl rfl)).symm
  refine y_astoren C dL_law_7 rfl (by omega) rfl ?_
  refine y_new C dL_law_8 yc_L_72 (by omega) (by omega) (fun q8 => ?_)
  refine y_dup C dL_law_11 ?_
  refine y_ctor (st := [.ref q8]) C (yon (fun _ => q8) (ySA Γ)) dL_law_12 (xin_8 _ (List.mem_of_getElem? (i := 22) rfl)) xy_X11_init (xin_8 _ (List.mem_of_getElem? (i := 23) rfl)) rfl (k_X11_init _) (by omega) (by omega) rfl (Nat.le_of_ble_eq_true rfl) (by omega) (by omega) rfl (yon_hi _ _) rfl (fun aM hM9 => ?_)
  obtain rfl : q8 = aM 0 := (hM9 0 (Or.inl rfl)).symm
  refine y_astoren C dL_law_15 rfl (by omega) rfl ?_
  refine y_iconst (v := 1) C dL_law_16 (by decide) ?_
  refine y_newl (N' := 1) C dL_law_17 (xin_1 _ (List.mem_of_getElem? (i := 6) rfl)) (by decide) (by decide) (by decide) (by omega) (by omega) (fun o => ?_)
  refine y_astoren C dL_law_19 rfl (by omega) rfl ?_
  refine y_iconst (v := Int32.ofInt (0 : Nat)) C dL_law_20 (by decide) ?_
  refine y_istorew C dL_law_21 (by omega) rfl ?_
  refine y_sub [4, 3, 2, 1, 0] rfl ?_
  refine y_perm (y_cnt3 (xwld aX (yDA Γ) mX9 0 lay_X) (yWt2 (yDA Γ) aX) (xwld aM (yDA Γ) mM9 0 lay_M) [(o, .inl (yDA Γ 1, 1, .inr (.inl (fun _ => 0))))]) ?_
  have hS9 : lS Γ aX aM := ⟨fun i => (hX9 (1000 + i) (Or.inr (by omega))).trans (yon_hi _ _ i), fun i => (hM9 (1000 + i) (Or.inr (by omega))).trans (yon_hi _ _ i)⟩
  exact yd_base (law_loop C Z hst9 hDg9 hS9 o hL (hEnd aX aM o) 512 0 _ _ _ _ (Drawn.sameBut.refl _ _) (by omega) (by omega) (by omega) (by omega) ⟨mX9, mM9, fun _ => 0, yWt2 (yDA Γ) aX, (0, mM9 7), bX_start, tX_start _ _, rfl⟩)

/-! ===== the law asks a query ===== -/
set_option maxHeartbeats 4000000 in
theorem r_L_queryD {l : Launch} (hl : l.stackTraces = false) {z0 r : Int} {m m9 : xM} {dX : Nat} (hd9 : dX ≤ 64) (h : xMet l yX10_query cX10_query 3 (some .int) dX lay_X [.inr (.inr (some 0)), .inl z0] m (some (.inl r)) m9) (dC : Nat → ClassId) (dI : Nat → Nat → Nat) (dA : Nat → ClassId) (ad : Nat → Nat) (o : Nat) (g : Nat → Int64) (sz : Nat) : wMet l yL_query (Cond.codeWith yL_query cL_query 4 (some .int) [(0, 9, 12, 13)]) 65 1 6 [.ref (ad 0), .int (Int32.ofInt z0), .ref o] (some (.int 0)) dC dI dA ad ((o, .inl (dA 1, 1, .inr (.inl g))) :: xwld ad dA m 0 lay_X) ((o, .inl (dA 1, 1, .inr (.inl (fun j => if j = 0 then (Int32.ofInt r).toInt64 else g j)))) :: xwld ad dA m9 0 lay_X) sz := by
  refine wMet_of hl (by decide +kernel) (by show 3 ≤ 4; decide) (fun Γ C hsa hda Z hl9 hR => ?_)
  subst hl9; subst hda
  refine y_aload C 2 dL_query_0 rfl rfl ?_
  refine y_iconst (v := 0) C dL_query_1 (by decide) ?_
  refine y_aload C 0 dL_query_2 rfl rfl ?_
  refine y_iload C 1 dL_query_3 rfl rfl ?_
  refine y_callX (wa := [_]) (st := [.int 0, .ref o]) (av := [.inl z0]) (b := 0) (layY := lay_X) (m := m) C ad dL_query_4 (xin_66 _ (List.mem_of_getElem? (i := 8) rfl)) xy_X10_query xi_X10_query xs_X10_query (by omega) (by decide) rfl ⟨_, _, rfl⟩ rfl (Nat.le_of_ble_eq_true rfl) h (by omega) (by omega) (fun i => by rw [hsa]) rfl ?_
  refine y_i2l C dL_query_7 rfl ?_
  refine y_lastore0 C dL_query_8 ?_
  refine y_goto C 15 dL_query_9 (by decide) ?_
  refine y_iconst (v := 0) C dL_query_15 (by decide) ?_
  exact w_ret hR dL_query_16 (by omega) (by omega)
set_option maxHeartbeats 4000000 in
theorem s1_L_queryD {l : Launch} (hl : l.stackTraces = false) {z0 : Int} {m : xM} {dX : Nat} (hd9 : dX ≤ 64) (h : xMetT l yX10_query cX10_query 3 (some .int) dX lay_X [.inr (.inr (some 0)), .inl z0] m (xEx 1)) (dC : Nat → ClassId) (dI : Nat → Nat → Nat) (dA : Nat → ClassId) (ad : Nat → Nat) (o : Nat) (g : Nat → Int64) (sz : Nat) : wMet l yL_query (Cond.codeWith yL_query cL_query 4 (some .int) [(0, 9, 12, 13)]) 65 1 6 [.ref (ad 0), .int (Int32.ofInt z0), .ref o] (some (.int 1)) dC dI dA ad ((o, .inl (dA 1, 1, .inr (.inl g))) :: xwld ad dA m 0 lay_X) ((o, .inl (dA 1, 1, .inr (.inl g))) :: xwld ad dA m 0 lay_X) sz := by
  refine wMet_of hl (by decide +kernel) (by show 3 ≤ 4; decide) (fun Γ C hsa hda Z hl9 hR => ?_)
  subst hl9; subst hda
  refine y_aload C 2 dL_query_0 rfl rfl ?_
  refine y_iconst (v := 0) C dL_query_1 (by decide) ?_
  refine y_aload C 0 dL_query_2 rfl rfl ?_
  refine y_iload C 1 dL_query_3 rfl rfl ?_
  refine y_catch (wa := [_]) (st := [.int 0, .ref o]) (av := [.inl z0]) (b := 0) (layY := lay_X) (m := m) (nm := xE1) C Z ad dL_query_4 (xin_66 _ (List.mem_of_getElem? (i := 8) rfl)) xy_X10_query xi_X10_query xs_X10_query (by omega) (by decide) rfl ⟨_, _, rfl⟩ rfl (Nat.le_of_ble_eq_true rfl) h (by omega) (by omega) (fun i => by rw [hsa]) rfl [] ⟨0, 9, 12, 13⟩ [] rfl (fun z hz => absurd hz List.not_mem_nil) rfl (by decide) (xin_10 _ (List.mem_of_getElem? (i := 14) rfl)) (List.mem_of_getElem? (i := 0) rfl) (fun q9 => ?_)
  refine y_astoren C dL_query_12 rfl (by omega) rfl ?_
  refine y_iconst (v := 1) C dL_query_13 (by decide) ?_
  exact w_ret hR dL_query_14 (by omega) (by omega)

theorem ls_query (l : Launch) (hst : l.stackTraces = false) {G : bGt} (z0 : Int) (m M : xM) (h : bX G m M) (b0 : bI z0) : (∃ (r : Int) (m' M' : xM), xMet l yX10_query cX10_query 3 (some .int) 64 lay_X [.inr (.inr (some 0)), .inl z0] m (some (.inl r)) m' ∧ xMet l yX11_query cX11_query 5 (some .int) 72 lay_M [.inr (.inr (some 0)), .inl z0] M (some (.inl r)) M' ∧ M' 0 6 = 0 ∧ bX G m' M') ∨ (∃ (r : Int) (M' : xM), xMetT l yX10_query cX10_query 3 (some .int) 7 lay_X [.inr (.inr (some 0)), .inl z0] m (xEx 1) ∧ xMet l yX11_query cX11_query 5 (some .int) 72 lay_M [.inr (.inr (some 0)), .inl z0] M (some (.inl r)) M' ∧ M' 0 6 = 1 ∧ bX G m M') := by
  rcases X_query_sp (G := G) z0 b0 m M h with ⟨r, m', M', e1, e2, e3, e4⟩ | ⟨e1, r, M', e2, e3, e4⟩
  · exact Or.inl ⟨r, m', M', c_X_query _ _ _ _ _ e1, c_m_query _ _ _ _ _ e2, e3, e4⟩
  · exact Or.inr ⟨r, M', ch_X_query _ hst _ _ _ e1, c_m_query _ _ _ _ _ e2, e3, e4⟩
theorem xy_X11_query : xY yX11_query cX11_query 5 (some .int) 1 := ⟨(xin_69 _ (List.mem_of_getElem? (i := 0) rfl)), (xin_1 _ (List.mem_of_getElem? (i := 5) rfl)), by decide +kernel, by decide +kernel, by decide +kernel⟩
theorem xi_X11_query : Cond.instanceMethod yX11_query ∈ wsL_law := (xin_68 _ (List.mem_of_getElem? (i := 22) rfl))
theorem xs_X11_query : Cond.selects yX11_query.cls yX11_query yX11_query ∈ wsL_law := (xin_68 _ (List.mem_of_getElem? (i := 23) rfl))
set_option maxRecDepth 100000 in
set_option maxHeartbeats 8000000 in
theorem lc_31 {Γ : yG} {b Ln : Nat} {xs : Nat → Int32} (C : yC Γ RL cL_law 9 100 601024 7293034) (Z : lC Γ b Ln xs) (hst : Γ.1.2.1.stackTraces = false) {aX aM : Nat → Nat} (hS : lS Γ aX aM) (o i : Nat) (hi : i + 6 ≤ Ln) {ws : va_W} {k n : Nat} (hk : k + 4 ≤ 601024) (hn : n + 200 ≤ 7293034) (hI : lI (yDA Γ) aX aM o ws) (Gk : ∀ (ws' : va_W) (k' n' : Nat), lI (yDA Γ) aX aM o ws' → k' ≤ k + 4 → n' ≤ n + 200 → yW Γ 9 1638 (lL b aX aM o i) [] ws' k' n') : yW Γ 9 1582 (lL b aX aM o i) [] ws k n := by
  obtain ⟨m, M, g, T, G, hX, hT, rfl⟩ := hI
  obtain ⟨z1, e1, i1⟩ := l_int (xs (i + 1))
  rcases ls_query _ hst z1 m M hX i1 with ⟨r, m1, M1, q1, q2, q3, q4⟩ | ⟨r, M1, q1, q2, q3, q4⟩
  · skip
    refine y_aload C 1 dL_law_1582 rfl rfl ?_
    refine y_arg C Z 0 4 1 i dL_law_1583 dL_law_1584 dL_law_1586 dL_law_1587 dL_law_1588 rfl rfl (by omega) e1 ?_
    refine y_aload C 3 dL_law_1589 rfl rfl ?_
    refine y_callW (st := []) (ws1 := lwo (yDA Γ) o g :: xwld aX (yDA Γ) m 0 lay_X) (ws1' := lwo (yDA Γ) o (fun j => if j = 0 then (Int32.ofInt r).toInt64 else g j) :: xwld aX (yDA Γ) m1 0 lay_X) (wb := T ++ xwld aM (yDA Γ) M 0 lay_M) (r := 0) (nP := 3) C Z dL_law_1590 (xin_66 _ (List.mem_of_getElem? (i := 5) rfl)) (xin_66 _ (List.mem_of_getElem? (i := 6) rfl)) (xin_10 _ (List.mem_of_getElem? (i := 12) rfl)) (xin_66 _ (List.mem_of_getElem? (i := 7) rfl)) ⟨by decide +kernel, by decide +kernel, by decide +kernel⟩ (by omega) (by decide) rfl (Nat.le_of_ble_eq_true rfl) aX hS.1 (fun dC dI sz => r_L_queryD hst (by decide) q1 dC dI (yDA Γ) aX o g sz) (lw_addr _ _ _ _ _ _ _) (by omega) (by omega) rfl ?_
    refine y_istorew C dL_law_1593 (by omega) rfl ?_
    refine y_aload C 3 dL_law_1595 rfl rfl ?_
    refine y_arg C Z 1 5 1 i dL_law_1596 dL_law_1597 dL_law_1599 dL_law_1600 dL_law_1601 rfl rfl (by omega) e1 ?_
    refine y_callXr (wa := lwo (yDA Γ) o (fun j => if j = 0 then (Int32.ofInt r).toInt64 else g j) :: xwld aX (yDA Γ) m1 0 lay_X) (wb := T) (st := []) (av := [.inl z1]) (b := 0) (layY := lay_M) C aM dL_law_1602 (xin_68 _ (List.mem_of_getElem? (i := 21) rfl)) xy_X11_query xi_X11_query xs_X11_query (by omega) (by decide) rfl ⟨_, _, rfl⟩ rfl (Nat.le_of_ble_eq_true rfl) q2 (by omega) (by omega) hS.2 rfl ?_
    refine y_istorew C dL_law_1605 (by omega) rfl ?_
    refine y_aload C 4 dL_law_1607 rfl rfl ?_
    refine y_callXr (wa := lwo (yDA Γ) o (fun j => if j = 0 then (Int32.ofInt r).toInt64 else g j) :: xwld aX (yDA Γ) m1 0 lay_X) (wb := T) (st := []) (av := []) (b := 0) (layY := lay_M) C aM dL_law_1608 (xin_23 _ (List.mem_of_getElem? (i := 19) rfl)) xy_X11_thrown xi_X11_thrown xs_X11_thrown (by omega) (by decide) rfl ⟨_, _, rfl⟩ rfl (Nat.le_of_ble_eq_true rfl) (c_m_thrown _ _ 0 (by unfold f_m_thrown; rw [q3])) (by omega) (by omega) hS.2 rfl ?_
    refine y_iloadw C 1 dL_law_1611 rfl ?_
    refine y_icmpeq C 1618 dL_law_1613 (by decide) (by decide) ?_
    refine y_iloadw C 1 dL_law_1618 rfl ?_
    refine y_ifne0 C 1635 dL_law_1620 (by decide) ?_
    refine y_aload C 5 dL_law_1623 rfl rfl ?_
    refine y_iconst (v := 0) C dL_law_1624 (by decide) ?_
    refine y_laload0 (g := fun j => if j = 0 then (Int32.ofInt r).toInt64 else g j) C 0 dL_law_1625 rfl ?_
    refine y_iloadw C 0 dL_law_1626 rfl ?_
    refine y_i2l C dL_law_1628 rfl ?_
    refine y_lcmp0 C dL_law_1629 rfl ?_
    refine y_ifeq0 C 1635 dL_law_1630 (by decide) ?_
    refine y_goto C 1638 dL_law_1635 (by decide) ?_
    refine y_sub [2, 3, 4, 5, 6] rfl ?_
    exact Gk _ _ _ ⟨m1, M1, _, T, G, q4, hT, rfl⟩ (by omega) (by omega)
  · skip
    refine y_aload C 1 dL_law_1582 rfl rfl ?_
    refine y_arg C Z 0 4 1 i dL_law_1583 dL_law_1584 dL_law_1586 dL_law_1587 dL_law_1588 rfl rfl (by omega) e1 ?_
    refine y_aload C 3 dL_law_1589 rfl rfl ?_
    refine y_callW (st := []) (ws1 := lwo (yDA Γ) o g :: xwld aX (yDA Γ) m 0 lay_X) (ws1' := lwo (yDA Γ) o g :: xwld aX (yDA Γ) m 0 lay_X) (wb := T ++ xwld aM (yDA Γ) M 0 lay_M) (r := 1) (nP := 3) C Z dL_law_1590 (xin_66 _ (List.mem_of_getElem? (i := 5) rfl)) (xin_66 _ (List.mem_of_getElem? (i := 6) rfl)) (xin_10 _ (List.mem_of_getElem? (i := 12) rfl)) (xin_66 _ (List.mem_of_getElem? (i := 7) rfl)) ⟨by decide +kernel, by decide +kernel, by decide +kernel⟩ (by omega) (by decide) rfl (Nat.le_of_ble_eq_true rfl) aX hS.1 (fun dC dI sz => s1_L_queryD hst (by decide) q1 dC dI (yDA Γ) aX o g sz) (lw_addr _ _ _ _ _ _ _) (by omega) (by omega) rfl ?_
    refine y_istorew C dL_law_1593 (by omega) rfl ?_
    refine y_aload C 3 dL_law_1595 rfl rfl ?_
    refine y_arg C Z 1 5 1 i dL_law_1596 dL_law_1597 dL_law_1599 dL_law_1600 dL_law_1601 rfl rfl (by omega) e1 ?_
    refine y_callXr (wa := lwo (yDA Γ) o g :: xwld aX (yDA Γ) m 0 lay_X) (wb := T) (st := []) (av := [.inl z1]) (b := 0) (layY := lay_M) C aM dL_law_1602 (xin_68 _ (List.mem_of_getElem? (i := 21) rfl)) xy_X11_query xi_X11_query xs_X11_query (by omega) (by decide) rfl ⟨_, _, rfl⟩ rfl (Nat.le_of_ble_eq_true rfl) q2 (by omega) (by omega) hS.2 rfl ?_
    refine y_istorew C dL_law_1605 (by omega) rfl ?_
    refine y_aload C 4 dL_law_1607 rfl rfl ?_
    refine y_callXr (wa := lwo (yDA Γ) o g :: xwld aX (yDA Γ) m 0 lay_X) (wb := T) (st := []) (av := []) (b := 0) (layY := lay_M) C aM dL_law_1608 (xin_23 _ (List.mem_of_getElem? (i := 19) rfl)) xy_X11_thrown xi_X11_thrown xs_X11_thrown (by omega) (by decide) rfl ⟨_, _, rfl⟩ rfl (Nat.le_of_ble_eq_true rfl) (c_m_thrown _ _ 1 (by unfold f_m_thrown; rw [q3])) (by omega) (by omega) hS.2 rfl ?_
    refine y_iloadw C 1 dL_law_1611 rfl ?_
    refine y_icmpeq C 1618 dL_law_1613 (by decide) (by decide) ?_
    refine y_iloadw C 1 dL_law_1618 rfl ?_
    refine y_ifne1 C 1635 dL_law_1620 (by decide) (by decide) ?_
    refine y_goto C 1638 dL_law_1635 (by decide) ?_
    refine y_sub [2, 3, 4, 5, 6] rfl ?_
    exact Gk _ _ _ ⟨m, M1, _, T, G, q4, hT, rfl⟩ (by omega) (by omega)

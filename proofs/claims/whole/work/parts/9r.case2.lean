/-! ===== the law, call by call (2) ===== -/
set_option maxRecDepth 100000 in
set_option maxHeartbeats 8000000 in
theorem lc_9 {Γ : yG} {b Ln : Nat} {xs : Nat → Int32} (C : yC Γ RL cL_law 9 100 601024 7293034) (Z : lC Γ b Ln xs) (hst : Γ.1.2.1.stackTraces = false) {aX aM : Nat → Nat} (hS : lS Γ aX aM) (o i : Nat) (hi : i + 6 ≤ Ln) {ws : va_W} {k n : Nat} (hk : k + 4 ≤ 601024) (hn : n + 200 ≤ 7293034) (hI : lI (yDA Γ) aX aM o ws) (Gk : ∀ (ws' : va_W) (k' n' : Nat), lI (yDA Γ) aX aM o ws' → k' ≤ k + 4 → n' ≤ n + 200 → yW Γ 9 1638 (lL b aX aM o i) [] ws' k' n') : yW Γ 9 722 (lL b aX aM o i) [] ws k n := by
  obtain ⟨m, M, g, T, G, hX, hT, rfl⟩ := hI
  obtain ⟨z1, e1, i1⟩ := l_int (xs (i + 1))
  obtain ⟨z2, e2, i2⟩ := l_int (xs (i + 2))
  obtain ⟨z3, e3, i3⟩ := l_int (xs (i + 3))
  by_cases hb : Int32.ofInt z2 = 0
  · skip
    rcases ls_word _ hst z1 0 z3 m M hX i1 (Or.inl rfl) i3 with ⟨r, m1, M1, q1, q2, q3, q4⟩ | ⟨r, M1, q1, q2, q3, q4⟩
    · skip
      refine y_aload C 1 dL_law_722 rfl rfl ?_
      refine y_arg C Z 0 4 1 i dL_law_723 dL_law_724 dL_law_726 dL_law_727 dL_law_728 rfl rfl (by omega) e1 ?_
      refine y_arg C Z 0 4 2 i dL_law_729 dL_law_730 dL_law_732 dL_law_733 dL_law_734 rfl rfl (by omega) e2 ?_
      refine y_ifeqx C 742 dL_law_735 (by decide) (fun _ => ?_) (fun h9 => absurd hb h9)
      refine y_iconst (v := Int32.ofInt 0) C dL_law_742 rfl ?_
      refine y_arg C Z 0 4 3 i dL_law_743 dL_law_744 dL_law_746 dL_law_747 dL_law_748 rfl rfl (by omega) e3 ?_
      refine y_aload C 3 dL_law_749 rfl rfl ?_
      refine y_callW (st := []) (ws1 := lwo (yDA Γ) o g :: xwld aX (yDA Γ) m 0 lay_X) (ws1' := lwo (yDA Γ) o (fun j => if j = 0 then (Int32.ofInt r).toInt64 else g j) :: xwld aX (yDA Γ) m1 0 lay_X) (wb := T ++ xwld aM (yDA Γ) M 0 lay_M) (r := 0) (nP := 5) C Z dL_law_750 (xin_30 _ (List.mem_of_getElem? (i := 16) rfl)) (xin_30 _ (List.mem_of_getElem? (i := 17) rfl)) (xin_10 _ (List.mem_of_getElem? (i := 12) rfl)) (xin_30 _ (List.mem_of_getElem? (i := 18) rfl)) ⟨by decide +kernel, by decide +kernel, by decide +kernel⟩ (by omega) (by decide) rfl (Nat.le_of_ble_eq_true rfl) aX hS.1 (fun dC dI sz => r_L_word hst (by decide) q1 dC dI (yDA Γ) aX o g sz) (lw_addr _ _ _ _ _ _ _) (by omega) (by omega) rfl ?_
      refine y_istorew C dL_law_753 (by omega) rfl ?_
      refine y_aload C 3 dL_law_755 rfl rfl ?_
      refine y_arg C Z 1 5 1 i dL_law_756 dL_law_757 dL_law_759 dL_law_760 dL_law_761 rfl rfl (by omega) e1 ?_
      refine y_arg C Z 1 5 2 i dL_law_762 dL_law_763 dL_law_765 dL_law_766 dL_law_767 rfl rfl (by omega) e2 ?_
      refine y_ifeqx C 775 dL_law_768 (by decide) (fun _ => ?_) (fun h9 => absurd hb h9)
      refine y_iconst (v := Int32.ofInt 0) C dL_law_775 rfl ?_
      refine y_arg C Z 1 5 3 i dL_law_776 dL_law_777 dL_law_779 dL_law_780 dL_law_781 rfl rfl (by omega) e3 ?_
      refine y_callXr (wa := lwo (yDA Γ) o (fun j => if j = 0 then (Int32.ofInt r).toInt64 else g j) :: xwld aX (yDA Γ) m1 0 lay_X) (wb := T) (st := []) (av := [.inl z1, .inl 0, .inl z3]) (b := 0) (layY := lay_M) C aM dL_law_782 (xin_31 _ (List.mem_of_getElem? (i := 0) rfl)) xy_X11_word xi_X11_word xs_X11_word (by omega) (by decide) rfl ⟨_, _, rfl⟩ rfl (Nat.le_of_ble_eq_true rfl) q2 (by omega) (by omega) hS.2 rfl ?_
      refine y_istorew C dL_law_785 (by omega) rfl ?_
      refine y_aload C 4 dL_law_787 rfl rfl ?_
      refine y_callXr (wa := lwo (yDA Γ) o (fun j => if j = 0 then (Int32.ofInt r).toInt64 else g j) :: xwld aX (yDA Γ) m1 0 lay_X) (wb := T) (st := []) (av := []) (b := 0) (layY := lay_M) C aM dL_law_788 (xin_23 _ (List.mem_of_getElem? (i := 19) rfl)) xy_X11_thrown xi_X11_thrown xs_X11_thrown (by omega) (by decide) rfl ⟨_, _, rfl⟩ rfl (Nat.le_of_ble_eq_true rfl) (c_m_thrown _ _ 0 (by unfold f_m_thrown; rw [q3])) (by omega) (by omega) hS.2 rfl ?_
      refine y_iloadw C 1 dL_law_791 rfl ?_
      refine y_icmpeq C 798 dL_law_793 (by decide) (by decide) ?_
      refine y_iloadw C 1 dL_law_798 rfl ?_
      refine y_ifne0 C 815 dL_law_800 (by decide) ?_
      refine y_aload C 5 dL_law_803 rfl rfl ?_
      refine y_iconst (v := 0) C dL_law_804 (by decide) ?_
      refine y_laload0 (g := fun j => if j = 0 then (Int32.ofInt r).toInt64 else g j) C 0 dL_law_805 rfl ?_
      refine y_iloadw C 0 dL_law_806 rfl ?_
      refine y_i2l C dL_law_808 rfl ?_
      refine y_lcmp0 C dL_law_809 rfl ?_
      refine y_ifeq0 C 815 dL_law_810 (by decide) ?_
      refine y_goto C 1638 dL_law_815 (by decide) ?_
      refine y_sub [2, 3, 4, 5, 6] rfl ?_
      exact Gk _ _ _ ⟨m1, M1, _, T, G, q4, hT, rfl⟩ (by omega) (by omega)
    · skip
      refine y_aload C 1 dL_law_722 rfl rfl ?_
      refine y_arg C Z 0 4 1 i dL_law_723 dL_law_724 dL_law_726 dL_law_727 dL_law_728 rfl rfl (by omega) e1 ?_
      refine y_arg C Z 0 4 2 i dL_law_729 dL_law_730 dL_law_732 dL_law_733 dL_law_734 rfl rfl (by omega) e2 ?_
      refine y_ifeqx C 742 dL_law_735 (by decide) (fun _ => ?_) (fun h9 => absurd hb h9)
      refine y_iconst (v := Int32.ofInt 0) C dL_law_742 rfl ?_
      refine y_arg C Z 0 4 3 i dL_law_743 dL_law_744 dL_law_746 dL_law_747 dL_law_748 rfl rfl (by omega) e3 ?_
      refine y_aload C 3 dL_law_749 rfl rfl ?_
      refine y_callW (st := []) (ws1 := lwo (yDA Γ) o g :: xwld aX (yDA Γ) m 0 lay_X) (ws1' := lwo (yDA Γ) o g :: xwld aX (yDA Γ) m 0 lay_X) (wb := T ++ xwld aM (yDA Γ) M 0 lay_M) (r := 1) (nP := 5) C Z dL_law_750 (xin_30 _ (List.mem_of_getElem? (i := 16) rfl)) (xin_30 _ (List.mem_of_getElem? (i := 17) rfl)) (xin_10 _ (List.mem_of_getElem? (i := 12) rfl)) (xin_30 _ (List.mem_of_getElem? (i := 18) rfl)) ⟨by decide +kernel, by decide +kernel, by decide +kernel⟩ (by omega) (by decide) rfl (Nat.le_of_ble_eq_true rfl) aX hS.1 (fun dC dI sz => s2_L_word hst (by decide) q1 dC dI (yDA Γ) aX o g sz) (lw_addr _ _ _ _ _ _ _) (by omega) (by omega) rfl ?_
      refine y_istorew C dL_law_753 (by omega) rfl ?_
      refine y_aload C 3 dL_law_755 rfl rfl ?_
      refine y_arg C Z 1 5 1 i dL_law_756 dL_law_757 dL_law_759 dL_law_760 dL_law_761 rfl rfl (by omega) e1 ?_
      refine y_arg C Z 1 5 2 i dL_law_762 dL_law_763 dL_law_765 dL_law_766 dL_law_767 rfl rfl (by omega) e2 ?_
      refine y_ifeqx C 775 dL_law_768 (by decide) (fun _ => ?_) (fun h9 => absurd hb h9)
      refine y_iconst (v := Int32.ofInt 0) C dL_law_775 rfl ?_
      refine y_arg C Z 1 5 3 i dL_law_776 dL_law_777 dL_law_779 dL_law_780 dL_law_781 rfl rfl (by omega) e3 ?_
      refine y_callXr (wa := lwo (yDA Γ) o g :: xwld aX (yDA Γ) m 0 lay_X) (wb := T) (st := []) (av := [.inl z1, .inl 0, .inl z3]) (b := 0) (layY := lay_M) C aM dL_law_782 (xin_31 _ (List.mem_of_getElem? (i := 0) rfl)) xy_X11_word xi_X11_word xs_X11_word (by omega) (by decide) rfl ⟨_, _, rfl⟩ rfl (Nat.le_of_ble_eq_true rfl) q2 (by omega) (by omega) hS.2 rfl ?_
      refine y_istorew C dL_law_785 (by omega) rfl ?_
      refine y_aload C 4 dL_law_787 rfl rfl ?_
      refine y_callXr (wa := lwo (yDA Γ) o g :: xwld aX (yDA Γ) m 0 lay_X) (wb := T) (st := []) (av := []) (b := 0) (layY := lay_M) C aM dL_law_788 (xin_23 _ (List.mem_of_getElem? (i := 19) rfl)) xy_X11_thrown xi_X11_thrown xs_X11_thrown (by omega) (by decide) rfl ⟨_, _, rfl⟩ rfl (Nat.le_of_ble_eq_true rfl) (c_m_thrown _ _ 1 (by unfold f_m_thrown; rw [q3])) (by omega) (by omega) hS.2 rfl ?_
      refine y_iloadw C 1 dL_law_791 rfl ?_
      refine y_icmpeq C 798 dL_law_793 (by decide) (by decide) ?_
      refine y_iloadw C 1 dL_law_798 rfl ?_
      refine y_ifne1 C 815 dL_law_800 (by decide) (by decide) ?_
      refine y_goto C 1638 dL_law_815 (by decide) ?_
      refine y_sub [2, 3, 4, 5, 6] rfl ?_
      exact Gk _ _ _ ⟨m, M1, _, T, G, q4, hT, rfl⟩ (by omega) (by omega)
  · skip
    rcases ls_word _ hst z1 1 z3 m M hX i1 (Or.inr rfl) i3 with ⟨r, m1, M1, q1, q2, q3, q4⟩ | ⟨r, M1, q1, q2, q3, q4⟩
    · skip
      refine y_aload C 1 dL_law_722 rfl rfl ?_
      refine y_arg C Z 0 4 1 i dL_law_723 dL_law_724 dL_law_726 dL_law_727 dL_law_728 rfl rfl (by omega) e1 ?_
      refine y_arg C Z 0 4 2 i dL_law_729 dL_law_730 dL_law_732 dL_law_733 dL_law_734 rfl rfl (by omega) e2 ?_
      refine y_ifeqx C 742 dL_law_735 (by decide) (fun h9 => absurd h9 hb) (fun _ => ?_)
      refine y_iconst (v := Int32.ofInt 1) C dL_law_738 rfl ?_
      refine y_goto C 743 dL_law_739 (by decide) ?_
      refine y_arg C Z 0 4 3 i dL_law_743 dL_law_744 dL_law_746 dL_law_747 dL_law_748 rfl rfl (by omega) e3 ?_
      refine y_aload C 3 dL_law_749 rfl rfl ?_
      refine y_callW (st := []) (ws1 := lwo (yDA Γ) o g :: xwld aX (yDA Γ) m 0 lay_X) (ws1' := lwo (yDA Γ) o (fun j => if j = 0 then (Int32.ofInt r).toInt64 else g j) :: xwld aX (yDA Γ) m1 0 lay_X) (wb := T ++ xwld aM (yDA Γ) M 0 lay_M) (r := 0) (nP := 5) C Z dL_law_750 (xin_30 _ (List.mem_of_getElem? (i := 16) rfl)) (xin_30 _ (List.mem_of_getElem? (i := 17) rfl)) (xin_10 _ (List.mem_of_getElem? (i := 12) rfl)) (xin_30 _ (List.mem_of_getElem? (i := 18) rfl)) ⟨by decide +kernel, by decide +kernel, by decide +kernel⟩ (by omega) (by decide) rfl (Nat.le_of_ble_eq_true rfl) aX hS.1 (fun dC dI sz => r_L_word hst (by decide) q1 dC dI (yDA Γ) aX o g sz) (lw_addr _ _ _ _ _ _ _) (by omega) (by omega) rfl ?_
      refine y_istorew C dL_law_753 (by omega) rfl ?_
      refine y_aload C 3 dL_law_755 rfl rfl ?_
      refine y_arg C Z 1 5 1 i dL_law_756 dL_law_757 dL_law_759 dL_law_760 dL_law_761 rfl rfl (by omega) e1 ?_
      refine y_arg C Z 1 5 2 i dL_law_762 dL_law_763 dL_law_765 dL_law_766 dL_law_767 rfl rfl (by omega) e2 ?_
      refine y_ifeqx C 775 dL_law_768 (by decide) (fun h9 => absurd h9 hb) (fun _ => ?_)
      refine y_iconst (v := Int32.ofInt 1) C dL_law_771 rfl ?_
      refine y_goto C 776 dL_law_772 (by decide) ?_
      refine y_arg C Z 1 5 3 i dL_law_776 dL_law_777 dL_law_779 dL_law_780 dL_law_781 rfl rfl (by omega) e3 ?_
      refine y_callXr (wa := lwo (yDA Γ) o (fun j => if j = 0 then (Int32.ofInt r).toInt64 else g j) :: xwld aX (yDA Γ) m1 0 lay_X) (wb := T) (st := []) (av := [.inl z1, .inl 1, .inl z3]) (b := 0) (layY := lay_M) C aM dL_law_782 (xin_31 _ (List.mem_of_getElem? (i := 0) rfl)) xy_X11_word xi_X11_word xs_X11_word (by omega) (by decide) rfl ⟨_, _, rfl⟩ rfl (Nat.le_of_ble_eq_true rfl) q2 (by omega) (by omega) hS.2 rfl ?_
      refine y_istorew C dL_law_785 (by omega) rfl ?_
      refine y_aload C 4 dL_law_787 rfl rfl ?_
      refine y_callXr (wa := lwo (yDA Γ) o (fun j => if j = 0 then (Int32.ofInt r).toInt64 else g j) :: xwld aX (yDA Γ) m1 0 lay_X) (wb := T) (st := []) (av := []) (b := 0) (layY := lay_M) C aM dL_law_788 (xin_23 _ (List.mem_of_getElem? (i := 19) rfl)) xy_X11_thrown xi_X11_thrown xs_X11_thrown (by omega) (by decide) rfl ⟨_, _, rfl⟩ rfl (Nat.le_of_ble_eq_true rfl) (c_m_thrown _ _ 0 (by unfold f_m_thrown; rw [q3])) (by omega) (by omega) hS.2 rfl ?_
      refine y_iloadw C 1 dL_law_791 rfl ?_
      refine y_icmpeq C 798 dL_law_793 (by decide) (by decide) ?_
      refine y_iloadw C 1 dL_law_798 rfl ?_
      refine y_ifne0 C 815 dL_law_800 (by decide) ?_
      refine y_aload C 5 dL_law_803 rfl rfl ?_
      refine y_iconst (v := 0) C dL_law_804 (by decide) ?_
      refine y_laload0 (g := fun j => if j = 0 then (Int32.ofInt r).toInt64 else g j) C 0 dL_law_805 rfl ?_
      refine y_iloadw C 0 dL_law_806 rfl ?_
      refine y_i2l C dL_law_808 rfl ?_
      refine y_lcmp0 C dL_law_809 rfl ?_
      refine y_ifeq0 C 815 dL_law_810 (by decide) ?_
      refine y_goto C 1638 dL_law_815 (by decide) ?_
      refine y_sub [2, 3, 4, 5, 6] rfl ?_
      exact Gk _ _ _ ⟨m1, M1, _, T, G, q4, hT, rfl⟩ (by omega) (by omega)
    · skip
      refine y_aload C 1 dL_law_722 rfl rfl ?_
      refine y_arg C Z 0 4 1 i dL_law_723 dL_law_724 dL_law_726 dL_law_727 dL_law_728 rfl rfl (by omega) e1 ?_
      refine y_arg C Z 0 4 2 i dL_law_729 dL_law_730 dL_law_732 dL_law_733 dL_law_734 rfl rfl (by omega) e2 ?_
      refine y_ifeqx C 742 dL_law_735 (by decide) (fun h9 => absurd h9 hb) (fun _ => ?_)
      refine y_iconst (v := Int32.ofInt 1) C dL_law_738 rfl ?_
      refine y_goto C 743 dL_law_739 (by decide) ?_
      refine y_arg C Z 0 4 3 i dL_law_743 dL_law_744 dL_law_746 dL_law_747 dL_law_748 rfl rfl (by omega) e3 ?_
      refine y_aload C 3 dL_law_749 rfl rfl ?_
      refine y_callW (st := []) (ws1 := lwo (yDA Γ) o g :: xwld aX (yDA Γ) m 0 lay_X) (ws1' := lwo (yDA Γ) o g :: xwld aX (yDA Γ) m 0 lay_X) (wb := T ++ xwld aM (yDA Γ) M 0 lay_M) (r := 1) (nP := 5) C Z dL_law_750 (xin_30 _ (List.mem_of_getElem? (i := 16) rfl)) (xin_30 _ (List.mem_of_getElem? (i := 17) rfl)) (xin_10 _ (List.mem_of_getElem? (i := 12) rfl)) (xin_30 _ (List.mem_of_getElem? (i := 18) rfl)) ⟨by decide +kernel, by decide +kernel, by decide +kernel⟩ (by omega) (by decide) rfl (Nat.le_of_ble_eq_true rfl) aX hS.1 (fun dC dI sz => s2_L_word hst (by decide) q1 dC dI (yDA Γ) aX o g sz) (lw_addr _ _ _ _ _ _ _) (by omega) (by omega) rfl ?_
      refine y_istorew C dL_law_753 (by omega) rfl ?_
      refine y_aload C 3 dL_law_755 rfl rfl ?_
      refine y_arg C Z 1 5 1 i dL_law_756 dL_law_757 dL_law_759 dL_law_760 dL_law_761 rfl rfl (by omega) e1 ?_
      refine y_arg C Z 1 5 2 i dL_law_762 dL_law_763 dL_law_765 dL_law_766 dL_law_767 rfl rfl (by omega) e2 ?_
      refine y_ifeqx C 775 dL_law_768 (by decide) (fun h9 => absurd h9 hb) (fun _ => ?_)
      refine y_iconst (v := Int32.ofInt 1) C dL_law_771 rfl ?_
      refine y_goto C 776 dL_law_772 (by decide) ?_
      refine y_arg C Z 1 5 3 i dL_law_776 dL_law_777 dL_law_779 dL_law_780 dL_law_781 rfl rfl (by omega) e3 ?_
      refine y_callXr (wa := lwo (yDA Γ) o g :: xwld aX (yDA Γ) m 0 lay_X) (wb := T) (st := []) (av := [.inl z1, .inl 1, .inl z3]) (b := 0) (layY := lay_M) C aM dL_law_782 (xin_31 _ (List.mem_of_getElem? (i := 0) rfl)) xy_X11_word xi_X11_word xs_X11_word (by omega) (by decide) rfl ⟨_, _, rfl⟩ rfl (Nat.le_of_ble_eq_true rfl) q2 (by omega) (by omega) hS.2 rfl ?_
      refine y_istorew C dL_law_785 (by omega) rfl ?_
      refine y_aload C 4 dL_law_787 rfl rfl ?_
      refine y_callXr (wa := lwo (yDA Γ) o g :: xwld aX (yDA Γ) m 0 lay_X) (wb := T) (st := []) (av := []) (b := 0) (layY := lay_M) C aM dL_law_788 (xin_23 _ (List.mem_of_getElem? (i := 19) rfl)) xy_X11_thrown xi_X11_thrown xs_X11_thrown (by omega) (by decide) rfl ⟨_, _, rfl⟩ rfl (Nat.le_of_ble_eq_true rfl) (c_m_thrown _ _ 1 (by unfold f_m_thrown; rw [q3])) (by omega) (by omega) hS.2 rfl ?_
      refine y_iloadw C 1 dL_law_791 rfl ?_
      refine y_icmpeq C 798 dL_law_793 (by decide) (by decide) ?_
      refine y_iloadw C 1 dL_law_798 rfl ?_
      refine y_ifne1 C 815 dL_law_800 (by decide) (by decide) ?_
      refine y_goto C 1638 dL_law_815 (by decide) ?_
      refine y_sub [2, 3, 4, 5, 6] rfl ?_
      exact Gk _ _ _ ⟨m, M1, _, T, G, q4, hT, rfl⟩ (by omega) (by omega)
set_option maxRecDepth 100000 in
set_option maxHeartbeats 8000000 in
theorem lc_10 {Γ : yG} {b Ln : Nat} {xs : Nat → Int32} (C : yC Γ RL cL_law 9 100 601024 7293034) (Z : lC Γ b Ln xs) (hst : Γ.1.2.1.stackTraces = false) {aX aM : Nat → Nat} (hS : lS Γ aX aM) (o i : Nat) (hi : i + 6 ≤ Ln) {ws : va_W} {k n : Nat} (hk : k + 4 ≤ 601024) (hn : n + 200 ≤ 7293034) (hI : lI (yDA Γ) aX aM o ws) (Gk : ∀ (ws' : va_W) (k' n' : Nat), lI (yDA Γ) aX aM o ws' → k' ≤ k + 4 → n' ≤ n + 200 → yW Γ 9 1638 (lL b aX aM o i) [] ws' k' n') : yW Γ 9 818 (lL b aX aM o i) [] ws k n := by
  obtain ⟨m, M, g, T, G, hX, hT, rfl⟩ := hI
  obtain ⟨z1, e1, i1⟩ := l_int (xs (i + 1))
  obtain ⟨z2, e2, i2⟩ := l_int (xs (i + 2))
  rcases ls_event _ hst z1 z2 m M hX i1 i2 with ⟨r, m1, M1, q1, q2, q3, q4⟩ | ⟨r, M1, q1, q2, q3, q4⟩
  · skip
    refine y_aload C 1 dL_law_818 rfl rfl ?_
    refine y_arg C Z 0 4 1 i dL_law_819 dL_law_820 dL_law_822 dL_law_823 dL_law_824 rfl rfl (by omega) e1 ?_
    refine y_arg C Z 0 4 2 i dL_law_825 dL_law_826 dL_law_828 dL_law_829 dL_law_830 rfl rfl (by omega) e2 ?_
    refine y_aload C 3 dL_law_831 rfl rfl ?_
    refine y_callW (st := []) (ws1 := lwo (yDA Γ) o g :: xwld aX (yDA Γ) m 0 lay_X) (ws1' := lwo (yDA Γ) o (fun j => if j = 0 then (Int32.ofInt r).toInt64 else g j) :: xwld aX (yDA Γ) m1 0 lay_X) (wb := T ++ xwld aM (yDA Γ) M 0 lay_M) (r := 0) (nP := 4) C Z dL_law_832 (xin_31 _ (List.mem_of_getElem? (i := 10) rfl)) (xin_31 _ (List.mem_of_getElem? (i := 11) rfl)) (xin_10 _ (List.mem_of_getElem? (i := 12) rfl)) (xin_31 _ (List.mem_of_getElem? (i := 12) rfl)) ⟨by decide +kernel, by decide +kernel, by decide +kernel⟩ (by omega) (by decide) rfl (Nat.le_of_ble_eq_true rfl) aX hS.1 (fun dC dI sz => r_L_event hst (by decide) q1 dC dI (yDA Γ) aX o g sz) (lw_addr _ _ _ _ _ _ _) (by omega) (by omega) rfl ?_
    refine y_istorew C dL_law_835 (by omega) rfl ?_
    refine y_aload C 3 dL_law_837 rfl rfl ?_
    refine y_arg C Z 1 5 1 i dL_law_838 dL_law_839 dL_law_841 dL_law_842 dL_law_843 rfl rfl (by omega) e1 ?_
    refine y_arg C Z 1 5 2 i dL_law_844 dL_law_845 dL_law_847 dL_law_848 dL_law_849 rfl rfl (by omega) e2 ?_
    refine y_callXr (wa := lwo (yDA Γ) o (fun j => if j = 0 then (Int32.ofInt r).toInt64 else g j) :: xwld aX (yDA Γ) m1 0 lay_X) (wb := T) (st := []) (av := [.inl z1, .inl z2]) (b := 0) (layY := lay_M) C aM dL_law_850 (xin_31 _ (List.mem_of_getElem? (i := 23) rfl)) xy_X11_event xi_X11_event xs_X11_event (by omega) (by decide) rfl ⟨_, _, rfl⟩ rfl (Nat.le_of_ble_eq_true rfl) q2 (by omega) (by omega) hS.2 rfl ?_
    refine y_istorew C dL_law_853 (by omega) rfl ?_
    refine y_aload C 4 dL_law_855 rfl rfl ?_
    refine y_callXr (wa := lwo (yDA Γ) o (fun j => if j = 0 then (Int32.ofInt r).toInt64 else g j) :: xwld aX (yDA Γ) m1 0 lay_X) (wb := T) (st := []) (av := []) (b := 0) (layY := lay_M) C aM dL_law_856 (xin_23 _ (List.mem_of_getElem? (i := 19) rfl)) xy_X11_thrown xi_X11_thrown xs_X11_thrown (by omega) (by decide) rfl ⟨_, _, rfl⟩ rfl (Nat.le_of_ble_eq_true rfl) (c_m_thrown _ _ 0 (by unfold f_m_thrown; rw [q3])) (by omega) (by omega) hS.2 rfl ?_
    refine y_iloadw C 1 dL_law_859 rfl ?_
    refine y_icmpeq C 866 dL_law_861 (by decide) (by decide) ?_
    refine y_iloadw C 1 dL_law_866 rfl ?_
    refine y_ifne0 C 883 dL_law_868 (by decide) ?_
    refine y_aload C 5 dL_law_871 rfl rfl ?_
    refine y_iconst (v := 0) C dL_law_872 (by decide) ?_
    refine y_laload0 (g := fun j => if j = 0 then (Int32.ofInt r).toInt64 else g j) C 0 dL_law_873 rfl ?_
    refine y_iloadw C 0 dL_law_874 rfl ?_
    refine y_i2l C dL_law_876 rfl ?_
    refine y_lcmp0 C dL_law_877 rfl ?_
    refine y_ifeq0 C 883 dL_law_878 (by decide) ?_
    refine y_goto C 1638 dL_law_883 (by decide) ?_
    refine y_sub [2, 3, 4, 5, 6] rfl ?_
    exact Gk _ _ _ ⟨m1, M1, _, T, G, q4, hT, rfl⟩ (by omega) (by omega)
  · skip
    refine y_aload C 1 dL_law_818 rfl rfl ?_
    refine y_arg C Z 0 4 1 i dL_law_819 dL_law_820 dL_law_822 dL_law_823 dL_law_824 rfl rfl (by omega) e1 ?_
    refine y_arg C Z 0 4 2 i dL_law_825 dL_law_826 dL_law_828 dL_law_829 dL_law_830 rfl rfl (by omega) e2 ?_
    refine y_aload C 3 dL_law_831 rfl rfl ?_
    refine y_callW (st := []) (ws1 := lwo (yDA Γ) o g :: xwld aX (yDA Γ) m 0 lay_X) (ws1' := lwo (yDA Γ) o g :: xwld aX (yDA Γ) m 0 lay_X) (wb := T ++ xwld aM (yDA Γ) M 0 lay_M) (r := 1) (nP := 4) C Z dL_law_832 (xin_31 _ (List.mem_of_getElem? (i := 10) rfl)) (xin_31 _ (List.mem_of_getElem? (i := 11) rfl)) (xin_10 _ (List.mem_of_getElem? (i := 12) rfl)) (xin_31 _ (List.mem_of_getElem? (i := 12) rfl)) ⟨by decide +kernel, by decide +kernel, by decide +kernel⟩ (by omega) (by decide) rfl (Nat.le_of_ble_eq_true rfl) aX hS.1 (fun dC dI sz => s2_L_event hst (by decide) q1 dC dI (yDA Γ) aX o g sz) (lw_addr _ _ _ _ _ _ _) (by omega) (by omega) rfl ?_
    refine y_istorew C dL_law_835 (by omega) rfl ?_
    refine y_aload C 3 dL_law_837 rfl rfl ?_
    refine y_arg C Z 1 5 1 i dL_law_838 dL_law_839 dL_law_841 dL_law_842 dL_law_843 rfl rfl (by omega) e1 ?_
    refine y_arg C Z 1 5 2 i dL_law_844 dL_law_845 dL_law_847 dL_law_848 dL_law_849 rfl rfl (by omega) e2 ?_
    refine y_callXr (wa := lwo (yDA Γ) o g :: xwld aX (yDA Γ) m 0 lay_X) (wb := T) (st := []) (av := [.inl z1, .inl z2]) (b := 0) (layY := lay_M) C aM dL_law_850 (xin_31 _ (List.mem_of_getElem? (i := 23) rfl)) xy_X11_event xi_X11_event xs_X11_event (by omega) (by decide) rfl ⟨_, _, rfl⟩ rfl (Nat.le_of_ble_eq_true rfl) q2 (by omega) (by omega) hS.2 rfl ?_
    refine y_istorew C dL_law_853 (by omega) rfl ?_
    refine y_aload C 4 dL_law_855 rfl rfl ?_
    refine y_callXr (wa := lwo (yDA Γ) o g :: xwld aX (yDA Γ) m 0 lay_X) (wb := T) (st := []) (av := []) (b := 0) (layY := lay_M) C aM dL_law_856 (xin_23 _ (List.mem_of_getElem? (i := 19) rfl)) xy_X11_thrown xi_X11_thrown xs_X11_thrown (by omega) (by decide) rfl ⟨_, _, rfl⟩ rfl (Nat.le_of_ble_eq_true rfl) (c_m_thrown _ _ 1 (by unfold f_m_thrown; rw [q3])) (by omega) (by omega) hS.2 rfl ?_
    refine y_iloadw C 1 dL_law_859 rfl ?_
    refine y_icmpeq C 866 dL_law_861 (by decide) (by decide) ?_
    refine y_iloadw C 1 dL_law_866 rfl ?_
    refine y_ifne1 C 883 dL_law_868 (by decide) (by decide) ?_
    refine y_goto C 1638 dL_law_883 (by decide) ?_
    refine y_sub [2, 3, 4, 5, 6] rfl ?_
    exact Gk _ _ _ ⟨m, M1, _, T, G, q4, hT, rfl⟩ (by omega) (by omega)
set_option maxRecDepth 100000 in
set_option maxHeartbeats 8000000 in
theorem lc_11 {Γ : yG} {b Ln : Nat} {xs : Nat → Int32} (C : yC Γ RL cL_law 9 100 601024 7293034) (Z : lC Γ b Ln xs) (hst : Γ.1.2.1.stackTraces = false) {aX aM : Nat → Nat} (hS : lS Γ aX aM) (o i : Nat) (hi : i + 6 ≤ Ln) {ws : va_W} {k n : Nat} (hk : k + 4 ≤ 601024) (hn : n + 200 ≤ 7293034) (hI : lI (yDA Γ) aX aM o ws) (Gk : ∀ (ws' : va_W) (k' n' : Nat), lI (yDA Γ) aX aM o ws' → k' ≤ k + 4 → n' ≤ n + 200 → yW Γ 9 1638 (lL b aX aM o i) [] ws' k' n') : yW Γ 9 886 (lL b aX aM o i) [] ws k n := by
  obtain ⟨m, M, g, T, G, hX, hT, rfl⟩ := hI
  obtain ⟨z1, e1, i1⟩ := l_int (xs (i + 1))
  rcases ls_rateFor _ hst z1 m M hX i1 with ⟨r, m1, M1, q1, q2, q3, q4⟩ | ⟨r, M1, q1, q2, q3, q4⟩
  · skip
    refine y_aload C 1 dL_law_886 rfl rfl ?_
    refine y_arg C Z 0 4 1 i dL_law_887 dL_law_888 dL_law_890 dL_law_891 dL_law_892 rfl rfl (by omega) e1 ?_
    refine y_aload C 3 dL_law_893 rfl rfl ?_
    refine y_callW (st := []) (ws1 := lwo (yDA Γ) o g :: xwld aX (yDA Γ) m 0 lay_X) (ws1' := lwo (yDA Γ) o (fun j => if j = 0 then (Int32.ofInt r).toInt64 else g j) :: xwld aX (yDA Γ) m1 0 lay_X) (wb := T ++ xwld aM (yDA Γ) M 0 lay_M) (r := 0) (nP := 3) C Z dL_law_894 (xin_32 _ (List.mem_of_getElem? (i := 3) rfl)) (xin_32 _ (List.mem_of_getElem? (i := 4) rfl)) (xin_10 _ (List.mem_of_getElem? (i := 12) rfl)) (xin_32 _ (List.mem_of_getElem? (i := 5) rfl)) ⟨by decide +kernel, by decide +kernel, by decide +kernel⟩ (by omega) (by decide) rfl (Nat.le_of_ble_eq_true rfl) aX hS.1 (fun dC dI sz => r_L_rateFor hst (by decide) q1 dC dI (yDA Γ) aX o g sz) (lw_addr _ _ _ _ _ _ _) (by omega) (by omega) rfl ?_
    refine y_istorew C dL_law_897 (by omega) rfl ?_
    refine y_aload C 3 dL_law_899 rfl rfl ?_
    refine y_arg C Z 1 5 1 i dL_law_900 dL_law_901 dL_law_903 dL_law_904 dL_law_905 rfl rfl (by omega) e1 ?_
    refine y_callXr (wa := lwo (yDA Γ) o (fun j => if j = 0 then (Int32.ofInt r).toInt64 else g j) :: xwld aX (yDA Γ) m1 0 lay_X) (wb := T) (st := []) (av := [.inl z1]) (b := 0) (layY := lay_M) C aM dL_law_906 (xin_32 _ (List.mem_of_getElem? (i := 18) rfl)) xy_X11_rateFor xi_X11_rateFor xs_X11_rateFor (by omega) (by decide) rfl ⟨_, _, rfl⟩ rfl (Nat.le_of_ble_eq_true rfl) q2 (by omega) (by omega) hS.2 rfl ?_
    refine y_istorew C dL_law_909 (by omega) rfl ?_
    refine y_aload C 4 dL_law_911 rfl rfl ?_
    refine y_callXr (wa := lwo (yDA Γ) o (fun j => if j = 0 then (Int32.ofInt r).toInt64 else g j) :: xwld aX (yDA Γ) m1 0 lay_X) (wb := T) (st := []) (av := []) (b := 0) (layY := lay_M) C aM dL_law_912 (xin_23 _ (List.mem_of_getElem? (i := 19) rfl)) xy_X11_thrown xi_X11_thrown xs_X11_thrown (by omega) (by decide) rfl ⟨_, _, rfl⟩ rfl (Nat.le_of_ble_eq_true rfl) (c_m_thrown _ _ 0 (by unfold f_m_thrown; rw [q3])) (by omega) (by omega) hS.2 rfl ?_
    refine y_iloadw C 1 dL_law_915 rfl ?_
    refine y_icmpeq C 922 dL_law_917 (by decide) (by decide) ?_
    refine y_iloadw C 1 dL_law_922 rfl ?_
    refine y_ifne0 C 939 dL_law_924 (by decide) ?_
    refine y_aload C 5 dL_law_927 rfl rfl ?_
    refine y_iconst (v := 0) C dL_law_928 (by decide) ?_
    refine y_laload0 (g := fun j => if j = 0 then (Int32.ofInt r).toInt64 else g j) C 0 dL_law_929 rfl ?_
    refine y_iloadw C 0 dL_law_930 rfl ?_
    refine y_i2l C dL_law_932 rfl ?_
    refine y_lcmp0 C dL_law_933 rfl ?_
    refine y_ifeq0 C 939 dL_law_934 (by decide) ?_
    refine y_goto C 1638 dL_law_939 (by decide) ?_
    refine y_sub [2, 3, 4, 5, 6] rfl ?_
    exact Gk _ _ _ ⟨m1, M1, _, T, G, q4, hT, rfl⟩ (by omega) (by omega)
  · skip
    refine y_aload C 1 dL_law_886 rfl rfl ?_
    refine y_arg C Z 0 4 1 i dL_law_887 dL_law_888 dL_law_890 dL_law_891 dL_law_892 rfl rfl (by omega) e1 ?_
    refine y_aload C 3 dL_law_893 rfl rfl ?_
    refine y_callW (st := []) (ws1 := lwo (yDA Γ) o g :: xwld aX (yDA Γ) m 0 lay_X) (ws1' := lwo (yDA Γ) o g :: xwld aX (yDA Γ) m 0 lay_X) (wb := T ++ xwld aM (yDA Γ) M 0 lay_M) (r := 1) (nP := 3) C Z dL_law_894 (xin_32 _ (List.mem_of_getElem? (i := 3) rfl)) (xin_32 _ (List.mem_of_getElem? (i := 4) rfl)) (xin_10 _ (List.mem_of_getElem? (i := 12) rfl)) (xin_32 _ (List.mem_of_getElem? (i := 5) rfl)) ⟨by decide +kernel, by decide +kernel, by decide +kernel⟩ (by omega) (by decide) rfl (Nat.le_of_ble_eq_true rfl) aX hS.1 (fun dC dI sz => s1_L_rateFor hst (by decide) q1 dC dI (yDA Γ) aX o g sz) (lw_addr _ _ _ _ _ _ _) (by omega) (by omega) rfl ?_
    refine y_istorew C dL_law_897 (by omega) rfl ?_
    refine y_aload C 3 dL_law_899 rfl rfl ?_
    refine y_arg C Z 1 5 1 i dL_law_900 dL_law_901 dL_law_903 dL_law_904 dL_law_905 rfl rfl (by omega) e1 ?_
    refine y_callXr (wa := lwo (yDA Γ) o g :: xwld aX (yDA Γ) m 0 lay_X) (wb := T) (st := []) (av := [.inl z1]) (b := 0) (layY := lay_M) C aM dL_law_906 (xin_32 _ (List.mem_of_getElem? (i := 18) rfl)) xy_X11_rateFor xi_X11_rateFor xs_X11_rateFor (by omega) (by decide) rfl ⟨_, _, rfl⟩ rfl (Nat.le_of_ble_eq_true rfl) q2 (by omega) (by omega) hS.2 rfl ?_
    refine y_istorew C dL_law_909 (by omega) rfl ?_
    refine y_aload C 4 dL_law_911 rfl rfl ?_
    refine y_callXr (wa := lwo (yDA Γ) o g :: xwld aX (yDA Γ) m 0 lay_X) (wb := T) (st := []) (av := []) (b := 0) (layY := lay_M) C aM dL_law_912 (xin_23 _ (List.mem_of_getElem? (i := 19) rfl)) xy_X11_thrown xi_X11_thrown xs_X11_thrown (by omega) (by decide) rfl ⟨_, _, rfl⟩ rfl (Nat.le_of_ble_eq_true rfl) (c_m_thrown _ _ 1 (by unfold f_m_thrown; rw [q3])) (by omega) (by omega) hS.2 rfl ?_
    refine y_iloadw C 1 dL_law_915 rfl ?_
    refine y_icmpeq C 922 dL_law_917 (by decide) (by decide) ?_
    refine y_iloadw C 1 dL_law_922 rfl ?_
    refine y_ifne1 C 939 dL_law_924 (by decide) (by decide) ?_
    refine y_goto C 1638 dL_law_939 (by decide) ?_
    refine y_sub [2, 3, 4, 5, 6] rfl ?_
    exact Gk _ _ _ ⟨m, M1, _, T, G, q4, hT, rfl⟩ (by omega) (by omega)
set_option maxRecDepth 100000 in
set_option maxHeartbeats 8000000 in
theorem lc_12 {Γ : yG} {b Ln : Nat} {xs : Nat → Int32} (C : yC Γ RL cL_law 9 100 601024 7293034) (Z : lC Γ b Ln xs) (hst : Γ.1.2.1.stackTraces = false) {aX aM : Nat → Nat} (hS : lS Γ aX aM) (o i : Nat) (hi : i + 6 ≤ Ln) {ws : va_W} {k n : Nat} (hk : k + 4 ≤ 601024) (hn : n + 200 ≤ 7293034) (hI : lI (yDA Γ) aX aM o ws) (Gk : ∀ (ws' : va_W) (k' n' : Nat), lI (yDA Γ) aX aM o ws' → k' ≤ k + 4 → n' ≤ n + 200 → yW Γ 9 1638 (lL b aX aM o i) [] ws' k' n') : yW Γ 9 942 (lL b aX aM o i) [] ws k n := by
  obtain ⟨m, M, g, T, G, hX, hT, rfl⟩ := hI
  obtain ⟨z1, e1, i1⟩ := l_int (xs (i + 1))
  rcases ls_nextCost _ hst z1 m M hX i1 with ⟨r, m1, M1, q1, q2, q3, q4⟩ | ⟨r, M1, q1, q2, q3, q4⟩
  · skip
    refine y_aload C 1 dL_law_942 rfl rfl ?_
    refine y_arg C Z 0 4 1 i dL_law_943 dL_law_944 dL_law_946 dL_law_947 dL_law_948 rfl rfl (by omega) e1 ?_
    refine y_aload C 3 dL_law_949 rfl rfl ?_
    refine y_callW (st := []) (ws1 := lwo (yDA Γ) o g :: xwld aX (yDA Γ) m 0 lay_X) (ws1' := lwo (yDA Γ) o (fun j => if j = 0 then (Int32.ofInt r).toInt64 else g j) :: xwld aX (yDA Γ) m1 0 lay_X) (wb := T ++ xwld aM (yDA Γ) M 0 lay_M) (r := 0) (nP := 3) C Z dL_law_950 (xin_33 _ (List.mem_of_getElem? (i := 2) rfl)) (xin_33 _ (List.mem_of_getElem? (i := 3) rfl)) (xin_10 _ (List.mem_of_getElem? (i := 12) rfl)) (xin_33 _ (List.mem_of_getElem? (i := 4) rfl)) ⟨by decide +kernel, by decide +kernel, by decide +kernel⟩ (by omega) (by decide) rfl (Nat.le_of_ble_eq_true rfl) aX hS.1 (fun dC dI sz => r_L_nextCost hst (by decide) q1 dC dI (yDA Γ) aX o g sz) (lw_addr _ _ _ _ _ _ _) (by omega) (by omega) rfl ?_
    refine y_istorew C dL_law_953 (by omega) rfl ?_
    refine y_aload C 3 dL_law_955 rfl rfl ?_
    refine y_arg C Z 1 5 1 i dL_law_956 dL_law_957 dL_law_959 dL_law_960 dL_law_961 rfl rfl (by omega) e1 ?_
    refine y_callXr (wa := lwo (yDA Γ) o (fun j => if j = 0 then (Int32.ofInt r).toInt64 else g j) :: xwld aX (yDA Γ) m1 0 lay_X) (wb := T) (st := []) (av := [.inl z1]) (b := 0) (layY := lay_M) C aM dL_law_962 (xin_34 _ (List.mem_of_getElem? (i := 8) rfl)) xy_X11_nextCost xi_X11_nextCost xs_X11_nextCost (by omega) (by decide) rfl ⟨_, _, rfl⟩ rfl (Nat.le_of_ble_eq_true rfl) q2 (by omega) (by omega) hS.2 rfl ?_
    refine y_istorew C dL_law_965 (by omega) rfl ?_
    refine y_aload C 4 dL_law_967 rfl rfl ?_
    refine y_callXr (wa := lwo (yDA Γ) o (fun j => if j = 0 then (Int32.ofInt r).toInt64 else g j) :: xwld aX (yDA Γ) m1 0 lay_X) (wb := T) (st := []) (av := []) (b := 0) (layY := lay_M) C aM dL_law_968 (xin_23 _ (List.mem_of_getElem? (i := 19) rfl)) xy_X11_thrown xi_X11_thrown xs_X11_thrown (by omega) (by decide) rfl ⟨_, _, rfl⟩ rfl (Nat.le_of_ble_eq_true rfl) (c_m_thrown _ _ 0 (by unfold f_m_thrown; rw [q3])) (by omega) (by omega) hS.2 rfl ?_
    refine y_iloadw C 1 dL_law_971 rfl ?_
    refine y_icmpeq C 978 dL_law_973 (by decide) (by decide) ?_
    refine y_iloadw C 1 dL_law_978 rfl ?_
    refine y_ifne0 C 995 dL_law_980 (by decide) ?_
    refine y_aload C 5 dL_law_983 rfl rfl ?_
    refine y_iconst (v := 0) C dL_law_984 (by decide) ?_
    refine y_laload0 (g := fun j => if j = 0 then (Int32.ofInt r).toInt64 else g j) C 0 dL_law_985 rfl ?_
    refine y_iloadw C 0 dL_law_986 rfl ?_
    refine y_i2l C dL_law_988 rfl ?_
    refine y_lcmp0 C dL_law_989 rfl ?_
    refine y_ifeq0 C 995 dL_law_990 (by decide) ?_
    refine y_goto C 1638 dL_law_995 (by decide) ?_
    refine y_sub [2, 3, 4, 5, 6] rfl ?_
    exact Gk _ _ _ ⟨m1, M1, _, T, G, q4, hT, rfl⟩ (by omega) (by omega)
  · skip
    refine y_aload C 1 dL_law_942 rfl rfl ?_
    refine y_arg C Z 0 4 1 i dL_law_943 dL_law_944 dL_law_946 dL_law_947 dL_law_948 rfl rfl (by omega) e1 ?_
    refine y_aload C 3 dL_law_949 rfl rfl ?_
    refine y_callW (st := []) (ws1 := lwo (yDA Γ) o g :: xwld aX (yDA Γ) m 0 lay_X) (ws1' := lwo (yDA Γ) o g :: xwld aX (yDA Γ) m 0 lay_X) (wb := T ++ xwld aM (yDA Γ) M 0 lay_M) (r := 1) (nP := 3) C Z dL_law_950 (xin_33 _ (List.mem_of_getElem? (i := 2) rfl)) (xin_33 _ (List.mem_of_getElem? (i := 3) rfl)) (xin_10 _ (List.mem_of_getElem? (i := 12) rfl)) (xin_33 _ (List.mem_of_getElem? (i := 4) rfl)) ⟨by decide +kernel, by decide +kernel, by decide +kernel⟩ (by omega) (by decide) rfl (Nat.le_of_ble_eq_true rfl) aX hS.1 (fun dC dI sz => s2_L_nextCost hst (by decide) q1 dC dI (yDA Γ) aX o g sz) (lw_addr _ _ _ _ _ _ _) (by omega) (by omega) rfl ?_
    refine y_istorew C dL_law_953 (by omega) rfl ?_
    refine y_aload C 3 dL_law_955 rfl rfl ?_
    refine y_arg C Z 1 5 1 i dL_law_956 dL_law_957 dL_law_959 dL_law_960 dL_law_961 rfl rfl (by omega) e1 ?_
    refine y_callXr (wa := lwo (yDA Γ) o g :: xwld aX (yDA Γ) m 0 lay_X) (wb := T) (st := []) (av := [.inl z1]) (b := 0) (layY := lay_M) C aM dL_law_962 (xin_34 _ (List.mem_of_getElem? (i := 8) rfl)) xy_X11_nextCost xi_X11_nextCost xs_X11_nextCost (by omega) (by decide) rfl ⟨_, _, rfl⟩ rfl (Nat.le_of_ble_eq_true rfl) q2 (by omega) (by omega) hS.2 rfl ?_
    refine y_istorew C dL_law_965 (by omega) rfl ?_
    refine y_aload C 4 dL_law_967 rfl rfl ?_
    refine y_callXr (wa := lwo (yDA Γ) o g :: xwld aX (yDA Γ) m 0 lay_X) (wb := T) (st := []) (av := []) (b := 0) (layY := lay_M) C aM dL_law_968 (xin_23 _ (List.mem_of_getElem? (i := 19) rfl)) xy_X11_thrown xi_X11_thrown xs_X11_thrown (by omega) (by decide) rfl ⟨_, _, rfl⟩ rfl (Nat.le_of_ble_eq_true rfl) (c_m_thrown _ _ 1 (by unfold f_m_thrown; rw [q3])) (by omega) (by omega) hS.2 rfl ?_
    refine y_iloadw C 1 dL_law_971 rfl ?_
    refine y_icmpeq C 978 dL_law_973 (by decide) (by decide) ?_
    refine y_iloadw C 1 dL_law_978 rfl ?_
    refine y_ifne1 C 995 dL_law_980 (by decide) (by decide) ?_
    refine y_goto C 1638 dL_law_995 (by decide) ?_
    refine y_sub [2, 3, 4, 5, 6] rfl ?_
    exact Gk _ _ _ ⟨m, M1, _, T, G, q4, hT, rfl⟩ (by omega) (by omega)
set_option maxRecDepth 100000 in
set_option maxHeartbeats 8000000 in
theorem lc_13 {Γ : yG} {b Ln : Nat} {xs : Nat → Int32} (C : yC Γ RL cL_law 9 100 601024 7293034) (Z : lC Γ b Ln xs) (hst : Γ.1.2.1.stackTraces = false) {aX aM : Nat → Nat} (hS : lS Γ aX aM) (o i : Nat) (hi : i + 6 ≤ Ln) {ws : va_W} {k n : Nat} (hk : k + 4 ≤ 601024) (hn : n + 200 ≤ 7293034) (hI : lI (yDA Γ) aX aM o ws) (Gk : ∀ (ws' : va_W) (k' n' : Nat), lI (yDA Γ) aX aM o ws' → k' ≤ k + 4 → n' ≤ n + 200 → yW Γ 9 1638 (lL b aX aM o i) [] ws' k' n') : yW Γ 9 998 (lL b aX aM o i) [] ws k n := by
  obtain ⟨m, M, g, T, G, hX, hT, rfl⟩ := hI
  obtain ⟨r, m1, M1, q1, q2, q3, q4⟩ := ls_ticksToFinish _ hst  m M hX
  refine y_aload C 1 dL_law_998 rfl rfl ?_
  refine y_callXm (wa := [lwo (yDA Γ) o g]) (wb := T ++ xwld aM (yDA Γ) M 0 lay_M) (st := []) (av := []) (b := 0) (layY := lay_X) (m := m) C aX dL_law_999 (xin_35 _ (List.mem_of_getElem? (i := 5) rfl)) xy_X10_ticksToFinish xi_X10_ticksToFinish xs_X10_ticksToFinish (by omega) (by decide) rfl ⟨_, _, rfl⟩ rfl (Nat.le_of_ble_eq_true rfl) q1 (by omega) (by omega) hS.1 rfl ?_
  refine y_aload C 2 dL_law_1002 rfl rfl ?_
  refine y_callXr (wa := lwo (yDA Γ) o g :: xwld aX (yDA Γ) m1 0 lay_X) (wb := T) (st := [.int (Int32.ofInt r)]) (av := []) (b := 0) (layY := lay_M) C aM dL_law_1003 (xin_44 _ (List.mem_of_getElem? (i := 8) rfl)) xy_X11_ticksToFinish xi_X11_ticksToFinish xs_X11_ticksToFinish (by omega) (by decide) rfl ⟨_, _, rfl⟩ rfl (Nat.le_of_ble_eq_true rfl) q2 (by omega) (by omega) hS.2 rfl ?_
  refine y_icmpeq C 1638 dL_law_1006 (by decide) rfl ?_
  exact Gk _ _ _ ⟨m1, M1, g, T, G, q4, hT, rfl⟩ (by omega) (by omega)
set_option maxRecDepth 100000 in
set_option maxHeartbeats 8000000 in
theorem lc_14 {Γ : yG} {b Ln : Nat} {xs : Nat → Int32} (C : yC Γ RL cL_law 9 100 601024 7293034) (Z : lC Γ b Ln xs) (hst : Γ.1.2.1.stackTraces = false) {aX aM : Nat → Nat} (hS : lS Γ aX aM) (o i : Nat) (hi : i + 6 ≤ Ln) {ws : va_W} {k n : Nat} (hk : k + 4 ≤ 601024) (hn : n + 200 ≤ 7293034) (hI : lI (yDA Γ) aX aM o ws) (Gk : ∀ (ws' : va_W) (k' n' : Nat), lI (yDA Γ) aX aM o ws' → k' ≤ k + 4 → n' ≤ n + 200 → yW Γ 9 1638 (lL b aX aM o i) [] ws' k' n') : yW Γ 9 1011 (lL b aX aM o i) [] ws k n := by
  obtain ⟨m, M, g, T, G, hX, hT, rfl⟩ := hI
  obtain ⟨z1, e1, i1⟩ := l_int (xs (i + 1))
  obtain ⟨z2, e2, i2⟩ := l_int (xs (i + 2))
  rcases ls_receivedBehind _ hst z1 z2 m M hX i1 i2 with ⟨r, m1, M1, q1, q2, q3, q4⟩ | ⟨r, M1, q1, q2, q3, q4⟩ | ⟨r, M1, q1, q2, q3, q4⟩
  · skip
    refine y_aload C 1 dL_law_1011 rfl rfl ?_
    refine y_arg C Z 0 4 1 i dL_law_1012 dL_law_1013 dL_law_1015 dL_law_1016 dL_law_1017 rfl rfl (by omega) e1 ?_
    refine y_arg C Z 0 4 2 i dL_law_1018 dL_law_1019 dL_law_1021 dL_law_1022 dL_law_1023 rfl rfl (by omega) e2 ?_
    refine y_aload C 3 dL_law_1024 rfl rfl ?_
    refine y_callW (st := []) (ws1 := lwo (yDA Γ) o g :: xwld aX (yDA Γ) m 0 lay_X) (ws1' := lwo (yDA Γ) o (fun j => if j = 0 then (Int32.ofInt r).toInt64 else g j) :: xwld aX (yDA Γ) m1 0 lay_X) (wb := T ++ xwld aM (yDA Γ) M 0 lay_M) (r := 0) (nP := 4) C Z dL_law_1025 (xin_49 _ (List.mem_of_getElem? (i := 3) rfl)) (xin_49 _ (List.mem_of_getElem? (i := 4) rfl)) (xin_10 _ (List.mem_of_getElem? (i := 12) rfl)) (xin_49 _ (List.mem_of_getElem? (i := 5) rfl)) ⟨by decide +kernel, by decide +kernel, by decide +kernel⟩ (by omega) (by decide) rfl (Nat.le_of_ble_eq_true rfl) aX hS.1 (fun dC dI sz => r_L_receivedBehind hst (by decide) q1 dC dI (yDA Γ) aX o g sz) (lw_addr _ _ _ _ _ _ _) (by omega) (by omega) rfl ?_
    refine y_istorew C dL_law_1028 (by omega) rfl ?_
    refine y_aload C 3 dL_law_1030 rfl rfl ?_
    refine y_arg C Z 1 5 1 i dL_law_1031 dL_law_1032 dL_law_1034 dL_law_1035 dL_law_1036 rfl rfl (by omega) e1 ?_
    refine y_arg C Z 1 5 2 i dL_law_1037 dL_law_1038 dL_law_1040 dL_law_1041 dL_law_1042 rfl rfl (by omega) e2 ?_
    refine y_callXr (wa := lwo (yDA Γ) o (fun j => if j = 0 then (Int32.ofInt r).toInt64 else g j) :: xwld aX (yDA Γ) m1 0 lay_X) (wb := T) (st := []) (av := [.inl z1, .inl z2]) (b := 0) (layY := lay_M) C aM dL_law_1043 (xin_49 _ (List.mem_of_getElem? (i := 14) rfl)) xy_X11_receivedBehind xi_X11_receivedBehind xs_X11_receivedBehind (by omega) (by decide) rfl ⟨_, _, rfl⟩ rfl (Nat.le_of_ble_eq_true rfl) q2 (by omega) (by omega) hS.2 rfl ?_
    refine y_istorew C dL_law_1046 (by omega) rfl ?_
    refine y_aload C 4 dL_law_1048 rfl rfl ?_
    refine y_callXr (wa := lwo (yDA Γ) o (fun j => if j = 0 then (Int32.ofInt r).toInt64 else g j) :: xwld aX (yDA Γ) m1 0 lay_X) (wb := T) (st := []) (av := []) (b := 0) (layY := lay_M) C aM dL_law_1049 (xin_23 _ (List.mem_of_getElem? (i := 19) rfl)) xy_X11_thrown xi_X11_thrown xs_X11_thrown (by omega) (by decide) rfl ⟨_, _, rfl⟩ rfl (Nat.le_of_ble_eq_true rfl) (c_m_thrown _ _ 0 (by unfold f_m_thrown; rw [q3])) (by omega) (by omega) hS.2 rfl ?_
    refine y_iloadw C 1 dL_law_1052 rfl ?_
    refine y_icmpeq C 1059 dL_law_1054 (by decide) (by decide) ?_
    refine y_iloadw C 1 dL_law_1059 rfl ?_
    refine y_ifne0 C 1076 dL_law_1061 (by decide) ?_
    refine y_aload C 5 dL_law_1064 rfl rfl ?_
    refine y_iconst (v := 0) C dL_law_1065 (by decide) ?_
    refine y_laload0 (g := fun j => if j = 0 then (Int32.ofInt r).toInt64 else g j) C 0 dL_law_1066 rfl ?_
    refine y_iloadw C 0 dL_law_1067 rfl ?_
    refine y_i2l C dL_law_1069 rfl ?_
    refine y_lcmp0 C dL_law_1070 rfl ?_
    refine y_ifeq0 C 1076 dL_law_1071 (by decide) ?_
    refine y_goto C 1638 dL_law_1076 (by decide) ?_
    refine y_sub [2, 3, 4, 5, 6] rfl ?_
    exact Gk _ _ _ ⟨m1, M1, _, T, G, q4, hT, rfl⟩ (by omega) (by omega)
  · skip
    refine y_aload C 1 dL_law_1011 rfl rfl ?_
    refine y_arg C Z 0 4 1 i dL_law_1012 dL_law_1013 dL_law_1015 dL_law_1016 dL_law_1017 rfl rfl (by omega) e1 ?_
    refine y_arg C Z 0 4 2 i dL_law_1018 dL_law_1019 dL_law_1021 dL_law_1022 dL_law_1023 rfl rfl (by omega) e2 ?_
    refine y_aload C 3 dL_law_1024 rfl rfl ?_
    refine y_callW (st := []) (ws1 := lwo (yDA Γ) o g :: xwld aX (yDA Γ) m 0 lay_X) (ws1' := lwo (yDA Γ) o g :: xwld aX (yDA Γ) m 0 lay_X) (wb := T ++ xwld aM (yDA Γ) M 0 lay_M) (r := 1) (nP := 4) C Z dL_law_1025 (xin_49 _ (List.mem_of_getElem? (i := 3) rfl)) (xin_49 _ (List.mem_of_getElem? (i := 4) rfl)) (xin_10 _ (List.mem_of_getElem? (i := 12) rfl)) (xin_49 _ (List.mem_of_getElem? (i := 5) rfl)) ⟨by decide +kernel, by decide +kernel, by decide +kernel⟩ (by omega) (by decide) rfl (Nat.le_of_ble_eq_true rfl) aX hS.1 (fun dC dI sz => s2_L_receivedBehind hst (by decide) q1 dC dI (yDA Γ) aX o g sz) (lw_addr _ _ _ _ _ _ _) (by omega) (by omega) rfl ?_
    refine y_istorew C dL_law_1028 (by omega) rfl ?_
    refine y_aload C 3 dL_law_1030 rfl rfl ?_
    refine y_arg C Z 1 5 1 i dL_law_1031 dL_law_1032 dL_law_1034 dL_law_1035 dL_law_1036 rfl rfl (by omega) e1 ?_
    refine y_arg C Z 1 5 2 i dL_law_1037 dL_law_1038 dL_law_1040 dL_law_1041 dL_law_1042 rfl rfl (by omega) e2 ?_
    refine y_callXr (wa := lwo (yDA Γ) o g :: xwld aX (yDA Γ) m 0 lay_X) (wb := T) (st := []) (av := [.inl z1, .inl z2]) (b := 0) (layY := lay_M) C aM dL_law_1043 (xin_49 _ (List.mem_of_getElem? (i := 14) rfl)) xy_X11_receivedBehind xi_X11_receivedBehind xs_X11_receivedBehind (by omega) (by decide) rfl ⟨_, _, rfl⟩ rfl (Nat.le_of_ble_eq_true rfl) q2 (by omega) (by omega) hS.2 rfl ?_
    refine y_istorew C dL_law_1046 (by omega) rfl ?_
    refine y_aload C 4 dL_law_1048 rfl rfl ?_
    refine y_callXr (wa := lwo (yDA Γ) o g :: xwld aX (yDA Γ) m 0 lay_X) (wb := T) (st := []) (av := []) (b := 0) (layY := lay_M) C aM dL_law_1049 (xin_23 _ (List.mem_of_getElem? (i := 19) rfl)) xy_X11_thrown xi_X11_thrown xs_X11_thrown (by omega) (by decide) rfl ⟨_, _, rfl⟩ rfl (Nat.le_of_ble_eq_true rfl) (c_m_thrown _ _ 1 (by unfold f_m_thrown; rw [q3])) (by omega) (by omega) hS.2 rfl ?_
    refine y_iloadw C 1 dL_law_1052 rfl ?_
    refine y_icmpeq C 1059 dL_law_1054 (by decide) (by decide) ?_
    refine y_iloadw C 1 dL_law_1059 rfl ?_
    refine y_ifne1 C 1076 dL_law_1061 (by decide) (by decide) ?_
    refine y_goto C 1638 dL_law_1076 (by decide) ?_
    refine y_sub [2, 3, 4, 5, 6] rfl ?_
    exact Gk _ _ _ ⟨m, M1, _, T, G, q4, hT, rfl⟩ (by omega) (by omega)
  · skip
    refine y_aload C 1 dL_law_1011 rfl rfl ?_
    refine y_arg C Z 0 4 1 i dL_law_1012 dL_law_1013 dL_law_1015 dL_law_1016 dL_law_1017 rfl rfl (by omega) e1 ?_
    refine y_arg C Z 0 4 2 i dL_law_1018 dL_law_1019 dL_law_1021 dL_law_1022 dL_law_1023 rfl rfl (by omega) e2 ?_
    refine y_aload C 3 dL_law_1024 rfl rfl ?_
    refine y_callW (st := []) (ws1 := lwo (yDA Γ) o g :: xwld aX (yDA Γ) m 0 lay_X) (ws1' := lwo (yDA Γ) o g :: xwld aX (yDA Γ) m 0 lay_X) (wb := T ++ xwld aM (yDA Γ) M 0 lay_M) (r := 2) (nP := 4) C Z dL_law_1025 (xin_49 _ (List.mem_of_getElem? (i := 3) rfl)) (xin_49 _ (List.mem_of_getElem? (i := 4) rfl)) (xin_10 _ (List.mem_of_getElem? (i := 12) rfl)) (xin_49 _ (List.mem_of_getElem? (i := 5) rfl)) ⟨by decide +kernel, by decide +kernel, by decide +kernel⟩ (by omega) (by decide) rfl (Nat.le_of_ble_eq_true rfl) aX hS.1 (fun dC dI sz => s1_L_receivedBehind hst (by decide) q1 dC dI (yDA Γ) aX o g sz) (lw_addr _ _ _ _ _ _ _) (by omega) (by omega) rfl ?_
    refine y_istorew C dL_law_1028 (by omega) rfl ?_
    refine y_aload C 3 dL_law_1030 rfl rfl ?_
    refine y_arg C Z 1 5 1 i dL_law_1031 dL_law_1032 dL_law_1034 dL_law_1035 dL_law_1036 rfl rfl (by omega) e1 ?_
    refine y_arg C Z 1 5 2 i dL_law_1037 dL_law_1038 dL_law_1040 dL_law_1041 dL_law_1042 rfl rfl (by omega) e2 ?_
    refine y_callXr (wa := lwo (yDA Γ) o g :: xwld aX (yDA Γ) m 0 lay_X) (wb := T) (st := []) (av := [.inl z1, .inl z2]) (b := 0) (layY := lay_M) C aM dL_law_1043 (xin_49 _ (List.mem_of_getElem? (i := 14) rfl)) xy_X11_receivedBehind xi_X11_receivedBehind xs_X11_receivedBehind (by omega) (by decide) rfl ⟨_, _, rfl⟩ rfl (Nat.le_of_ble_eq_true rfl) q2 (by omega) (by omega) hS.2 rfl ?_
    refine y_istorew C dL_law_1046 (by omega) rfl ?_
    refine y_aload C 4 dL_law_1048 rfl rfl ?_
    refine y_callXr (wa := lwo (yDA Γ) o g :: xwld aX (yDA Γ) m 0 lay_X) (wb := T) (st := []) (av := []) (b := 0) (layY := lay_M) C aM dL_law_1049 (xin_23 _ (List.mem_of_getElem? (i := 19) rfl)) xy_X11_thrown xi_X11_thrown xs_X11_thrown (by omega) (by decide) rfl ⟨_, _, rfl⟩ rfl (Nat.le_of_ble_eq_true rfl) (c_m_thrown _ _ 2 (by unfold f_m_thrown; rw [q3])) (by omega) (by omega) hS.2 rfl ?_
    refine y_iloadw C 1 dL_law_1052 rfl ?_
    refine y_icmpeq C 1059 dL_law_1054 (by decide) (by decide) ?_
    refine y_iloadw C 1 dL_law_1059 rfl ?_
    refine y_ifne1 C 1076 dL_law_1061 (by decide) (by decide) ?_
    refine y_goto C 1638 dL_law_1076 (by decide) ?_
    refine y_sub [2, 3, 4, 5, 6] rfl ?_
    exact Gk _ _ _ ⟨m, M1, _, T, G, q4, hT, rfl⟩ (by omega) (by omega)
set_option maxRecDepth 100000 in
set_option maxHeartbeats 8000000 in
theorem lc_15 {Γ : yG} {b Ln : Nat} {xs : Nat → Int32} (C : yC Γ RL cL_law 9 100 601024 7293034) (Z : lC Γ b Ln xs) (hst : Γ.1.2.1.stackTraces = false) {aX aM : Nat → Nat} (hS : lS Γ aX aM) (o i : Nat) (hi : i + 6 ≤ Ln) {ws : va_W} {k n : Nat} (hk : k + 4 ≤ 601024) (hn : n + 200 ≤ 7293034) (hI : lI (yDA Γ) aX aM o ws) (Gk : ∀ (ws' : va_W) (k' n' : Nat), lI (yDA Γ) aX aM o ws' → k' ≤ k + 4 → n' ≤ n + 200 → yW Γ 9 1638 (lL b aX aM o i) [] ws' k' n') : yW Γ 9 1079 (lL b aX aM o i) [] ws k n := by
  obtain ⟨m, M, g, T, G, hX, hT, rfl⟩ := hI
  obtain ⟨r, m1, M1, q1, q2, q3, q4⟩ := ls_leastQuality _ hst  m M hX
  refine y_aload C 1 dL_law_1079 rfl rfl ?_
  refine y_callXm (wa := [lwo (yDA Γ) o g]) (wb := T ++ xwld aM (yDA Γ) M 0 lay_M) (st := []) (av := []) (b := 0) (layY := lay_X) (m := m) C aX dL_law_1080 (xin_49 _ (List.mem_of_getElem? (i := 18) rfl)) xy_X10_leastQuality xi_X10_leastQuality xs_X10_leastQuality (by omega) (by decide) rfl ⟨_, _, rfl⟩ rfl (Nat.le_of_ble_eq_true rfl) q1 (by omega) (by omega) hS.1 rfl ?_
  refine y_aload C 2 dL_law_1083 rfl rfl ?_
  refine y_callXr (wa := lwo (yDA Γ) o g :: xwld aX (yDA Γ) m1 0 lay_X) (wb := T) (st := [.int (Int32.ofInt r)]) (av := []) (b := 0) (layY := lay_M) C aM dL_law_1084 (xin_49 _ (List.mem_of_getElem? (i := 22) rfl)) xy_X11_leastQuality xi_X11_leastQuality xs_X11_leastQuality (by omega) (by decide) rfl ⟨_, _, rfl⟩ rfl (Nat.le_of_ble_eq_true rfl) q2 (by omega) (by omega) hS.2 rfl ?_
  refine y_icmpeq C 1638 dL_law_1087 (by decide) rfl ?_
  exact Gk _ _ _ ⟨m1, M1, g, T, G, q4, hT, rfl⟩ (by omega) (by omega)
set_option maxRecDepth 100000 in
set_option maxHeartbeats 8000000 in
theorem lc_18 {Γ : yG} {b Ln : Nat} {xs : Nat → Int32} (C : yC Γ RL cL_law 9 100 601024 7293034) (Z : lC Γ b Ln xs) (hst : Γ.1.2.1.stackTraces = false) {aX aM : Nat → Nat} (hS : lS Γ aX aM) (o i : Nat) (hi : i + 6 ≤ Ln) {ws : va_W} {k n : Nat} (hk : k + 4 ≤ 601024) (hn : n + 200 ≤ 7293034) (hI : lI (yDA Γ) aX aM o ws) (Gk : ∀ (ws' : va_W) (k' n' : Nat), lI (yDA Γ) aX aM o ws' → k' ≤ k + 4 → n' ≤ n + 200 → yW Γ 9 1638 (lL b aX aM o i) [] ws' k' n') : yW Γ 9 1176 (lL b aX aM o i) [] ws k n := by
  obtain ⟨m, M, g, T, G, hX, hT, rfl⟩ := hI
  obtain ⟨z1, e1, i1⟩ := l_int (xs (i + 1))
  rcases ls_pass _ hst z1 m M hX i1 with ⟨r, m1, M1, q1, q2, q3, q4⟩ | ⟨r, M1, q1, q2, q3, q4⟩
  · skip
    refine y_aload C 1 dL_law_1176 rfl rfl ?_
    refine y_arg C Z 0 4 1 i dL_law_1177 dL_law_1178 dL_law_1180 dL_law_1181 dL_law_1182 rfl rfl (by omega) e1 ?_
    refine y_aload C 3 dL_law_1183 rfl rfl ?_
    refine y_callW (st := []) (ws1 := lwo (yDA Γ) o g :: xwld aX (yDA Γ) m 0 lay_X) (ws1' := lwo (yDA Γ) o (fun j => if j = 0 then (Int32.ofInt r).toInt64 else g j) :: xwld aX (yDA Γ) m1 0 lay_X) (wb := T ++ xwld aM (yDA Γ) M 0 lay_M) (r := 0) (nP := 3) C Z dL_law_1184 (xin_50 _ (List.mem_of_getElem? (i := 18) rfl)) (xin_50 _ (List.mem_of_getElem? (i := 19) rfl)) (xin_10 _ (List.mem_of_getElem? (i := 12) rfl)) (xin_50 _ (List.mem_of_getElem? (i := 20) rfl)) ⟨by decide +kernel, by decide +kernel, by decide +kernel⟩ (by omega) (by decide) rfl (Nat.le_of_ble_eq_true rfl) aX hS.1 (fun dC dI sz => r_L_pass hst (by decide) q1 dC dI (yDA Γ) aX o g sz) (lw_addr _ _ _ _ _ _ _) (by omega) (by omega) rfl ?_
    refine y_istorew C dL_law_1187 (by omega) rfl ?_
    refine y_aload C 3 dL_law_1189 rfl rfl ?_
    refine y_arg C Z 1 5 1 i dL_law_1190 dL_law_1191 dL_law_1193 dL_law_1194 dL_law_1195 rfl rfl (by omega) e1 ?_
    refine y_callXr (wa := lwo (yDA Γ) o (fun j => if j = 0 then (Int32.ofInt r).toInt64 else g j) :: xwld aX (yDA Γ) m1 0 lay_X) (wb := T) (st := []) (av := [.inl z1]) (b := 0) (layY := lay_M) C aM dL_law_1196 (xin_51 _ (List.mem_of_getElem? (i := 8) rfl)) xy_X11_pass xi_X11_pass xs_X11_pass (by omega) (by decide) rfl ⟨_, _, rfl⟩ rfl (Nat.le_of_ble_eq_true rfl) q2 (by omega) (by omega) hS.2 rfl ?_
    refine y_istorew C dL_law_1199 (by omega) rfl ?_
    refine y_aload C 4 dL_law_1201 rfl rfl ?_
    refine y_callXr (wa := lwo (yDA Γ) o (fun j => if j = 0 then (Int32.ofInt r).toInt64 else g j) :: xwld aX (yDA Γ) m1 0 lay_X) (wb := T) (st := []) (av := []) (b := 0) (layY := lay_M) C aM dL_law_1202 (xin_23 _ (List.mem_of_getElem? (i := 19) rfl)) xy_X11_thrown xi_X11_thrown xs_X11_thrown (by omega) (by decide) rfl ⟨_, _, rfl⟩ rfl (Nat.le_of_ble_eq_true rfl) (c_m_thrown _ _ 0 (by unfold f_m_thrown; rw [q3])) (by omega) (by omega) hS.2 rfl ?_
    refine y_iloadw C 1 dL_law_1205 rfl ?_
    refine y_icmpeq C 1212 dL_law_1207 (by decide) (by decide) ?_
    refine y_iloadw C 1 dL_law_1212 rfl ?_
    refine y_ifne0 C 1229 dL_law_1214 (by decide) ?_
    refine y_aload C 5 dL_law_1217 rfl rfl ?_
    refine y_iconst (v := 0) C dL_law_1218 (by decide) ?_
    refine y_laload0 (g := fun j => if j = 0 then (Int32.ofInt r).toInt64 else g j) C 0 dL_law_1219 rfl ?_
    refine y_iloadw C 0 dL_law_1220 rfl ?_
    refine y_i2l C dL_law_1222 rfl ?_
    refine y_lcmp0 C dL_law_1223 rfl ?_
    refine y_ifeq0 C 1229 dL_law_1224 (by decide) ?_
    refine y_goto C 1638 dL_law_1229 (by decide) ?_
    refine y_sub [2, 3, 4, 5, 6] rfl ?_
    exact Gk _ _ _ ⟨m1, M1, _, T, G, q4, hT, rfl⟩ (by omega) (by omega)
  · skip
    refine y_aload C 1 dL_law_1176 rfl rfl ?_
    refine y_arg C Z 0 4 1 i dL_law_1177 dL_law_1178 dL_law_1180 dL_law_1181 dL_law_1182 rfl rfl (by omega) e1 ?_
    refine y_aload C 3 dL_law_1183 rfl rfl ?_
    refine y_callW (st := []) (ws1 := lwo (yDA Γ) o g :: xwld aX (yDA Γ) m 0 lay_X) (ws1' := lwo (yDA Γ) o g :: xwld aX (yDA Γ) m 0 lay_X) (wb := T ++ xwld aM (yDA Γ) M 0 lay_M) (r := 1) (nP := 3) C Z dL_law_1184 (xin_50 _ (List.mem_of_getElem? (i := 18) rfl)) (xin_50 _ (List.mem_of_getElem? (i := 19) rfl)) (xin_10 _ (List.mem_of_getElem? (i := 12) rfl)) (xin_50 _ (List.mem_of_getElem? (i := 20) rfl)) ⟨by decide +kernel, by decide +kernel, by decide +kernel⟩ (by omega) (by decide) rfl (Nat.le_of_ble_eq_true rfl) aX hS.1 (fun dC dI sz => s1_L_pass hst (by decide) q1 dC dI (yDA Γ) aX o g sz) (lw_addr _ _ _ _ _ _ _) (by omega) (by omega) rfl ?_
    refine y_istorew C dL_law_1187 (by omega) rfl ?_
    refine y_aload C 3 dL_law_1189 rfl rfl ?_
    refine y_arg C Z 1 5 1 i dL_law_1190 dL_law_1191 dL_law_1193 dL_law_1194 dL_law_1195 rfl rfl (by omega) e1 ?_
    refine y_callXr (wa := lwo (yDA Γ) o g :: xwld aX (yDA Γ) m 0 lay_X) (wb := T) (st := []) (av := [.inl z1]) (b := 0) (layY := lay_M) C aM dL_law_1196 (xin_51 _ (List.mem_of_getElem? (i := 8) rfl)) xy_X11_pass xi_X11_pass xs_X11_pass (by omega) (by decide) rfl ⟨_, _, rfl⟩ rfl (Nat.le_of_ble_eq_true rfl) q2 (by omega) (by omega) hS.2 rfl ?_
    refine y_istorew C dL_law_1199 (by omega) rfl ?_
    refine y_aload C 4 dL_law_1201 rfl rfl ?_
    refine y_callXr (wa := lwo (yDA Γ) o g :: xwld aX (yDA Γ) m 0 lay_X) (wb := T) (st := []) (av := []) (b := 0) (layY := lay_M) C aM dL_law_1202 (xin_23 _ (List.mem_of_getElem? (i := 19) rfl)) xy_X11_thrown xi_X11_thrown xs_X11_thrown (by omega) (by decide) rfl ⟨_, _, rfl⟩ rfl (Nat.le_of_ble_eq_true rfl) (c_m_thrown _ _ 1 (by unfold f_m_thrown; rw [q3])) (by omega) (by omega) hS.2 rfl ?_
    refine y_iloadw C 1 dL_law_1205 rfl ?_
    refine y_icmpeq C 1212 dL_law_1207 (by decide) (by decide) ?_
    refine y_iloadw C 1 dL_law_1212 rfl ?_
    refine y_ifne1 C 1229 dL_law_1214 (by decide) (by decide) ?_
    refine y_goto C 1638 dL_law_1229 (by decide) ?_
    refine y_sub [2, 3, 4, 5, 6] rfl ?_
    exact Gk _ _ _ ⟨m, M1, _, T, G, q4, hT, rfl⟩ (by omega) (by omega)
set_option maxRecDepth 100000 in
set_option maxHeartbeats 8000000 in
theorem lc_19 {Γ : yG} {b Ln : Nat} {xs : Nat → Int32} (C : yC Γ RL cL_law 9 100 601024 7293034) (Z : lC Γ b Ln xs) (hst : Γ.1.2.1.stackTraces = false) {aX aM : Nat → Nat} (hS : lS Γ aX aM) (o i : Nat) (hi : i + 6 ≤ Ln) {ws : va_W} {k n : Nat} (hk : k + 4 ≤ 601024) (hn : n + 200 ≤ 7293034) (hI : lI (yDA Γ) aX aM o ws) (Gk : ∀ (ws' : va_W) (k' n' : Nat), lI (yDA Γ) aX aM o ws' → k' ≤ k + 4 → n' ≤ n + 200 → yW Γ 9 1638 (lL b aX aM o i) [] ws' k' n') : yW Γ 9 1232 (lL b aX aM o i) [] ws k n := by
  obtain ⟨m, M, g, T, G, hX, hT, rfl⟩ := hI
  obtain ⟨r, m1, M1, q1, q2, q3, q4⟩ := ls_dial _ hst  m M hX
  refine y_aload C 1 dL_law_1232 rfl rfl ?_
  refine y_callXm (wa := [lwo (yDA Γ) o g]) (wb := T ++ xwld aM (yDA Γ) M 0 lay_M) (st := []) (av := []) (b := 0) (layY := lay_X) (m := m) C aX dL_law_1233 (xin_51 _ (List.mem_of_getElem? (i := 17) rfl)) xy_X10_dial xi_X10_dial xs_X10_dial (by omega) (by decide) rfl ⟨_, _, rfl⟩ rfl (Nat.le_of_ble_eq_true rfl) q1 (by omega) (by omega) hS.1 rfl ?_
  refine y_aload C 2 dL_law_1236 rfl rfl ?_
  refine y_callXr (wa := lwo (yDA Γ) o g :: xwld aX (yDA Γ) m1 0 lay_X) (wb := T) (st := [.int (Int32.ofInt r)]) (av := []) (b := 0) (layY := lay_M) C aM dL_law_1237 (xin_52 _ (List.mem_of_getElem? (i := 6) rfl)) xy_X11_dial xi_X11_dial xs_X11_dial (by omega) (by decide) rfl ⟨_, _, rfl⟩ rfl (Nat.le_of_ble_eq_true rfl) q2 (by omega) (by omega) hS.2 rfl ?_
  refine y_icmpeq C 1638 dL_law_1240 (by decide) rfl ?_
  exact Gk _ _ _ ⟨m1, M1, g, T, G, q4, hT, rfl⟩ (by omega) (by omega)

/-! ===== queries of the class ===== -/
theorem xy_X5_readFactor : xY yX5_readFactor cX5_readFactor 5 (some .long) 1 := ⟨(xin_67 _ (List.mem_of_getElem? (i := 8) rfl)), (xin_2 _ (List.mem_of_getElem? (i := 14) rfl)), by decide, by decide, by decide +kernel⟩
theorem xi_X5_readFactor : Cond.instanceMethod yX5_readFactor ∈ wsL_law := (xin_67 _ (List.mem_of_getElem? (i := 6) rfl))
theorem xs_X5_readFactor : Cond.selects yX5_readFactor.cls yX5_readFactor yX5_readFactor ∈ wsL_law := (xin_67 _ (List.mem_of_getElem? (i := 7) rfl))
theorem dX5_readConjunction_0 : decode cX5_readConjunction 0 = .ok (.aload_n 0, 1) := by decide +kernel
theorem dX5_readConjunction_1 : decode cX5_readConjunction 1 = .ok (.iload_n 1, 1) := by decide +kernel
theorem dX5_readConjunction_2 : decode cX5_readConjunction 2 = .ok (.invokevirtual 58, 3) := by decide +kernel
theorem dX5_readConjunction_5 : decode cX5_readConjunction 5 = .ok (.lstore_n 2, 1) := by decide +kernel
theorem dX5_readConjunction_6 : decode cX5_readConjunction 6 = .ok (.iconst 0, 1) := by decide +kernel
theorem dX5_readConjunction_7 : decode cX5_readConjunction 7 = .ok (.istore 4, 2) := by decide +kernel
theorem dX5_readConjunction_9 : decode cX5_readConjunction 9 = .ok (.iload 4, 2) := by decide +kernel
theorem dX5_readConjunction_11 : decode cX5_readConjunction 11 = .ok (.sipush 200, 3) := by decide +kernel
theorem dX5_readConjunction_14 : decode cX5_readConjunction 14 = .ok (.if_icmp .ge 36, 3) := by decide +kernel
theorem dX5_readConjunction_17 : decode cX5_readConjunction 17 = .ok (.aload_n 0, 1) := by decide +kernel
theorem dX5_readConjunction_18 : decode cX5_readConjunction 18 = .ok (.getfield 9, 3) := by decide +kernel
theorem dX5_readConjunction_21 : decode cX5_readConjunction 21 = .ok (.ldc 61, 2) := by decide +kernel
theorem dX5_readConjunction_23 : decode cX5_readConjunction 23 = .ok (.invokevirtual 21, 3) := by decide +kernel
theorem dX5_readConjunction_26 : decode cX5_readConjunction 26 = .ok (.ifCond .eq 24, 3) := by decide +kernel
theorem dX5_readConjunction_29 : decode cX5_readConjunction 29 = .ok (.aload_n 0, 1) := by decide +kernel
theorem dX5_readConjunction_30 : decode cX5_readConjunction 30 = .ok (.getfield 9, 3) := by decide +kernel
theorem dX5_readConjunction_33 : decode cX5_readConjunction 33 = .ok (.invokevirtual 33, 3) := by decide +kernel
theorem dX5_readConjunction_36 : decode cX5_readConjunction 36 = .ok (.lload_n 2, 1) := by decide +kernel
theorem dX5_readConjunction_37 : decode cX5_readConjunction 37 = .ok (.aload_n 0, 1) := by decide +kernel
theorem dX5_readConjunction_38 : decode cX5_readConjunction 38 = .ok (.iload_n 1, 1) := by decide +kernel
theorem dX5_readConjunction_39 : decode cX5_readConjunction 39 = .ok (.invokevirtual 58, 3) := by decide +kernel
theorem dX5_readConjunction_42 : decode cX5_readConjunction 42 = .ok (.land, 1) := by decide +kernel
theorem dX5_readConjunction_43 : decode cX5_readConjunction 43 = .ok (.lstore_n 2, 1) := by decide +kernel
theorem dX5_readConjunction_44 : decode cX5_readConjunction 44 = .ok (.iinc 4 1, 3) := by decide +kernel
theorem dX5_readConjunction_47 : decode cX5_readConjunction 47 = .ok (.goto (-38), 3) := by decide +kernel
theorem dX5_readConjunction_50 : decode cX5_readConjunction 50 = .ok (.lload_n 2, 1) := by decide +kernel
theorem dX5_readConjunction_51 : decode cX5_readConjunction 51 = .ok (.lreturn, 1) := by decide +kernel
def f_Q_conj_50 (FF : Int → xM → Option (Int × xM)) (o : Int) (x2 : Int) (m : xM) : Option (Int × xM) :=
     some (x2, m)
set_option maxRecDepth 1000000 in
set_option maxHeartbeats 4000000 in
theorem t_Q_conj_50 {Γ : xG} {d dF : Nat} (hd9 : (dF + 5) ≤ d) (C : xC Γ lay_Q RX5 cX5_readConjunction 5 d) (FF : Int → xM → Option (Int × xM)) (o : Int) (hFF : ∀ (o : Int) (m : xM) (r : Int) (m9 : xM), FF o m = some (r, m9) → xMet Γ.1.2.1 yX5_readFactor cX5_readFactor 5 (some .long) dF lay_Q [.inr (.inr (some 0)), .inl o] m (some (.inr (.inl r))) m9) {r : Int} {m9 : xM} (hR : xRl Γ lay_Q cX5_readConjunction r m9) (x2 : Int) (m : xM) (h : f_Q_conj_50 FF o x2 m = some (r, m9)) : xW Γ lay_Q 5 50 [(2, .inr (.inl x2))] [] m := by
  unfold f_Q_conj_50 at h
  refine x_lload_n C dX5_readConjunction_50 rfl ?_
  exact x_lreturn hR dX5_readConjunction_51 h
def f_Q_conj_9 (FF : Int → xM → Option (Int × xM)) (o : Int) : Nat → Int → Int → xM → Option (Int × xM)
  | 0, _, _, _ => none
  | n + 1, x2, x4, m =>
     (if xw x4 < xw 200 then (Option.bind (f_T_isWord 8 (xvw [1, 2] m)) fun q1 =>
      (if xw q1 = 0 then f_Q_conj_50 FF o x2 m
      else (Option.bind (f_T_next (xvw [1, 2] m)) fun q2 =>
      (Option.bind (FF o (xmg [1, 2] 2 m q2)) fun q3 =>
      f_Q_conj_9 FF o n (xland x2 q3.1) (x4 + 1) q3.2))))
      else f_Q_conj_50 FF o x2 m)
set_option maxRecDepth 1000000 in
set_option maxHeartbeats 4000000 in
theorem t_Q_conj_9 {Γ : xG} {d dF : Nat} (hd9 : (dF + 5) ≤ d) (C : xC Γ lay_Q RX5 cX5_readConjunction 5 d) (FF : Int → xM → Option (Int × xM)) (o : Int) (hFF : ∀ (o : Int) (m : xM) (r : Int) (m9 : xM), FF o m = some (r, m9) → xMet Γ.1.2.1 yX5_readFactor cX5_readFactor 5 (some .long) dF lay_Q [.inr (.inr (some 0)), .inl o] m (some (.inr (.inl r))) m9) {r : Int} {m9 : xM} (hR : xRl Γ lay_Q cX5_readConjunction r m9) : ∀ (n : Nat) (x2 : Int) (x4 : Int) (m : xM), f_Q_conj_9 FF o n x2 x4 m = some (r, m9) → xW Γ lay_Q 5 9 [(0, .inr (.inr (some 0))), (1, .inl o), (2, .inr (.inl x2)), (4, .inl x4)] [] m := by
  intro n
  induction n with
  | zero => intro _ _ _ h; cases h
  | succ n ih =>
    intro x2 x4 m h
    rw [f_Q_conj_9] at h
    refine x_iload C dX5_readConjunction_9 rfl ?_
    refine x_sipush C dX5_readConjunction_11 (by decide) ?_
    refine x_icmp_ge C 50 dX5_readConjunction_14 (by decide) h (fun h => ?_) (fun h => ?_)
    · refine x_loc [(2, .inr (.inl x2))] ⟨rfl, trivial⟩ ?_
      exact t_Q_conj_50 hd9 C _ _ hFF hR _ _ h
    · refine x_aload_n C dX5_readConjunction_17 rfl ?_
      refine x_getR C dX5_readConjunction_18 fF_X5_9 rfl rfl ?_
      refine x_ldcS C "and" 8 dX5_readConjunction_21 (List.mem_of_getElem? (i := 22) rfl) ?_
      obtain ⟨q1, hq1, h⟩ := x_bind h
      refine x_callVp C dX5_readConjunction_23 (xin_66 _ (List.mem_of_getElem? (i := 18) rfl)) xy_X8_isWord (xi_X8_isWord) (xs_X8_isWord) [1, 2] xv_47 (by omega) (by decide) (b := 0) rfl ⟨_, _, rfl⟩ (av := [.inr (.inr (some 1008))]) rfl (Nat.le_of_ble_eq_true rfl) (c_T_isWord _ 8 (by decide) _ _ hq1) rfl ?_
      refine x_if_eq C 50 dX5_readConjunction_26 (by decide) h (fun h => ?_) (fun h => ?_)
      · refine x_loc [(2, .inr (.inl x2))] ⟨rfl, trivial⟩ ?_
        exact t_Q_conj_50 hd9 C _ _ hFF hR _ _ h
      · refine x_aload_n C dX5_readConjunction_29 rfl ?_
        refine x_getR C dX5_readConjunction_30 fF_X5_9 rfl rfl ?_
        obtain ⟨q2, hq2, h⟩ := x_bind h
        refine x_callV C dX5_readConjunction_33 (xin_66 _ (List.mem_of_getElem? (i := 20) rfl)) xy_X8_next (xi_X8_next) (xs_X8_next) [1, 2] xv_47 (by omega) (by decide) (b := 0) rfl ⟨_, _, rfl⟩ (av := []) rfl (Nat.le_of_ble_eq_true rfl) (c_T_next _ _ _ hq2) rfl ?_
        refine x_lload_n C dX5_readConjunction_36 rfl ?_
        refine x_aload_n C dX5_readConjunction_37 rfl ?_
        refine x_iload_n C dX5_readConjunction_38 rfl ?_
        obtain ⟨q3, hq3, h⟩ := x_bind h
        refine x_callVI C dX5_readConjunction_39 (xin_67 _ (List.mem_of_getElem? (i := 5) rfl)) xy_X5_readFactor (xi_X5_readFactor) (xs_X5_readFactor) (by omega) (by decide) (b := 0) rfl ⟨_, _, rfl⟩ (av := [.inl o]) rfl (Nat.le_of_ble_eq_true rfl) (hFF _ _ q3.1 q3.2 hq3) rfl ?_
        refine x_land C dX5_readConjunction_42 ?_
        refine x_lstore_n C dX5_readConjunction_43 (by decide) ?_
        refine x_iinc C dX5_readConjunction_44 (by decide) rfl ?_
        refine x_goto C 9 dX5_readConjunction_47 (by decide) ?_
        refine x_loc [(0, .inr (.inr (some 0))), (1, .inl o), (2, .inr (.inl (xland x2 q3.1))), (4, .inl (x4 + 1))] ⟨rfl, rfl, rfl, rfl, trivial⟩ ?_
        exact ih _ _ _ h
def f_Q_conj (FF : Int → xM → Option (Int × xM)) (o : Int) (m : xM) : Option (Int × xM) :=
     (Option.bind (FF o m) fun q0 =>
      f_Q_conj_9 FF o fu q0.1 0 q0.2)
set_option maxRecDepth 1000000 in
set_option maxHeartbeats 4000000 in
theorem t_Q_conj {Γ : xG} {d dF : Nat} (hd9 : (dF + 5) ≤ d) (C : xC Γ lay_Q RX5 cX5_readConjunction 5 d) (FF : Int → xM → Option (Int × xM)) (o : Int) (hFF : ∀ (o : Int) (m : xM) (r : Int) (m9 : xM), FF o m = some (r, m9) → xMet Γ.1.2.1 yX5_readFactor cX5_readFactor 5 (some .long) dF lay_Q [.inr (.inr (some 0)), .inl o] m (some (.inr (.inl r))) m9) {r : Int} {m9 : xM} (hR : xRl Γ lay_Q cX5_readConjunction r m9) (m : xM) (h : f_Q_conj FF o m = some (r, m9)) : xW Γ lay_Q 5 0 [(0, .inr (.inr (some 0))), (1, .inl o)] [] m := by
  unfold f_Q_conj at h
  refine x_aload_n C dX5_readConjunction_0 rfl ?_
  refine x_iload_n C dX5_readConjunction_1 rfl ?_
  obtain ⟨q0, hq0, h⟩ := x_bind h
  refine x_callVI C dX5_readConjunction_2 (xin_67 _ (List.mem_of_getElem? (i := 5) rfl)) xy_X5_readFactor (xi_X5_readFactor) (xs_X5_readFactor) (by omega) (by decide) (b := 0) rfl ⟨_, _, rfl⟩ (av := [.inl o]) rfl (Nat.le_of_ble_eq_true rfl) (hFF _ _ q0.1 q0.2 hq0) rfl ?_
  refine x_lstore_n C dX5_readConjunction_5 (by decide) ?_
  refine x_iconst C dX5_readConjunction_6 ?_
  refine x_istore C dX5_readConjunction_7 (by decide) ?_
  refine x_loc [(0, .inr (.inr (some 0))), (1, .inl o), (2, .inr (.inl q0.1)), (4, .inl 0)] ⟨rfl, rfl, rfl, rfl, trivial⟩ ?_
  exact t_Q_conj_9 hd9 C _ _ hFF hR fu _ _ _ h
theorem c_Q_conj (l : Launch) (FF : Int → xM → Option (Int × xM)) (o : Int) {dF : Nat} (hFF : ∀ (o : Int) (m : xM) (r : Int) (m9 : xM), FF o m = some (r, m9) → xMet l yX5_readFactor cX5_readFactor 5 (some .long) dF lay_Q [.inr (.inr (some 0)), .inl o] m (some (.inr (.inl r))) m9) (m : xM) (r : Int) (m9 : xM) (h : f_Q_conj FF o m = some (r, m9)) : xMet l yX5_readConjunction cX5_readConjunction 5 (some .long) (dF + 5) lay_Q [.inr (.inr (some 0)), .inl o] m (some (.inr (.inl r))) m9 :=
  xMet_l (by decide +kernel) (Nat.le_of_ble_eq_true rfl) (fun Γ C hR hl9 => t_Q_conj (Nat.le_refl _) C FF o (by subst hl9; exact hFF) hR m h)
theorem xy_X5_readConjunction : xY yX5_readConjunction cX5_readConjunction 5 (some .long) 1 := ⟨(xin_67 _ (List.mem_of_getElem? (i := 4) rfl)), (xin_2 _ (List.mem_of_getElem? (i := 14) rfl)), by decide, by decide, by decide +kernel⟩
theorem xi_X5_readConjunction : Cond.instanceMethod yX5_readConjunction ∈ wsL_law := (xin_67 _ (List.mem_of_getElem? (i := 2) rfl))
theorem xs_X5_readConjunction : Cond.selects yX5_readConjunction.cls yX5_readConjunction yX5_readConjunction ∈ wsL_law := (xin_67 _ (List.mem_of_getElem? (i := 3) rfl))
theorem dX5_readTest_0 : decode cX5_readTest 0 = .ok (.aload_n 0, 1) := by decide +kernel
theorem dX5_readTest_1 : decode cX5_readTest 1 = .ok (.iload_n 1, 1) := by decide +kernel
theorem dX5_readTest_2 : decode cX5_readTest 2 = .ok (.invokevirtual 53, 3) := by decide +kernel
theorem dX5_readTest_5 : decode cX5_readTest 5 = .ok (.lstore_n 2, 1) := by decide +kernel
theorem dX5_readTest_6 : decode cX5_readTest 6 = .ok (.iconst 0, 1) := by decide +kernel
theorem dX5_readTest_7 : decode cX5_readTest 7 = .ok (.istore 4, 2) := by decide +kernel
theorem dX5_readTest_9 : decode cX5_readTest 9 = .ok (.iload 4, 2) := by decide +kernel
theorem dX5_readTest_11 : decode cX5_readTest 11 = .ok (.sipush 200, 3) := by decide +kernel
theorem dX5_readTest_14 : decode cX5_readTest 14 = .ok (.if_icmp .ge 36, 3) := by decide +kernel
theorem dX5_readTest_17 : decode cX5_readTest 17 = .ok (.aload_n 0, 1) := by decide +kernel
theorem dX5_readTest_18 : decode cX5_readTest 18 = .ok (.getfield 9, 3) := by decide +kernel
theorem dX5_readTest_21 : decode cX5_readTest 21 = .ok (.ldc 56, 2) := by decide +kernel
theorem dX5_readTest_23 : decode cX5_readTest 23 = .ok (.invokevirtual 21, 3) := by decide +kernel
theorem dX5_readTest_26 : decode cX5_readTest 26 = .ok (.ifCond .eq 24, 3) := by decide +kernel
theorem dX5_readTest_29 : decode cX5_readTest 29 = .ok (.aload_n 0, 1) := by decide +kernel
theorem dX5_readTest_30 : decode cX5_readTest 30 = .ok (.getfield 9, 3) := by decide +kernel
theorem dX5_readTest_33 : decode cX5_readTest 33 = .ok (.invokevirtual 33, 3) := by decide +kernel
theorem dX5_readTest_36 : decode cX5_readTest 36 = .ok (.lload_n 2, 1) := by decide +kernel
theorem dX5_readTest_37 : decode cX5_readTest 37 = .ok (.aload_n 0, 1) := by decide +kernel
theorem dX5_readTest_38 : decode cX5_readTest 38 = .ok (.iload_n 1, 1) := by decide +kernel
theorem dX5_readTest_39 : decode cX5_readTest 39 = .ok (.invokevirtual 53, 3) := by decide +kernel
theorem dX5_readTest_42 : decode cX5_readTest 42 = .ok (.lor, 1) := by decide +kernel
theorem dX5_readTest_43 : decode cX5_readTest 43 = .ok (.lstore_n 2, 1) := by decide +kernel
theorem dX5_readTest_44 : decode cX5_readTest 44 = .ok (.iinc 4 1, 3) := by decide +kernel
theorem dX5_readTest_47 : decode cX5_readTest 47 = .ok (.goto (-38), 3) := by decide +kernel
theorem dX5_readTest_50 : decode cX5_readTest 50 = .ok (.lload_n 2, 1) := by decide +kernel
theorem dX5_readTest_51 : decode cX5_readTest 51 = .ok (.lreturn, 1) := by decide +kernel
def f_Q_test_50 (FF : Int → xM → Option (Int × xM)) (o : Int) (x2 : Int) (m : xM) : Option (Int × xM) :=
     some (x2, m)
set_option maxRecDepth 1000000 in
set_option maxHeartbeats 4000000 in
theorem t_Q_test_50 {Γ : xG} {d dF : Nat} (hd9 : (dF + 6) ≤ d) (C : xC Γ lay_Q RX5 cX5_readTest 5 d) (FF : Int → xM → Option (Int × xM)) (o : Int) (hFF : ∀ (o : Int) (m : xM) (r : Int) (m9 : xM), FF o m = some (r, m9) → xMet Γ.1.2.1 yX5_readFactor cX5_readFactor 5 (some .long) dF lay_Q [.inr (.inr (some 0)), .inl o] m (some (.inr (.inl r))) m9) {r : Int} {m9 : xM} (hR : xRl Γ lay_Q cX5_readTest r m9) (x2 : Int) (m : xM) (h : f_Q_test_50 FF o x2 m = some (r, m9)) : xW Γ lay_Q 5 50 [(2, .inr (.inl x2))] [] m := by
  unfold f_Q_test_50 at h
  refine x_lload_n C dX5_readTest_50 rfl ?_
  exact x_lreturn hR dX5_readTest_51 h
def f_Q_test_9 (FF : Int → xM → Option (Int × xM)) (o : Int) : Nat → Int → Int → xM → Option (Int × xM)
  | 0, _, _, _ => none
  | n + 1, x2, x4, m =>
     (if xw x4 < xw 200 then (Option.bind (f_T_isWord 7 (xvw [1, 2] m)) fun q1 =>
      (if xw q1 = 0 then f_Q_test_50 FF o x2 m
      else (Option.bind (f_T_next (xvw [1, 2] m)) fun q2 =>
      (Option.bind (f_Q_conj FF o (xmg [1, 2] 2 m q2)) fun q3 =>
      f_Q_test_9 FF o n (xlor x2 q3.1) (x4 + 1) q3.2))))
      else f_Q_test_50 FF o x2 m)
set_option maxRecDepth 1000000 in
set_option maxHeartbeats 4000000 in
theorem t_Q_test_9 {Γ : xG} {d dF : Nat} (hd9 : (dF + 6) ≤ d) (C : xC Γ lay_Q RX5 cX5_readTest 5 d) (FF : Int → xM → Option (Int × xM)) (o : Int) (hFF : ∀ (o : Int) (m : xM) (r : Int) (m9 : xM), FF o m = some (r, m9) → xMet Γ.1.2.1 yX5_readFactor cX5_readFactor 5 (some .long) dF lay_Q [.inr (.inr (some 0)), .inl o] m (some (.inr (.inl r))) m9) {r : Int} {m9 : xM} (hR : xRl Γ lay_Q cX5_readTest r m9) : ∀ (n : Nat) (x2 : Int) (x4 : Int) (m : xM), f_Q_test_9 FF o n x2 x4 m = some (r, m9) → xW Γ lay_Q 5 9 [(0, .inr (.inr (some 0))), (1, .inl o), (2, .inr (.inl x2)), (4, .inl x4)] [] m := by
  intro n
  induction n with
  | zero => intro _ _ _ h; cases h
  | succ n ih =>
    intro x2 x4 m h
    rw [f_Q_test_9] at h
    refine x_iload C dX5_readTest_9 rfl ?_
    refine x_sipush C dX5_readTest_11 (by decide) ?_
    refine x_icmp_ge C 50 dX5_readTest_14 (by decide) h (fun h => ?_) (fun h => ?_)
    · refine x_loc [(2, .inr (.inl x2))] ⟨rfl, trivial⟩ ?_
      exact t_Q_test_50 hd9 C _ _ hFF hR _ _ h
    · refine x_aload_n C dX5_readTest_17 rfl ?_
      refine x_getR C dX5_readTest_18 fF_X5_9 rfl rfl ?_
      refine x_ldcS C "or" 7 dX5_readTest_21 (List.mem_of_getElem? (i := 23) rfl) ?_
      obtain ⟨q1, hq1, h⟩ := x_bind h
      refine x_callVp C dX5_readTest_23 (xin_66 _ (List.mem_of_getElem? (i := 18) rfl)) xy_X8_isWord (xi_X8_isWord) (xs_X8_isWord) [1, 2] xv_47 (by omega) (by decide) (b := 0) rfl ⟨_, _, rfl⟩ (av := [.inr (.inr (some 1007))]) rfl (Nat.le_of_ble_eq_true rfl) (c_T_isWord _ 7 (by decide) _ _ hq1) rfl ?_
      refine x_if_eq C 50 dX5_readTest_26 (by decide) h (fun h => ?_) (fun h => ?_)
      · refine x_loc [(2, .inr (.inl x2))] ⟨rfl, trivial⟩ ?_
        exact t_Q_test_50 hd9 C _ _ hFF hR _ _ h
      · refine x_aload_n C dX5_readTest_29 rfl ?_
        refine x_getR C dX5_readTest_30 fF_X5_9 rfl rfl ?_
        obtain ⟨q2, hq2, h⟩ := x_bind h
        refine x_callV C dX5_readTest_33 (xin_66 _ (List.mem_of_getElem? (i := 20) rfl)) xy_X8_next (xi_X8_next) (xs_X8_next) [1, 2] xv_47 (by omega) (by decide) (b := 0) rfl ⟨_, _, rfl⟩ (av := []) rfl (Nat.le_of_ble_eq_true rfl) (c_T_next _ _ _ hq2) rfl ?_
        refine x_lload_n C dX5_readTest_36 rfl ?_
        refine x_aload_n C dX5_readTest_37 rfl ?_
        refine x_iload_n C dX5_readTest_38 rfl ?_
        obtain ⟨q3, hq3, h⟩ := x_bind h
        refine x_callVI C dX5_readTest_39 (xin_67 _ (List.mem_of_getElem? (i := 1) rfl)) xy_X5_readConjunction (xi_X5_readConjunction) (xs_X5_readConjunction) (by omega) (by decide) (b := 0) rfl ⟨_, _, rfl⟩ (av := [.inl o]) rfl (Nat.le_of_ble_eq_true rfl) (c_Q_conj _ FF _ hFF _ q3.1 q3.2 hq3) rfl ?_
        refine x_lor C dX5_readTest_42 ?_
        refine x_lstore_n C dX5_readTest_43 (by decide) ?_
        refine x_iinc C dX5_readTest_44 (by decide) rfl ?_
        refine x_goto C 9 dX5_readTest_47 (by decide) ?_
        refine x_loc [(0, .inr (.inr (some 0))), (1, .inl o), (2, .inr (.inl (xlor x2 q3.1))), (4, .inl (x4 + 1))] ⟨rfl, rfl, rfl, rfl, trivial⟩ ?_
        exact ih _ _ _ h
def f_Q_test (FF : Int → xM → Option (Int × xM)) (o : Int) (m : xM) : Option (Int × xM) :=
     (Option.bind (f_Q_conj FF o m) fun q0 =>
      f_Q_test_9 FF o fu q0.1 0 q0.2)
set_option maxRecDepth 1000000 in
set_option maxHeartbeats 4000000 in
theorem t_Q_test {Γ : xG} {d dF : Nat} (hd9 : (dF + 6) ≤ d) (C : xC Γ lay_Q RX5 cX5_readTest 5 d) (FF : Int → xM → Option (Int × xM)) (o : Int) (hFF : ∀ (o : Int) (m : xM) (r : Int) (m9 : xM), FF o m = some (r, m9) → xMet Γ.1.2.1 yX5_readFactor cX5_readFactor 5 (some .long) dF lay_Q [.inr (.inr (some 0)), .inl o] m (some (.inr (.inl r))) m9) {r : Int} {m9 : xM} (hR : xRl Γ lay_Q cX5_readTest r m9) (m : xM) (h : f_Q_test FF o m = some (r, m9)) : xW Γ lay_Q 5 0 [(0, .inr (.inr (some 0))), (1, .inl o)] [] m := by
  unfold f_Q_test at h
  refine x_aload_n C dX5_readTest_0 rfl ?_
  refine x_iload_n C dX5_readTest_1 rfl ?_
  obtain ⟨q0, hq0, h⟩ := x_bind h
  refine x_callVI C dX5_readTest_2 (xin_67 _ (List.mem_of_getElem? (i := 1) rfl)) xy_X5_readConjunction (xi_X5_readConjunction) (xs_X5_readConjunction) (by omega) (by decide) (b := 0) rfl ⟨_, _, rfl⟩ (av := [.inl o]) rfl (Nat.le_of_ble_eq_true rfl) (c_Q_conj _ FF _ hFF _ q0.1 q0.2 hq0) rfl ?_
  refine x_lstore_n C dX5_readTest_5 (by decide) ?_
  refine x_iconst C dX5_readTest_6 ?_
  refine x_istore C dX5_readTest_7 (by decide) ?_
  refine x_loc [(0, .inr (.inr (some 0))), (1, .inl o), (2, .inr (.inl q0.1)), (4, .inl 0)] ⟨rfl, rfl, rfl, rfl, trivial⟩ ?_
  exact t_Q_test_9 hd9 C _ _ hFF hR fu _ _ _ h
theorem c_Q_test (l : Launch) (FF : Int → xM → Option (Int × xM)) (o : Int) {dF : Nat} (hFF : ∀ (o : Int) (m : xM) (r : Int) (m9 : xM), FF o m = some (r, m9) → xMet l yX5_readFactor cX5_readFactor 5 (some .long) dF lay_Q [.inr (.inr (some 0)), .inl o] m (some (.inr (.inl r))) m9) (m : xM) (r : Int) (m9 : xM) (h : f_Q_test FF o m = some (r, m9)) : xMet l yX5_readTest cX5_readTest 5 (some .long) (dF + 6) lay_Q [.inr (.inr (some 0)), .inl o] m (some (.inr (.inl r))) m9 :=
  xMet_l (by decide +kernel) (Nat.le_of_ble_eq_true rfl) (fun Γ C hR hl9 => t_Q_test (Nat.le_refl _) C FF o (by subst hl9; exact hFF) hR m h)
theorem xy_X5_readTest : xY yX5_readTest cX5_readTest 5 (some .long) 1 := ⟨(xin_67 _ (List.mem_of_getElem? (i := 0) rfl)), (xin_2 _ (List.mem_of_getElem? (i := 14) rfl)), by decide, by decide, by decide +kernel⟩
theorem xi_X5_readTest : Cond.instanceMethod yX5_readTest ∈ wsL_law := (xin_66 _ (List.mem_of_getElem? (i := 22) rfl))
theorem xs_X5_readTest : Cond.selects yX5_readTest.cls yX5_readTest yX5_readTest ∈ wsL_law := (xin_66 _ (List.mem_of_getElem? (i := 23) rfl))
theorem xy_X5_readComparison : xY yX5_readComparison cX5_readComparison 9 (some .long) 0 := ⟨(xin_67 _ (List.mem_of_getElem? (i := 15) rfl)), (xin_2 _ (List.mem_of_getElem? (i := 14) rfl)), by decide, by decide, by decide +kernel⟩
theorem xi_X5_readComparison : Cond.instanceMethod yX5_readComparison ∈ wsL_law := (xin_67 _ (List.mem_of_getElem? (i := 13) rfl))
theorem xs_X5_readComparison : Cond.selects yX5_readComparison.cls yX5_readComparison yX5_readComparison ∈ wsL_law := (xin_67 _ (List.mem_of_getElem? (i := 14) rfl))
theorem dX5_readFactor_0 : decode cX5_readFactor 0 = .ok (.aload_n 0, 1) := by decide +kernel
theorem dX5_readFactor_1 : decode cX5_readFactor 1 = .ok (.getfield 9, 3) := by decide +kernel
theorem dX5_readFactor_4 : decode cX5_readFactor 4 = .ok (.ldc 63, 2) := by decide +kernel
theorem dX5_readFactor_6 : decode cX5_readFactor 6 = .ok (.invokevirtual 21, 3) := by decide +kernel
theorem dX5_readFactor_9 : decode cX5_readFactor 9 = .ok (.istore_n 2, 1) := by decide +kernel
theorem dX5_readFactor_10 : decode cX5_readFactor 10 = .ok (.iload_n 2, 1) := by decide +kernel
theorem dX5_readFactor_11 : decode cX5_readFactor 11 = .ok (.ifCond .ne 20, 3) := by decide +kernel
theorem dX5_readFactor_14 : decode cX5_readFactor 14 = .ok (.aload_n 0, 1) := by decide +kernel
theorem dX5_readFactor_15 : decode cX5_readFactor 15 = .ok (.getfield 9, 3) := by decide +kernel
theorem dX5_readFactor_18 : decode cX5_readFactor 18 = .ok (.bipush 40, 2) := by decide +kernel
theorem dX5_readFactor_20 : decode cX5_readFactor 20 = .ok (.invokevirtual 65, 3) := by decide +kernel
theorem dX5_readFactor_23 : decode cX5_readFactor 23 = .ok (.ifCond .ne 8, 3) := by decide +kernel
theorem dX5_readFactor_26 : decode cX5_readFactor 26 = .ok (.aload_n 0, 1) := by decide +kernel
theorem dX5_readFactor_27 : decode cX5_readFactor 27 = .ok (.invokevirtual 69, 3) := by decide +kernel
theorem dX5_readFactor_30 : decode cX5_readFactor 30 = .ok (.lreturn, 1) := by decide +kernel
theorem dX5_readFactor_31 : decode cX5_readFactor 31 = .ok (.iload_n 1, 1) := by decide +kernel
theorem dX5_readFactor_32 : decode cX5_readFactor 32 = .ok (.bipush 6, 2) := by decide +kernel
theorem dX5_readFactor_34 : decode cX5_readFactor 34 = .ok (.if_icmp .lt 14, 3) := by decide +kernel
theorem dX5_readFactor_37 : decode cX5_readFactor 37 = .ok (.aload_n 0, 1) := by decide +kernel
theorem dX5_readFactor_38 : decode cX5_readFactor 38 = .ok (.getfield 9, 3) := by decide +kernel
theorem dX5_readFactor_41 : decode cX5_readFactor 41 = .ok (.iconst 3, 1) := by decide +kernel
theorem dX5_readFactor_42 : decode cX5_readFactor 42 = .ok (.invokevirtual 29, 3) := by decide +kernel
theorem dX5_readFactor_45 : decode cX5_readFactor 45 = .ok (.pop, 1) := by decide +kernel
theorem dX5_readFactor_46 : decode cX5_readFactor 46 = .ok (.lconst 0, 1) := by decide +kernel
theorem dX5_readFactor_47 : decode cX5_readFactor 47 = .ok (.lreturn, 1) := by decide +kernel
theorem dX5_readFactor_48 : decode cX5_readFactor 48 = .ok (.aload_n 0, 1) := by decide +kernel
theorem dX5_readFactor_49 : decode cX5_readFactor 49 = .ok (.getfield 9, 3) := by decide +kernel
theorem dX5_readFactor_52 : decode cX5_readFactor 52 = .ok (.invokevirtual 33, 3) := by decide +kernel
theorem dX5_readFactor_55 : decode cX5_readFactor 55 = .ok (.iload_n 2, 1) := by decide +kernel
theorem dX5_readFactor_56 : decode cX5_readFactor 56 = .ok (.ifCond .eq 27, 3) := by decide +kernel
theorem dX5_readFactor_59 : decode cX5_readFactor 59 = .ok (.aload_n 0, 1) := by decide +kernel
theorem dX5_readFactor_60 : decode cX5_readFactor 60 = .ok (.iload_n 1, 1) := by decide +kernel
theorem dX5_readFactor_61 : decode cX5_readFactor 61 = .ok (.iconst 1, 1) := by decide +kernel
theorem dX5_readFactor_62 : decode cX5_readFactor 62 = .ok (.iadd, 1) := by decide +kernel
theorem dX5_readFactor_63 : decode cX5_readFactor 63 = .ok (.invokevirtual 58, 3) := by decide +kernel
theorem dX5_readFactor_66 : decode cX5_readFactor 66 = .ok (.ldc2_w 73, 3) := by decide +kernel
theorem dX5_readFactor_69 : decode cX5_readFactor 69 = .ok (.lxor, 1) := by decide +kernel
theorem dX5_readFactor_70 : decode cX5_readFactor 70 = .ok (.lconst 1, 1) := by decide +kernel
theorem dX5_readFactor_71 : decode cX5_readFactor 71 = .ok (.aload_n 0, 1) := by decide +kernel
theorem dX5_readFactor_72 : decode cX5_readFactor 72 = .ok (.getfield 15, 3) := by decide +kernel
theorem dX5_readFactor_75 : decode cX5_readFactor 75 = .ok (.getfield 75, 3) := by decide +kernel
theorem dX5_readFactor_78 : decode cX5_readFactor 78 = .ok (.lshl, 1) := by decide +kernel
theorem dX5_readFactor_79 : decode cX5_readFactor 79 = .ok (.lconst 1, 1) := by decide +kernel
theorem dX5_readFactor_80 : decode cX5_readFactor 80 = .ok (.lsub, 1) := by decide +kernel
theorem dX5_readFactor_81 : decode cX5_readFactor 81 = .ok (.land, 1) := by decide +kernel
theorem dX5_readFactor_82 : decode cX5_readFactor 82 = .ok (.lreturn, 1) := by decide +kernel
theorem dX5_readFactor_83 : decode cX5_readFactor 83 = .ok (.aload_n 0, 1) := by decide +kernel
theorem dX5_readFactor_84 : decode cX5_readFactor 84 = .ok (.iload_n 1, 1) := by decide +kernel
theorem dX5_readFactor_85 : decode cX5_readFactor 85 = .ok (.iconst 1, 1) := by decide +kernel
theorem dX5_readFactor_86 : decode cX5_readFactor 86 = .ok (.iadd, 1) := by decide +kernel
theorem dX5_readFactor_87 : decode cX5_readFactor 87 = .ok (.invokevirtual 36, 3) := by decide +kernel
theorem dX5_readFactor_90 : decode cX5_readFactor 90 = .ok (.lstore_n 3, 1) := by decide +kernel
theorem dX5_readFactor_91 : decode cX5_readFactor 91 = .ok (.aload_n 0, 1) := by decide +kernel
theorem dX5_readFactor_92 : decode cX5_readFactor 92 = .ok (.getfield 9, 3) := by decide +kernel
theorem dX5_readFactor_95 : decode cX5_readFactor 95 = .ok (.bipush 41, 2) := by decide +kernel
theorem dX5_readFactor_97 : decode cX5_readFactor 97 = .ok (.invokevirtual 80, 3) := by decide +kernel
theorem dX5_readFactor_100 : decode cX5_readFactor 100 = .ok (.pop, 1) := by decide +kernel
theorem dX5_readFactor_101 : decode cX5_readFactor 101 = .ok (.lload_n 3, 1) := by decide +kernel
theorem dX5_readFactor_102 : decode cX5_readFactor 102 = .ok (.lreturn, 1) := by decide +kernel
def f_Q_factorB_31 (FF : Int → xM → Option (Int × xM)) (o : Int) (x2 : Int) (m : xM) : Option (Int × xM) :=
     (if xw o < xw 6 then (Option.bind (f_T_next (xvw [1, 2] m)) fun q1 =>
      (if xw x2 = 0 then (Option.bind (f_Q_test FF (o + 1) (xmg [1, 2] 2 m q1)) fun q2 =>
      (Option.bind (f_T_takeSign 41 (xvw [1, 2] q2.2)) fun q3 =>
      some (q2.1, (xmg [1, 2] 2 q2.2 q3.2))))
      else (Option.bind (FF (o + 1) (xmg [1, 2] 2 m q1)) fun q4 =>
      some (xland (xlxor q4.1 (-1)) ((xlshl 1 (q4.2 3 2)) - 1), q4.2))))
      else (Option.bind (f_T_fail 3 (xvw [1, 2] m)) fun q5 =>
      some (0, (xmg [1, 2] 2 m q5.2))))
set_option maxRecDepth 1000000 in
set_option maxHeartbeats 4000000 in
theorem t_Q_factorB_31 {Γ : xG} {d dF : Nat} (hd9 : (dF + 7) ≤ d) (C : xC Γ lay_Q RX5 cX5_readFactor 5 d) (FF : Int → xM → Option (Int × xM)) (o : Int) (hFF : ∀ (o : Int) (m : xM) (r : Int) (m9 : xM), FF o m = some (r, m9) → xMet Γ.1.2.1 yX5_readFactor cX5_readFactor 5 (some .long) dF lay_Q [.inr (.inr (some 0)), .inl o] m (some (.inr (.inl r))) m9) {r : Int} {m9 : xM} (hR : xRl Γ lay_Q cX5_readFactor r m9) (x2 : Int) (m : xM) (h : f_Q_factorB_31 FF o x2 m = some (r, m9)) : xW Γ lay_Q 5 31 [(0, .inr (.inr (some 0))), (1, .inl o), (2, .inl x2)] [] m := by
  unfold f_Q_factorB_31 at h
  refine x_iload_n C dX5_readFactor_31 rfl ?_
  refine x_bipush C dX5_readFactor_32 (by decide) ?_
  refine x_icmp_lt C 48 dX5_readFactor_34 (by decide) h (fun h => ?_) (fun h => ?_)
  · refine x_aload_n C dX5_readFactor_48 rfl ?_
    refine x_getR C dX5_readFactor_49 fF_X5_9 rfl rfl ?_
    obtain ⟨q1, hq1, h⟩ := x_bind h
    refine x_callV C dX5_readFactor_52 (xin_66 _ (List.mem_of_getElem? (i := 20) rfl)) xy_X8_next (xi_X8_next) (xs_X8_next) [1, 2] xv_47 (by omega) (by decide) (b := 0) rfl ⟨_, _, rfl⟩ (av := []) rfl (Nat.le_of_ble_eq_true rfl) (c_T_next _ _ _ hq1) rfl ?_
    refine x_iload_n C dX5_readFactor_55 rfl ?_
    refine x_if_eq C 83 dX5_readFactor_56 (by decide) h (fun h => ?_) (fun h => ?_)
    · refine x_aload_n C dX5_readFactor_83 rfl ?_
      refine x_iload_n C dX5_readFactor_84 rfl ?_
      refine x_iconst C dX5_readFactor_85 ?_
      refine x_iadd C dX5_readFactor_86 ?_
      obtain ⟨q2, hq2, h⟩ := x_bind h
      refine x_callVI C dX5_readFactor_87 (xin_66 _ (List.mem_of_getElem? (i := 21) rfl)) xy_X5_readTest (xi_X5_readTest) (xs_X5_readTest) (by omega) (by decide) (b := 0) rfl ⟨_, _, rfl⟩ (av := [.inl (o + 1)]) rfl (Nat.le_of_ble_eq_true rfl) (c_Q_test _ FF _ hFF _ q2.1 q2.2 hq2) rfl ?_
      refine x_lstore_n C dX5_readFactor_90 (by decide) ?_
      refine x_aload_n C dX5_readFactor_91 rfl ?_
      refine x_getR C dX5_readFactor_92 fF_X5_9 rfl rfl ?_
      refine x_bipush C dX5_readFactor_95 (by decide) ?_
      obtain ⟨q3, hq3, h⟩ := x_bind h
      refine x_callV C dX5_readFactor_97 (xin_68 _ (List.mem_of_getElem? (i := 6) rfl)) xy_X8_takeSign (xi_X8_takeSign) (xs_X8_takeSign) [1, 2] xv_47 (by omega) (by decide) (b := 0) rfl ⟨_, _, rfl⟩ (av := [.inl 41]) rfl (Nat.le_of_ble_eq_true rfl) (c_T_takeSign _ _ _ q3.1 q3.2 hq3) rfl ?_
      refine x_pop C dX5_readFactor_100 rfl ?_
      refine x_lload_n C dX5_readFactor_101 rfl ?_
      exact x_lreturn hR dX5_readFactor_102 h
    · refine x_aload_n C dX5_readFactor_59 rfl ?_
      refine x_iload_n C dX5_readFactor_60 rfl ?_
      refine x_iconst C dX5_readFactor_61 ?_
      refine x_iadd C dX5_readFactor_62 ?_
      obtain ⟨q4, hq4, h⟩ := x_bind h
      refine x_callVI C dX5_readFactor_63 (xin_67 _ (List.mem_of_getElem? (i := 5) rfl)) xy_X5_readFactor (xi_X5_readFactor) (xs_X5_readFactor) (by omega) (by decide) (b := 0) rfl ⟨_, _, rfl⟩ (av := [.inl (o + 1)]) rfl (Nat.le_of_ble_eq_true rfl) (hFF _ _ q4.1 q4.2 hq4) rfl ?_
      refine x_ldc2 C (-1) dX5_readFactor_66 (xin_67 _ (List.mem_of_getElem? (i := 9) rfl)) (by decide) ?_
      refine x_lxor C dX5_readFactor_69 ?_
      refine x_lconst C dX5_readFactor_70 ?_
      refine x_aload_n C dX5_readFactor_71 rfl ?_
      refine x_getR C dX5_readFactor_72 fF_X5_15 rfl rfl ?_
      refine x_getI C dX5_readFactor_75 fF_X5_75 rfl rfl ?_
      refine x_lshl C dX5_readFactor_78 ?_
      refine x_lconst C dX5_readFactor_79 ?_
      refine x_lsub C dX5_readFactor_80 ?_
      refine x_land C dX5_readFactor_81 ?_
      exact x_lreturn hR dX5_readFactor_82 h
  · refine x_aload_n C dX5_readFactor_37 rfl ?_
    refine x_getR C dX5_readFactor_38 fF_X5_9 rfl rfl ?_
    refine x_iconst C dX5_readFactor_41 ?_
    obtain ⟨q5, hq5, h⟩ := x_bind h
    refine x_callV C dX5_readFactor_42 (xin_66 _ (List.mem_of_getElem? (i := 19) rfl)) xy_X8_fail (xi_X8_fail) (xs_X8_fail) [1, 2] xv_47 (by omega) (by decide) (b := 0) rfl ⟨_, _, rfl⟩ (av := [.inl 3]) rfl (Nat.le_of_ble_eq_true rfl) (c_T_fail _ _ _ q5.1 q5.2 hq5) rfl ?_
    refine x_pop C dX5_readFactor_45 rfl ?_
    refine x_lconst C dX5_readFactor_46 ?_
    exact x_lreturn hR dX5_readFactor_47 h
def f_Q_factorB (FF : Int → xM → Option (Int × xM)) (o : Int) (m : xM) : Option (Int × xM) :=
     (Option.bind (f_T_isWord 9 (xvw [1, 2] m)) fun q0 =>
      (if xw q0 = 0 then (Option.bind (f_T_isSign 40 (xvw [1, 2] m)) fun q6 =>
      (if xw q6 = 0 then (Option.bind (f_Q_comparison m) fun q7 =>
      some (q7.1, q7.2))
      else f_Q_factorB_31 FF o q0 m))
      else f_Q_factorB_31 FF o q0 m))
set_option maxRecDepth 1000000 in
set_option maxHeartbeats 4000000 in
theorem t_Q_factorB {Γ : xG} {d dF : Nat} (hd9 : (dF + 7) ≤ d) (C : xC Γ lay_Q RX5 cX5_readFactor 5 d) (FF : Int → xM → Option (Int × xM)) (o : Int) (hFF : ∀ (o : Int) (m : xM) (r : Int) (m9 : xM), FF o m = some (r, m9) → xMet Γ.1.2.1 yX5_readFactor cX5_readFactor 5 (some .long) dF lay_Q [.inr (.inr (some 0)), .inl o] m (some (.inr (.inl r))) m9) {r : Int} {m9 : xM} (hR : xRl Γ lay_Q cX5_readFactor r m9) (m : xM) (h : f_Q_factorB FF o m = some (r, m9)) : xW Γ lay_Q 5 0 [(0, .inr (.inr (some 0))), (1, .inl o)] [] m := by
  unfold f_Q_factorB at h
  refine x_aload_n C dX5_readFactor_0 rfl ?_
  refine x_getR C dX5_readFactor_1 fF_X5_9 rfl rfl ?_
  refine x_ldcS C "not" 9 dX5_readFactor_4 (List.mem_of_getElem? (i := 16) rfl) ?_
  obtain ⟨q0, hq0, h⟩ := x_bind h
  refine x_callVp C dX5_readFactor_6 (xin_66 _ (List.mem_of_getElem? (i := 18) rfl)) xy_X8_isWord (xi_X8_isWord) (xs_X8_isWord) [1, 2] xv_47 (by omega) (by decide) (b := 0) rfl ⟨_, _, rfl⟩ (av := [.inr (.inr (some 1009))]) rfl (Nat.le_of_ble_eq_true rfl) (c_T_isWord _ 9 (by decide) _ _ hq0) rfl ?_
  refine x_istore_n C dX5_readFactor_9 (by decide) ?_
  refine x_iload_n C dX5_readFactor_10 rfl ?_
  refine x_if_ne C 31 dX5_readFactor_11 (by decide) h (fun h => ?_) (fun h => ?_)
  · refine x_loc [(0, .inr (.inr (some 0))), (1, .inl o), (2, .inl q0)] ⟨rfl, rfl, rfl, trivial⟩ ?_
    exact t_Q_factorB_31 hd9 C _ _ hFF hR _ _ h
  · refine x_aload_n C dX5_readFactor_14 rfl ?_
    refine x_getR C dX5_readFactor_15 fF_X5_9 rfl rfl ?_
    refine x_bipush C dX5_readFactor_18 (by decide) ?_
    obtain ⟨q6, hq6, h⟩ := x_bind h
    refine x_callVp C dX5_readFactor_20 (xin_67 _ (List.mem_of_getElem? (i := 11) rfl)) xy_X8_isSign (xi_X8_isSign) (xs_X8_isSign) [1, 2] xv_47 (by omega) (by decide) (b := 0) rfl ⟨_, _, rfl⟩ (av := [.inl 40]) rfl (Nat.le_of_ble_eq_true rfl) (c_T_isSign _ _ _ _ hq6) rfl ?_
    refine x_if_ne C 31 dX5_readFactor_23 (by decide) h (fun h => ?_) (fun h => ?_)
    · refine x_loc [(0, .inr (.inr (some 0))), (1, .inl o), (2, .inl q0)] ⟨rfl, rfl, rfl, trivial⟩ ?_
      exact t_Q_factorB_31 hd9 C _ _ hFF hR _ _ h
    · refine x_aload_n C dX5_readFactor_26 rfl ?_
      obtain ⟨q7, hq7, h⟩ := x_bind h
      refine x_callVI C dX5_readFactor_27 (xin_67 _ (List.mem_of_getElem? (i := 12) rfl)) xy_X5_readComparison (xi_X5_readComparison) (xs_X5_readComparison) (by omega) (by decide) (b := 0) rfl ⟨_, _, rfl⟩ (av := []) rfl (Nat.le_of_ble_eq_true rfl) (c_Q_comparison _ _ q7.1 q7.2 hq7) rfl ?_
      exact x_lreturn hR dX5_readFactor_30 h
theorem c_Q_factorB (l : Launch) (FF : Int → xM → Option (Int × xM)) (o : Int) {dF : Nat} (hFF : ∀ (o : Int) (m : xM) (r : Int) (m9 : xM), FF o m = some (r, m9) → xMet l yX5_readFactor cX5_readFactor 5 (some .long) dF lay_Q [.inr (.inr (some 0)), .inl o] m (some (.inr (.inl r))) m9) (m : xM) (r : Int) (m9 : xM) (h : f_Q_factorB FF o m = some (r, m9)) : xMet l yX5_readFactor cX5_readFactor 5 (some .long) (dF + 7) lay_Q [.inr (.inr (some 0)), .inl o] m (some (.inr (.inl r))) m9 :=
  xMet_l (by decide +kernel) (Nat.le_of_ble_eq_true rfl) (fun Γ C hR hl9 => t_Q_factorB (Nat.le_refl _) C FF o (by subst hl9; exact hFF) hR m h)
/-- a factor, at most n deep -/
def f_Q_factor : Nat → Int → xM → Option (Int × xM)
  | 0, _, _ => none
  | n + 1, o, m => f_Q_factorB (f_Q_factor n) o m
theorem c_Q_factor (l : Launch) : ∀ (n : Nat) (o : Int) (m : xM) (r : Int) (m9 : xM), f_Q_factor n o m = some (r, m9) → xMet l yX5_readFactor cX5_readFactor 5 (some .long) (7 * n) lay_Q [.inr (.inr (some 0)), .inl o] m (some (.inr (.inl r))) m9
  | 0, _, _, _, _, h => by cases h
  | n + 1, o, m, r, m9, h => c_Q_factorB l (f_Q_factor n) o (dF := 7 * n) (c_Q_factor l n) m r m9 h
def f_Q_testC (o : Int) (m : xM) : Option (Int × xM) := f_Q_test (f_Q_factor 8) o m
theorem c_Q_testC (l : Launch) (o : Int) (m : xM) (r : Int) (m9 : xM) (h : f_Q_testC o m = some (r, m9)) : xMet l yX5_readTest cX5_readTest 5 (some .long) 62 lay_Q [.inr (.inr (some 0)), .inl o] m (some (.inr (.inl r))) m9 := c_Q_test l (f_Q_factor 8) o (dF := 56) (c_Q_factor l 8) m r m9 h

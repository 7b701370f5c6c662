/-! ===== queries of the reference ===== -/
theorem xy_X11_compileFactor : xY yX11_compileFactor cX11_compileFactor 2 none 0 := ⟨(xin_69 _ (List.mem_of_getElem? (i := 18) rfl)), (xin_1 _ (List.mem_of_getElem? (i := 5) rfl)), by decide, by decide, by decide +kernel⟩
theorem xi_X11_compileFactor : Cond.instanceMethod yX11_compileFactor ∈ wsL_law := (xin_69 _ (List.mem_of_getElem? (i := 16) rfl))
theorem xs_X11_compileFactor : Cond.selects yX11_compileFactor.cls yX11_compileFactor yX11_compileFactor ∈ wsL_law := (xin_69 _ (List.mem_of_getElem? (i := 17) rfl))
theorem dX11_compileConjunction_0 : decode cX11_compileConjunction 0 = .ok (.aload_n 0, 1) := by decide +kernel
theorem dX11_compileConjunction_1 : decode cX11_compileConjunction 1 = .ok (.invokevirtual 414, 3) := by decide +kernel
theorem dX11_compileConjunction_4 : decode cX11_compileConjunction 4 = .ok (.aload_n 0, 1) := by decide +kernel
theorem dX11_compileConjunction_5 : decode cX11_compileConjunction 5 = .ok (.ldc_w 423, 3) := by decide +kernel
theorem dX11_compileConjunction_8 : decode cX11_compileConjunction 8 = .ok (.invokevirtual 349, 3) := by decide +kernel
theorem dX11_compileConjunction_11 : decode cX11_compileConjunction 11 = .ok (.ifCond .eq 16, 3) := by decide +kernel
theorem dX11_compileConjunction_14 : decode cX11_compileConjunction 14 = .ok (.aload_n 0, 1) := by decide +kernel
theorem dX11_compileConjunction_15 : decode cX11_compileConjunction 15 = .ok (.invokevirtual 414, 3) := by decide +kernel
theorem dX11_compileConjunction_18 : decode cX11_compileConjunction 18 = .ok (.aload_n 0, 1) := by decide +kernel
theorem dX11_compileConjunction_19 : decode cX11_compileConjunction 19 = .ok (.bipush (-24), 2) := by decide +kernel
theorem dX11_compileConjunction_21 : decode cX11_compileConjunction 21 = .ok (.invokevirtual 406, 3) := by decide +kernel
theorem dX11_compileConjunction_24 : decode cX11_compileConjunction 24 = .ok (.goto (-20), 3) := by decide +kernel
theorem dX11_compileConjunction_27 : decode cX11_compileConjunction 27 = .ok (.return_, 1) := by decide +kernel
def f_m_compileConjunction_4 (FF : xM → Option xM) : Nat → xM → Option (xM)
  | 0, _ => none
  | n + 1, m =>
     (Option.bind (f_m_accept 8 m) fun q1 =>
      (if xw q1.1 = 0 then some q1.2
      else (Option.bind (FF q1.2) fun q2 =>
      (Option.bind (f_m_emit (-24) q2) fun q3 =>
      f_m_compileConjunction_4 FF n q3))))
set_option maxRecDepth 1000000 in
set_option maxHeartbeats 4000000 in
theorem t_m_compileConjunction_4 {Γ : xG} {d dF : Nat} (hd9 : (dF + 6) ≤ d) (C : xC Γ lay_M RX11 cX11_compileConjunction 1 d) (FF : xM → Option xM) (hFF : ∀ (m m9 : xM), FF m = some m9 → xMet Γ.1.2.1 yX11_compileFactor cX11_compileFactor 2 none dF lay_M [.inr (.inr (some 0))] m none m9) {m9 : xM} (hR : xRv Γ lay_M cX11_compileConjunction m9) : ∀ (n : Nat) (m : xM), f_m_compileConjunction_4 FF n m = some m9 → xW Γ lay_M 1 4 [(0, .inr (.inr (some 0)))] [] m := by
  intro n
  induction n with
  | zero => intro _ h; cases h
  | succ n ih =>
    intro m h
    rw [f_m_compileConjunction_4] at h
    refine x_aload_n C dX11_compileConjunction_4 rfl ?_
    refine x_ldcSW C "and" 8 dX11_compileConjunction_5 (List.mem_of_getElem? (i := 46) rfl) ?_
    obtain ⟨q1, hq1, h⟩ := x_bind h
    refine x_callVI C dX11_compileConjunction_8 (xin_22 _ (List.mem_of_getElem? (i := 20) rfl)) xy_X11_accept (xi_X11_accept) (xs_X11_accept) (by omega) (by decide) (b := 0) rfl ⟨_, _, rfl⟩ (av := [.inr (.inr (some 1008))]) rfl (Nat.le_of_ble_eq_true rfl) (c_m_accept _ 8 (by decide) _ q1.1 q1.2 hq1) rfl ?_
    refine x_if_eq C 27 dX11_compileConjunction_11 (by decide) h (fun h => ?_) (fun h => ?_)
    · exact x_returnV hR dX11_compileConjunction_27 h
    · refine x_aload_n C dX11_compileConjunction_14 rfl ?_
      obtain ⟨q2, hq2, h⟩ := x_bind h
      refine x_callVI C dX11_compileConjunction_15 (xin_69 _ (List.mem_of_getElem? (i := 15) rfl)) xy_X11_compileFactor (xi_X11_compileFactor) (xs_X11_compileFactor) (by omega) (by decide) (b := 0) rfl ⟨_, _, rfl⟩ (av := []) rfl (Nat.le_of_ble_eq_true rfl) (hFF _ _ hq2) rfl ?_
      refine x_aload_n C dX11_compileConjunction_18 rfl ?_
      refine x_bipush C dX11_compileConjunction_19 (by decide) ?_
      obtain ⟨q3, hq3, h⟩ := x_bind h
      refine x_callVI C dX11_compileConjunction_21 (xin_69 _ (List.mem_of_getElem? (i := 10) rfl)) xy_X11_emit (xi_X11_emit) (xs_X11_emit) (by omega) (by decide) (b := 0) rfl ⟨_, _, rfl⟩ (av := [.inl (-24)]) rfl (Nat.le_of_ble_eq_true rfl) (c_m_emit _ _ _ _ hq3) rfl ?_
      refine x_goto C 4 dX11_compileConjunction_24 (by decide) ?_
      refine x_loc [(0, .inr (.inr (some 0)))] ⟨rfl, trivial⟩ ?_
      exact ih _ h
def f_m_compileConjunction (FF : xM → Option xM) (m : xM) : Option (xM) :=
     (Option.bind (FF m) fun q0 =>
      f_m_compileConjunction_4 FF fu q0)
set_option maxRecDepth 1000000 in
set_option maxHeartbeats 4000000 in
theorem t_m_compileConjunction {Γ : xG} {d dF : Nat} (hd9 : (dF + 6) ≤ d) (C : xC Γ lay_M RX11 cX11_compileConjunction 1 d) (FF : xM → Option xM) (hFF : ∀ (m m9 : xM), FF m = some m9 → xMet Γ.1.2.1 yX11_compileFactor cX11_compileFactor 2 none dF lay_M [.inr (.inr (some 0))] m none m9) {m9 : xM} (hR : xRv Γ lay_M cX11_compileConjunction m9) (m : xM) (h : f_m_compileConjunction FF m = some m9) : xW Γ lay_M 1 0 [(0, .inr (.inr (some 0)))] [] m := by
  unfold f_m_compileConjunction at h
  refine x_aload_n C dX11_compileConjunction_0 rfl ?_
  obtain ⟨q0, hq0, h⟩ := x_bind h
  refine x_callVI C dX11_compileConjunction_1 (xin_69 _ (List.mem_of_getElem? (i := 15) rfl)) xy_X11_compileFactor (xi_X11_compileFactor) (xs_X11_compileFactor) (by omega) (by decide) (b := 0) rfl ⟨_, _, rfl⟩ (av := []) rfl (Nat.le_of_ble_eq_true rfl) (hFF _ _ hq0) rfl ?_
  refine x_loc [(0, .inr (.inr (some 0)))] ⟨rfl, trivial⟩ ?_
  exact t_m_compileConjunction_4 hd9 C _ hFF hR fu _ h
theorem c_m_compileConjunction (l : Launch) (FF : xM → Option xM) {dF : Nat} (hFF : ∀ (m m9 : xM), FF m = some m9 → xMet l yX11_compileFactor cX11_compileFactor 2 none dF lay_M [.inr (.inr (some 0))] m none m9) (m m9 : xM) (h : f_m_compileConjunction FF m = some m9) : xMet l yX11_compileConjunction cX11_compileConjunction 1 none (dF + 6) lay_M [.inr (.inr (some 0))] m none m9 :=
  xMet_v (by decide +kernel) (Nat.le_of_ble_eq_true rfl) (fun Γ C hR hl9 => t_m_compileConjunction (Nat.le_refl _) C FF (by subst hl9; exact hFF) hR m h)
theorem xy_X11_compileConjunction : xY yX11_compileConjunction cX11_compileConjunction 1 none 0 := ⟨(xin_69 _ (List.mem_of_getElem? (i := 14) rfl)), (xin_1 _ (List.mem_of_getElem? (i := 5) rfl)), by decide, by decide, by decide +kernel⟩
theorem xi_X11_compileConjunction : Cond.instanceMethod yX11_compileConjunction ∈ wsL_law := (xin_69 _ (List.mem_of_getElem? (i := 8) rfl))
theorem xs_X11_compileConjunction : Cond.selects yX11_compileConjunction.cls yX11_compileConjunction yX11_compileConjunction ∈ wsL_law := (xin_69 _ (List.mem_of_getElem? (i := 9) rfl))
theorem dX11_compileTest_0 : decode cX11_compileTest 0 = .ok (.aload_n 0, 1) := by decide +kernel
theorem dX11_compileTest_1 : decode cX11_compileTest 1 = .ok (.invokevirtual 425, 3) := by decide +kernel
theorem dX11_compileTest_4 : decode cX11_compileTest 4 = .ok (.aload_n 0, 1) := by decide +kernel
theorem dX11_compileTest_5 : decode cX11_compileTest 5 = .ok (.ldc_w 428, 3) := by decide +kernel
theorem dX11_compileTest_8 : decode cX11_compileTest 8 = .ok (.invokevirtual 349, 3) := by decide +kernel
theorem dX11_compileTest_11 : decode cX11_compileTest 11 = .ok (.ifCond .eq 16, 3) := by decide +kernel
theorem dX11_compileTest_14 : decode cX11_compileTest 14 = .ok (.aload_n 0, 1) := by decide +kernel
theorem dX11_compileTest_15 : decode cX11_compileTest 15 = .ok (.invokevirtual 425, 3) := by decide +kernel
theorem dX11_compileTest_18 : decode cX11_compileTest 18 = .ok (.aload_n 0, 1) := by decide +kernel
theorem dX11_compileTest_19 : decode cX11_compileTest 19 = .ok (.bipush (-25), 2) := by decide +kernel
theorem dX11_compileTest_21 : decode cX11_compileTest 21 = .ok (.invokevirtual 406, 3) := by decide +kernel
theorem dX11_compileTest_24 : decode cX11_compileTest 24 = .ok (.goto (-20), 3) := by decide +kernel
theorem dX11_compileTest_27 : decode cX11_compileTest 27 = .ok (.return_, 1) := by decide +kernel
def f_m_compileTest_4 (FF : xM → Option xM) : Nat → xM → Option (xM)
  | 0, _ => none
  | n + 1, m =>
     (Option.bind (f_m_accept 7 m) fun q1 =>
      (if xw q1.1 = 0 then some q1.2
      else (Option.bind (f_m_compileConjunction FF q1.2) fun q2 =>
      (Option.bind (f_m_emit (-25) q2) fun q3 =>
      f_m_compileTest_4 FF n q3))))
set_option maxRecDepth 1000000 in
set_option maxHeartbeats 4000000 in
theorem t_m_compileTest_4 {Γ : xG} {d dF : Nat} (hd9 : (dF + 7) ≤ d) (C : xC Γ lay_M RX11 cX11_compileTest 1 d) (FF : xM → Option xM) (hFF : ∀ (m m9 : xM), FF m = some m9 → xMet Γ.1.2.1 yX11_compileFactor cX11_compileFactor 2 none dF lay_M [.inr (.inr (some 0))] m none m9) {m9 : xM} (hR : xRv Γ lay_M cX11_compileTest m9) : ∀ (n : Nat) (m : xM), f_m_compileTest_4 FF n m = some m9 → xW Γ lay_M 1 4 [(0, .inr (.inr (some 0)))] [] m := by
  intro n
  induction n with
  | zero => intro _ h; cases h
  | succ n ih =>
    intro m h
    rw [f_m_compileTest_4] at h
    refine x_aload_n C dX11_compileTest_4 rfl ?_
    refine x_ldcSW C "or" 7 dX11_compileTest_5 (List.mem_of_getElem? (i := 47) rfl) ?_
    obtain ⟨q1, hq1, h⟩ := x_bind h
    refine x_callVI C dX11_compileTest_8 (xin_22 _ (List.mem_of_getElem? (i := 20) rfl)) xy_X11_accept (xi_X11_accept) (xs_X11_accept) (by omega) (by decide) (b := 0) rfl ⟨_, _, rfl⟩ (av := [.inr (.inr (some 1007))]) rfl (Nat.le_of_ble_eq_true rfl) (c_m_accept _ 7 (by decide) _ q1.1 q1.2 hq1) rfl ?_
    refine x_if_eq C 27 dX11_compileTest_11 (by decide) h (fun h => ?_) (fun h => ?_)
    · exact x_returnV hR dX11_compileTest_27 h
    · refine x_aload_n C dX11_compileTest_14 rfl ?_
      obtain ⟨q2, hq2, h⟩ := x_bind h
      refine x_callVI C dX11_compileTest_15 (xin_69 _ (List.mem_of_getElem? (i := 7) rfl)) xy_X11_compileConjunction (xi_X11_compileConjunction) (xs_X11_compileConjunction) (by omega) (by decide) (b := 0) rfl ⟨_, _, rfl⟩ (av := []) rfl (Nat.le_of_ble_eq_true rfl) (c_m_compileConjunction _ FF hFF _ _ hq2) rfl ?_
      refine x_aload_n C dX11_compileTest_18 rfl ?_
      refine x_bipush C dX11_compileTest_19 (by decide) ?_
      obtain ⟨q3, hq3, h⟩ := x_bind h
      refine x_callVI C dX11_compileTest_21 (xin_69 _ (List.mem_of_getElem? (i := 10) rfl)) xy_X11_emit (xi_X11_emit) (xs_X11_emit) (by omega) (by decide) (b := 0) rfl ⟨_, _, rfl⟩ (av := [.inl (-25)]) rfl (Nat.le_of_ble_eq_true rfl) (c_m_emit _ _ _ _ hq3) rfl ?_
      refine x_goto C 4 dX11_compileTest_24 (by decide) ?_
      refine x_loc [(0, .inr (.inr (some 0)))] ⟨rfl, trivial⟩ ?_
      exact ih _ h
def f_m_compileTest (FF : xM → Option xM) (m : xM) : Option (xM) :=
     (Option.bind (f_m_compileConjunction FF m) fun q0 =>
      f_m_compileTest_4 FF fu q0)
set_option maxRecDepth 1000000 in
set_option maxHeartbeats 4000000 in
theorem t_m_compileTest {Γ : xG} {d dF : Nat} (hd9 : (dF + 7) ≤ d) (C : xC Γ lay_M RX11 cX11_compileTest 1 d) (FF : xM → Option xM) (hFF : ∀ (m m9 : xM), FF m = some m9 → xMet Γ.1.2.1 yX11_compileFactor cX11_compileFactor 2 none dF lay_M [.inr (.inr (some 0))] m none m9) {m9 : xM} (hR : xRv Γ lay_M cX11_compileTest m9) (m : xM) (h : f_m_compileTest FF m = some m9) : xW Γ lay_M 1 0 [(0, .inr (.inr (some 0)))] [] m := by
  unfold f_m_compileTest at h
  refine x_aload_n C dX11_compileTest_0 rfl ?_
  obtain ⟨q0, hq0, h⟩ := x_bind h
  refine x_callVI C dX11_compileTest_1 (xin_69 _ (List.mem_of_getElem? (i := 7) rfl)) xy_X11_compileConjunction (xi_X11_compileConjunction) (xs_X11_compileConjunction) (by omega) (by decide) (b := 0) rfl ⟨_, _, rfl⟩ (av := []) rfl (Nat.le_of_ble_eq_true rfl) (c_m_compileConjunction _ FF hFF _ _ hq0) rfl ?_
  refine x_loc [(0, .inr (.inr (some 0)))] ⟨rfl, trivial⟩ ?_
  exact t_m_compileTest_4 hd9 C _ hFF hR fu _ h
theorem c_m_compileTest (l : Launch) (FF : xM → Option xM) {dF : Nat} (hFF : ∀ (m m9 : xM), FF m = some m9 → xMet l yX11_compileFactor cX11_compileFactor 2 none dF lay_M [.inr (.inr (some 0))] m none m9) (m m9 : xM) (h : f_m_compileTest FF m = some m9) : xMet l yX11_compileTest cX11_compileTest 1 none (dF + 7) lay_M [.inr (.inr (some 0))] m none m9 :=
  xMet_v (by decide +kernel) (Nat.le_of_ble_eq_true rfl) (fun Γ C hR hl9 => t_m_compileTest (Nat.le_refl _) C FF (by subst hl9; exact hFF) hR m h)
theorem xy_X11_compileValue : xY yX11_compileValue cX11_compileValue 2 none 0 := ⟨(xin_70 _ (List.mem_of_getElem? (i := 2) rfl)), (xin_1 _ (List.mem_of_getElem? (i := 5) rfl)), by decide, by decide, by decide +kernel⟩
theorem xi_X11_compileValue : Cond.instanceMethod yX11_compileValue ∈ wsL_law := (xin_70 _ (List.mem_of_getElem? (i := 0) rfl))
theorem xs_X11_compileValue : Cond.selects yX11_compileValue.cls yX11_compileValue yX11_compileValue ∈ wsL_law := (xin_70 _ (List.mem_of_getElem? (i := 1) rfl))
theorem xy_X11_enter : xY yX11_enter cX11_enter 1 none 0 := ⟨(xin_69 _ (List.mem_of_getElem? (i := 22) rfl)), (xin_1 _ (List.mem_of_getElem? (i := 5) rfl)), by decide, by decide, by decide +kernel⟩
theorem xi_X11_enter : Cond.instanceMethod yX11_enter ∈ wsL_law := (xin_69 _ (List.mem_of_getElem? (i := 20) rfl))
theorem xs_X11_enter : Cond.selects yX11_enter.cls yX11_enter yX11_enter ∈ wsL_law := (xin_69 _ (List.mem_of_getElem? (i := 21) rfl))
theorem xy_X11_compileTest : xY yX11_compileTest cX11_compileTest 1 none 0 := ⟨(xin_69 _ (List.mem_of_getElem? (i := 6) rfl)), (xin_1 _ (List.mem_of_getElem? (i := 5) rfl)), by decide, by decide, by decide +kernel⟩
theorem xi_X11_compileTest : Cond.instanceMethod yX11_compileTest ∈ wsL_law := (xin_69 _ (List.mem_of_getElem? (i := 4) rfl))
theorem xs_X11_compileTest : Cond.selects yX11_compileTest.cls yX11_compileTest yX11_compileTest ∈ wsL_law := (xin_69 _ (List.mem_of_getElem? (i := 5) rfl))
theorem dX11_compileFactor_0 : decode cX11_compileFactor 0 = .ok (.aload_n 0, 1) := by decide +kernel
theorem dX11_compileFactor_1 : decode cX11_compileFactor 1 = .ok (.ldc_w 409, 3) := by decide +kernel
theorem dX11_compileFactor_4 : decode cX11_compileFactor 4 = .ok (.invokevirtual 316, 3) := by decide +kernel
theorem dX11_compileFactor_7 : decode cX11_compileFactor 7 = .ok (.ifCond .eq 37, 3) := by decide +kernel
theorem dX11_compileFactor_10 : decode cX11_compileFactor 10 = .ok (.aload_n 0, 1) := by decide +kernel
theorem dX11_compileFactor_11 : decode cX11_compileFactor 11 = .ok (.invokevirtual 411, 3) := by decide +kernel
theorem dX11_compileFactor_14 : decode cX11_compileFactor 14 = .ok (.aload_n 0, 1) := by decide +kernel
theorem dX11_compileFactor_15 : decode cX11_compileFactor 15 = .ok (.getfield 301, 3) := by decide +kernel
theorem dX11_compileFactor_18 : decode cX11_compileFactor 18 = .ok (.ifCond .ne 7, 3) := by decide +kernel
theorem dX11_compileFactor_21 : decode cX11_compileFactor 21 = .ok (.aload_n 0, 1) := by decide +kernel
theorem dX11_compileFactor_22 : decode cX11_compileFactor 22 = .ok (.invokevirtual 414, 3) := by decide +kernel
theorem dX11_compileFactor_25 : decode cX11_compileFactor 25 = .ok (.aload_n 0, 1) := by decide +kernel
theorem dX11_compileFactor_26 : decode cX11_compileFactor 26 = .ok (.bipush (-23), 2) := by decide +kernel
theorem dX11_compileFactor_28 : decode cX11_compileFactor 28 = .ok (.invokevirtual 406, 3) := by decide +kernel
theorem dX11_compileFactor_31 : decode cX11_compileFactor 31 = .ok (.aload_n 0, 1) := by decide +kernel
theorem dX11_compileFactor_32 : decode cX11_compileFactor 32 = .ok (.dup, 1) := by decide +kernel
theorem dX11_compileFactor_33 : decode cX11_compileFactor 33 = .ok (.getfield 304, 3) := by decide +kernel
theorem dX11_compileFactor_36 : decode cX11_compileFactor 36 = .ok (.iconst 1, 1) := by decide +kernel
theorem dX11_compileFactor_37 : decode cX11_compileFactor 37 = .ok (.isub, 1) := by decide +kernel
theorem dX11_compileFactor_38 : decode cX11_compileFactor 38 = .ok (.putfield 304, 3) := by decide +kernel
theorem dX11_compileFactor_41 : decode cX11_compileFactor 41 = .ok (.goto 119, 3) := by decide +kernel
theorem dX11_compileFactor_44 : decode cX11_compileFactor 44 = .ok (.aload_n 0, 1) := by decide +kernel
theorem dX11_compileFactor_45 : decode cX11_compileFactor 45 = .ok (.bipush 40, 2) := by decide +kernel
theorem dX11_compileFactor_47 : decode cX11_compileFactor 47 = .ok (.invokevirtual 327, 3) := by decide +kernel
theorem dX11_compileFactor_50 : decode cX11_compileFactor 50 = .ok (.ifCond .eq 37, 3) := by decide +kernel
theorem dX11_compileFactor_53 : decode cX11_compileFactor 53 = .ok (.aload_n 0, 1) := by decide +kernel
theorem dX11_compileFactor_54 : decode cX11_compileFactor 54 = .ok (.invokevirtual 411, 3) := by decide +kernel
theorem dX11_compileFactor_57 : decode cX11_compileFactor 57 = .ok (.aload_n 0, 1) := by decide +kernel
theorem dX11_compileFactor_58 : decode cX11_compileFactor 58 = .ok (.getfield 301, 3) := by decide +kernel
theorem dX11_compileFactor_61 : decode cX11_compileFactor 61 = .ok (.ifCond .ne 7, 3) := by decide +kernel
theorem dX11_compileFactor_64 : decode cX11_compileFactor 64 = .ok (.aload_n 0, 1) := by decide +kernel
theorem dX11_compileFactor_65 : decode cX11_compileFactor 65 = .ok (.invokevirtual 417, 3) := by decide +kernel
theorem dX11_compileFactor_68 : decode cX11_compileFactor 68 = .ok (.aload_n 0, 1) := by decide +kernel
theorem dX11_compileFactor_69 : decode cX11_compileFactor 69 = .ok (.bipush 41, 2) := by decide +kernel
theorem dX11_compileFactor_71 : decode cX11_compileFactor 71 = .ok (.invokevirtual 381, 3) := by decide +kernel
theorem dX11_compileFactor_74 : decode cX11_compileFactor 74 = .ok (.aload_n 0, 1) := by decide +kernel
theorem dX11_compileFactor_75 : decode cX11_compileFactor 75 = .ok (.dup, 1) := by decide +kernel
theorem dX11_compileFactor_76 : decode cX11_compileFactor 76 = .ok (.getfield 304, 3) := by decide +kernel
theorem dX11_compileFactor_79 : decode cX11_compileFactor 79 = .ok (.iconst 1, 1) := by decide +kernel
theorem dX11_compileFactor_80 : decode cX11_compileFactor 80 = .ok (.isub, 1) := by decide +kernel
theorem dX11_compileFactor_81 : decode cX11_compileFactor 81 = .ok (.putfield 304, 3) := by decide +kernel
theorem dX11_compileFactor_84 : decode cX11_compileFactor 84 = .ok (.goto 76, 3) := by decide +kernel
theorem dX11_compileFactor_87 : decode cX11_compileFactor 87 = .ok (.aload_n 0, 1) := by decide +kernel
theorem dX11_compileFactor_88 : decode cX11_compileFactor 88 = .ok (.invokevirtual 420, 3) := by decide +kernel
theorem dX11_compileFactor_91 : decode cX11_compileFactor 91 = .ok (.aload_n 0, 1) := by decide +kernel
theorem dX11_compileFactor_92 : decode cX11_compileFactor 92 = .ok (.bipush 60, 2) := by decide +kernel
theorem dX11_compileFactor_94 : decode cX11_compileFactor 94 = .ok (.invokevirtual 327, 3) := by decide +kernel
theorem dX11_compileFactor_97 : decode cX11_compileFactor 97 = .ok (.ifCond .eq 8, 3) := by decide +kernel
theorem dX11_compileFactor_100 : decode cX11_compileFactor 100 = .ok (.bipush (-20), 2) := by decide +kernel
theorem dX11_compileFactor_102 : decode cX11_compileFactor 102 = .ok (.goto 19, 3) := by decide +kernel
theorem dX11_compileFactor_105 : decode cX11_compileFactor 105 = .ok (.aload_n 0, 1) := by decide +kernel
theorem dX11_compileFactor_106 : decode cX11_compileFactor 106 = .ok (.bipush 61, 2) := by decide +kernel
theorem dX11_compileFactor_108 : decode cX11_compileFactor 108 = .ok (.invokevirtual 327, 3) := by decide +kernel
theorem dX11_compileFactor_111 : decode cX11_compileFactor 111 = .ok (.ifCond .eq 8, 3) := by decide +kernel
theorem dX11_compileFactor_114 : decode cX11_compileFactor 114 = .ok (.bipush (-21), 2) := by decide +kernel
theorem dX11_compileFactor_116 : decode cX11_compileFactor 116 = .ok (.goto 5, 3) := by decide +kernel
theorem dX11_compileFactor_119 : decode cX11_compileFactor 119 = .ok (.bipush (-22), 2) := by decide +kernel
theorem dX11_compileFactor_121 : decode cX11_compileFactor 121 = .ok (.istore_n 1, 1) := by decide +kernel
theorem dX11_compileFactor_122 : decode cX11_compileFactor 122 = .ok (.aload_n 0, 1) := by decide +kernel
theorem dX11_compileFactor_123 : decode cX11_compileFactor 123 = .ok (.iload_n 1, 1) := by decide +kernel
theorem dX11_compileFactor_124 : decode cX11_compileFactor 124 = .ok (.bipush (-22), 2) := by decide +kernel
theorem dX11_compileFactor_126 : decode cX11_compileFactor 126 = .ok (.if_icmp .ne 12, 3) := by decide +kernel
theorem dX11_compileFactor_129 : decode cX11_compileFactor 129 = .ok (.aload_n 0, 1) := by decide +kernel
theorem dX11_compileFactor_130 : decode cX11_compileFactor 130 = .ok (.bipush 62, 2) := by decide +kernel
theorem dX11_compileFactor_132 : decode cX11_compileFactor 132 = .ok (.invokevirtual 327, 3) := by decide +kernel
theorem dX11_compileFactor_135 : decode cX11_compileFactor 135 = .ok (.ifCond .eq 7, 3) := by decide +kernel
theorem dX11_compileFactor_138 : decode cX11_compileFactor 138 = .ok (.iconst 1, 1) := by decide +kernel
theorem dX11_compileFactor_139 : decode cX11_compileFactor 139 = .ok (.goto 4, 3) := by decide +kernel
theorem dX11_compileFactor_142 : decode cX11_compileFactor 142 = .ok (.iconst 0, 1) := by decide +kernel
theorem dX11_compileFactor_143 : decode cX11_compileFactor 143 = .ok (.iconst 1, 1) := by decide +kernel
theorem dX11_compileFactor_144 : decode cX11_compileFactor 144 = .ok (.invokevirtual 320, 3) := by decide +kernel
theorem dX11_compileFactor_147 : decode cX11_compileFactor 147 = .ok (.aload_n 0, 1) := by decide +kernel
theorem dX11_compileFactor_148 : decode cX11_compileFactor 148 = .ok (.invokevirtual 324, 3) := by decide +kernel
theorem dX11_compileFactor_151 : decode cX11_compileFactor 151 = .ok (.aload_n 0, 1) := by decide +kernel
theorem dX11_compileFactor_152 : decode cX11_compileFactor 152 = .ok (.invokevirtual 420, 3) := by decide +kernel
theorem dX11_compileFactor_155 : decode cX11_compileFactor 155 = .ok (.aload_n 0, 1) := by decide +kernel
theorem dX11_compileFactor_156 : decode cX11_compileFactor 156 = .ok (.iload_n 1, 1) := by decide +kernel
theorem dX11_compileFactor_157 : decode cX11_compileFactor 157 = .ok (.invokevirtual 406, 3) := by decide +kernel
theorem dX11_compileFactor_160 : decode cX11_compileFactor 160 = .ok (.return_, 1) := by decide +kernel
def f_m_compileFactorB_143 (FF : xM → Option xM) (x1 : Int) (s0 : Int) (m : xM) : Option (xM) :=
     (Option.bind (f_m_check s0 1 m) fun q5 =>
      (Option.bind (f_m_advance q5) fun q6 =>
      (Option.bind (f_m_compileValue q6) fun q7 =>
      (Option.bind (f_m_emit x1 q7) fun q8 =>
      some q8))))
set_option maxRecDepth 1000000 in
set_option maxHeartbeats 4000000 in
theorem t_m_compileFactorB_143 {Γ : xG} {d dF : Nat} (hd9 : (dF + 8) ≤ d) (C : xC Γ lay_M RX11 cX11_compileFactor 2 d) (FF : xM → Option xM) (hFF : ∀ (m m9 : xM), FF m = some m9 → xMet Γ.1.2.1 yX11_compileFactor cX11_compileFactor 2 none dF lay_M [.inr (.inr (some 0))] m none m9) {m9 : xM} (hR : xRv Γ lay_M cX11_compileFactor m9) (x1 : Int) (s0 : Int) (m : xM) (h : f_m_compileFactorB_143 FF x1 s0 m = some m9) : xW Γ lay_M 2 143 [(0, .inr (.inr (some 0))), (1, .inl x1)] [.inl s0, .inr (.inr (some 0))] m := by
  unfold f_m_compileFactorB_143 at h
  refine x_iconst C dX11_compileFactor_143 ?_
  obtain ⟨q5, hq5, h⟩ := x_bind h
  refine x_callVI C dX11_compileFactor_144 (xin_20 _ (List.mem_of_getElem? (i := 17) rfl)) xy_X11_check (xi_X11_check) (xs_X11_check) (by omega) (by decide) (b := 0) rfl ⟨_, _, rfl⟩ (av := [.inl s0, .inl 1]) rfl (Nat.le_of_ble_eq_true rfl) (c_m_check _ _ _ _ _ hq5) rfl ?_
  refine x_aload_n C dX11_compileFactor_147 rfl ?_
  obtain ⟨q6, hq6, h⟩ := x_bind h
  refine x_callVI C dX11_compileFactor_148 (xin_21 _ (List.mem_of_getElem? (i := 2) rfl)) xy_X11_advance (xi_X11_advance) (xs_X11_advance) (by omega) (by decide) (b := 0) rfl ⟨_, _, rfl⟩ (av := []) rfl (Nat.le_of_ble_eq_true rfl) (c_m_advance _ _ _ hq6) rfl ?_
  refine x_aload_n C dX11_compileFactor_151 rfl ?_
  obtain ⟨q7, hq7, h⟩ := x_bind h
  refine x_callVI C dX11_compileFactor_152 (xin_69 _ (List.mem_of_getElem? (i := 23) rfl)) xy_X11_compileValue (xi_X11_compileValue) (xs_X11_compileValue) (by omega) (by decide) (b := 0) rfl ⟨_, _, rfl⟩ (av := []) rfl (Nat.le_of_ble_eq_true rfl) (c_m_compileValue _ _ _ hq7) rfl ?_
  refine x_aload_n C dX11_compileFactor_155 rfl ?_
  refine x_iload_n C dX11_compileFactor_156 rfl ?_
  obtain ⟨q8, hq8, h⟩ := x_bind h
  refine x_callVI C dX11_compileFactor_157 (xin_69 _ (List.mem_of_getElem? (i := 10) rfl)) xy_X11_emit (xi_X11_emit) (xs_X11_emit) (by omega) (by decide) (b := 0) rfl ⟨_, _, rfl⟩ (av := [.inl x1]) rfl (Nat.le_of_ble_eq_true rfl) (c_m_emit _ _ _ _ hq8) rfl ?_
  exact x_returnV hR dX11_compileFactor_160 h
def f_m_compileFactorB_138 (FF : xM → Option xM) (x1 : Int) (m : xM) : Option (xM) :=
     f_m_compileFactorB_143 FF x1 1 m
set_option maxRecDepth 1000000 in
set_option maxHeartbeats 4000000 in
theorem t_m_compileFactorB_138 {Γ : xG} {d dF : Nat} (hd9 : (dF + 8) ≤ d) (C : xC Γ lay_M RX11 cX11_compileFactor 2 d) (FF : xM → Option xM) (hFF : ∀ (m m9 : xM), FF m = some m9 → xMet Γ.1.2.1 yX11_compileFactor cX11_compileFactor 2 none dF lay_M [.inr (.inr (some 0))] m none m9) {m9 : xM} (hR : xRv Γ lay_M cX11_compileFactor m9) (x1 : Int) (m : xM) (h : f_m_compileFactorB_138 FF x1 m = some m9) : xW Γ lay_M 2 138 [(0, .inr (.inr (some 0))), (1, .inl x1)] [.inr (.inr (some 0))] m := by
  unfold f_m_compileFactorB_138 at h
  refine x_iconst C dX11_compileFactor_138 ?_
  refine x_goto C 143 dX11_compileFactor_139 (by decide) ?_
  refine x_loc [(0, .inr (.inr (some 0))), (1, .inl x1)] ⟨rfl, rfl, trivial⟩ ?_
  exact t_m_compileFactorB_143 hd9 C _ hFF hR _ _ _ h
def f_m_compileFactorB_121 (FF : xM → Option xM) (s0 : Int) (m : xM) : Option (xM) :=
     (if xw s0 = xw (-22) then (Option.bind (f_m_isSymbol 62 m) fun q9 =>
      (if xw q9 = 0 then f_m_compileFactorB_143 FF s0 0 m
      else f_m_compileFactorB_138 FF s0 m))
      else f_m_compileFactorB_138 FF s0 m)
set_option maxRecDepth 1000000 in
set_option maxHeartbeats 4000000 in
theorem t_m_compileFactorB_121 {Γ : xG} {d dF : Nat} (hd9 : (dF + 8) ≤ d) (C : xC Γ lay_M RX11 cX11_compileFactor 2 d) (FF : xM → Option xM) (hFF : ∀ (m m9 : xM), FF m = some m9 → xMet Γ.1.2.1 yX11_compileFactor cX11_compileFactor 2 none dF lay_M [.inr (.inr (some 0))] m none m9) {m9 : xM} (hR : xRv Γ lay_M cX11_compileFactor m9) (s0 : Int) (m : xM) (h : f_m_compileFactorB_121 FF s0 m = some m9) : xW Γ lay_M 2 121 [(0, .inr (.inr (some 0)))] [.inl s0] m := by
  unfold f_m_compileFactorB_121 at h
  refine x_istore_n C dX11_compileFactor_121 (by decide) ?_
  refine x_aload_n C dX11_compileFactor_122 rfl ?_
  refine x_iload_n C dX11_compileFactor_123 rfl ?_
  refine x_bipush C dX11_compileFactor_124 (by decide) ?_
  refine x_icmp_ne C 138 dX11_compileFactor_126 (by decide) h (fun h => ?_) (fun h => ?_)
  · refine x_loc [(0, .inr (.inr (some 0))), (1, .inl s0)] ⟨rfl, rfl, trivial⟩ ?_
    exact t_m_compileFactorB_138 hd9 C _ hFF hR _ _ h
  · refine x_aload_n C dX11_compileFactor_129 rfl ?_
    refine x_bipush C dX11_compileFactor_130 (by decide) ?_
    obtain ⟨q9, hq9, h⟩ := x_bind h
    refine x_callVI C dX11_compileFactor_132 (xin_22 _ (List.mem_of_getElem? (i := 4) rfl)) xy_X11_isSymbol (xi_X11_isSymbol) (xs_X11_isSymbol) (by omega) (by decide) (b := 0) rfl ⟨_, _, rfl⟩ (av := [.inl 62]) rfl (Nat.le_of_ble_eq_true rfl) (c_m_isSymbol _ _ _ _ hq9) rfl ?_
    refine x_if_eq C 142 dX11_compileFactor_135 (by decide) h (fun h => ?_) (fun h => ?_)
    · refine x_iconst C dX11_compileFactor_142 ?_
      refine x_loc [(0, .inr (.inr (some 0))), (1, .inl s0)] ⟨rfl, rfl, trivial⟩ ?_
      exact t_m_compileFactorB_143 hd9 C _ hFF hR _ _ _ h
    · refine x_loc [(0, .inr (.inr (some 0))), (1, .inl s0)] ⟨rfl, rfl, trivial⟩ ?_
      exact t_m_compileFactorB_138 hd9 C _ hFF hR _ _ h
def f_m_compileFactorB_68 (FF : xM → Option xM) (m : xM) : Option (xM) :=
     (Option.bind (f_m_expect 41 m) fun q11 =>
      some (xu q11 0 21 ((q11 0 21) - 1)))
set_option maxRecDepth 1000000 in
set_option maxHeartbeats 4000000 in
theorem t_m_compileFactorB_68 {Γ : xG} {d dF : Nat} (hd9 : (dF + 8) ≤ d) (C : xC Γ lay_M RX11 cX11_compileFactor 2 d) (FF : xM → Option xM) (hFF : ∀ (m m9 : xM), FF m = some m9 → xMet Γ.1.2.1 yX11_compileFactor cX11_compileFactor 2 none dF lay_M [.inr (.inr (some 0))] m none m9) {m9 : xM} (hR : xRv Γ lay_M cX11_compileFactor m9) (m : xM) (h : f_m_compileFactorB_68 FF m = some m9) : xW Γ lay_M 2 68 [(0, .inr (.inr (some 0)))] [] m := by
  unfold f_m_compileFactorB_68 at h
  refine x_aload_n C dX11_compileFactor_68 rfl ?_
  refine x_bipush C dX11_compileFactor_69 (by decide) ?_
  obtain ⟨q11, hq11, h⟩ := x_bind h
  refine x_callVI C dX11_compileFactor_71 (xin_22 _ (List.mem_of_getElem? (i := 0) rfl)) xy_X11_expect (xi_X11_expect) (xs_X11_expect) (by omega) (by decide) (b := 0) rfl ⟨_, _, rfl⟩ (av := [.inl 41]) rfl (Nat.le_of_ble_eq_true rfl) (c_m_expect _ _ _ _ hq11) rfl ?_
  refine x_aload_n C dX11_compileFactor_74 rfl ?_
  refine x_dup C dX11_compileFactor_75 rfl ?_
  refine x_getI C dX11_compileFactor_76 fF_X11_304 rfl rfl ?_
  refine x_iconst C dX11_compileFactor_79 ?_
  refine x_isub C dX11_compileFactor_80 ?_
  refine x_putI C dX11_compileFactor_81 fF_X11_304 rfl rfl ?_
  refine x_goto C 160 dX11_compileFactor_84 (by decide) ?_
  exact x_returnV hR dX11_compileFactor_160 h
def f_m_compileFactorB_25 (FF : xM → Option xM) (m : xM) : Option (xM) :=
     (Option.bind (f_m_emit (-23) m) fun q14 =>
      some (xu q14 0 21 ((q14 0 21) - 1)))
set_option maxRecDepth 1000000 in
set_option maxHeartbeats 4000000 in
theorem t_m_compileFactorB_25 {Γ : xG} {d dF : Nat} (hd9 : (dF + 8) ≤ d) (C : xC Γ lay_M RX11 cX11_compileFactor 2 d) (FF : xM → Option xM) (hFF : ∀ (m m9 : xM), FF m = some m9 → xMet Γ.1.2.1 yX11_compileFactor cX11_compileFactor 2 none dF lay_M [.inr (.inr (some 0))] m none m9) {m9 : xM} (hR : xRv Γ lay_M cX11_compileFactor m9) (m : xM) (h : f_m_compileFactorB_25 FF m = some m9) : xW Γ lay_M 2 25 [(0, .inr (.inr (some 0)))] [] m := by
  unfold f_m_compileFactorB_25 at h
  refine x_aload_n C dX11_compileFactor_25 rfl ?_
  refine x_bipush C dX11_compileFactor_26 (by decide) ?_
  obtain ⟨q14, hq14, h⟩ := x_bind h
  refine x_callVI C dX11_compileFactor_28 (xin_69 _ (List.mem_of_getElem? (i := 10) rfl)) xy_X11_emit (xi_X11_emit) (xs_X11_emit) (by omega) (by decide) (b := 0) rfl ⟨_, _, rfl⟩ (av := [.inl (-23)]) rfl (Nat.le_of_ble_eq_true rfl) (c_m_emit _ _ _ _ hq14) rfl ?_
  refine x_aload_n C dX11_compileFactor_31 rfl ?_
  refine x_dup C dX11_compileFactor_32 rfl ?_
  refine x_getI C dX11_compileFactor_33 fF_X11_304 rfl rfl ?_
  refine x_iconst C dX11_compileFactor_36 ?_
  refine x_isub C dX11_compileFactor_37 ?_
  refine x_putI C dX11_compileFactor_38 fF_X11_304 rfl rfl ?_
  refine x_goto C 160 dX11_compileFactor_41 (by decide) ?_
  exact x_returnV hR dX11_compileFactor_160 h
def f_m_compileFactorB (FF : xM → Option xM) (m : xM) : Option (xM) :=
     (Option.bind (f_m_isWord 9 m) fun q0 =>
      (if xw q0 = 0 then (Option.bind (f_m_isSymbol 40 m) fun q1 =>
      (if xw q1 = 0 then (Option.bind (f_m_compileValue m) fun q2 =>
      (Option.bind (f_m_isSymbol 60 q2) fun q3 =>
      (if xw q3 = 0 then (Option.bind (f_m_isSymbol 61 q2) fun q4 =>
      (if xw q4 = 0 then f_m_compileFactorB_121 FF (-22) q2
      else f_m_compileFactorB_121 FF (-21) q2))
      else f_m_compileFactorB_121 FF (-20) q2)))
      else (Option.bind (f_m_enter m) fun q10 =>
      (if xw (q10 0 18) = 0 then (Option.bind (f_m_compileTest FF q10) fun q12 =>
      f_m_compileFactorB_68 FF q12)
      else f_m_compileFactorB_68 FF q10))))
      else (Option.bind (f_m_enter m) fun q13 =>
      (if xw (q13 0 18) = 0 then (Option.bind (FF q13) fun q15 =>
      f_m_compileFactorB_25 FF q15)
      else f_m_compileFactorB_25 FF q13))))
set_option maxRecDepth 1000000 in
set_option maxHeartbeats 4000000 in
theorem t_m_compileFactorB {Γ : xG} {d dF : Nat} (hd9 : (dF + 8) ≤ d) (C : xC Γ lay_M RX11 cX11_compileFactor 2 d) (FF : xM → Option xM) (hFF : ∀ (m m9 : xM), FF m = some m9 → xMet Γ.1.2.1 yX11_compileFactor cX11_compileFactor 2 none dF lay_M [.inr (.inr (some 0))] m none m9) {m9 : xM} (hR : xRv Γ lay_M cX11_compileFactor m9) (m : xM) (h : f_m_compileFactorB FF m = some m9) : xW Γ lay_M 2 0 [(0, .inr (.inr (some 0)))] [] m := by
  unfold f_m_compileFactorB at h
  refine x_aload_n C dX11_compileFactor_0 rfl ?_
  refine x_ldcSW C "not" 9 dX11_compileFactor_1 (List.mem_of_getElem? (i := 45) rfl) ?_
  obtain ⟨q0, hq0, h⟩ := x_bind h
  refine x_callVI C dX11_compileFactor_4 (xin_20 _ (List.mem_of_getElem? (i := 11) rfl)) xy_X11_isWord (xi_X11_isWord) (xs_X11_isWord) (by omega) (by decide) (b := 0) rfl ⟨_, _, rfl⟩ (av := [.inr (.inr (some 1009))]) rfl (Nat.le_of_ble_eq_true rfl) (c_m_isWord _ 9 (by decide) _ _ hq0) rfl ?_
  refine x_if_eq C 44 dX11_compileFactor_7 (by decide) h (fun h => ?_) (fun h => ?_)
  · refine x_aload_n C dX11_compileFactor_44 rfl ?_
    refine x_bipush C dX11_compileFactor_45 (by decide) ?_
    obtain ⟨q1, hq1, h⟩ := x_bind h
    refine x_callVI C dX11_compileFactor_47 (xin_22 _ (List.mem_of_getElem? (i := 4) rfl)) xy_X11_isSymbol (xi_X11_isSymbol) (xs_X11_isSymbol) (by omega) (by decide) (b := 0) rfl ⟨_, _, rfl⟩ (av := [.inl 40]) rfl (Nat.le_of_ble_eq_true rfl) (c_m_isSymbol _ _ _ _ hq1) rfl ?_
    refine x_if_eq C 87 dX11_compileFactor_50 (by decide) h (fun h => ?_) (fun h => ?_)
    · refine x_aload_n C dX11_compileFactor_87 rfl ?_
      obtain ⟨q2, hq2, h⟩ := x_bind h
      refine x_callVI C dX11_compileFactor_88 (xin_69 _ (List.mem_of_getElem? (i := 23) rfl)) xy_X11_compileValue (xi_X11_compileValue) (xs_X11_compileValue) (by omega) (by decide) (b := 0) rfl ⟨_, _, rfl⟩ (av := []) rfl (Nat.le_of_ble_eq_true rfl) (c_m_compileValue _ _ _ hq2) rfl ?_
      refine x_aload_n C dX11_compileFactor_91 rfl ?_
      refine x_bipush C dX11_compileFactor_92 (by decide) ?_
      obtain ⟨q3, hq3, h⟩ := x_bind h
      refine x_callVI C dX11_compileFactor_94 (xin_22 _ (List.mem_of_getElem? (i := 4) rfl)) xy_X11_isSymbol (xi_X11_isSymbol) (xs_X11_isSymbol) (by omega) (by decide) (b := 0) rfl ⟨_, _, rfl⟩ (av := [.inl 60]) rfl (Nat.le_of_ble_eq_true rfl) (c_m_isSymbol _ _ _ _ hq3) rfl ?_
      refine x_if_eq C 105 dX11_compileFactor_97 (by decide) h (fun h => ?_) (fun h => ?_)
      · refine x_aload_n C dX11_compileFactor_105 rfl ?_
        refine x_bipush C dX11_compileFactor_106 (by decide) ?_
        obtain ⟨q4, hq4, h⟩ := x_bind h
        refine x_callVI C dX11_compileFactor_108 (xin_22 _ (List.mem_of_getElem? (i := 4) rfl)) xy_X11_isSymbol (xi_X11_isSymbol) (xs_X11_isSymbol) (by omega) (by decide) (b := 0) rfl ⟨_, _, rfl⟩ (av := [.inl 61]) rfl (Nat.le_of_ble_eq_true rfl) (c_m_isSymbol _ _ _ _ hq4) rfl ?_
        refine x_if_eq C 119 dX11_compileFactor_111 (by decide) h (fun h => ?_) (fun h => ?_)
        · refine x_bipush C dX11_compileFactor_119 (by decide) ?_
          refine x_loc [(0, .inr (.inr (some 0)))] ⟨rfl, trivial⟩ ?_
          exact t_m_compileFactorB_121 hd9 C _ hFF hR _ _ h
        · refine x_bipush C dX11_compileFactor_114 (by decide) ?_
          refine x_goto C 121 dX11_compileFactor_116 (by decide) ?_
          refine x_loc [(0, .inr (.inr (some 0)))] ⟨rfl, trivial⟩ ?_
          exact t_m_compileFactorB_121 hd9 C _ hFF hR _ _ h
      · refine x_bipush C dX11_compileFactor_100 (by decide) ?_
        refine x_goto C 121 dX11_compileFactor_102 (by decide) ?_
        refine x_loc [(0, .inr (.inr (some 0)))] ⟨rfl, trivial⟩ ?_
        exact t_m_compileFactorB_121 hd9 C _ hFF hR _ _ h
    · refine x_aload_n C dX11_compileFactor_53 rfl ?_
      obtain ⟨q10, hq10, h⟩ := x_bind h
      refine x_callVI C dX11_compileFactor_54 (xin_69 _ (List.mem_of_getElem? (i := 19) rfl)) xy_X11_enter (xi_X11_enter) (xs_X11_enter) (by omega) (by decide) (b := 0) rfl ⟨_, _, rfl⟩ (av := []) rfl (Nat.le_of_ble_eq_true rfl) (c_m_enter _ _ _ hq10) rfl ?_
      refine x_aload_n C dX11_compileFactor_57 rfl ?_
      refine x_getI C dX11_compileFactor_58 fF_X11_301 rfl rfl ?_
      refine x_if_ne C 68 dX11_compileFactor_61 (by decide) h (fun h => ?_) (fun h => ?_)
      · refine x_loc [(0, .inr (.inr (some 0)))] ⟨rfl, trivial⟩ ?_
        exact t_m_compileFactorB_68 hd9 C _ hFF hR _ h
      · refine x_aload_n C dX11_compileFactor_64 rfl ?_
        obtain ⟨q12, hq12, h⟩ := x_bind h
        refine x_callVI C dX11_compileFactor_65 (xin_69 _ (List.mem_of_getElem? (i := 3) rfl)) xy_X11_compileTest (xi_X11_compileTest) (xs_X11_compileTest) (by omega) (by decide) (b := 0) rfl ⟨_, _, rfl⟩ (av := []) rfl (Nat.le_of_ble_eq_true rfl) (c_m_compileTest _ FF hFF _ _ hq12) rfl ?_
        refine x_loc [(0, .inr (.inr (some 0)))] ⟨rfl, trivial⟩ ?_
        exact t_m_compileFactorB_68 hd9 C _ hFF hR _ h
  · refine x_aload_n C dX11_compileFactor_10 rfl ?_
    obtain ⟨q13, hq13, h⟩ := x_bind h
    refine x_callVI C dX11_compileFactor_11 (xin_69 _ (List.mem_of_getElem? (i := 19) rfl)) xy_X11_enter (xi_X11_enter) (xs_X11_enter) (by omega) (by decide) (b := 0) rfl ⟨_, _, rfl⟩ (av := []) rfl (Nat.le_of_ble_eq_true rfl) (c_m_enter _ _ _ hq13) rfl ?_
    refine x_aload_n C dX11_compileFactor_14 rfl ?_
    refine x_getI C dX11_compileFactor_15 fF_X11_301 rfl rfl ?_
    refine x_if_ne C 25 dX11_compileFactor_18 (by decide) h (fun h => ?_) (fun h => ?_)
    · refine x_loc [(0, .inr (.inr (some 0)))] ⟨rfl, trivial⟩ ?_
      exact t_m_compileFactorB_25 hd9 C _ hFF hR _ h
    · refine x_aload_n C dX11_compileFactor_21 rfl ?_
      obtain ⟨q15, hq15, h⟩ := x_bind h
      refine x_callVI C dX11_compileFactor_22 (xin_69 _ (List.mem_of_getElem? (i := 15) rfl)) xy_X11_compileFactor (xi_X11_compileFactor) (xs_X11_compileFactor) (by omega) (by decide) (b := 0) rfl ⟨_, _, rfl⟩ (av := []) rfl (Nat.le_of_ble_eq_true rfl) (hFF _ _ hq15) rfl ?_
      refine x_loc [(0, .inr (.inr (some 0)))] ⟨rfl, trivial⟩ ?_
      exact t_m_compileFactorB_25 hd9 C _ hFF hR _ h
theorem c_m_compileFactorB (l : Launch) (FF : xM → Option xM) {dF : Nat} (hFF : ∀ (m m9 : xM), FF m = some m9 → xMet l yX11_compileFactor cX11_compileFactor 2 none dF lay_M [.inr (.inr (some 0))] m none m9) (m m9 : xM) (h : f_m_compileFactorB FF m = some m9) : xMet l yX11_compileFactor cX11_compileFactor 2 none (dF + 8) lay_M [.inr (.inr (some 0))] m none m9 :=
  xMet_v (by decide +kernel) (Nat.le_of_ble_eq_true rfl) (fun Γ C hR hl9 => t_m_compileFactorB (Nat.le_refl _) C FF (by subst hl9; exact hFF) hR m h)
/-- a factor, at most n deep -/
def f_m_compileFactor : Nat → xM → Option xM
  | 0, _ => none
  | n + 1, m => f_m_compileFactorB (f_m_compileFactor n) m
theorem c_m_compileFactor (l : Launch) : ∀ (n : Nat) (m m9 : xM), f_m_compileFactor n m = some m9 → xMet l yX11_compileFactor cX11_compileFactor 2 none (8 * n) lay_M [.inr (.inr (some 0))] m none m9
  | 0, _, _, h => by cases h
  | n + 1, m, m9, h => c_m_compileFactorB l (f_m_compileFactor n) (dF := 8 * n) (c_m_compileFactor l n) m m9 h
def f_m_compileTestC (m : xM) : Option xM := f_m_compileTest (f_m_compileFactor 8) m
theorem c_m_compileTestC (l : Launch) (m m9 : xM) (h : f_m_compileTestC m = some m9) : xMet l yX11_compileTest cX11_compileTest 1 none 71 lay_M [.inr (.inr (some 0))] m none m9 := c_m_compileTest l (f_m_compileFactor 8) (dF := 64) (c_m_compileFactor l 8) m m9 h
/-! ===== query ===== -/
theorem xy_X11_holdsFor : xY yX11_holdsFor cX11_holdsFor 5 (some .boolean) 1 := ⟨(xin_70 _ (List.mem_of_getElem? (i := 6) rfl)), (xin_1 _ (List.mem_of_getElem? (i := 5) rfl)), by decide, by decide, by decide +kernel⟩
theorem xi_X11_holdsFor : Cond.instanceMethod yX11_holdsFor ∈ wsL_law := (xin_70 _ (List.mem_of_getElem? (i := 4) rfl))
theorem xs_X11_holdsFor : Cond.selects yX11_holdsFor.cls yX11_holdsFor yX11_holdsFor ∈ wsL_law := (xin_70 _ (List.mem_of_getElem? (i := 5) rfl))
theorem dX11_query_0 : decode cX11_query 0 = .ok (.aload_n 0, 1) := by decide +kernel
theorem dX11_query_1 : decode cX11_query 1 = .ok (.iconst 0, 1) := by decide +kernel
theorem dX11_query_2 : decode cX11_query 2 = .ok (.putfield 66, 3) := by decide +kernel
theorem dX11_query_5 : decode cX11_query 5 = .ok (.iload_n 1, 1) := by decide +kernel
theorem dX11_query_6 : decode cX11_query 6 = .ok (.iconst 0, 1) := by decide +kernel
theorem dX11_query_7 : decode cX11_query 7 = .ok (.aload_n 0, 1) := by decide +kernel
theorem dX11_query_8 : decode cX11_query 8 = .ok (.getfield 209, 3) := by decide +kernel
theorem dX11_query_11 : decode cX11_query 11 = .ok (.sipush 200, 3) := by decide +kernel
theorem dX11_query_14 : decode cX11_query 14 = .ok (.invokestatic 96, 3) := by decide +kernel
theorem dX11_query_17 : decode cX11_query 17 = .ok (.invokestatic 81, 3) := by decide +kernel
theorem dX11_query_20 : decode cX11_query 20 = .ok (.ifCond .ne 9, 3) := by decide +kernel
theorem dX11_query_23 : decode cX11_query 23 = .ok (.aload_n 0, 1) := by decide +kernel
theorem dX11_query_24 : decode cX11_query 24 = .ok (.iconst 1, 1) := by decide +kernel
theorem dX11_query_25 : decode cX11_query 25 = .ok (.invokevirtual 212, 3) := by decide +kernel
theorem dX11_query_28 : decode cX11_query 28 = .ok (.ireturn, 1) := by decide +kernel
theorem dX11_query_29 : decode cX11_query 29 = .ok (.aload_n 0, 1) := by decide +kernel
theorem dX11_query_30 : decode cX11_query 30 = .ok (.iconst 0, 1) := by decide +kernel
theorem dX11_query_31 : decode cX11_query 31 = .ok (.putfield 403, 3) := by decide +kernel
theorem dX11_query_34 : decode cX11_query 34 = .ok (.aload_n 0, 1) := by decide +kernel
theorem dX11_query_35 : decode cX11_query 35 = .ok (.iload_n 1, 1) := by decide +kernel
theorem dX11_query_36 : decode cX11_query 36 = .ok (.invokevirtual 394, 3) := by decide +kernel
theorem dX11_query_39 : decode cX11_query 39 = .ok (.aload_n 0, 1) := by decide +kernel
theorem dX11_query_40 : decode cX11_query 40 = .ok (.ldc_w 437, 3) := by decide +kernel
theorem dX11_query_43 : decode cX11_query 43 = .ok (.invokevirtual 316, 3) := by decide +kernel
theorem dX11_query_46 : decode cX11_query 46 = .ok (.istore_n 2, 1) := by decide +kernel
theorem dX11_query_47 : decode cX11_query 47 = .ok (.aload_n 0, 1) := by decide +kernel
theorem dX11_query_48 : decode cX11_query 48 = .ok (.iload_n 2, 1) := by decide +kernel
theorem dX11_query_49 : decode cX11_query 49 = .ok (.ifCond .ne 13, 3) := by decide +kernel
theorem dX11_query_52 : decode cX11_query 52 = .ok (.aload_n 0, 1) := by decide +kernel
theorem dX11_query_53 : decode cX11_query 53 = .ok (.ldc_w 439, 3) := by decide +kernel
theorem dX11_query_56 : decode cX11_query 56 = .ok (.invokevirtual 316, 3) := by decide +kernel
theorem dX11_query_59 : decode cX11_query 59 = .ok (.ifCond .eq 7, 3) := by decide +kernel
theorem dX11_query_62 : decode cX11_query 62 = .ok (.iconst 1, 1) := by decide +kernel
theorem dX11_query_63 : decode cX11_query 63 = .ok (.goto 4, 3) := by decide +kernel
theorem dX11_query_66 : decode cX11_query 66 = .ok (.iconst 0, 1) := by decide +kernel
theorem dX11_query_67 : decode cX11_query 67 = .ok (.iconst 1, 1) := by decide +kernel
theorem dX11_query_68 : decode cX11_query 68 = .ok (.invokevirtual 320, 3) := by decide +kernel
theorem dX11_query_71 : decode cX11_query 71 = .ok (.aload_n 0, 1) := by decide +kernel
theorem dX11_query_72 : decode cX11_query 72 = .ok (.invokevirtual 324, 3) := by decide +kernel
theorem dX11_query_75 : decode cX11_query 75 = .ok (.aload_n 0, 1) := by decide +kernel
theorem dX11_query_76 : decode cX11_query 76 = .ok (.invokevirtual 417, 3) := by decide +kernel
theorem dX11_query_79 : decode cX11_query 79 = .ok (.aload_n 0, 1) := by decide +kernel
theorem dX11_query_80 : decode cX11_query 80 = .ok (.aload_n 0, 1) := by decide +kernel
theorem dX11_query_81 : decode cX11_query 81 = .ok (.getfield 301, 3) := by decide +kernel
theorem dX11_query_84 : decode cX11_query 84 = .ok (.ifCond .ne 10, 3) := by decide +kernel
theorem dX11_query_87 : decode cX11_query 87 = .ok (.aload_n 0, 1) := by decide +kernel
theorem dX11_query_88 : decode cX11_query 88 = .ok (.getfield 292, 3) := by decide +kernel
theorem dX11_query_91 : decode cX11_query 91 = .ok (.ifCond .ne 7, 3) := by decide +kernel
theorem dX11_query_94 : decode cX11_query 94 = .ok (.iconst 1, 1) := by decide +kernel
theorem dX11_query_95 : decode cX11_query 95 = .ok (.goto 4, 3) := by decide +kernel
theorem dX11_query_98 : decode cX11_query 98 = .ok (.iconst 0, 1) := by decide +kernel
theorem dX11_query_99 : decode cX11_query 99 = .ok (.iconst 1, 1) := by decide +kernel
theorem dX11_query_100 : decode cX11_query 100 = .ok (.invokevirtual 320, 3) := by decide +kernel
theorem dX11_query_103 : decode cX11_query 103 = .ok (.aload_n 0, 1) := by decide +kernel
theorem dX11_query_104 : decode cX11_query 104 = .ok (.invokevirtual 400, 3) := by decide +kernel
theorem dX11_query_107 : decode cX11_query 107 = .ok (.ifCond .eq 12, 3) := by decide +kernel
theorem dX11_query_110 : decode cX11_query 110 = .ok (.ldc_w 441, 3) := by decide +kernel
theorem dX11_query_113 : decode cX11_query 113 = .ok (.aload_n 0, 1) := by decide +kernel
theorem dX11_query_114 : decode cX11_query 114 = .ok (.getfield 301, 3) := by decide +kernel
theorem dX11_query_117 : decode cX11_query 117 = .ok (.isub, 1) := by decide +kernel
theorem dX11_query_118 : decode cX11_query 118 = .ok (.ireturn, 1) := by decide +kernel
theorem dX11_query_119 : decode cX11_query 119 = .ok (.iconst 0, 1) := by decide +kernel
theorem dX11_query_120 : decode cX11_query 120 = .ok (.istore_n 3, 1) := by decide +kernel
theorem dX11_query_121 : decode cX11_query 121 = .ok (.iconst 0, 1) := by decide +kernel
theorem dX11_query_122 : decode cX11_query 122 = .ok (.istore 4, 2) := by decide +kernel
theorem dX11_query_124 : decode cX11_query 124 = .ok (.iload 4, 2) := by decide +kernel
theorem dX11_query_126 : decode cX11_query 126 = .ok (.aload_n 0, 1) := by decide +kernel
theorem dX11_query_127 : decode cX11_query 127 = .ok (.getfield 9, 3) := by decide +kernel
theorem dX11_query_130 : decode cX11_query 130 = .ok (.bipush 10, 2) := by decide +kernel
theorem dX11_query_132 : decode cX11_query 132 = .ok (.iaload, 1) := by decide +kernel
theorem dX11_query_133 : decode cX11_query 133 = .ok (.if_icmp .ge 31, 3) := by decide +kernel
theorem dX11_query_136 : decode cX11_query 136 = .ok (.aload_n 0, 1) := by decide +kernel
theorem dX11_query_137 : decode cX11_query 137 = .ok (.iload 4, 2) := by decide +kernel
theorem dX11_query_139 : decode cX11_query 139 = .ok (.invokevirtual 442, 3) := by decide +kernel
theorem dX11_query_142 : decode cX11_query 142 = .ok (.ifCond .ne 6, 3) := by decide +kernel
theorem dX11_query_145 : decode cX11_query 145 = .ok (.goto 13, 3) := by decide +kernel
theorem dX11_query_148 : decode cX11_query 148 = .ok (.iload_n 2, 1) := by decide +kernel
theorem dX11_query_149 : decode cX11_query 149 = .ok (.ifCond .eq 6, 3) := by decide +kernel
theorem dX11_query_152 : decode cX11_query 152 = .ok (.iload 4, 2) := by decide +kernel
theorem dX11_query_154 : decode cX11_query 154 = .ok (.ireturn, 1) := by decide +kernel
theorem dX11_query_155 : decode cX11_query 155 = .ok (.iinc 3 1, 3) := by decide +kernel
theorem dX11_query_158 : decode cX11_query 158 = .ok (.iinc 4 1, 3) := by decide +kernel
theorem dX11_query_161 : decode cX11_query 161 = .ok (.goto (-37), 3) := by decide +kernel
theorem dX11_query_164 : decode cX11_query 164 = .ok (.iload_n 2, 1) := by decide +kernel
theorem dX11_query_165 : decode cX11_query 165 = .ok (.ifCond .eq 7, 3) := by decide +kernel
theorem dX11_query_168 : decode cX11_query 168 = .ok (.iconst (-1), 1) := by decide +kernel
theorem dX11_query_169 : decode cX11_query 169 = .ok (.goto 4, 3) := by decide +kernel
theorem dX11_query_172 : decode cX11_query 172 = .ok (.iload_n 3, 1) := by decide +kernel
theorem dX11_query_173 : decode cX11_query 173 = .ok (.ireturn, 1) := by decide +kernel
def f_m_query_164 (z : Int) (x2 : Int) (x3 : Int) (m : xM) : Option (Int × xM) :=
     (if xw x2 = 0 then some (x3, m)
      else some ((-1), m))
set_option maxRecDepth 1000000 in
set_option maxHeartbeats 4000000 in
theorem t_m_query_164 {Γ : xG} {d : Nat} (hd9 : 72 ≤ d) (C : xC Γ lay_M RX11 cX11_query 5 d) (z : Int) {r : Int} {m9 : xM} (hR : xRi Γ lay_M cX11_query r m9) (x2 : Int) (x3 : Int) (m : xM) (h : f_m_query_164 z x2 x3 m = some (r, m9)) : xW Γ lay_M 5 164 [(2, .inl x2), (3, .inl x3)] [] m := by
  unfold f_m_query_164 at h
  refine x_iload_n C dX11_query_164 rfl ?_
  refine x_if_eq C 172 dX11_query_165 (by decide) h (fun h => ?_) (fun h => ?_)
  · refine x_iload_n C dX11_query_172 rfl ?_
    exact x_ireturn hR dX11_query_173 h
  · refine x_iconst C dX11_query_168 ?_
    refine x_goto C 173 dX11_query_169 (by decide) ?_
    exact x_ireturn hR dX11_query_173 h
def f_m_query_158 (z : Int) (k124 : Int → Int → Int → xM → Option (Int × xM)) (x2 : Int) (x3 : Int) (x4 : Int) (m : xM) : Option (Int × xM) :=
     k124 x2 x3 (x4 + 1) m
set_option maxRecDepth 1000000 in
set_option maxHeartbeats 4000000 in
theorem t_m_query_158 {Γ : xG} {d : Nat} (hd9 : 72 ≤ d) (C : xC Γ lay_M RX11 cX11_query 5 d) (z : Int) {r : Int} {m9 : xM} (hR : xRi Γ lay_M cX11_query r m9) {k124 : Int → Int → Int → xM → Option (Int × xM)} (hk124 : ∀ (x2 : Int) (x3 : Int) (x4 : Int) (m : xM), k124 x2 x3 x4 m = some (r, m9) → xW Γ lay_M 5 124 [(0, .inr (.inr (some 0))), (2, .inl x2), (3, .inl x3), (4, .inl x4)] [] m) (x2 : Int) (x3 : Int) (x4 : Int) (m : xM) (h : f_m_query_158 z k124 x2 x3 x4 m = some (r, m9)) : xW Γ lay_M 5 158 [(0, .inr (.inr (some 0))), (2, .inl x2), (3, .inl x3), (4, .inl x4)] [] m := by
  unfold f_m_query_158 at h
  refine x_iinc C dX11_query_158 (by decide) rfl ?_
  refine x_goto C 124 dX11_query_161 (by decide) ?_
  refine x_loc [(0, .inr (.inr (some 0))), (2, .inl x2), (3, .inl x3), (4, .inl (x4 + 1))] ⟨rfl, rfl, rfl, rfl, trivial⟩ ?_
  exact hk124 _ _ _ _ h
def f_m_query_124 (z : Int) : Nat → Int → Int → Int → xM → Option (Int × xM)
  | 0, _, _, _, _ => none
  | n + 1, x2, x3, x4, m =>
     (if xib 10 3530 then (if xw x4 < xw (m 1 10) then (Option.bind (f_m_holdsFor x4 m) fun q8 =>
      (if xw q8.1 = 0 then f_m_query_158 z (f_m_query_124 z n) x2 x3 x4 q8.2
      else (if xw x2 = 0 then f_m_query_158 z (f_m_query_124 z n) x2 (x3 + 1) x4 q8.2
      else some (x4, q8.2))))
      else f_m_query_164 z x2 x3 m)
      else none)
set_option maxRecDepth 1000000 in
set_option maxHeartbeats 4000000 in
theorem t_m_query_124 {Γ : xG} {d : Nat} (hd9 : 72 ≤ d) (C : xC Γ lay_M RX11 cX11_query 5 d) (z : Int) {r : Int} {m9 : xM} (hR : xRi Γ lay_M cX11_query r m9) : ∀ (n : Nat) (x2 : Int) (x3 : Int) (x4 : Int) (m : xM), f_m_query_124 z n x2 x3 x4 m = some (r, m9) → xW Γ lay_M 5 124 [(0, .inr (.inr (some 0))), (2, .inl x2), (3, .inl x3), (4, .inl x4)] [] m := by
  intro n
  induction n with
  | zero => intro _ _ _ _ h; cases h
  | succ n ih =>
    intro x2 x3 x4 m h
    rw [f_m_query_124] at h
    refine x_iload C dX11_query_124 rfl ?_
    refine x_aload_n C dX11_query_126 rfl ?_
    refine x_getR C dX11_query_127 fF_X11_9 rfl rfl ?_
    refine x_bipush C dX11_query_130 (by decide) ?_
    refine x_iaload C dX11_query_132 rfl h (fun h => ?_)
    refine x_icmp_ge C 164 dX11_query_133 (by decide) h (fun h => ?_) (fun h => ?_)
    · refine x_loc [(2, .inl x2), (3, .inl x3)] ⟨rfl, rfl, trivial⟩ ?_
      exact t_m_query_164 hd9 C _ hR _ _ _ h
    · refine x_aload_n C dX11_query_136 rfl ?_
      refine x_iload C dX11_query_137 rfl ?_
      obtain ⟨q8, hq8, h⟩ := x_bind h
      refine x_callVI C dX11_query_139 (xin_70 _ (List.mem_of_getElem? (i := 3) rfl)) xy_X11_holdsFor (xi_X11_holdsFor) (xs_X11_holdsFor) (by omega) (by decide) (b := 0) rfl ⟨_, _, rfl⟩ (av := [.inl x4]) rfl (Nat.le_of_ble_eq_true rfl) (c_m_holdsFor _ _ _ q8.1 q8.2 hq8) rfl ?_
      refine x_if_ne C 148 dX11_query_142 (by decide) h (fun h => ?_) (fun h => ?_)
      · refine x_iload_n C dX11_query_148 rfl ?_
        refine x_if_eq C 155 dX11_query_149 (by decide) h (fun h => ?_) (fun h => ?_)
        · refine x_iinc C dX11_query_155 (by decide) rfl ?_
          refine x_loc [(0, .inr (.inr (some 0))), (2, .inl x2), (3, .inl (x3 + 1)), (4, .inl x4)] ⟨rfl, rfl, rfl, rfl, trivial⟩ ?_
          exact t_m_query_158 hd9 C _ hR ih _ _ _ _ h
        · refine x_iload C dX11_query_152 rfl ?_
          exact x_ireturn hR dX11_query_154 h
      · refine x_goto C 158 dX11_query_145 (by decide) ?_
        refine x_loc [(0, .inr (.inr (some 0))), (2, .inl x2), (3, .inl x3), (4, .inl x4)] ⟨rfl, rfl, rfl, rfl, trivial⟩ ?_
        exact t_m_query_158 hd9 C _ hR ih _ _ _ _ h
def f_m_query_99 (z : Int) (x2 : Int) (s0 : Int) (m : xM) : Option (Int × xM) :=
     (Option.bind (f_m_check s0 1 m) fun q6 =>
      (Option.bind (f_m_finish q6) fun q7 =>
      (if xw q7.1 = 0 then f_m_query_124 z fu x2 0 0 q7.2
      else some ((-1000000000) - (q7.2 0 18), q7.2))))
set_option maxRecDepth 1000000 in
set_option maxHeartbeats 4000000 in
theorem t_m_query_99 {Γ : xG} {d : Nat} (hd9 : 72 ≤ d) (C : xC Γ lay_M RX11 cX11_query 5 d) (z : Int) {r : Int} {m9 : xM} (hR : xRi Γ lay_M cX11_query r m9) (x2 : Int) (s0 : Int) (m : xM) (h : f_m_query_99 z x2 s0 m = some (r, m9)) : xW Γ lay_M 5 99 [(0, .inr (.inr (some 0))), (2, .inl x2)] [.inl s0, .inr (.inr (some 0))] m := by
  unfold f_m_query_99 at h
  refine x_iconst C dX11_query_99 ?_
  obtain ⟨q6, hq6, h⟩ := x_bind h
  refine x_callVI C dX11_query_100 (xin_20 _ (List.mem_of_getElem? (i := 17) rfl)) xy_X11_check (xi_X11_check) (xs_X11_check) (by omega) (by decide) (b := 0) rfl ⟨_, _, rfl⟩ (av := [.inl s0, .inl 1]) rfl (Nat.le_of_ble_eq_true rfl) (c_m_check _ _ _ _ _ hq6) rfl ?_
  refine x_aload_n C dX11_query_103 rfl ?_
  obtain ⟨q7, hq7, h⟩ := x_bind h
  refine x_callVI C dX11_query_104 (xin_23 _ (List.mem_of_getElem? (i := 12) rfl)) xy_X11_finish (xi_X11_finish) (xs_X11_finish) (by omega) (by decide) (b := 0) rfl ⟨_, _, rfl⟩ (av := []) rfl (Nat.le_of_ble_eq_true rfl) (c_m_finish _ _ q7.1 q7.2 hq7) rfl ?_
  refine x_if_eq C 119 dX11_query_107 (by decide) h (fun h => ?_) (fun h => ?_)
  · refine x_iconst C dX11_query_119 ?_
    refine x_istore_n C dX11_query_120 (by decide) ?_
    refine x_iconst C dX11_query_121 ?_
    refine x_istore C dX11_query_122 (by decide) ?_
    refine x_loc [(0, .inr (.inr (some 0))), (2, .inl x2), (3, .inl 0), (4, .inl 0)] ⟨rfl, rfl, rfl, rfl, trivial⟩ ?_
    exact t_m_query_124 hd9 C _ hR fu _ _ _ _ h
  · refine x_ldc_w C (-1000000000) dX11_query_110 (xin_69 _ (List.mem_of_getElem? (i := 2) rfl)) (by decide) ?_
    refine x_aload_n C dX11_query_113 rfl ?_
    refine x_getI C dX11_query_114 fF_X11_301 rfl rfl ?_
    refine x_isub C dX11_query_117 ?_
    exact x_ireturn hR dX11_query_118 h
def f_m_query_94 (z : Int) (x2 : Int) (m : xM) : Option (Int × xM) :=
     f_m_query_99 z x2 1 m
set_option maxRecDepth 1000000 in
set_option maxHeartbeats 4000000 in
theorem t_m_query_94 {Γ : xG} {d : Nat} (hd9 : 72 ≤ d) (C : xC Γ lay_M RX11 cX11_query 5 d) (z : Int) {r : Int} {m9 : xM} (hR : xRi Γ lay_M cX11_query r m9) (x2 : Int) (m : xM) (h : f_m_query_94 z x2 m = some (r, m9)) : xW Γ lay_M 5 94 [(0, .inr (.inr (some 0))), (2, .inl x2)] [.inr (.inr (some 0))] m := by
  unfold f_m_query_94 at h
  refine x_iconst C dX11_query_94 ?_
  refine x_goto C 99 dX11_query_95 (by decide) ?_
  refine x_loc [(0, .inr (.inr (some 0))), (2, .inl x2)] ⟨rfl, rfl, trivial⟩ ?_
  exact t_m_query_99 hd9 C _ hR _ _ _ h
def f_m_query_67 (z : Int) (x2 : Int) (s0 : Int) (m : xM) : Option (Int × xM) :=
     (Option.bind (f_m_check s0 1 m) fun q3 =>
      (Option.bind (f_m_advance q3) fun q4 =>
      (Option.bind (f_m_compileTestC q4) fun q5 =>
      (if xw (q5 0 18) = 0 then (if xw (q5 0 17) = 0 then f_m_query_94 z x2 q5
      else f_m_query_99 z x2 0 q5)
      else f_m_query_94 z x2 q5))))
set_option maxRecDepth 1000000 in
set_option maxHeartbeats 4000000 in
theorem t_m_query_67 {Γ : xG} {d : Nat} (hd9 : 72 ≤ d) (C : xC Γ lay_M RX11 cX11_query 5 d) (z : Int) {r : Int} {m9 : xM} (hR : xRi Γ lay_M cX11_query r m9) (x2 : Int) (s0 : Int) (m : xM) (h : f_m_query_67 z x2 s0 m = some (r, m9)) : xW Γ lay_M 5 67 [(0, .inr (.inr (some 0))), (2, .inl x2)] [.inl s0, .inr (.inr (some 0))] m := by
  unfold f_m_query_67 at h
  refine x_iconst C dX11_query_67 ?_
  obtain ⟨q3, hq3, h⟩ := x_bind h
  refine x_callVI C dX11_query_68 (xin_20 _ (List.mem_of_getElem? (i := 17) rfl)) xy_X11_check (xi_X11_check) (xs_X11_check) (by omega) (by decide) (b := 0) rfl ⟨_, _, rfl⟩ (av := [.inl s0, .inl 1]) rfl (Nat.le_of_ble_eq_true rfl) (c_m_check _ _ _ _ _ hq3) rfl ?_
  refine x_aload_n C dX11_query_71 rfl ?_
  obtain ⟨q4, hq4, h⟩ := x_bind h
  refine x_callVI C dX11_query_72 (xin_21 _ (List.mem_of_getElem? (i := 2) rfl)) xy_X11_advance (xi_X11_advance) (xs_X11_advance) (by omega) (by decide) (b := 0) rfl ⟨_, _, rfl⟩ (av := []) rfl (Nat.le_of_ble_eq_true rfl) (c_m_advance _ _ _ hq4) rfl ?_
  refine x_aload_n C dX11_query_75 rfl ?_
  obtain ⟨q5, hq5, h⟩ := x_bind h
  refine x_callVI C dX11_query_76 (xin_69 _ (List.mem_of_getElem? (i := 3) rfl)) xy_X11_compileTest (xi_X11_compileTest) (xs_X11_compileTest) (by omega) (by decide) (b := 0) rfl ⟨_, _, rfl⟩ (av := []) rfl (Nat.le_of_ble_eq_true rfl) (c_m_compileTestC _ _ _ hq5) rfl ?_
  refine x_aload_n C dX11_query_79 rfl ?_
  refine x_aload_n C dX11_query_80 rfl ?_
  refine x_getI C dX11_query_81 fF_X11_301 rfl rfl ?_
  refine x_if_ne C 94 dX11_query_84 (by decide) h (fun h => ?_) (fun h => ?_)
  · refine x_loc [(0, .inr (.inr (some 0))), (2, .inl x2)] ⟨rfl, rfl, trivial⟩ ?_
    exact t_m_query_94 hd9 C _ hR _ _ h
  · refine x_aload_n C dX11_query_87 rfl ?_
    refine x_getI C dX11_query_88 fF_X11_292 rfl rfl ?_
    refine x_if_ne C 98 dX11_query_91 (by decide) h (fun h => ?_) (fun h => ?_)
    · refine x_iconst C dX11_query_98 ?_
      refine x_loc [(0, .inr (.inr (some 0))), (2, .inl x2)] ⟨rfl, rfl, trivial⟩ ?_
      exact t_m_query_99 hd9 C _ hR _ _ _ h
    · refine x_loc [(0, .inr (.inr (some 0))), (2, .inl x2)] ⟨rfl, rfl, trivial⟩ ?_
      exact t_m_query_94 hd9 C _ hR _ _ h
def f_m_query_62 (z : Int) (x2 : Int) (m : xM) : Option (Int × xM) :=
     f_m_query_67 z x2 1 m
set_option maxRecDepth 1000000 in
set_option maxHeartbeats 4000000 in
theorem t_m_query_62 {Γ : xG} {d : Nat} (hd9 : 72 ≤ d) (C : xC Γ lay_M RX11 cX11_query 5 d) (z : Int) {r : Int} {m9 : xM} (hR : xRi Γ lay_M cX11_query r m9) (x2 : Int) (m : xM) (h : f_m_query_62 z x2 m = some (r, m9)) : xW Γ lay_M 5 62 [(0, .inr (.inr (some 0))), (2, .inl x2)] [.inr (.inr (some 0))] m := by
  unfold f_m_query_62 at h
  refine x_iconst C dX11_query_62 ?_
  refine x_goto C 67 dX11_query_63 (by decide) ?_
  refine x_loc [(0, .inr (.inr (some 0))), (2, .inl x2)] ⟨rfl, rfl, trivial⟩ ?_
  exact t_m_query_67 hd9 C _ hR _ _ _ h
def f_m_query (z : Int) (m : xM) : Option (Int × xM) :=
     (Option.bind (f_m_inRange z 0 (if xw 200 < xw (m 0 13) then 200 else (m 0 13)) (xvw [] (xu m 0 6 0))) fun q0 =>
      (if xw q0 = 0 then (Option.bind (f_m_raise 1 (xu m 0 6 0)) fun q10 =>
      some (q10.1, q10.2))
      else (Option.bind (f_m_startText z (xu (xu m 0 6 0) 0 25 0)) fun q1 =>
      (Option.bind (f_m_isWord 5 q1) fun q2 =>
      (if xw q2 = 0 then (Option.bind (f_m_isWord 6 q1) fun q9 =>
      (if xw q9 = 0 then f_m_query_67 z q2 0 q1
      else f_m_query_62 z q2 q1))
      else f_m_query_62 z q2 q1)))))
set_option maxRecDepth 1000000 in
set_option maxHeartbeats 4000000 in
theorem t_m_query {Γ : xG} {d : Nat} (hd9 : 72 ≤ d) (C : xC Γ lay_M RX11 cX11_query 5 d) (z : Int) {r : Int} {m9 : xM} (hR : xRi Γ lay_M cX11_query r m9) (m : xM) (h : f_m_query z m = some (r, m9)) : xW Γ lay_M 5 0 [(0, .inr (.inr (some 0))), (1, .inl z)] [] m := by
  unfold f_m_query at h
  refine x_aload_n C dX11_query_0 rfl ?_
  refine x_iconst C dX11_query_1 ?_
  refine x_putI C dX11_query_2 fF_X11_66 rfl rfl ?_
  refine x_iload_n C dX11_query_5 rfl ?_
  refine x_iconst C dX11_query_6 ?_
  refine x_aload_n C dX11_query_7 rfl ?_
  refine x_getI C dX11_query_8 fF_X11_209 rfl rfl ?_
  refine x_sipush C dX11_query_11 (by decide) ?_
  refine x_min C dX11_query_14 (xin_30 _ (List.mem_of_getElem? (i := 15) rfl)) gm_min_s gm_math gm_min_c (by omega) (Nat.le_of_ble_eq_true rfl) ?_
  obtain ⟨q0, hq0, h⟩ := x_bind h
  refine x_callSp C dX11_query_17 (xin_18 _ (List.mem_of_getElem? (i := 19) rfl)) xy_X11_inRange (xt_X11_inRange) [] xv_49 (by omega) (by decide) (av := [.inl z, .inl 0, .inl (if xw 200 < xw (m 0 13) then 200 else (m 0 13))]) rfl (Nat.le_of_ble_eq_true rfl) (c_m_inRange _ _ _ _ _ _ hq0) rfl ?_
  refine x_if_ne C 29 dX11_query_20 (by decide) h (fun h => ?_) (fun h => ?_)
  · refine x_aload_n C dX11_query_29 rfl ?_
    refine x_iconst C dX11_query_30 ?_
    refine x_putI C dX11_query_31 fF_X11_403 rfl rfl ?_
    refine x_aload_n C dX11_query_34 rfl ?_
    refine x_iload_n C dX11_query_35 rfl ?_
    obtain ⟨q1, hq1, h⟩ := x_bind h
    refine x_callVI C dX11_query_36 (xin_19 _ (List.mem_of_getElem? (i := 2) rfl)) xy_X11_startText (xi_X11_startText) (xs_X11_startText) (by omega) (by decide) (b := 0) rfl ⟨_, _, rfl⟩ (av := [.inl z]) rfl (Nat.le_of_ble_eq_true rfl) (c_m_startText _ _ _ _ hq1) rfl ?_
    refine x_aload_n C dX11_query_39 rfl ?_
    refine x_ldcSW C "first" 5 dX11_query_40 (List.mem_of_getElem? (i := 43) rfl) ?_
    obtain ⟨q2, hq2, h⟩ := x_bind h
    refine x_callVI C dX11_query_43 (xin_20 _ (List.mem_of_getElem? (i := 11) rfl)) xy_X11_isWord (xi_X11_isWord) (xs_X11_isWord) (by omega) (by decide) (b := 0) rfl ⟨_, _, rfl⟩ (av := [.inr (.inr (some 1005))]) rfl (Nat.le_of_ble_eq_true rfl) (c_m_isWord _ 5 (by decide) _ _ hq2) rfl ?_
    refine x_istore_n C dX11_query_46 (by decide) ?_
    refine x_aload_n C dX11_query_47 rfl ?_
    refine x_iload_n C dX11_query_48 rfl ?_
    refine x_if_ne C 62 dX11_query_49 (by decide) h (fun h => ?_) (fun h => ?_)
    · refine x_loc [(0, .inr (.inr (some 0))), (2, .inl q2)] ⟨rfl, rfl, trivial⟩ ?_
      exact t_m_query_62 hd9 C _ hR _ _ h
    · refine x_aload_n C dX11_query_52 rfl ?_
      refine x_ldcSW C "many" 6 dX11_query_53 (List.mem_of_getElem? (i := 44) rfl) ?_
      obtain ⟨q9, hq9, h⟩ := x_bind h
      refine x_callVI C dX11_query_56 (xin_20 _ (List.mem_of_getElem? (i := 11) rfl)) xy_X11_isWord (xi_X11_isWord) (xs_X11_isWord) (by omega) (by decide) (b := 0) rfl ⟨_, _, rfl⟩ (av := [.inr (.inr (some 1006))]) rfl (Nat.le_of_ble_eq_true rfl) (c_m_isWord _ 6 (by decide) _ _ hq9) rfl ?_
      refine x_if_eq C 66 dX11_query_59 (by decide) h (fun h => ?_) (fun h => ?_)
      · refine x_iconst C dX11_query_66 ?_
        refine x_loc [(0, .inr (.inr (some 0))), (2, .inl q2)] ⟨rfl, rfl, trivial⟩ ?_
        exact t_m_query_67 hd9 C _ hR _ _ _ h
      · refine x_loc [(0, .inr (.inr (some 0))), (2, .inl q2)] ⟨rfl, rfl, trivial⟩ ?_
        exact t_m_query_62 hd9 C _ hR _ _ h
  · refine x_aload_n C dX11_query_23 rfl ?_
    refine x_iconst C dX11_query_24 ?_
    obtain ⟨q10, hq10, h⟩ := x_bind h
    refine x_callVI C dX11_query_25 (xin_18 _ (List.mem_of_getElem? (i := 22) rfl)) xy_X11_raise (xi_X11_raise) (xs_X11_raise) (by omega) (by decide) (b := 0) rfl ⟨_, _, rfl⟩ (av := [.inl 1]) rfl (Nat.le_of_ble_eq_true rfl) (c_m_raise _ _ _ q10.1 q10.2 hq10) rfl ?_
    exact x_ireturn hR dX11_query_28 h
theorem c_m_query (l : Launch) (z : Int) (m : xM) (r : Int) (m9 : xM) (h : f_m_query z m = some (r, m9)) : xMet l yX11_query cX11_query 5 (some .int) 72 lay_M [.inr (.inr (some 0)), .inl z] m (some (.inl r)) m9 :=
  xMet_i (by decide +kernel) (Nat.le_of_ble_eq_true rfl) (fun Γ C hR hl9 => t_m_query (Nat.le_refl _) C z hR m h)

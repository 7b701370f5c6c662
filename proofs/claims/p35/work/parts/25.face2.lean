/-! ===== yX10_word ===== -/
theorem fF_X10_261 : xF RX10 261 1 0 (.array .int) true := ⟨RX0, TX0, 2, tyX0, rfl, by decide, (xin_32 _ (List.mem_of_getElem? (i := 2) rfl)), rfl, inlX0, tyX0_ok, nmX0, rfl, rfl⟩
theorem dX10_word_0 : decode cX10_word 0 = .ok (.aload_n 0, 1) := by decide +kernel
theorem dX10_word_1 : decode cX10_word 1 = .ok (.iload_n 1, 1) := by decide +kernel
theorem dX10_word_2 : decode cX10_word 2 = .ok (.invokevirtual 181, 3) := by decide +kernel
theorem dX10_word_5 : decode cX10_word 5 = .ok (.aload_n 0, 1) := by decide +kernel
theorem dX10_word_6 : decode cX10_word 6 = .ok (.getfield 27, 3) := by decide +kernel
theorem dX10_word_9 : decode cX10_word 9 = .ok (.iload_n 1, 1) := by decide +kernel
theorem dX10_word_10 : decode cX10_word 10 = .ok (.invokevirtual 184, 3) := by decide +kernel
theorem dX10_word_13 : decode cX10_word 13 = .ok (.astore 4, 2) := by decide +kernel
theorem dX10_word_15 : decode cX10_word 15 = .ok (.iload_n 2, 1) := by decide +kernel
theorem dX10_word_16 : decode cX10_word 16 = .ok (.ifCond .eq 11, 3) := by decide +kernel
theorem dX10_word_19 : decode cX10_word 19 = .ok (.aload 4, 2) := by decide +kernel
theorem dX10_word_21 : decode cX10_word 21 = .ok (.getfield 218, 3) := by decide +kernel
theorem dX10_word_24 : decode cX10_word 24 = .ok (.goto 8, 3) := by decide +kernel
theorem dX10_word_27 : decode cX10_word 27 = .ok (.aload 4, 2) := by decide +kernel
theorem dX10_word_29 : decode cX10_word 29 = .ok (.getfield 225, 3) := by decide +kernel
theorem dX10_word_32 : decode cX10_word 32 = .ok (.astore 5, 2) := by decide +kernel
theorem dX10_word_34 : decode cX10_word 34 = .ok (.iload_n 3, 1) := by decide +kernel
theorem dX10_word_35 : decode cX10_word 35 = .ok (.ifCond .lt 22, 3) := by decide +kernel
theorem dX10_word_38 : decode cX10_word 38 = .ok (.iload_n 3, 1) := by decide +kernel
theorem dX10_word_39 : decode cX10_word 39 = .ok (.aload 5, 2) := by decide +kernel
theorem dX10_word_41 : decode cX10_word 41 = .ok (.getfield 222, 3) := by decide +kernel
theorem dX10_word_44 : decode cX10_word 44 = .ok (.if_icmp .ge 13, 3) := by decide +kernel
theorem dX10_word_47 : decode cX10_word 47 = .ok (.aload 5, 2) := by decide +kernel
theorem dX10_word_49 : decode cX10_word 49 = .ok (.getfield 261, 3) := by decide +kernel
theorem dX10_word_52 : decode cX10_word 52 = .ok (.iload_n 3, 1) := by decide +kernel
theorem dX10_word_53 : decode cX10_word 53 = .ok (.iaload, 1) := by decide +kernel
theorem dX10_word_54 : decode cX10_word 54 = .ok (.goto 4, 3) := by decide +kernel
theorem dX10_word_57 : decode cX10_word 57 = .ok (.iconst (-1), 1) := by decide +kernel
theorem dX10_word_58 : decode cX10_word 58 = .ok (.ireturn, 1) := by decide +kernel
def f_X_word_32 (e : Int) (b : Int) (p : Int) (m : xM) : Option (Int) :=
     (if xw p < 0 then some (-1)
      else (if xw p < xw (m 21 1) then (if xib p 8 then some (m 22 (xix p))
      else none)
      else some (-1)))
set_option maxRecDepth 1000000 in
set_option maxHeartbeats 4000000 in
theorem t_X_word_32 {Γ : xG} {d : Nat} (hd9 : 2 ≤ d) (C : xC Γ lay_X RX10 cX10_word 6 d) (e : Int) (b : Int) (p : Int) {r : Int} {m : xM} (hR : xRi Γ lay_X cX10_word r m) (h : f_X_word_32 e b p m = some r) : xW Γ lay_X 6 32 [(3, .inl p)] [.inr (.inr (some 21))] m := by
  unfold f_X_word_32 at h
  refine x_astore C dX10_word_32 (by decide) ?_
  refine x_iload_n C dX10_word_34 rfl ?_
  refine x_if_lt C 57 dX10_word_35 (by decide) h (fun h => ?_) (fun h => ?_)
  · refine x_iconst C dX10_word_57 ?_
    exact x_ireturnP hR dX10_word_58 h
  · refine x_iload_n C dX10_word_38 rfl ?_
    refine x_aload C dX10_word_39 rfl ?_
    refine x_getI C dX10_word_41 fF_X10_222 rfl rfl ?_
    refine x_icmp_ge C 57 dX10_word_44 (by decide) h (fun h => ?_) (fun h => ?_)
    · refine x_iconst C dX10_word_57 ?_
      exact x_ireturnP hR dX10_word_58 h
    · refine x_aload C dX10_word_47 rfl ?_
      refine x_getR C dX10_word_49 fF_X10_261 rfl rfl ?_
      refine x_iload_n C dX10_word_52 rfl ?_
      refine x_iaload C dX10_word_53 rfl h (fun h => ?_)
      refine x_goto C 58 dX10_word_54 (by decide) ?_
      exact x_ireturnP hR dX10_word_58 h
def f_X_word_32_19 (e : Int) (b : Int) (p : Int) (m : xM) : Option (Int) :=
     (if xw p < 0 then some (-1)
      else (if xw p < xw (m 19 1) then (if xib p 8 then some (m 20 (xix p))
      else none)
      else some (-1)))
set_option maxRecDepth 1000000 in
set_option maxHeartbeats 4000000 in
theorem t_X_word_32_19 {Γ : xG} {d : Nat} (hd9 : 2 ≤ d) (C : xC Γ lay_X RX10 cX10_word 6 d) (e : Int) (b : Int) (p : Int) {r : Int} {m : xM} (hR : xRi Γ lay_X cX10_word r m) (h : f_X_word_32_19 e b p m = some r) : xW Γ lay_X 6 32 [(3, .inl p)] [.inr (.inr (some 19))] m := by
  unfold f_X_word_32_19 at h
  refine x_astore C dX10_word_32 (by decide) ?_
  refine x_iload_n C dX10_word_34 rfl ?_
  refine x_if_lt C 57 dX10_word_35 (by decide) h (fun h => ?_) (fun h => ?_)
  · refine x_iconst C dX10_word_57 ?_
    exact x_ireturnP hR dX10_word_58 h
  · refine x_iload_n C dX10_word_38 rfl ?_
    refine x_aload C dX10_word_39 rfl ?_
    refine x_getI C dX10_word_41 fF_X10_222 rfl rfl ?_
    refine x_icmp_ge C 57 dX10_word_44 (by decide) h (fun h => ?_) (fun h => ?_)
    · refine x_iconst C dX10_word_57 ?_
      exact x_ireturnP hR dX10_word_58 h
    · refine x_aload C dX10_word_47 rfl ?_
      refine x_getR C dX10_word_49 fF_X10_261 rfl rfl ?_
      refine x_iload_n C dX10_word_52 rfl ?_
      refine x_iaload C dX10_word_53 rfl h (fun h => ?_)
      refine x_goto C 58 dX10_word_54 (by decide) ?_
      exact x_ireturnP hR dX10_word_58 h
def f_X_word_32_32 (e : Int) (b : Int) (p : Int) (m : xM) : Option (Int) :=
     (if xw p < 0 then some (-1)
      else (if xw p < xw (m 32 1) then (if xib p 8 then some (m 33 (xix p))
      else none)
      else some (-1)))
set_option maxRecDepth 1000000 in
set_option maxHeartbeats 4000000 in
theorem t_X_word_32_32 {Γ : xG} {d : Nat} (hd9 : 2 ≤ d) (C : xC Γ lay_X RX10 cX10_word 6 d) (e : Int) (b : Int) (p : Int) {r : Int} {m : xM} (hR : xRi Γ lay_X cX10_word r m) (h : f_X_word_32_32 e b p m = some r) : xW Γ lay_X 6 32 [(3, .inl p)] [.inr (.inr (some 32))] m := by
  unfold f_X_word_32_32 at h
  refine x_astore C dX10_word_32 (by decide) ?_
  refine x_iload_n C dX10_word_34 rfl ?_
  refine x_if_lt C 57 dX10_word_35 (by decide) h (fun h => ?_) (fun h => ?_)
  · refine x_iconst C dX10_word_57 ?_
    exact x_ireturnP hR dX10_word_58 h
  · refine x_iload_n C dX10_word_38 rfl ?_
    refine x_aload C dX10_word_39 rfl ?_
    refine x_getI C dX10_word_41 fF_X10_222 rfl rfl ?_
    refine x_icmp_ge C 57 dX10_word_44 (by decide) h (fun h => ?_) (fun h => ?_)
    · refine x_iconst C dX10_word_57 ?_
      exact x_ireturnP hR dX10_word_58 h
    · refine x_aload C dX10_word_47 rfl ?_
      refine x_getR C dX10_word_49 fF_X10_261 rfl rfl ?_
      refine x_iload_n C dX10_word_52 rfl ?_
      refine x_iaload C dX10_word_53 rfl h (fun h => ?_)
      refine x_goto C 58 dX10_word_54 (by decide) ?_
      exact x_ireturnP hR dX10_word_58 h
def f_X_word_32_30 (e : Int) (b : Int) (p : Int) (m : xM) : Option (Int) :=
     (if xw p < 0 then some (-1)
      else (if xw p < xw (m 30 1) then (if xib p 8 then some (m 31 (xix p))
      else none)
      else some (-1)))
set_option maxRecDepth 1000000 in
set_option maxHeartbeats 4000000 in
theorem t_X_word_32_30 {Γ : xG} {d : Nat} (hd9 : 2 ≤ d) (C : xC Γ lay_X RX10 cX10_word 6 d) (e : Int) (b : Int) (p : Int) {r : Int} {m : xM} (hR : xRi Γ lay_X cX10_word r m) (h : f_X_word_32_30 e b p m = some r) : xW Γ lay_X 6 32 [(3, .inl p)] [.inr (.inr (some 30))] m := by
  unfold f_X_word_32_30 at h
  refine x_astore C dX10_word_32 (by decide) ?_
  refine x_iload_n C dX10_word_34 rfl ?_
  refine x_if_lt C 57 dX10_word_35 (by decide) h (fun h => ?_) (fun h => ?_)
  · refine x_iconst C dX10_word_57 ?_
    exact x_ireturnP hR dX10_word_58 h
  · refine x_iload_n C dX10_word_38 rfl ?_
    refine x_aload C dX10_word_39 rfl ?_
    refine x_getI C dX10_word_41 fF_X10_222 rfl rfl ?_
    refine x_icmp_ge C 57 dX10_word_44 (by decide) h (fun h => ?_) (fun h => ?_)
    · refine x_iconst C dX10_word_57 ?_
      exact x_ireturnP hR dX10_word_58 h
    · refine x_aload C dX10_word_47 rfl ?_
      refine x_getR C dX10_word_49 fF_X10_261 rfl rfl ?_
      refine x_iload_n C dX10_word_52 rfl ?_
      refine x_iaload C dX10_word_53 rfl h (fun h => ?_)
      refine x_goto C 58 dX10_word_54 (by decide) ?_
      exact x_ireturnP hR dX10_word_58 h
def f_X_word (e : Int) (b : Int) (p : Int) (m : xM) : Option (Int) :=
     (Option.bind (f_X_checkEnd e m) fun q0 =>
      (if xw e = 0 then (if xw b = 0 then f_X_word_32 e b p m
      else f_X_word_32_19 e b p m)
      else (if xw e = 1 then (if xw b = 0 then f_X_word_32_32 e b p m
      else f_X_word_32_30 e b p m)
      else none)))
set_option maxRecDepth 1000000 in
set_option maxHeartbeats 4000000 in
theorem t_X_word {Γ : xG} {d : Nat} (hd9 : 2 ≤ d) (C : xC Γ lay_X RX10 cX10_word 6 d) (e : Int) (b : Int) (p : Int) {r : Int} {m : xM} (hR : xRi Γ lay_X cX10_word r m) (h : f_X_word e b p m = some r) : xW Γ lay_X 6 0 [(0, .inr (.inr (some 0))), (1, .inl e), (2, .inl b), (3, .inl p)] [] m := by
  unfold f_X_word at h
  refine x_aload_n C dX10_word_0 rfl ?_
  refine x_iload_n C dX10_word_1 rfl ?_
  obtain ⟨q0, hq0, h⟩ := x_bind h
  refine x_callVI C dX10_word_2 (xin_29 _ (List.mem_of_getElem? (i := 21) rfl)) xy_X10_checkEnd (xi_X10_checkEnd) (xs_X10_checkEnd) (by omega) (by decide) (b := 0) rfl ⟨_, _, rfl⟩ (av := [.inl e]) rfl (Nat.le_of_ble_eq_true rfl) (c_X_checkEnd _ _ _ _ hq0) rfl ?_
  refine x_aload_n C dX10_word_5 rfl ?_
  refine x_getR C dX10_word_6 fF_X10_27 rfl rfl ?_
  refine x_iload_n C dX10_word_9 rfl ?_
  refine x_ite h (fun hk92 h => ?_) (fun _ h => ?_)
  · refine x_callVp C dX10_word_10 (xin_30 _ (List.mem_of_getElem? (i := 1) rfl)) xy_X3_endOf (xi_X3_endOf) (xs_X3_endOf) [11, 1, 12, 23, 34, 39, 41, 42] xv_46 (by omega) (by decide) (b := 0) rfl ⟨_, _, rfl⟩ (av := [.inl e]) rfl (Nat.le_of_ble_eq_true rfl) (c_endOf0 _ _ _ (by first | decide | assumption | exact xw_1m0 (by assumption) | exact xw_1m1 (by assumption) | exact xw_ne1 (by assumption) | exact xw_n1m0 (by assumption))) rfl ?_
    refine x_astore C dX10_word_13 (by decide) ?_
    refine x_iload_n C dX10_word_15 rfl ?_
    refine x_if_eq C 27 dX10_word_16 (by decide) h (fun h => ?_) (fun h => ?_)
    · refine x_aload C dX10_word_27 rfl ?_
      refine x_getR C dX10_word_29 fF_X10_225 rfl rfl ?_
      refine x_loc [(3, .inl p)] ⟨rfl, trivial⟩ ?_
      exact t_X_word_32 hd9 C _ _ _ hR h
    · refine x_aload C dX10_word_19 rfl ?_
      refine x_getR C dX10_word_21 fF_X10_218 rfl rfl ?_
      refine x_goto C 32 dX10_word_24 (by decide) ?_
      refine x_loc [(3, .inl p)] ⟨rfl, trivial⟩ ?_
      exact t_X_word_32_19 hd9 C _ _ _ hR h
  · obtain ⟨hk92, h⟩ := x_some1 h
    refine x_callVp C dX10_word_10 (xin_30 _ (List.mem_of_getElem? (i := 1) rfl)) xy_X3_endOf (xi_X3_endOf) (xs_X3_endOf) [11, 1, 12, 23, 34, 39, 41, 42] xv_46 (by omega) (by decide) (b := 0) rfl ⟨_, _, rfl⟩ (av := [.inl e]) rfl (Nat.le_of_ble_eq_true rfl) (c_endOf1 _ _ _ (by first | decide | assumption | exact xw_1m0 (by assumption) | exact xw_1m1 (by assumption) | exact xw_ne1 (by assumption) | exact xw_n1m0 (by assumption))) rfl ?_
    refine x_astore C dX10_word_13 (by decide) ?_
    refine x_iload_n C dX10_word_15 rfl ?_
    refine x_if_eq C 27 dX10_word_16 (by decide) h (fun h => ?_) (fun h => ?_)
    · refine x_aload C dX10_word_27 rfl ?_
      refine x_getR C dX10_word_29 fF_X10_225 rfl rfl ?_
      refine x_loc [(3, .inl p)] ⟨rfl, trivial⟩ ?_
      exact t_X_word_32_32 hd9 C _ _ _ hR h
    · refine x_aload C dX10_word_19 rfl ?_
      refine x_getR C dX10_word_21 fF_X10_218 rfl rfl ?_
      refine x_goto C 32 dX10_word_24 (by decide) ?_
      refine x_loc [(3, .inl p)] ⟨rfl, trivial⟩ ?_
      exact t_X_word_32_30 hd9 C _ _ _ hR h
theorem c_X_word (l : Launch) (e : Int) (b : Int) (p : Int) (m : xM) (r : Int) (h : f_X_word e b p m = some r) : xMet l yX10_word cX10_word 6 (some .int) 2 lay_X [.inr (.inr (some 0)), .inl e, .inl b, .inl p] m (some (.inl r)) m :=
  xMet_i (by decide +kernel) (Nat.le_of_ble_eq_true rfl) (fun Γ C hR hl9 => t_X_word (Nat.le_refl _) C e b p hR h)
/-! ===== yX10_event ===== -/
theorem xy_X4_propertyOf : xY yX4_propertyOf cX4_propertyOf 4 (some .int) 2 := ⟨(xin_32 _ (List.mem_of_getElem? (i := 10) rfl)), (xin_4 _ (List.mem_of_getElem? (i := 6) rfl)), by decide, by decide, by decide +kernel⟩
theorem xi_X4_propertyOf : Cond.instanceMethod yX4_propertyOf ∈ wsL_law := (xin_32 _ (List.mem_of_getElem? (i := 8) rfl))
theorem xs_X4_propertyOf : Cond.selects yX4_propertyOf.cls yX4_propertyOf yX4_propertyOf ∈ wsL_law := (xin_32 _ (List.mem_of_getElem? (i := 9) rfl))
theorem xv_51 : xview lay_X lay_G [39, 40] := xview_of (by decide +kernel)
theorem dX10_event_0 : decode cX10_event 0 = .ok (.iload_n 1, 1) := by decide +kernel
theorem dX10_event_1 : decode cX10_event 1 = .ok (.ifCond .lt 26, 3) := by decide +kernel
theorem dX10_event_4 : decode cX10_event 4 = .ok (.iload_n 1, 1) := by decide +kernel
theorem dX10_event_5 : decode cX10_event 5 = .ok (.aload_n 0, 1) := by decide +kernel
theorem dX10_event_6 : decode cX10_event 6 = .ok (.getfield 27, 3) := by decide +kernel
theorem dX10_event_9 : decode cX10_event 9 = .ok (.getfield 69, 3) := by decide +kernel
theorem dX10_event_12 : decode cX10_event 12 = .ok (.getfield 166, 3) := by decide +kernel
theorem dX10_event_15 : decode cX10_event 15 = .ok (.if_icmp .ge 12, 3) := by decide +kernel
theorem dX10_event_18 : decode cX10_event 18 = .ok (.iload_n 2, 1) := by decide +kernel
theorem dX10_event_19 : decode cX10_event 19 = .ok (.ifCond .lt 8, 3) := by decide +kernel
theorem dX10_event_22 : decode cX10_event 22 = .ok (.iload_n 2, 1) := by decide +kernel
theorem dX10_event_23 : decode cX10_event 23 = .ok (.iconst 4, 1) := by decide +kernel
theorem dX10_event_24 : decode cX10_event 24 = .ok (.if_icmp .lt 14, 3) := by decide +kernel
theorem dX10_event_27 : decode cX10_event 27 = .ok (.new 171, 3) := by decide +kernel
theorem dX10_event_30 : decode cX10_event 30 = .ok (.dup, 1) := by decide +kernel
theorem dX10_event_31 : decode cX10_event 31 = .ok (.ldc_w 264, 3) := by decide +kernel
theorem dX10_event_34 : decode cX10_event 34 = .ok (.invokespecial 175, 3) := by decide +kernel
theorem dX10_event_37 : decode cX10_event 37 = .ok (.athrow, 1) := by decide +kernel
theorem dX10_event_38 : decode cX10_event 38 = .ok (.aload_n 0, 1) := by decide +kernel
theorem dX10_event_39 : decode cX10_event 39 = .ok (.getfield 27, 3) := by decide +kernel
theorem dX10_event_42 : decode cX10_event 42 = .ok (.getfield 69, 3) := by decide +kernel
theorem dX10_event_45 : decode cX10_event 45 = .ok (.iload_n 1, 1) := by decide +kernel
theorem dX10_event_46 : decode cX10_event 46 = .ok (.iload_n 2, 1) := by decide +kernel
theorem dX10_event_47 : decode cX10_event 47 = .ok (.invokevirtual 266, 3) := by decide +kernel
theorem dX10_event_50 : decode cX10_event 50 = .ok (.ireturn, 1) := by decide +kernel
def f_X_event_27 (e : Int) (w : Int) (m : xM) : Option (Int) :=
     none
set_option maxRecDepth 1000000 in
set_option maxHeartbeats 4000000 in
theorem t_X_event_27 {Γ : xG} {d : Nat} (hd9 : 3 ≤ d) (C : xC Γ lay_X RX10 cX10_event 3 d) (e : Int) (w : Int) {r : Int} {m : xM} (hR : xRi Γ lay_X cX10_event r m) (h : f_X_event_27 e w m = some r) : xW Γ lay_X 3 27 [] [] m := by
  unfold f_X_event_27 at h
  cases h
def f_X_event (e : Int) (w : Int) (m : xM) : Option (Int) :=
     (if xw e < 0 then f_X_event_27 e w m
      else (if xw e < xw (m 39 2) then (if xw w < 0 then f_X_event_27 e w m
      else (if xw w < xw 4 then (Option.bind (f_G_prop e w (xvw [39, 40] m)) fun q0 =>
      some q0)
      else f_X_event_27 e w m))
      else f_X_event_27 e w m))
set_option maxRecDepth 1000000 in
set_option maxHeartbeats 4000000 in
theorem t_X_event {Γ : xG} {d : Nat} (hd9 : 3 ≤ d) (C : xC Γ lay_X RX10 cX10_event 3 d) (e : Int) (w : Int) {r : Int} {m : xM} (hR : xRi Γ lay_X cX10_event r m) (h : f_X_event e w m = some r) : xW Γ lay_X 3 0 [(0, .inr (.inr (some 0))), (1, .inl e), (2, .inl w)] [] m := by
  unfold f_X_event at h
  refine x_iload_n C dX10_event_0 rfl ?_
  refine x_if_lt C 27 dX10_event_1 (by decide) h (fun h => ?_) (fun h => ?_)
  · refine x_loc [] trivial ?_
    exact t_X_event_27 hd9 C _ _ hR h
  · refine x_iload_n C dX10_event_4 rfl ?_
    refine x_aload_n C dX10_event_5 rfl ?_
    refine x_getR C dX10_event_6 fF_X10_27 rfl rfl ?_
    refine x_getR C dX10_event_9 fF_X10_69 rfl rfl ?_
    refine x_getI C dX10_event_12 fF_X10_166 rfl rfl ?_
    refine x_icmp_ge C 27 dX10_event_15 (by decide) h (fun h => ?_) (fun h => ?_)
    · refine x_loc [] trivial ?_
      exact t_X_event_27 hd9 C _ _ hR h
    · refine x_iload_n C dX10_event_18 rfl ?_
      refine x_if_lt C 27 dX10_event_19 (by decide) h (fun h => ?_) (fun h => ?_)
      · refine x_loc [] trivial ?_
        exact t_X_event_27 hd9 C _ _ hR h
      · refine x_iload_n C dX10_event_22 rfl ?_
        refine x_iconst C dX10_event_23 ?_
        refine x_icmp_lt C 38 dX10_event_24 (by decide) h (fun h => ?_) (fun h => ?_)
        · refine x_aload_n C dX10_event_38 rfl ?_
          refine x_getR C dX10_event_39 fF_X10_27 rfl rfl ?_
          refine x_getR C dX10_event_42 fF_X10_69 rfl rfl ?_
          refine x_iload_n C dX10_event_45 rfl ?_
          refine x_iload_n C dX10_event_46 rfl ?_
          obtain ⟨q0, hq0, h⟩ := x_bind h
          refine x_callVp C dX10_event_47 (xin_32 _ (List.mem_of_getElem? (i := 7) rfl)) xy_X4_propertyOf (xi_X4_propertyOf) (xs_X4_propertyOf) [39, 40] xv_51 (by omega) (by decide) (b := 0) rfl ⟨_, _, rfl⟩ (av := [.inl e, .inl w]) rfl (Nat.le_of_ble_eq_true rfl) (c_G_prop _ _ _ _ _ hq0) rfl ?_
          exact x_ireturnP hR dX10_event_50 h
        · refine x_loc [] trivial ?_
          exact t_X_event_27 hd9 C _ _ hR h
theorem c_X_event (l : Launch) (e : Int) (w : Int) (m : xM) (r : Int) (h : f_X_event e w m = some r) : xMet l yX10_event cX10_event 3 (some .int) 3 lay_X [.inr (.inr (some 0)), .inl e, .inl w] m (some (.inl r)) m :=
  xMet_i (by decide +kernel) (Nat.le_of_ble_eq_true rfl) (fun Γ C hR hl9 => t_X_event (Nat.le_refl _) C e w hR h)
/-! ===== yX10_checkQuality ===== -/
theorem dX10_checkQuality_0 : decode cX10_checkQuality 0 = .ok (.iload_n 1, 1) := by decide +kernel
theorem dX10_checkQuality_1 : decode cX10_checkQuality 1 = .ok (.ifCond .lt 9, 3) := by decide +kernel
theorem dX10_checkQuality_4 : decode cX10_checkQuality 4 = .ok (.iload_n 1, 1) := by decide +kernel
theorem dX10_checkQuality_5 : decode cX10_checkQuality 5 = .ok (.bipush 9, 2) := by decide +kernel
theorem dX10_checkQuality_7 : decode cX10_checkQuality 7 = .ok (.if_icmp .le 14, 3) := by decide +kernel
theorem dX10_checkQuality_10 : decode cX10_checkQuality 10 = .ok (.new 126, 3) := by decide +kernel
theorem dX10_checkQuality_13 : decode cX10_checkQuality 13 = .ok (.dup, 1) := by decide +kernel
theorem dX10_checkQuality_14 : decode cX10_checkQuality 14 = .ok (.ldc_w 276, 3) := by decide +kernel
theorem dX10_checkQuality_17 : decode cX10_checkQuality 17 = .ok (.invokespecial 130, 3) := by decide +kernel
theorem dX10_checkQuality_20 : decode cX10_checkQuality 20 = .ok (.athrow, 1) := by decide +kernel
theorem dX10_checkQuality_21 : decode cX10_checkQuality 21 = .ok (.return_, 1) := by decide +kernel
def f_X_checkQuality_10 (q : Int) (m : xM) : Option (Int) :=
     none
set_option maxRecDepth 1000000 in
set_option maxHeartbeats 4000000 in
theorem t_X_checkQuality_10 {Γ : xG} {d : Nat} (hd9 : 1 ≤ d) (C : xC Γ lay_X RX10 cX10_checkQuality 2 d) (q : Int) {r : Int} {m : xM} (hR : xRv Γ lay_X cX10_checkQuality m) (h : f_X_checkQuality_10 q m = some r) : xW Γ lay_X 2 10 [] [] m := by
  unfold f_X_checkQuality_10 at h
  cases h
def f_X_checkQuality (q : Int) (m : xM) : Option (Int) :=
     (if xw q < 0 then f_X_checkQuality_10 q m
      else (if xw 9 < xw q then f_X_checkQuality_10 q m
      else some 0))
set_option maxRecDepth 1000000 in
set_option maxHeartbeats 4000000 in
theorem t_X_checkQuality {Γ : xG} {d : Nat} (hd9 : 1 ≤ d) (C : xC Γ lay_X RX10 cX10_checkQuality 2 d) (q : Int) {r : Int} {m : xM} (hR : xRv Γ lay_X cX10_checkQuality m) (h : f_X_checkQuality q m = some r) : xW Γ lay_X 2 0 [(0, .inr (.inr (some 0))), (1, .inl q)] [] m := by
  unfold f_X_checkQuality at h
  refine x_iload_n C dX10_checkQuality_0 rfl ?_
  refine x_if_lt C 10 dX10_checkQuality_1 (by decide) h (fun h => ?_) (fun h => ?_)
  · refine x_loc [] trivial ?_
    exact t_X_checkQuality_10 hd9 C _ hR h
  · refine x_iload_n C dX10_checkQuality_4 rfl ?_
    refine x_bipush C dX10_checkQuality_5 (by decide) ?_
    refine x_icmp_le C 21 dX10_checkQuality_7 (by decide) h (fun h => ?_) (fun h => ?_)
    · exact x_returnV hR dX10_checkQuality_21 rfl
    · refine x_loc [] trivial ?_
      exact t_X_checkQuality_10 hd9 C _ hR h
theorem c_X_checkQuality (l : Launch) (q : Int) (m : xM) (r : Int) (h : f_X_checkQuality q m = some r) : xMet l yX10_checkQuality cX10_checkQuality 2 none 1 lay_X [.inr (.inr (some 0)), .inl q] m none m :=
  xMet_v (by decide +kernel) (Nat.le_of_ble_eq_true rfl) (fun Γ C hR hl9 => t_X_checkQuality (Nat.le_refl _) C q hR h)
/-! ===== yX10_nextCost ===== -/
theorem fF_X10_278 : xF RX10 278 2 0 (.array .int) true := ⟨RX1, TX1, 11, tyX1, rfl, by decide, (xin_30 _ (List.mem_of_getElem? (i := 10) rfl)), rfl, inlX1, tyX1_ok, nmX1, rfl, rfl⟩
theorem xv_52 : xview lay_X lay_co [11, 42, 43, 12, 19, 20, 13, 1, 12, 23, 34, 39, 41, 13, 14, 15, 21] := xview_of (by decide +kernel)
theorem xv_53 : xview lay_X lay_co [11, 42, 43, 23, 30, 31, 24, 1, 12, 23, 34, 39, 41, 24, 25, 26, 32] := xview_of (by decide +kernel)
theorem dX10_nextCost_0 : decode cX10_nextCost 0 = .ok (.aload_n 0, 1) := by decide +kernel
theorem dX10_nextCost_1 : decode cX10_nextCost 1 = .ok (.iload_n 1, 1) := by decide +kernel
theorem dX10_nextCost_2 : decode cX10_nextCost 2 = .ok (.invokevirtual 181, 3) := by decide +kernel
theorem dX10_nextCost_5 : decode cX10_nextCost 5 = .ok (.aload_n 0, 1) := by decide +kernel
theorem dX10_nextCost_6 : decode cX10_nextCost 6 = .ok (.getfield 27, 3) := by decide +kernel
theorem dX10_nextCost_9 : decode cX10_nextCost 9 = .ok (.iload_n 1, 1) := by decide +kernel
theorem dX10_nextCost_10 : decode cX10_nextCost 10 = .ok (.invokevirtual 184, 3) := by decide +kernel
theorem dX10_nextCost_13 : decode cX10_nextCost 13 = .ok (.astore_n 2, 1) := by decide +kernel
theorem dX10_nextCost_14 : decode cX10_nextCost 14 = .ok (.aload_n 0, 1) := by decide +kernel
theorem dX10_nextCost_15 : decode cX10_nextCost 15 = .ok (.getfield 27, 3) := by decide +kernel
theorem dX10_nextCost_18 : decode cX10_nextCost 18 = .ok (.getfield 136, 3) := by decide +kernel
theorem dX10_nextCost_21 : decode cX10_nextCost 21 = .ok (.iconst 2, 1) := by decide +kernel
theorem dX10_nextCost_22 : decode cX10_nextCost 22 = .ok (.if_icmp .ne 10, 3) := by decide +kernel
theorem dX10_nextCost_25 : decode cX10_nextCost 25 = .ok (.aload_n 2, 1) := by decide +kernel
theorem dX10_nextCost_26 : decode cX10_nextCost 26 = .ok (.getfield 188, 3) := by decide +kernel
theorem dX10_nextCost_29 : decode cX10_nextCost 29 = .ok (.ifCond .ne 5, 3) := by decide +kernel
theorem dX10_nextCost_32 : decode cX10_nextCost 32 = .ok (.iconst 0, 1) := by decide +kernel
theorem dX10_nextCost_33 : decode cX10_nextCost 33 = .ok (.ireturn, 1) := by decide +kernel
theorem dX10_nextCost_34 : decode cX10_nextCost 34 = .ok (.aload_n 0, 1) := by decide +kernel
theorem dX10_nextCost_35 : decode cX10_nextCost 35 = .ok (.getfield 27, 3) := by decide +kernel
theorem dX10_nextCost_38 : decode cX10_nextCost 38 = .ok (.aload_n 2, 1) := by decide +kernel
theorem dX10_nextCost_39 : decode cX10_nextCost 39 = .ok (.aload_n 2, 1) := by decide +kernel
theorem dX10_nextCost_40 : decode cX10_nextCost 40 = .ok (.getfield 278, 3) := by decide +kernel
theorem dX10_nextCost_43 : decode cX10_nextCost 43 = .ok (.iconst 0, 1) := by decide +kernel
theorem dX10_nextCost_44 : decode cX10_nextCost 44 = .ok (.aload_n 2, 1) := by decide +kernel
theorem dX10_nextCost_45 : decode cX10_nextCost 45 = .ok (.invokevirtual 281, 3) := by decide +kernel
theorem dX10_nextCost_48 : decode cX10_nextCost 48 = .ok (.invokevirtual 284, 3) := by decide +kernel
theorem dX10_nextCost_51 : decode cX10_nextCost 51 = .ok (.ireturn, 1) := by decide +kernel
def f_X_nextCost (e : Int) (m : xM) : Option (Int × xM) :=
     (Option.bind (f_X_checkEnd e m) fun q0 =>
      (if xw e = 0 then (if xw (m 11 8) = xw 2 then (if xw (m 12 5) = 0 then some (0, m)
      else (Option.bind (f_E_next (xvw [12, 13, 14, 15, 16, 17, 18, 19, 20, 21, 22] m)) fun q3 =>
      (Option.bind (f_L_cost 0 q3 (xvw [11, 42, 43, 12, 19, 20, 13] m)) fun q4 =>
      some (q4.1, (xmg [11, 42, 43, 12, 19, 20, 13] 7 m q4.2)))))
      else some (0, m))
      else (if xw e = 1 then (if xw (m 11 8) = xw 2 then (if xw (m 23 5) = 0 then some (0, m)
      else (Option.bind (f_E_next (xvw [23, 24, 25, 26, 27, 28, 29, 30, 31, 32, 33] m)) fun q6 =>
      (Option.bind (f_L_cost 0 q6 (xvw [11, 42, 43, 23, 30, 31, 24] m)) fun q7 =>
      some (q7.1, (xmg [11, 42, 43, 23, 30, 31, 24] 7 m q7.2)))))
      else some (0, m))
      else none)))
set_option maxRecDepth 1000000 in
set_option maxHeartbeats 4000000 in
theorem t_X_nextCost {Γ : xG} {d : Nat} (hd9 : 3 ≤ d) (C : xC Γ lay_X RX10 cX10_nextCost 3 d) (e : Int) {r : Int} {m9 : xM} (hR : xRi Γ lay_X cX10_nextCost r m9) (m : xM) (h : f_X_nextCost e m = some (r, m9)) : xW Γ lay_X 3 0 [(0, .inr (.inr (some 0))), (1, .inl e)] [] m := by
  unfold f_X_nextCost at h
  refine x_aload_n C dX10_nextCost_0 rfl ?_
  refine x_iload_n C dX10_nextCost_1 rfl ?_
  obtain ⟨q0, hq0, h⟩ := x_bind h
  refine x_callVI C dX10_nextCost_2 (xin_29 _ (List.mem_of_getElem? (i := 21) rfl)) xy_X10_checkEnd (xi_X10_checkEnd) (xs_X10_checkEnd) (by omega) (by decide) (b := 0) rfl ⟨_, _, rfl⟩ (av := [.inl e]) rfl (Nat.le_of_ble_eq_true rfl) (c_X_checkEnd _ _ _ _ hq0) rfl ?_
  refine x_aload_n C dX10_nextCost_5 rfl ?_
  refine x_getR C dX10_nextCost_6 fF_X10_27 rfl rfl ?_
  refine x_iload_n C dX10_nextCost_9 rfl ?_
  refine x_ite h (fun hk92 h => ?_) (fun _ h => ?_)
  · refine x_callVp C dX10_nextCost_10 (xin_30 _ (List.mem_of_getElem? (i := 1) rfl)) xy_X3_endOf (xi_X3_endOf) (xs_X3_endOf) [11, 1, 12, 23, 34, 39, 41, 42] xv_46 (by omega) (by decide) (b := 0) rfl ⟨_, _, rfl⟩ (av := [.inl e]) rfl (Nat.le_of_ble_eq_true rfl) (c_endOf0 _ _ _ (by first | decide | assumption | exact xw_1m0 (by assumption) | exact xw_1m1 (by assumption) | exact xw_ne1 (by assumption) | exact xw_n1m0 (by assumption))) rfl ?_
    refine x_astore_n C dX10_nextCost_13 (by decide) ?_
    refine x_aload_n C dX10_nextCost_14 rfl ?_
    refine x_getR C dX10_nextCost_15 fF_X10_27 rfl rfl ?_
    refine x_getI C dX10_nextCost_18 fF_X10_136 rfl rfl ?_
    refine x_iconst C dX10_nextCost_21 ?_
    refine x_icmp_ne C 32 dX10_nextCost_22 (by decide) h (fun h => ?_) (fun h => ?_)
    · refine x_iconst C dX10_nextCost_32 ?_
      exact x_ireturn hR dX10_nextCost_33 h
    · refine x_aload_n C dX10_nextCost_25 rfl ?_
      refine x_getI C dX10_nextCost_26 fF_X10_188 rfl rfl ?_
      refine x_if_ne C 34 dX10_nextCost_29 (by decide) h (fun h => ?_) (fun h => ?_)
      · refine x_aload_n C dX10_nextCost_34 rfl ?_
        refine x_getR C dX10_nextCost_35 fF_X10_27 rfl rfl ?_
        refine x_aload_n C dX10_nextCost_38 rfl ?_
        refine x_aload_n C dX10_nextCost_39 rfl ?_
        refine x_getR C dX10_nextCost_40 fF_X10_278 rfl rfl ?_
        refine x_iconst C dX10_nextCost_43 ?_
        refine x_aload_n C dX10_nextCost_44 rfl ?_
        obtain ⟨q3, hq3, h⟩ := x_bind h
        refine x_callVp C dX10_nextCost_45 (xin_30 _ (List.mem_of_getElem? (i := 11) rfl)) xy_X1_nextFrameSize (xi_X1_nextFrameSize) (xs_X1_nextFrameSize) [12, 13, 14, 15, 16, 17, 18, 19, 20, 21, 22] xv_49 (by omega) (by decide) (b := 0) rfl ⟨_, _, rfl⟩ (av := []) rfl (Nat.le_of_ble_eq_true rfl) (c_E_next _ _ _ hq3) rfl ?_
        obtain ⟨q4, hq4, h⟩ := x_bind h
        refine x_callV0 C dX10_nextCost_48 (xin_30 _ (List.mem_of_getElem? (i := 12) rfl)) xy_X3_costOf (xi_X3_costOf) (xs_X3_costOf) [11, 42, 43, 12, 19, 20, 13, 1, 12, 23, 34, 39, 41, 13, 14, 15, 21] xv_52 (T0 := [11, 42, 43, 12, 19, 20, 13]) rfl (by omega) (by decide) (b := 0) rfl ⟨_, _, rfl⟩ (av := [.inr (.inr (some 3)), .inr (.inr (some 6)), .inl 0, .inl q3]) rfl (Nat.le_of_ble_eq_true rfl) (c_L_cost _ _ _ _ q4.1 q4.2 hq4) rfl ?_
        exact x_ireturn hR dX10_nextCost_51 h
      · refine x_iconst C dX10_nextCost_32 ?_
        exact x_ireturn hR dX10_nextCost_33 h
  · obtain ⟨hk92, h⟩ := x_some1 h
    refine x_callVp C dX10_nextCost_10 (xin_30 _ (List.mem_of_getElem? (i := 1) rfl)) xy_X3_endOf (xi_X3_endOf) (xs_X3_endOf) [11, 1, 12, 23, 34, 39, 41, 42] xv_46 (by omega) (by decide) (b := 0) rfl ⟨_, _, rfl⟩ (av := [.inl e]) rfl (Nat.le_of_ble_eq_true rfl) (c_endOf1 _ _ _ (by first | decide | assumption | exact xw_1m0 (by assumption) | exact xw_1m1 (by assumption) | exact xw_ne1 (by assumption) | exact xw_n1m0 (by assumption))) rfl ?_
    refine x_astore_n C dX10_nextCost_13 (by decide) ?_
    refine x_aload_n C dX10_nextCost_14 rfl ?_
    refine x_getR C dX10_nextCost_15 fF_X10_27 rfl rfl ?_
    refine x_getI C dX10_nextCost_18 fF_X10_136 rfl rfl ?_
    refine x_iconst C dX10_nextCost_21 ?_
    refine x_icmp_ne C 32 dX10_nextCost_22 (by decide) h (fun h => ?_) (fun h => ?_)
    · refine x_iconst C dX10_nextCost_32 ?_
      exact x_ireturn hR dX10_nextCost_33 h
    · refine x_aload_n C dX10_nextCost_25 rfl ?_
      refine x_getI C dX10_nextCost_26 fF_X10_188 rfl rfl ?_
      refine x_if_ne C 34 dX10_nextCost_29 (by decide) h (fun h => ?_) (fun h => ?_)
      · refine x_aload_n C dX10_nextCost_34 rfl ?_
        refine x_getR C dX10_nextCost_35 fF_X10_27 rfl rfl ?_
        refine x_aload_n C dX10_nextCost_38 rfl ?_
        refine x_aload_n C dX10_nextCost_39 rfl ?_
        refine x_getR C dX10_nextCost_40 fF_X10_278 rfl rfl ?_
        refine x_iconst C dX10_nextCost_43 ?_
        refine x_aload_n C dX10_nextCost_44 rfl ?_
        obtain ⟨q6, hq6, h⟩ := x_bind h
        refine x_callVp C dX10_nextCost_45 (xin_30 _ (List.mem_of_getElem? (i := 11) rfl)) xy_X1_nextFrameSize (xi_X1_nextFrameSize) (xs_X1_nextFrameSize) [23, 24, 25, 26, 27, 28, 29, 30, 31, 32, 33] xv_50 (by omega) (by decide) (b := 0) rfl ⟨_, _, rfl⟩ (av := []) rfl (Nat.le_of_ble_eq_true rfl) (c_E_next _ _ _ hq6) rfl ?_
        obtain ⟨q7, hq7, h⟩ := x_bind h
        refine x_callV0 C dX10_nextCost_48 (xin_30 _ (List.mem_of_getElem? (i := 12) rfl)) xy_X3_costOf (xi_X3_costOf) (xs_X3_costOf) [11, 42, 43, 23, 30, 31, 24, 1, 12, 23, 34, 39, 41, 24, 25, 26, 32] xv_53 (T0 := [11, 42, 43, 23, 30, 31, 24]) rfl (by omega) (by decide) (b := 0) rfl ⟨_, _, rfl⟩ (av := [.inr (.inr (some 3)), .inr (.inr (some 6)), .inl 0, .inl q6]) rfl (Nat.le_of_ble_eq_true rfl) (c_L_cost _ _ _ _ q7.1 q7.2 hq7) rfl ?_
        exact x_ireturn hR dX10_nextCost_51 h
      · refine x_iconst C dX10_nextCost_32 ?_
        exact x_ireturn hR dX10_nextCost_33 h
theorem c_X_nextCost (l : Launch) (e : Int) (m : xM) (r : Int) (m9 : xM) (h : f_X_nextCost e m = some (r, m9)) : xMet l yX10_nextCost cX10_nextCost 3 (some .int) 3 lay_X [.inr (.inr (some 0)), .inl e] m (some (.inl r)) m9 :=
  xMet_i (by decide +kernel) (Nat.le_of_ble_eq_true rfl) (fun Γ C hR hl9 => t_X_nextCost (Nat.le_refl _) C e hR m h)
/-! ===== yX10_ticksToFinish ===== -/
theorem fF_X10_31 : xF RX10 31 11 3 (.object "ModemLink$Line") true := ⟨RX10, TX10, 16, tyX10, rfl, by decide, (xin_1 _ (List.mem_of_getElem? (i := 20) rfl)), rfl, inlX10, tyX10_ok, nmX10, rfl, rfl⟩
theorem xy_X3_copyFrom : xY yX3_copyFrom cX3_copyFrom 2 none 1 := ⟨(xin_18 _ (List.mem_of_getElem? (i := 3) rfl)), (xin_1 _ (List.mem_of_getElem? (i := 18) rfl)), by decide, by decide, by decide +kernel⟩
theorem xi_X3_copyFrom : Cond.instanceMethod yX3_copyFrom ∈ wsL_law := (xin_18 _ (List.mem_of_getElem? (i := 1) rfl))
theorem xs_X3_copyFrom : Cond.selects yX3_copyFrom.cls yX3_copyFrom yX3_copyFrom ∈ wsL_law := (xin_18 _ (List.mem_of_getElem? (i := 2) rfl))
def xT_2 : List Nat := [44, 45, 46, 47, 48, 49, 50, 51, 52, 53, 54, 55, 56, 57, 58, 59, 60, 61, 62, 63, 64, 65, 66, 67, 68, 69, 70, 71, 72, 73, 74, 75, 76, 11, 12, 13, 14, 15, 16, 17, 18, 19, 20, 21, 22, 23, 24, 25, 26, 27, 28, 29, 30, 31, 32, 33, 34, 35, 36, 37, 38, 39, 40, 41, 42, 43, 1]
theorem xv_54 : xview lay_X lay_LL xT_2 := xview_of (by decide +kernel)
def xT_3 : List Nat := [44, 45, 46, 47, 48, 49, 50, 51, 52, 53, 54, 55, 56, 57, 58, 59, 60, 61, 62, 63, 64, 65, 66, 67, 68, 69, 70, 71, 72, 73, 74, 75, 76, 11, 12, 13, 14, 15, 16, 17, 18, 19, 20, 21, 22, 23, 24, 25, 26, 27, 28, 29, 30, 31, 32, 33, 34, 35, 36, 37, 38, 39, 40, 41, 42, 43]
theorem xy_X3_runToFinish : xY yX3_runToFinish cX3_runToFinish 2 (some .int) 0 := ⟨(xin_30 _ (List.mem_of_getElem? (i := 20) rfl)), (xin_1 _ (List.mem_of_getElem? (i := 18) rfl)), by decide, by decide, by decide +kernel⟩
theorem xi_X3_runToFinish : Cond.instanceMethod yX3_runToFinish ∈ wsL_law := (xin_30 _ (List.mem_of_getElem? (i := 18) rfl))
theorem xs_X3_runToFinish : Cond.selects yX3_runToFinish.cls yX3_runToFinish yX3_runToFinish ∈ wsL_law := (xin_30 _ (List.mem_of_getElem? (i := 19) rfl))
def xT_4 : List Nat := [44, 45, 46, 47, 48, 49, 50, 51, 52, 53, 54, 55, 56, 57, 58, 59, 60, 61, 62, 63, 64, 65, 66, 67, 68, 69, 70, 71, 72, 73, 74, 75, 76, 1, 2, 3, 4, 5]
theorem xv_55 : xview lay_X lay_L0 xT_4 := xview_of (by decide +kernel)
theorem dX10_ticksToFinish_0 : decode cX10_ticksToFinish 0 = .ok (.aload_n 0, 1) := by decide +kernel
theorem dX10_ticksToFinish_1 : decode cX10_ticksToFinish 1 = .ok (.getfield 31, 3) := by decide +kernel
theorem dX10_ticksToFinish_4 : decode cX10_ticksToFinish 4 = .ok (.aload_n 0, 1) := by decide +kernel
theorem dX10_ticksToFinish_5 : decode cX10_ticksToFinish 5 = .ok (.getfield 27, 3) := by decide +kernel
theorem dX10_ticksToFinish_8 : decode cX10_ticksToFinish 8 = .ok (.invokevirtual 288, 3) := by decide +kernel
theorem dX10_ticksToFinish_11 : decode cX10_ticksToFinish 11 = .ok (.aload_n 0, 1) := by decide +kernel
theorem dX10_ticksToFinish_12 : decode cX10_ticksToFinish 12 = .ok (.getfield 31, 3) := by decide +kernel
theorem dX10_ticksToFinish_15 : decode cX10_ticksToFinish 15 = .ok (.invokevirtual 291, 3) := by decide +kernel
theorem dX10_ticksToFinish_18 : decode cX10_ticksToFinish 18 = .ok (.ireturn, 1) := by decide +kernel
def f_X_ticksToFinish (m : xM) : Option (Int × xM) :=
     (Option.bind (f_L_cp (xvw xT_3 m)) fun q0 =>
      (Option.bind (f_L_runToFinish (xvw xT_4 (xmg xT_3 66 m q0))) fun q1 =>
      some (q1.1, (xmg xT_4 38 (xmg xT_3 66 m q0) q1.2))))
set_option maxRecDepth 1000000 in
set_option maxHeartbeats 4000000 in
theorem t_X_ticksToFinish {Γ : xG} {d : Nat} (hd9 : 8 ≤ d) (C : xC Γ lay_X RX10 cX10_ticksToFinish 1 d) {r : Int} {m9 : xM} (hR : xRi Γ lay_X cX10_ticksToFinish r m9) (m : xM) (h : f_X_ticksToFinish m = some (r, m9)) : xW Γ lay_X 1 0 [(0, .inr (.inr (some 0)))] [] m := by
  unfold f_X_ticksToFinish at h
  refine x_aload_n C dX10_ticksToFinish_0 rfl ?_
  refine x_getR C dX10_ticksToFinish_1 fF_X10_31 rfl rfl ?_
  refine x_aload_n C dX10_ticksToFinish_4 rfl ?_
  refine x_getR C dX10_ticksToFinish_5 fF_X10_27 rfl rfl ?_
  obtain ⟨q0, hq0, h⟩ := x_bind h
  refine x_callV0 C dX10_ticksToFinish_8 (xin_18 _ (List.mem_of_getElem? (i := 0) rfl)) xy_X3_copyFrom (xi_X3_copyFrom) (xs_X3_copyFrom) xT_2 xv_54 (T0 := xT_3) rfl (by omega) (by decide) (b := 0) rfl ⟨_, _, rfl⟩ (av := [.inr (.inr (some 33))]) rfl (Nat.le_of_ble_eq_true rfl) (c_L_cp _ _ _ hq0) rfl ?_
  refine x_aload_n C dX10_ticksToFinish_11 rfl ?_
  refine x_getR C dX10_ticksToFinish_12 fF_X10_31 rfl rfl ?_
  obtain ⟨q1, hq1, h⟩ := x_bind h
  refine x_callV C dX10_ticksToFinish_15 (xin_30 _ (List.mem_of_getElem? (i := 17) rfl)) xy_X3_runToFinish (xi_X3_runToFinish) (xs_X3_runToFinish) xT_4 xv_55 (by omega) (by decide) (b := 0) rfl ⟨_, _, rfl⟩ (av := []) rfl (Nat.le_of_ble_eq_true rfl) (c_L_runToFinish _ _ q1.1 q1.2 hq1) rfl ?_
  exact x_ireturn hR dX10_ticksToFinish_18 h
theorem c_X_ticksToFinish (l : Launch) (m : xM) (r : Int) (m9 : xM) (h : f_X_ticksToFinish m = some (r, m9)) : xMet l yX10_ticksToFinish cX10_ticksToFinish 1 (some .int) 8 lay_X [.inr (.inr (some 0))] m (some (.inl r)) m9 :=
  xMet_i (by decide +kernel) (Nat.le_of_ble_eq_true rfl) (fun Γ C hR hl9 => t_X_ticksToFinish (Nat.le_refl _) C hR m h)
/-! ===== yX10_receivedBehind ===== -/
theorem xy_X3_run : xY yX3_run cX3_run 3 none 1 := ⟨(xin_21 _ (List.mem_of_getElem? (i := 5) rfl)), (xin_1 _ (List.mem_of_getElem? (i := 18) rfl)), by decide, by decide, by decide +kernel⟩
theorem xi_X3_run : Cond.instanceMethod yX3_run ∈ wsL_law := (xin_21 _ (List.mem_of_getElem? (i := 3) rfl))
theorem xs_X3_run : Cond.selects yX3_run.cls yX3_run yX3_run ∈ wsL_law := (xin_21 _ (List.mem_of_getElem? (i := 4) rfl))
theorem xv_56 : xview lay_X lay_eo [44, 1, 45, 56, 67, 72, 74, 75] := xview_of (by decide +kernel)
theorem dX10_receivedBehind_0 : decode cX10_receivedBehind 0 = .ok (.aload_n 0, 1) := by decide +kernel
theorem dX10_receivedBehind_1 : decode cX10_receivedBehind 1 = .ok (.iload_n 1, 1) := by decide +kernel
theorem dX10_receivedBehind_2 : decode cX10_receivedBehind 2 = .ok (.invokevirtual 181, 3) := by decide +kernel
theorem dX10_receivedBehind_5 : decode cX10_receivedBehind 5 = .ok (.iload_n 2, 1) := by decide +kernel
theorem dX10_receivedBehind_6 : decode cX10_receivedBehind 6 = .ok (.ifCond .lt 10, 3) := by decide +kernel
theorem dX10_receivedBehind_9 : decode cX10_receivedBehind 9 = .ok (.iload_n 2, 1) := by decide +kernel
theorem dX10_receivedBehind_10 : decode cX10_receivedBehind 10 = .ok (.sipush 400, 3) := by decide +kernel
theorem dX10_receivedBehind_13 : decode cX10_receivedBehind 13 = .ok (.if_icmp .le 14, 3) := by decide +kernel
theorem dX10_receivedBehind_16 : decode cX10_receivedBehind 16 = .ok (.new 126, 3) := by decide +kernel
theorem dX10_receivedBehind_19 : decode cX10_receivedBehind 19 = .ok (.dup, 1) := by decide +kernel
theorem dX10_receivedBehind_20 : decode cX10_receivedBehind 20 = .ok (.ldc_w 294, 3) := by decide +kernel
theorem dX10_receivedBehind_23 : decode cX10_receivedBehind 23 = .ok (.invokespecial 130, 3) := by decide +kernel
theorem dX10_receivedBehind_26 : decode cX10_receivedBehind 26 = .ok (.athrow, 1) := by decide +kernel
theorem dX10_receivedBehind_27 : decode cX10_receivedBehind 27 = .ok (.aload_n 0, 1) := by decide +kernel
theorem dX10_receivedBehind_28 : decode cX10_receivedBehind 28 = .ok (.getfield 31, 3) := by decide +kernel
theorem dX10_receivedBehind_31 : decode cX10_receivedBehind 31 = .ok (.aload_n 0, 1) := by decide +kernel
theorem dX10_receivedBehind_32 : decode cX10_receivedBehind 32 = .ok (.getfield 27, 3) := by decide +kernel
theorem dX10_receivedBehind_35 : decode cX10_receivedBehind 35 = .ok (.invokevirtual 288, 3) := by decide +kernel
theorem dX10_receivedBehind_38 : decode cX10_receivedBehind 38 = .ok (.aload_n 0, 1) := by decide +kernel
theorem dX10_receivedBehind_39 : decode cX10_receivedBehind 39 = .ok (.getfield 31, 3) := by decide +kernel
theorem dX10_receivedBehind_42 : decode cX10_receivedBehind 42 = .ok (.iload_n 2, 1) := by decide +kernel
theorem dX10_receivedBehind_43 : decode cX10_receivedBehind 43 = .ok (.invokevirtual 296, 3) := by decide +kernel
theorem dX10_receivedBehind_46 : decode cX10_receivedBehind 46 = .ok (.aload_n 0, 1) := by decide +kernel
theorem dX10_receivedBehind_47 : decode cX10_receivedBehind 47 = .ok (.getfield 31, 3) := by decide +kernel
theorem dX10_receivedBehind_50 : decode cX10_receivedBehind 50 = .ok (.iload_n 1, 1) := by decide +kernel
theorem dX10_receivedBehind_51 : decode cX10_receivedBehind 51 = .ok (.invokevirtual 184, 3) := by decide +kernel
theorem dX10_receivedBehind_54 : decode cX10_receivedBehind 54 = .ok (.getfield 209, 3) := by decide +kernel
theorem dX10_receivedBehind_57 : decode cX10_receivedBehind 57 = .ok (.ireturn, 1) := by decide +kernel
def f_X_receivedBehind_16 (e : Int) (z : Int) (m : xM) : Option (Int × xM) :=
     none
set_option maxRecDepth 1000000 in
set_option maxHeartbeats 4000000 in
theorem t_X_receivedBehind_16 {Γ : xG} {d : Nat} (hd9 : 8 ≤ d) (C : xC Γ lay_X RX10 cX10_receivedBehind 3 d) (e : Int) (z : Int) {r : Int} {m9 : xM} (hR : xRi Γ lay_X cX10_receivedBehind r m9) (m : xM) (h : f_X_receivedBehind_16 e z m = some (r, m9)) : xW Γ lay_X 3 16 [] [] m := by
  unfold f_X_receivedBehind_16 at h
  cases h
def f_X_receivedBehind (e : Int) (z : Int) (m : xM) : Option (Int × xM) :=
     (Option.bind (f_X_checkEnd e m) fun q0 =>
      (if xw z < 0 then f_X_receivedBehind_16 e z m
      else (if xw 400 < xw z then f_X_receivedBehind_16 e z m
      else (Option.bind (f_L_cp (xvw xT_3 m)) fun q1 =>
      (Option.bind (f_L_run z (xvw xT_4 (xmg xT_3 66 m q1))) fun q2 =>
      (if xw e = 0 then some (((xmg xT_4 38 (xmg xT_3 66 m q1) q2) 45 6), (xmg xT_4 38 (xmg xT_3 66 m q1) q2))
      else (if xw e = 1 then some (((xmg xT_4 38 (xmg xT_3 66 m q1) q2) 56 6), (xmg xT_4 38 (xmg xT_3 66 m q1) q2))
      else none)))))))
set_option maxRecDepth 1000000 in
set_option maxHeartbeats 4000000 in
theorem t_X_receivedBehind {Γ : xG} {d : Nat} (hd9 : 8 ≤ d) (C : xC Γ lay_X RX10 cX10_receivedBehind 3 d) (e : Int) (z : Int) {r : Int} {m9 : xM} (hR : xRi Γ lay_X cX10_receivedBehind r m9) (m : xM) (h : f_X_receivedBehind e z m = some (r, m9)) : xW Γ lay_X 3 0 [(0, .inr (.inr (some 0))), (1, .inl e), (2, .inl z)] [] m := by
  unfold f_X_receivedBehind at h
  refine x_aload_n C dX10_receivedBehind_0 rfl ?_
  refine x_iload_n C dX10_receivedBehind_1 rfl ?_
  obtain ⟨q0, hq0, h⟩ := x_bind h
  refine x_callVI C dX10_receivedBehind_2 (xin_29 _ (List.mem_of_getElem? (i := 21) rfl)) xy_X10_checkEnd (xi_X10_checkEnd) (xs_X10_checkEnd) (by omega) (by decide) (b := 0) rfl ⟨_, _, rfl⟩ (av := [.inl e]) rfl (Nat.le_of_ble_eq_true rfl) (c_X_checkEnd _ _ _ _ hq0) rfl ?_
  refine x_iload_n C dX10_receivedBehind_5 rfl ?_
  refine x_if_lt C 16 dX10_receivedBehind_6 (by decide) h (fun h => ?_) (fun h => ?_)
  · refine x_loc [] trivial ?_
    exact t_X_receivedBehind_16 hd9 C _ _ hR _ h
  · refine x_iload_n C dX10_receivedBehind_9 rfl ?_
    refine x_sipush C dX10_receivedBehind_10 (by decide) ?_
    refine x_icmp_le C 27 dX10_receivedBehind_13 (by decide) h (fun h => ?_) (fun h => ?_)
    · refine x_aload_n C dX10_receivedBehind_27 rfl ?_
      refine x_getR C dX10_receivedBehind_28 fF_X10_31 rfl rfl ?_
      refine x_aload_n C dX10_receivedBehind_31 rfl ?_
      refine x_getR C dX10_receivedBehind_32 fF_X10_27 rfl rfl ?_
      obtain ⟨q1, hq1, h⟩ := x_bind h
      refine x_callV0 C dX10_receivedBehind_35 (xin_18 _ (List.mem_of_getElem? (i := 0) rfl)) xy_X3_copyFrom (xi_X3_copyFrom) (xs_X3_copyFrom) xT_2 xv_54 (T0 := xT_3) rfl (by omega) (by decide) (b := 0) rfl ⟨_, _, rfl⟩ (av := [.inr (.inr (some 33))]) rfl (Nat.le_of_ble_eq_true rfl) (c_L_cp _ _ _ hq1) rfl ?_
      refine x_aload_n C dX10_receivedBehind_38 rfl ?_
      refine x_getR C dX10_receivedBehind_39 fF_X10_31 rfl rfl ?_
      refine x_iload_n C dX10_receivedBehind_42 rfl ?_
      obtain ⟨q2, hq2, h⟩ := x_bind h
      refine x_callV C dX10_receivedBehind_43 (xin_21 _ (List.mem_of_getElem? (i := 2) rfl)) xy_X3_run (xi_X3_run) (xs_X3_run) xT_4 xv_55 (by omega) (by decide) (b := 0) rfl ⟨_, _, rfl⟩ (av := [.inl z]) rfl (Nat.le_of_ble_eq_true rfl) (c_L_run _ _ _ _ hq2) rfl ?_
      refine x_aload_n C dX10_receivedBehind_46 rfl ?_
      refine x_getR C dX10_receivedBehind_47 fF_X10_31 rfl rfl ?_
      refine x_iload_n C dX10_receivedBehind_50 rfl ?_
      refine x_ite h (fun hk94 h => ?_) (fun _ h => ?_)
      · refine x_callVp C dX10_receivedBehind_51 (xin_30 _ (List.mem_of_getElem? (i := 1) rfl)) xy_X3_endOf (xi_X3_endOf) (xs_X3_endOf) [44, 1, 45, 56, 67, 72, 74, 75] xv_56 (by omega) (by decide) (b := 0) rfl ⟨_, _, rfl⟩ (av := [.inl e]) rfl (Nat.le_of_ble_eq_true rfl) (c_endOf0 _ _ _ (by first | decide | assumption | exact xw_1m0 (by assumption) | exact xw_1m1 (by assumption) | exact xw_ne1 (by assumption) | exact xw_n1m0 (by assumption))) rfl ?_
        refine x_getI C dX10_receivedBehind_54 fF_X10_209 rfl rfl ?_
        exact x_ireturn hR dX10_receivedBehind_57 h
      · obtain ⟨hk94, h⟩ := x_some1 h
        refine x_callVp C dX10_receivedBehind_51 (xin_30 _ (List.mem_of_getElem? (i := 1) rfl)) xy_X3_endOf (xi_X3_endOf) (xs_X3_endOf) [44, 1, 45, 56, 67, 72, 74, 75] xv_56 (by omega) (by decide) (b := 0) rfl ⟨_, _, rfl⟩ (av := [.inl e]) rfl (Nat.le_of_ble_eq_true rfl) (c_endOf1 _ _ _ (by first | decide | assumption | exact xw_1m0 (by assumption) | exact xw_1m1 (by assumption) | exact xw_ne1 (by assumption) | exact xw_n1m0 (by assumption))) rfl ?_
        refine x_getI C dX10_receivedBehind_54 fF_X10_209 rfl rfl ?_
        exact x_ireturn hR dX10_receivedBehind_57 h
    · refine x_loc [] trivial ?_
      exact t_X_receivedBehind_16 hd9 C _ _ hR _ h
theorem c_X_receivedBehind (l : Launch) (e : Int) (z : Int) (m : xM) (r : Int) (m9 : xM) (h : f_X_receivedBehind e z m = some (r, m9)) : xMet l yX10_receivedBehind cX10_receivedBehind 3 (some .int) 8 lay_X [.inr (.inr (some 0)), .inl e, .inl z] m (some (.inl r)) m9 :=
  xMet_i (by decide +kernel) (Nat.le_of_ble_eq_true rfl) (fun Γ C hR hl9 => t_X_receivedBehind (Nat.le_refl _) C e z hR m h)
/-! ===== yX10_leastQuality ===== -/
theorem dX10_leastQuality_0 : decode cX10_leastQuality 0 = .ok (.iconst 0, 1) := by decide +kernel
theorem dX10_leastQuality_1 : decode cX10_leastQuality 1 = .ok (.istore_n 1, 1) := by decide +kernel
theorem dX10_leastQuality_2 : decode cX10_leastQuality 2 = .ok (.iload_n 1, 1) := by decide +kernel
theorem dX10_leastQuality_3 : decode cX10_leastQuality 3 = .ok (.bipush 9, 2) := by decide +kernel
theorem dX10_leastQuality_5 : decode cX10_leastQuality 5 = .ok (.if_icmp .gt 41, 3) := by decide +kernel
theorem dX10_leastQuality_8 : decode cX10_leastQuality 8 = .ok (.aload_n 0, 1) := by decide +kernel
theorem dX10_leastQuality_9 : decode cX10_leastQuality 9 = .ok (.getfield 31, 3) := by decide +kernel
theorem dX10_leastQuality_12 : decode cX10_leastQuality 12 = .ok (.aload_n 0, 1) := by decide +kernel
theorem dX10_leastQuality_13 : decode cX10_leastQuality 13 = .ok (.getfield 27, 3) := by decide +kernel
theorem dX10_leastQuality_16 : decode cX10_leastQuality 16 = .ok (.invokevirtual 288, 3) := by decide +kernel
theorem dX10_leastQuality_19 : decode cX10_leastQuality 19 = .ok (.aload_n 0, 1) := by decide +kernel
theorem dX10_leastQuality_20 : decode cX10_leastQuality 20 = .ok (.getfield 31, 3) := by decide +kernel
theorem dX10_leastQuality_23 : decode cX10_leastQuality 23 = .ok (.iload_n 1, 1) := by decide +kernel
theorem dX10_leastQuality_24 : decode cX10_leastQuality 24 = .ok (.putfield 142, 3) := by decide +kernel
theorem dX10_leastQuality_27 : decode cX10_leastQuality 27 = .ok (.aload_n 0, 1) := by decide +kernel
theorem dX10_leastQuality_28 : decode cX10_leastQuality 28 = .ok (.getfield 31, 3) := by decide +kernel
theorem dX10_leastQuality_31 : decode cX10_leastQuality 31 = .ok (.invokevirtual 291, 3) := by decide +kernel
theorem dX10_leastQuality_34 : decode cX10_leastQuality 34 = .ok (.iconst (-1), 1) := by decide +kernel
theorem dX10_leastQuality_35 : decode cX10_leastQuality 35 = .ok (.if_icmp .eq 5, 3) := by decide +kernel
theorem dX10_leastQuality_38 : decode cX10_leastQuality 38 = .ok (.iload_n 1, 1) := by decide +kernel
theorem dX10_leastQuality_39 : decode cX10_leastQuality 39 = .ok (.ireturn, 1) := by decide +kernel
theorem dX10_leastQuality_40 : decode cX10_leastQuality 40 = .ok (.iinc 1 1, 3) := by decide +kernel
theorem dX10_leastQuality_43 : decode cX10_leastQuality 43 = .ok (.goto (-41), 3) := by decide +kernel
theorem dX10_leastQuality_46 : decode cX10_leastQuality 46 = .ok (.iconst (-1), 1) := by decide +kernel
theorem dX10_leastQuality_47 : decode cX10_leastQuality 47 = .ok (.ireturn, 1) := by decide +kernel
def f_X_leastQuality_2 : Nat → Int → xM → Option (Int × xM)
  | 0, _, _ => none
  | n + 1, x1, m =>
     (if xw 9 < xw x1 then some ((-1), m)
      else (Option.bind (f_L_cp (xvw xT_3 m)) fun q0 =>
      (Option.bind (f_L_runToFinish (xvw xT_4 (xu (xmg xT_3 66 m q0) 44 9 x1))) fun q1 =>
      (if xw q1.1 = xw (-1) then f_X_leastQuality_2 n (x1 + 1) (xmg xT_4 38 (xu (xmg xT_3 66 m q0) 44 9 x1) q1.2)
      else some (x1, (xmg xT_4 38 (xu (xmg xT_3 66 m q0) 44 9 x1) q1.2))))))
set_option maxRecDepth 1000000 in
set_option maxHeartbeats 4000000 in
theorem t_X_leastQuality_2 {Γ : xG} {d : Nat} (hd9 : 8 ≤ d) (C : xC Γ lay_X RX10 cX10_leastQuality 2 d) {r : Int} {m9 : xM} (hR : xRi Γ lay_X cX10_leastQuality r m9) : ∀ (n : Nat) (x1 : Int) (m : xM), f_X_leastQuality_2 n x1 m = some (r, m9) → xW Γ lay_X 2 2 [(0, .inr (.inr (some 0))), (1, .inl x1)] [] m := by
  intro n
  induction n with
  | zero => intro _ _ h; cases h
  | succ n ih =>
    intro x1 m h
    rw [f_X_leastQuality_2] at h
    refine x_iload_n C dX10_leastQuality_2 rfl ?_
    refine x_bipush C dX10_leastQuality_3 (by decide) ?_
    refine x_icmp_gt C 46 dX10_leastQuality_5 (by decide) h (fun h => ?_) (fun h => ?_)
    · refine x_iconst C dX10_leastQuality_46 ?_
      exact x_ireturn hR dX10_leastQuality_47 h
    · refine x_aload_n C dX10_leastQuality_8 rfl ?_
      refine x_getR C dX10_leastQuality_9 fF_X10_31 rfl rfl ?_
      refine x_aload_n C dX10_leastQuality_12 rfl ?_
      refine x_getR C dX10_leastQuality_13 fF_X10_27 rfl rfl ?_
      obtain ⟨q0, hq0, h⟩ := x_bind h
      refine x_callV0 C dX10_leastQuality_16 (xin_18 _ (List.mem_of_getElem? (i := 0) rfl)) xy_X3_copyFrom (xi_X3_copyFrom) (xs_X3_copyFrom) xT_2 xv_54 (T0 := xT_3) rfl (by omega) (by decide) (b := 0) rfl ⟨_, _, rfl⟩ (av := [.inr (.inr (some 33))]) rfl (Nat.le_of_ble_eq_true rfl) (c_L_cp _ _ _ hq0) rfl ?_
      refine x_aload_n C dX10_leastQuality_19 rfl ?_
      refine x_getR C dX10_leastQuality_20 fF_X10_31 rfl rfl ?_
      refine x_iload_n C dX10_leastQuality_23 rfl ?_
      refine x_putI C dX10_leastQuality_24 fF_X10_142 rfl rfl ?_
      refine x_aload_n C dX10_leastQuality_27 rfl ?_
      refine x_getR C dX10_leastQuality_28 fF_X10_31 rfl rfl ?_
      obtain ⟨q1, hq1, h⟩ := x_bind h
      refine x_callV C dX10_leastQuality_31 (xin_30 _ (List.mem_of_getElem? (i := 17) rfl)) xy_X3_runToFinish (xi_X3_runToFinish) (xs_X3_runToFinish) xT_4 xv_55 (by omega) (by decide) (b := 0) rfl ⟨_, _, rfl⟩ (av := []) rfl (Nat.le_of_ble_eq_true rfl) (c_L_runToFinish _ _ q1.1 q1.2 hq1) rfl ?_
      refine x_iconst C dX10_leastQuality_34 ?_
      refine x_icmp_eq C 40 dX10_leastQuality_35 (by decide) h (fun h => ?_) (fun h => ?_)
      · refine x_iinc C dX10_leastQuality_40 (by decide) rfl ?_
        refine x_goto C 2 dX10_leastQuality_43 (by decide) ?_
        refine x_loc [(0, .inr (.inr (some 0))), (1, .inl (x1 + 1))] ⟨rfl, rfl, trivial⟩ ?_
        exact ih _ _ h
      · refine x_iload_n C dX10_leastQuality_38 rfl ?_
        exact x_ireturn hR dX10_leastQuality_39 h
def f_X_leastQuality (m : xM) : Option (Int × xM) :=
     f_X_leastQuality_2 fu 0 m
set_option maxRecDepth 1000000 in
set_option maxHeartbeats 4000000 in
theorem t_X_leastQuality {Γ : xG} {d : Nat} (hd9 : 8 ≤ d) (C : xC Γ lay_X RX10 cX10_leastQuality 2 d) {r : Int} {m9 : xM} (hR : xRi Γ lay_X cX10_leastQuality r m9) (m : xM) (h : f_X_leastQuality m = some (r, m9)) : xW Γ lay_X 2 0 [(0, .inr (.inr (some 0)))] [] m := by
  unfold f_X_leastQuality at h
  refine x_iconst C dX10_leastQuality_0 ?_
  refine x_istore_n C dX10_leastQuality_1 (by decide) ?_
  refine x_loc [(0, .inr (.inr (some 0))), (1, .inl 0)] ⟨rfl, rfl, trivial⟩ ?_
  exact t_X_leastQuality_2 hd9 C hR fu _ _ h
theorem c_X_leastQuality (l : Launch) (m : xM) (r : Int) (m9 : xM) (h : f_X_leastQuality m = some (r, m9)) : xMet l yX10_leastQuality cX10_leastQuality 2 (some .int) 8 lay_X [.inr (.inr (some 0))] m (some (.inl r)) m9 :=
  xMet_i (by decide +kernel) (Nat.le_of_ble_eq_true rfl) (fun Γ C hR hl9 => t_X_leastQuality (Nat.le_refl _) C hR m h)
/-! ===== yX10_remember ===== -/
theorem fF_X10_37 : xF RX10 37 11 6 (.array (.object "ModemLink$Line")) true := ⟨RX10, TX10, 16, tyX10, rfl, by decide, (xin_1 _ (List.mem_of_getElem? (i := 22) rfl)), rfl, inlX10, tyX10_ok, nmX10, rfl, rfl⟩
theorem fF_X10_303 : xF RX10 303 11 8 .int false := ⟨RX10, TX10, 16, tyX10, rfl, by decide, (xin_17 _ (List.mem_of_getElem? (i := 22) rfl)), rfl, inlX10, tyX10_ok, nmX10, rfl, rfl⟩
def xT_5 : List Nat := [110, 111, 112, 113, 114, 115, 116, 117, 118, 119, 120, 121, 122, 123, 124, 125, 126, 127, 128, 129, 130, 131, 132, 133, 134, 135, 136, 137, 138, 139, 140, 141, 142, 11, 12, 13, 14, 15, 16, 17, 18, 19, 20, 21, 22, 23, 24, 25, 26, 27, 28, 29, 30, 31, 32, 33, 34, 35, 36, 37, 38, 39, 40, 41, 42, 43, 1]
theorem xv_57 : xview lay_X lay_LL xT_5 := xview_of (by decide +kernel)
def xT_6 : List Nat := [110, 111, 112, 113, 114, 115, 116, 117, 118, 119, 120, 121, 122, 123, 124, 125, 126, 127, 128, 129, 130, 131, 132, 133, 134, 135, 136, 137, 138, 139, 140, 141, 142, 11, 12, 13, 14, 15, 16, 17, 18, 19, 20, 21, 22, 23, 24, 25, 26, 27, 28, 29, 30, 31, 32, 33, 34, 35, 36, 37, 38, 39, 40, 41, 42, 43]
theorem fF_X10_120 : xF RX10 120 11 7 .int false := ⟨RX10, TX10, 16, tyX10, rfl, by decide, (xin_11 _ (List.mem_of_getElem? (i := 20) rfl)), rfl, inlX10, tyX10_ok, nmX10, rfl, rfl⟩
def xT_7 : List Nat := [143, 144, 145, 146, 147, 148, 149, 150, 151, 152, 153, 154, 155, 156, 157, 158, 159, 160, 161, 162, 163, 164, 165, 166, 167, 168, 169, 170, 171, 172, 173, 174, 175, 11, 12, 13, 14, 15, 16, 17, 18, 19, 20, 21, 22, 23, 24, 25, 26, 27, 28, 29, 30, 31, 32, 33, 34, 35, 36, 37, 38, 39, 40, 41, 42, 43, 1]
theorem xv_58 : xview lay_X lay_LL xT_7 := xview_of (by decide +kernel)
def xT_8 : List Nat := [143, 144, 145, 146, 147, 148, 149, 150, 151, 152, 153, 154, 155, 156, 157, 158, 159, 160, 161, 162, 163, 164, 165, 166, 167, 168, 169, 170, 171, 172, 173, 174, 175, 11, 12, 13, 14, 15, 16, 17, 18, 19, 20, 21, 22, 23, 24, 25, 26, 27, 28, 29, 30, 31, 32, 33, 34, 35, 36, 37, 38, 39, 40, 41, 42, 43]
def xT_9 : List Nat := [176, 177, 178, 179, 180, 181, 182, 183, 184, 185, 186, 187, 188, 189, 190, 191, 192, 193, 194, 195, 196, 197, 198, 199, 200, 201, 202, 203, 204, 205, 206, 207, 208, 11, 12, 13, 14, 15, 16, 17, 18, 19, 20, 21, 22, 23, 24, 25, 26, 27, 28, 29, 30, 31, 32, 33, 34, 35, 36, 37, 38, 39, 40, 41, 42, 43, 1]
theorem xv_59 : xview lay_X lay_LL xT_9 := xview_of (by decide +kernel)
def xT_10 : List Nat := [176, 177, 178, 179, 180, 181, 182, 183, 184, 185, 186, 187, 188, 189, 190, 191, 192, 193, 194, 195, 196, 197, 198, 199, 200, 201, 202, 203, 204, 205, 206, 207, 208, 11, 12, 13, 14, 15, 16, 17, 18, 19, 20, 21, 22, 23, 24, 25, 26, 27, 28, 29, 30, 31, 32, 33, 34, 35, 36, 37, 38, 39, 40, 41, 42, 43]
def xT_11 : List Nat := [209, 210, 211, 212, 213, 214, 215, 216, 217, 218, 219, 220, 221, 222, 223, 224, 225, 226, 227, 228, 229, 230, 231, 232, 233, 234, 235, 236, 237, 238, 239, 240, 241, 11, 12, 13, 14, 15, 16, 17, 18, 19, 20, 21, 22, 23, 24, 25, 26, 27, 28, 29, 30, 31, 32, 33, 34, 35, 36, 37, 38, 39, 40, 41, 42, 43, 1]
theorem xv_60 : xview lay_X lay_LL xT_11 := xview_of (by decide +kernel)
def xT_12 : List Nat := [209, 210, 211, 212, 213, 214, 215, 216, 217, 218, 219, 220, 221, 222, 223, 224, 225, 226, 227, 228, 229, 230, 231, 232, 233, 234, 235, 236, 237, 238, 239, 240, 241, 11, 12, 13, 14, 15, 16, 17, 18, 19, 20, 21, 22, 23, 24, 25, 26, 27, 28, 29, 30, 31, 32, 33, 34, 35, 36, 37, 38, 39, 40, 41, 42, 43]
def xT_13 : List Nat := [242, 243, 244, 245, 246, 247, 248, 249, 250, 251, 252, 253, 254, 255, 256, 257, 258, 259, 260, 261, 262, 263, 264, 265, 266, 267, 268, 269, 270, 271, 272, 273, 274, 11, 12, 13, 14, 15, 16, 17, 18, 19, 20, 21, 22, 23, 24, 25, 26, 27, 28, 29, 30, 31, 32, 33, 34, 35, 36, 37, 38, 39, 40, 41, 42, 43, 1]
theorem xv_61 : xview lay_X lay_LL xT_13 := xview_of (by decide +kernel)
def xT_14 : List Nat := [242, 243, 244, 245, 246, 247, 248, 249, 250, 251, 252, 253, 254, 255, 256, 257, 258, 259, 260, 261, 262, 263, 264, 265, 266, 267, 268, 269, 270, 271, 272, 273, 274, 11, 12, 13, 14, 15, 16, 17, 18, 19, 20, 21, 22, 23, 24, 25, 26, 27, 28, 29, 30, 31, 32, 33, 34, 35, 36, 37, 38, 39, 40, 41, 42, 43]
def xT_15 : List Nat := [275, 276, 277, 278, 279, 280, 281, 282, 283, 284, 285, 286, 287, 288, 289, 290, 291, 292, 293, 294, 295, 296, 297, 298, 299, 300, 301, 302, 303, 304, 305, 306, 307, 11, 12, 13, 14, 15, 16, 17, 18, 19, 20, 21, 22, 23, 24, 25, 26, 27, 28, 29, 30, 31, 32, 33, 34, 35, 36, 37, 38, 39, 40, 41, 42, 43, 1]
theorem xv_62 : xview lay_X lay_LL xT_15 := xview_of (by decide +kernel)
def xT_16 : List Nat := [275, 276, 277, 278, 279, 280, 281, 282, 283, 284, 285, 286, 287, 288, 289, 290, 291, 292, 293, 294, 295, 296, 297, 298, 299, 300, 301, 302, 303, 304, 305, 306, 307, 11, 12, 13, 14, 15, 16, 17, 18, 19, 20, 21, 22, 23, 24, 25, 26, 27, 28, 29, 30, 31, 32, 33, 34, 35, 36, 37, 38, 39, 40, 41, 42, 43]
def xT_17 : List Nat := [308, 309, 310, 311, 312, 313, 314, 315, 316, 317, 318, 319, 320, 321, 322, 323, 324, 325, 326, 327, 328, 329, 330, 331, 332, 333, 334, 335, 336, 337, 338, 339, 340, 11, 12, 13, 14, 15, 16, 17, 18, 19, 20, 21, 22, 23, 24, 25, 26, 27, 28, 29, 30, 31, 32, 33, 34, 35, 36, 37, 38, 39, 40, 41, 42, 43, 1]
theorem xv_63 : xview lay_X lay_LL xT_17 := xview_of (by decide +kernel)
def xT_18 : List Nat := [308, 309, 310, 311, 312, 313, 314, 315, 316, 317, 318, 319, 320, 321, 322, 323, 324, 325, 326, 327, 328, 329, 330, 331, 332, 333, 334, 335, 336, 337, 338, 339, 340, 11, 12, 13, 14, 15, 16, 17, 18, 19, 20, 21, 22, 23, 24, 25, 26, 27, 28, 29, 30, 31, 32, 33, 34, 35, 36, 37, 38, 39, 40, 41, 42, 43]
def xT_19 : List Nat := [341, 342, 343, 344, 345, 346, 347, 348, 349, 350, 351, 352, 353, 354, 355, 356, 357, 358, 359, 360, 361, 362, 363, 364, 365, 366, 367, 368, 369, 370, 371, 372, 373, 11, 12, 13, 14, 15, 16, 17, 18, 19, 20, 21, 22, 23, 24, 25, 26, 27, 28, 29, 30, 31, 32, 33, 34, 35, 36, 37, 38, 39, 40, 41, 42, 43, 1]
theorem xv_64 : xview lay_X lay_LL xT_19 := xview_of (by decide +kernel)
def xT_20 : List Nat := [341, 342, 343, 344, 345, 346, 347, 348, 349, 350, 351, 352, 353, 354, 355, 356, 357, 358, 359, 360, 361, 362, 363, 364, 365, 366, 367, 368, 369, 370, 371, 372, 373, 11, 12, 13, 14, 15, 16, 17, 18, 19, 20, 21, 22, 23, 24, 25, 26, 27, 28, 29, 30, 31, 32, 33, 34, 35, 36, 37, 38, 39, 40, 41, 42, 43]
def xT_21 : List Nat := [374, 375, 376, 377, 378, 379, 380, 381, 382, 383, 384, 385, 386, 387, 388, 389, 390, 391, 392, 393, 394, 395, 396, 397, 398, 399, 400, 401, 402, 403, 404, 405, 406, 11, 12, 13, 14, 15, 16, 17, 18, 19, 20, 21, 22, 23, 24, 25, 26, 27, 28, 29, 30, 31, 32, 33, 34, 35, 36, 37, 38, 39, 40, 41, 42, 43, 1]
theorem xv_65 : xview lay_X lay_LL xT_21 := xview_of (by decide +kernel)
def xT_22 : List Nat := [374, 375, 376, 377, 378, 379, 380, 381, 382, 383, 384, 385, 386, 387, 388, 389, 390, 391, 392, 393, 394, 395, 396, 397, 398, 399, 400, 401, 402, 403, 404, 405, 406, 11, 12, 13, 14, 15, 16, 17, 18, 19, 20, 21, 22, 23, 24, 25, 26, 27, 28, 29, 30, 31, 32, 33, 34, 35, 36, 37, 38, 39, 40, 41, 42, 43]
def xT_23 : List Nat := [407, 408, 409, 410, 411, 412, 413, 414, 415, 416, 417, 418, 419, 420, 421, 422, 423, 424, 425, 426, 427, 428, 429, 430, 431, 432, 433, 434, 435, 436, 437, 438, 439, 11, 12, 13, 14, 15, 16, 17, 18, 19, 20, 21, 22, 23, 24, 25, 26, 27, 28, 29, 30, 31, 32, 33, 34, 35, 36, 37, 38, 39, 40, 41, 42, 43, 1]
theorem xv_66 : xview lay_X lay_LL xT_23 := xview_of (by decide +kernel)
def xT_24 : List Nat := [407, 408, 409, 410, 411, 412, 413, 414, 415, 416, 417, 418, 419, 420, 421, 422, 423, 424, 425, 426, 427, 428, 429, 430, 431, 432, 433, 434, 435, 436, 437, 438, 439, 11, 12, 13, 14, 15, 16, 17, 18, 19, 20, 21, 22, 23, 24, 25, 26, 27, 28, 29, 30, 31, 32, 33, 34, 35, 36, 37, 38, 39, 40, 41, 42, 43]
theorem dX10_remember_0 : decode cX10_remember 0 = .ok (.aload_n 0, 1) := by decide +kernel
theorem dX10_remember_1 : decode cX10_remember 1 = .ok (.getfield 37, 3) := by decide +kernel
theorem dX10_remember_4 : decode cX10_remember 4 = .ok (.aload_n 0, 1) := by decide +kernel
theorem dX10_remember_5 : decode cX10_remember 5 = .ok (.getfield 303, 3) := by decide +kernel
theorem dX10_remember_8 : decode cX10_remember 8 = .ok (.aaload, 1) := by decide +kernel
theorem dX10_remember_9 : decode cX10_remember 9 = .ok (.aload_n 0, 1) := by decide +kernel
theorem dX10_remember_10 : decode cX10_remember 10 = .ok (.getfield 27, 3) := by decide +kernel
theorem dX10_remember_13 : decode cX10_remember 13 = .ok (.invokevirtual 288, 3) := by decide +kernel
theorem dX10_remember_16 : decode cX10_remember 16 = .ok (.aload_n 0, 1) := by decide +kernel
theorem dX10_remember_17 : decode cX10_remember 17 = .ok (.aload_n 0, 1) := by decide +kernel
theorem dX10_remember_18 : decode cX10_remember 18 = .ok (.getfield 303, 3) := by decide +kernel
theorem dX10_remember_21 : decode cX10_remember 21 = .ok (.iconst 1, 1) := by decide +kernel
theorem dX10_remember_22 : decode cX10_remember 22 = .ok (.iadd, 1) := by decide +kernel
theorem dX10_remember_23 : decode cX10_remember 23 = .ok (.bipush 10, 2) := by decide +kernel
theorem dX10_remember_25 : decode cX10_remember 25 = .ok (.if_icmp .ge 12, 3) := by decide +kernel
theorem dX10_remember_28 : decode cX10_remember 28 = .ok (.aload_n 0, 1) := by decide +kernel
theorem dX10_remember_29 : decode cX10_remember 29 = .ok (.getfield 303, 3) := by decide +kernel
theorem dX10_remember_32 : decode cX10_remember 32 = .ok (.iconst 1, 1) := by decide +kernel
theorem dX10_remember_33 : decode cX10_remember 33 = .ok (.iadd, 1) := by decide +kernel
theorem dX10_remember_34 : decode cX10_remember 34 = .ok (.goto 4, 3) := by decide +kernel
theorem dX10_remember_37 : decode cX10_remember 37 = .ok (.iconst 0, 1) := by decide +kernel
theorem dX10_remember_38 : decode cX10_remember 38 = .ok (.putfield 303, 3) := by decide +kernel
theorem dX10_remember_41 : decode cX10_remember 41 = .ok (.aload_n 0, 1) := by decide +kernel
theorem dX10_remember_42 : decode cX10_remember 42 = .ok (.aload_n 0, 1) := by decide +kernel
theorem dX10_remember_43 : decode cX10_remember 43 = .ok (.getfield 120, 3) := by decide +kernel
theorem dX10_remember_46 : decode cX10_remember 46 = .ok (.iconst 1, 1) := by decide +kernel
theorem dX10_remember_47 : decode cX10_remember 47 = .ok (.iadd, 1) := by decide +kernel
theorem dX10_remember_48 : decode cX10_remember 48 = .ok (.bipush 10, 2) := by decide +kernel
theorem dX10_remember_50 : decode cX10_remember 50 = .ok (.invokestatic 306, 3) := by decide +kernel
theorem dX10_remember_53 : decode cX10_remember 53 = .ok (.putfield 120, 3) := by decide +kernel
theorem dX10_remember_56 : decode cX10_remember 56 = .ok (.return_, 1) := by decide +kernel
def f_X_remember_38 (s0 : Int) (m : xM) : Option (xM) :=
     some (xu (xu m 0 8 s0) 0 7 (if xw 10 < xw ((m 0 7) + 1) then 10 else (m 0 7) + 1))
set_option maxRecDepth 1000000 in
set_option maxHeartbeats 4000000 in
theorem t_X_remember_38 {Γ : xG} {d : Nat} (hd9 : 4 ≤ d) (C : xC Γ lay_X RX10 cX10_remember 1 d) {m9 : xM} (hR : xRv Γ lay_X cX10_remember m9) (s0 : Int) (m : xM) (h : f_X_remember_38 s0 m = some m9) : xW Γ lay_X 1 38 [(0, .inr (.inr (some 0)))] [.inl s0, .inr (.inr (some 0))] m := by
  unfold f_X_remember_38 at h
  refine x_putI C dX10_remember_38 fF_X10_303 rfl rfl ?_
  refine x_aload_n C dX10_remember_41 rfl ?_
  refine x_aload_n C dX10_remember_42 rfl ?_
  refine x_getI C dX10_remember_43 fF_X10_120 rfl rfl ?_
  refine x_iconst C dX10_remember_46 ?_
  refine x_iadd C dX10_remember_47 ?_
  refine x_bipush C dX10_remember_48 (by decide) ?_
  refine x_min C dX10_remember_50 (xin_17 _ (List.mem_of_getElem? (i := 23) rfl)) gm_min_s gm_math gm_min_c (by omega) (Nat.le_of_ble_eq_true rfl) ?_
  refine x_putI C dX10_remember_53 fF_X10_120 rfl rfl ?_
  exact x_returnV hR dX10_remember_56 h
def f_X_remember (m : xM) : Option (xM) :=
     (if xw (m 0 8) = 0 then (Option.bind (f_L_cp (xvw xT_6 m)) fun q0 =>
      (if xw (((xmg xT_6 66 m q0) 0 8) + 1) < xw 10 then f_X_remember_38 (((xmg xT_6 66 m q0) 0 8) + 1) (xmg xT_6 66 m q0)
      else f_X_remember_38 0 (xmg xT_6 66 m q0)))
      else (if xw (m 0 8) = 1 then (Option.bind (f_L_cp (xvw xT_8 m)) fun q1 =>
      (if xw (((xmg xT_8 66 m q1) 0 8) + 1) < xw 10 then f_X_remember_38 (((xmg xT_8 66 m q1) 0 8) + 1) (xmg xT_8 66 m q1)
      else f_X_remember_38 0 (xmg xT_8 66 m q1)))
      else (if xw (m 0 8) = 2 then (Option.bind (f_L_cp (xvw xT_10 m)) fun q2 =>
      (if xw (((xmg xT_10 66 m q2) 0 8) + 1) < xw 10 then f_X_remember_38 (((xmg xT_10 66 m q2) 0 8) + 1) (xmg xT_10 66 m q2)
      else f_X_remember_38 0 (xmg xT_10 66 m q2)))
      else (if xw (m 0 8) = 3 then (Option.bind (f_L_cp (xvw xT_12 m)) fun q3 =>
      (if xw (((xmg xT_12 66 m q3) 0 8) + 1) < xw 10 then f_X_remember_38 (((xmg xT_12 66 m q3) 0 8) + 1) (xmg xT_12 66 m q3)
      else f_X_remember_38 0 (xmg xT_12 66 m q3)))
      else (if xw (m 0 8) = 4 then (Option.bind (f_L_cp (xvw xT_14 m)) fun q4 =>
      (if xw (((xmg xT_14 66 m q4) 0 8) + 1) < xw 10 then f_X_remember_38 (((xmg xT_14 66 m q4) 0 8) + 1) (xmg xT_14 66 m q4)
      else f_X_remember_38 0 (xmg xT_14 66 m q4)))
      else (if xw (m 0 8) = 5 then (Option.bind (f_L_cp (xvw xT_16 m)) fun q5 =>
      (if xw (((xmg xT_16 66 m q5) 0 8) + 1) < xw 10 then f_X_remember_38 (((xmg xT_16 66 m q5) 0 8) + 1) (xmg xT_16 66 m q5)
      else f_X_remember_38 0 (xmg xT_16 66 m q5)))
      else (if xw (m 0 8) = 6 then (Option.bind (f_L_cp (xvw xT_18 m)) fun q6 =>
      (if xw (((xmg xT_18 66 m q6) 0 8) + 1) < xw 10 then f_X_remember_38 (((xmg xT_18 66 m q6) 0 8) + 1) (xmg xT_18 66 m q6)
      else f_X_remember_38 0 (xmg xT_18 66 m q6)))
      else (if xw (m 0 8) = 7 then (Option.bind (f_L_cp (xvw xT_20 m)) fun q7 =>
      (if xw (((xmg xT_20 66 m q7) 0 8) + 1) < xw 10 then f_X_remember_38 (((xmg xT_20 66 m q7) 0 8) + 1) (xmg xT_20 66 m q7)
      else f_X_remember_38 0 (xmg xT_20 66 m q7)))
      else (if xw (m 0 8) = 8 then (Option.bind (f_L_cp (xvw xT_22 m)) fun q8 =>
      (if xw (((xmg xT_22 66 m q8) 0 8) + 1) < xw 10 then f_X_remember_38 (((xmg xT_22 66 m q8) 0 8) + 1) (xmg xT_22 66 m q8)
      else f_X_remember_38 0 (xmg xT_22 66 m q8)))
      else (if xw (m 0 8) = 9 then (Option.bind (f_L_cp (xvw xT_24 m)) fun q9 =>
      (if xw (((xmg xT_24 66 m q9) 0 8) + 1) < xw 10 then f_X_remember_38 (((xmg xT_24 66 m q9) 0 8) + 1) (xmg xT_24 66 m q9)
      else f_X_remember_38 0 (xmg xT_24 66 m q9)))
      else none))))))))))
set_option maxRecDepth 1000000 in
set_option maxHeartbeats 4000000 in
theorem t_X_remember {Γ : xG} {d : Nat} (hd9 : 4 ≤ d) (C : xC Γ lay_X RX10 cX10_remember 1 d) {m9 : xM} (hR : xRv Γ lay_X cX10_remember m9) (m : xM) (h : f_X_remember m = some m9) : xW Γ lay_X 1 0 [(0, .inr (.inr (some 0)))] [] m := by
  unfold f_X_remember at h
  refine x_aload_n C dX10_remember_0 rfl ?_
  refine x_getR C dX10_remember_1 fF_X10_37 rfl rfl ?_
  refine x_aload_n C dX10_remember_4 rfl ?_
  refine x_getI C dX10_remember_5 fF_X10_303 rfl rfl ?_
  refine x_ite h (fun hc0 h => ?_) (fun hc0 h => ?_)
  · refine x_aaload C dX10_remember_8 (t := 0) (fun _ => rfl) rfl (x_pk (k := 0) hc0 (by decide)).1 (show [110, 143, 176, 209, 242, 275, 308, 341, 374, 407][xix (m 0 8)]? = some 110 by rw [(x_pk (k := 0) (n := 10) hc0 (by decide)).2]; rfl) ?_
    refine x_aload_n C dX10_remember_9 rfl ?_
    refine x_getR C dX10_remember_10 fF_X10_27 rfl rfl ?_
    obtain ⟨q0, hq0, h⟩ := x_bind h
    refine x_callV0 C dX10_remember_13 (xin_18 _ (List.mem_of_getElem? (i := 0) rfl)) xy_X3_copyFrom (xi_X3_copyFrom) (xs_X3_copyFrom) xT_5 xv_57 (T0 := xT_6) rfl (by omega) (by decide) (b := 0) rfl ⟨_, _, rfl⟩ (av := [.inr (.inr (some 33))]) rfl (Nat.le_of_ble_eq_true rfl) (c_L_cp _ _ _ hq0) rfl ?_
    refine x_aload_n C dX10_remember_16 rfl ?_
    refine x_aload_n C dX10_remember_17 rfl ?_
    refine x_getI C dX10_remember_18 fF_X10_303 rfl rfl ?_
    refine x_iconst C dX10_remember_21 ?_
    refine x_iadd C dX10_remember_22 ?_
    refine x_bipush C dX10_remember_23 (by decide) ?_
    refine x_icmp_ge C 37 dX10_remember_25 (by decide) h (fun h => ?_) (fun h => ?_)
    · refine x_iconst C dX10_remember_37 ?_
      refine x_loc [(0, .inr (.inr (some 0)))] ⟨rfl, trivial⟩ ?_
      exact t_X_remember_38 hd9 C hR _ _ h
    · refine x_aload_n C dX10_remember_28 rfl ?_
      refine x_getI C dX10_remember_29 fF_X10_303 rfl rfl ?_
      refine x_iconst C dX10_remember_32 ?_
      refine x_iadd C dX10_remember_33 ?_
      refine x_goto C 38 dX10_remember_34 (by decide) ?_
      refine x_loc [(0, .inr (.inr (some 0)))] ⟨rfl, trivial⟩ ?_
      exact t_X_remember_38 hd9 C hR _ _ h
  refine x_ite h (fun hc1 h => ?_) (fun hc1 h => ?_)
  · refine x_aaload C dX10_remember_8 (t := 0) (fun _ => rfl) rfl (x_pk (k := 1) hc1 (by decide)).1 (show [110, 143, 176, 209, 242, 275, 308, 341, 374, 407][xix (m 0 8)]? = some 143 by rw [(x_pk (k := 1) (n := 10) hc1 (by decide)).2]; rfl) ?_
    refine x_aload_n C dX10_remember_9 rfl ?_
    refine x_getR C dX10_remember_10 fF_X10_27 rfl rfl ?_
    obtain ⟨q1, hq1, h⟩ := x_bind h
    refine x_callV0 C dX10_remember_13 (xin_18 _ (List.mem_of_getElem? (i := 0) rfl)) xy_X3_copyFrom (xi_X3_copyFrom) (xs_X3_copyFrom) xT_7 xv_58 (T0 := xT_8) rfl (by omega) (by decide) (b := 0) rfl ⟨_, _, rfl⟩ (av := [.inr (.inr (some 33))]) rfl (Nat.le_of_ble_eq_true rfl) (c_L_cp _ _ _ hq1) rfl ?_
    refine x_aload_n C dX10_remember_16 rfl ?_
    refine x_aload_n C dX10_remember_17 rfl ?_
    refine x_getI C dX10_remember_18 fF_X10_303 rfl rfl ?_
    refine x_iconst C dX10_remember_21 ?_
    refine x_iadd C dX10_remember_22 ?_
    refine x_bipush C dX10_remember_23 (by decide) ?_
    refine x_icmp_ge C 37 dX10_remember_25 (by decide) h (fun h => ?_) (fun h => ?_)
    · refine x_iconst C dX10_remember_37 ?_
      refine x_loc [(0, .inr (.inr (some 0)))] ⟨rfl, trivial⟩ ?_
      exact t_X_remember_38 hd9 C hR _ _ h
    · refine x_aload_n C dX10_remember_28 rfl ?_
      refine x_getI C dX10_remember_29 fF_X10_303 rfl rfl ?_
      refine x_iconst C dX10_remember_32 ?_
      refine x_iadd C dX10_remember_33 ?_
      refine x_goto C 38 dX10_remember_34 (by decide) ?_
      refine x_loc [(0, .inr (.inr (some 0)))] ⟨rfl, trivial⟩ ?_
      exact t_X_remember_38 hd9 C hR _ _ h
  refine x_ite h (fun hc2 h => ?_) (fun hc2 h => ?_)
  · refine x_aaload C dX10_remember_8 (t := 0) (fun _ => rfl) rfl (x_pk (k := 2) hc2 (by decide)).1 (show [110, 143, 176, 209, 242, 275, 308, 341, 374, 407][xix (m 0 8)]? = some 176 by rw [(x_pk (k := 2) (n := 10) hc2 (by decide)).2]; rfl) ?_
    refine x_aload_n C dX10_remember_9 rfl ?_
    refine x_getR C dX10_remember_10 fF_X10_27 rfl rfl ?_
    obtain ⟨q2, hq2, h⟩ := x_bind h
    refine x_callV0 C dX10_remember_13 (xin_18 _ (List.mem_of_getElem? (i := 0) rfl)) xy_X3_copyFrom (xi_X3_copyFrom) (xs_X3_copyFrom) xT_9 xv_59 (T0 := xT_10) rfl (by omega) (by decide) (b := 0) rfl ⟨_, _, rfl⟩ (av := [.inr (.inr (some 33))]) rfl (Nat.le_of_ble_eq_true rfl) (c_L_cp _ _ _ hq2) rfl ?_
    refine x_aload_n C dX10_remember_16 rfl ?_
    refine x_aload_n C dX10_remember_17 rfl ?_
    refine x_getI C dX10_remember_18 fF_X10_303 rfl rfl ?_
    refine x_iconst C dX10_remember_21 ?_
    refine x_iadd C dX10_remember_22 ?_
    refine x_bipush C dX10_remember_23 (by decide) ?_
    refine x_icmp_ge C 37 dX10_remember_25 (by decide) h (fun h => ?_) (fun h => ?_)
    · refine x_iconst C dX10_remember_37 ?_
      refine x_loc [(0, .inr (.inr (some 0)))] ⟨rfl, trivial⟩ ?_
      exact t_X_remember_38 hd9 C hR _ _ h
    · refine x_aload_n C dX10_remember_28 rfl ?_
      refine x_getI C dX10_remember_29 fF_X10_303 rfl rfl ?_
      refine x_iconst C dX10_remember_32 ?_
      refine x_iadd C dX10_remember_33 ?_
      refine x_goto C 38 dX10_remember_34 (by decide) ?_
      refine x_loc [(0, .inr (.inr (some 0)))] ⟨rfl, trivial⟩ ?_
      exact t_X_remember_38 hd9 C hR _ _ h
  refine x_ite h (fun hc3 h => ?_) (fun hc3 h => ?_)
  · refine x_aaload C dX10_remember_8 (t := 0) (fun _ => rfl) rfl (x_pk (k := 3) hc3 (by decide)).1 (show [110, 143, 176, 209, 242, 275, 308, 341, 374, 407][xix (m 0 8)]? = some 209 by rw [(x_pk (k := 3) (n := 10) hc3 (by decide)).2]; rfl) ?_
    refine x_aload_n C dX10_remember_9 rfl ?_
    refine x_getR C dX10_remember_10 fF_X10_27 rfl rfl ?_
    obtain ⟨q3, hq3, h⟩ := x_bind h
    refine x_callV0 C dX10_remember_13 (xin_18 _ (List.mem_of_getElem? (i := 0) rfl)) xy_X3_copyFrom (xi_X3_copyFrom) (xs_X3_copyFrom) xT_11 xv_60 (T0 := xT_12) rfl (by omega) (by decide) (b := 0) rfl ⟨_, _, rfl⟩ (av := [.inr (.inr (some 33))]) rfl (Nat.le_of_ble_eq_true rfl) (c_L_cp _ _ _ hq3) rfl ?_
    refine x_aload_n C dX10_remember_16 rfl ?_
    refine x_aload_n C dX10_remember_17 rfl ?_
    refine x_getI C dX10_remember_18 fF_X10_303 rfl rfl ?_
    refine x_iconst C dX10_remember_21 ?_
    refine x_iadd C dX10_remember_22 ?_
    refine x_bipush C dX10_remember_23 (by decide) ?_
    refine x_icmp_ge C 37 dX10_remember_25 (by decide) h (fun h => ?_) (fun h => ?_)
    · refine x_iconst C dX10_remember_37 ?_
      refine x_loc [(0, .inr (.inr (some 0)))] ⟨rfl, trivial⟩ ?_
      exact t_X_remember_38 hd9 C hR _ _ h
    · refine x_aload_n C dX10_remember_28 rfl ?_
      refine x_getI C dX10_remember_29 fF_X10_303 rfl rfl ?_
      refine x_iconst C dX10_remember_32 ?_
      refine x_iadd C dX10_remember_33 ?_
      refine x_goto C 38 dX10_remember_34 (by decide) ?_
      refine x_loc [(0, .inr (.inr (some 0)))] ⟨rfl, trivial⟩ ?_
      exact t_X_remember_38 hd9 C hR _ _ h
  refine x_ite h (fun hc4 h => ?_) (fun hc4 h => ?_)
  · refine x_aaload C dX10_remember_8 (t := 0) (fun _ => rfl) rfl (x_pk (k := 4) hc4 (by decide)).1 (show [110, 143, 176, 209, 242, 275, 308, 341, 374, 407][xix (m 0 8)]? = some 242 by rw [(x_pk (k := 4) (n := 10) hc4 (by decide)).2]; rfl) ?_
    refine x_aload_n C dX10_remember_9 rfl ?_
    refine x_getR C dX10_remember_10 fF_X10_27 rfl rfl ?_
    obtain ⟨q4, hq4, h⟩ := x_bind h
    refine x_callV0 C dX10_remember_13 (xin_18 _ (List.mem_of_getElem? (i := 0) rfl)) xy_X3_copyFrom (xi_X3_copyFrom) (xs_X3_copyFrom) xT_13 xv_61 (T0 := xT_14) rfl (by omega) (by decide) (b := 0) rfl ⟨_, _, rfl⟩ (av := [.inr (.inr (some 33))]) rfl (Nat.le_of_ble_eq_true rfl) (c_L_cp _ _ _ hq4) rfl ?_
    refine x_aload_n C dX10_remember_16 rfl ?_
    refine x_aload_n C dX10_remember_17 rfl ?_
    refine x_getI C dX10_remember_18 fF_X10_303 rfl rfl ?_
    refine x_iconst C dX10_remember_21 ?_
    refine x_iadd C dX10_remember_22 ?_
    refine x_bipush C dX10_remember_23 (by decide) ?_
    refine x_icmp_ge C 37 dX10_remember_25 (by decide) h (fun h => ?_) (fun h => ?_)
    · refine x_iconst C dX10_remember_37 ?_
      refine x_loc [(0, .inr (.inr (some 0)))] ⟨rfl, trivial⟩ ?_
      exact t_X_remember_38 hd9 C hR _ _ h
    · refine x_aload_n C dX10_remember_28 rfl ?_
      refine x_getI C dX10_remember_29 fF_X10_303 rfl rfl ?_
      refine x_iconst C dX10_remember_32 ?_
      refine x_iadd C dX10_remember_33 ?_
      refine x_goto C 38 dX10_remember_34 (by decide) ?_
      refine x_loc [(0, .inr (.inr (some 0)))] ⟨rfl, trivial⟩ ?_
      exact t_X_remember_38 hd9 C hR _ _ h
  refine x_ite h (fun hc5 h => ?_) (fun hc5 h => ?_)
  · refine x_aaload C dX10_remember_8 (t := 0) (fun _ => rfl) rfl (x_pk (k := 5) hc5 (by decide)).1 (show [110, 143, 176, 209, 242, 275, 308, 341, 374, 407][xix (m 0 8)]? = some 275 by rw [(x_pk (k := 5) (n := 10) hc5 (by decide)).2]; rfl) ?_
    refine x_aload_n C dX10_remember_9 rfl ?_
    refine x_getR C dX10_remember_10 fF_X10_27 rfl rfl ?_
    obtain ⟨q5, hq5, h⟩ := x_bind h
    refine x_callV0 C dX10_remember_13 (xin_18 _ (List.mem_of_getElem? (i := 0) rfl)) xy_X3_copyFrom (xi_X3_copyFrom) (xs_X3_copyFrom) xT_15 xv_62 (T0 := xT_16) rfl (by omega) (by decide) (b := 0) rfl ⟨_, _, rfl⟩ (av := [.inr (.inr (some 33))]) rfl (Nat.le_of_ble_eq_true rfl) (c_L_cp _ _ _ hq5) rfl ?_
    refine x_aload_n C dX10_remember_16 rfl ?_
    refine x_aload_n C dX10_remember_17 rfl ?_
    refine x_getI C dX10_remember_18 fF_X10_303 rfl rfl ?_
    refine x_iconst C dX10_remember_21 ?_
    refine x_iadd C dX10_remember_22 ?_
    refine x_bipush C dX10_remember_23 (by decide) ?_
    refine x_icmp_ge C 37 dX10_remember_25 (by decide) h (fun h => ?_) (fun h => ?_)
    · refine x_iconst C dX10_remember_37 ?_
      refine x_loc [(0, .inr (.inr (some 0)))] ⟨rfl, trivial⟩ ?_
      exact t_X_remember_38 hd9 C hR _ _ h
    · refine x_aload_n C dX10_remember_28 rfl ?_
      refine x_getI C dX10_remember_29 fF_X10_303 rfl rfl ?_
      refine x_iconst C dX10_remember_32 ?_
      refine x_iadd C dX10_remember_33 ?_
      refine x_goto C 38 dX10_remember_34 (by decide) ?_
      refine x_loc [(0, .inr (.inr (some 0)))] ⟨rfl, trivial⟩ ?_
      exact t_X_remember_38 hd9 C hR _ _ h
  refine x_ite h (fun hc6 h => ?_) (fun hc6 h => ?_)
  · refine x_aaload C dX10_remember_8 (t := 0) (fun _ => rfl) rfl (x_pk (k := 6) hc6 (by decide)).1 (show [110, 143, 176, 209, 242, 275, 308, 341, 374, 407][xix (m 0 8)]? = some 308 by rw [(x_pk (k := 6) (n := 10) hc6 (by decide)).2]; rfl) ?_
    refine x_aload_n C dX10_remember_9 rfl ?_
    refine x_getR C dX10_remember_10 fF_X10_27 rfl rfl ?_
    obtain ⟨q6, hq6, h⟩ := x_bind h
    refine x_callV0 C dX10_remember_13 (xin_18 _ (List.mem_of_getElem? (i := 0) rfl)) xy_X3_copyFrom (xi_X3_copyFrom) (xs_X3_copyFrom) xT_17 xv_63 (T0 := xT_18) rfl (by omega) (by decide) (b := 0) rfl ⟨_, _, rfl⟩ (av := [.inr (.inr (some 33))]) rfl (Nat.le_of_ble_eq_true rfl) (c_L_cp _ _ _ hq6) rfl ?_
    refine x_aload_n C dX10_remember_16 rfl ?_
    refine x_aload_n C dX10_remember_17 rfl ?_
    refine x_getI C dX10_remember_18 fF_X10_303 rfl rfl ?_
    refine x_iconst C dX10_remember_21 ?_
    refine x_iadd C dX10_remember_22 ?_
    refine x_bipush C dX10_remember_23 (by decide) ?_
    refine x_icmp_ge C 37 dX10_remember_25 (by decide) h (fun h => ?_) (fun h => ?_)
    · refine x_iconst C dX10_remember_37 ?_
      refine x_loc [(0, .inr (.inr (some 0)))] ⟨rfl, trivial⟩ ?_
      exact t_X_remember_38 hd9 C hR _ _ h
    · refine x_aload_n C dX10_remember_28 rfl ?_
      refine x_getI C dX10_remember_29 fF_X10_303 rfl rfl ?_
      refine x_iconst C dX10_remember_32 ?_
      refine x_iadd C dX10_remember_33 ?_
      refine x_goto C 38 dX10_remember_34 (by decide) ?_
      refine x_loc [(0, .inr (.inr (some 0)))] ⟨rfl, trivial⟩ ?_
      exact t_X_remember_38 hd9 C hR _ _ h
  refine x_ite h (fun hc7 h => ?_) (fun hc7 h => ?_)
  · refine x_aaload C dX10_remember_8 (t := 0) (fun _ => rfl) rfl (x_pk (k := 7) hc7 (by decide)).1 (show [110, 143, 176, 209, 242, 275, 308, 341, 374, 407][xix (m 0 8)]? = some 341 by rw [(x_pk (k := 7) (n := 10) hc7 (by decide)).2]; rfl) ?_
    refine x_aload_n C dX10_remember_9 rfl ?_
    refine x_getR C dX10_remember_10 fF_X10_27 rfl rfl ?_
    obtain ⟨q7, hq7, h⟩ := x_bind h
    refine x_callV0 C dX10_remember_13 (xin_18 _ (List.mem_of_getElem? (i := 0) rfl)) xy_X3_copyFrom (xi_X3_copyFrom) (xs_X3_copyFrom) xT_19 xv_64 (T0 := xT_20) rfl (by omega) (by decide) (b := 0) rfl ⟨_, _, rfl⟩ (av := [.inr (.inr (some 33))]) rfl (Nat.le_of_ble_eq_true rfl) (c_L_cp _ _ _ hq7) rfl ?_
    refine x_aload_n C dX10_remember_16 rfl ?_
    refine x_aload_n C dX10_remember_17 rfl ?_
    refine x_getI C dX10_remember_18 fF_X10_303 rfl rfl ?_
    refine x_iconst C dX10_remember_21 ?_
    refine x_iadd C dX10_remember_22 ?_
    refine x_bipush C dX10_remember_23 (by decide) ?_
    refine x_icmp_ge C 37 dX10_remember_25 (by decide) h (fun h => ?_) (fun h => ?_)
    · refine x_iconst C dX10_remember_37 ?_
      refine x_loc [(0, .inr (.inr (some 0)))] ⟨rfl, trivial⟩ ?_
      exact t_X_remember_38 hd9 C hR _ _ h
    · refine x_aload_n C dX10_remember_28 rfl ?_
      refine x_getI C dX10_remember_29 fF_X10_303 rfl rfl ?_
      refine x_iconst C dX10_remember_32 ?_
      refine x_iadd C dX10_remember_33 ?_
      refine x_goto C 38 dX10_remember_34 (by decide) ?_
      refine x_loc [(0, .inr (.inr (some 0)))] ⟨rfl, trivial⟩ ?_
      exact t_X_remember_38 hd9 C hR _ _ h
  refine x_ite h (fun hc8 h => ?_) (fun hc8 h => ?_)
  · refine x_aaload C dX10_remember_8 (t := 0) (fun _ => rfl) rfl (x_pk (k := 8) hc8 (by decide)).1 (show [110, 143, 176, 209, 242, 275, 308, 341, 374, 407][xix (m 0 8)]? = some 374 by rw [(x_pk (k := 8) (n := 10) hc8 (by decide)).2]; rfl) ?_
    refine x_aload_n C dX10_remember_9 rfl ?_
    refine x_getR C dX10_remember_10 fF_X10_27 rfl rfl ?_
    obtain ⟨q8, hq8, h⟩ := x_bind h
    refine x_callV0 C dX10_remember_13 (xin_18 _ (List.mem_of_getElem? (i := 0) rfl)) xy_X3_copyFrom (xi_X3_copyFrom) (xs_X3_copyFrom) xT_21 xv_65 (T0 := xT_22) rfl (by omega) (by decide) (b := 0) rfl ⟨_, _, rfl⟩ (av := [.inr (.inr (some 33))]) rfl (Nat.le_of_ble_eq_true rfl) (c_L_cp _ _ _ hq8) rfl ?_
    refine x_aload_n C dX10_remember_16 rfl ?_
    refine x_aload_n C dX10_remember_17 rfl ?_
    refine x_getI C dX10_remember_18 fF_X10_303 rfl rfl ?_
    refine x_iconst C dX10_remember_21 ?_
    refine x_iadd C dX10_remember_22 ?_
    refine x_bipush C dX10_remember_23 (by decide) ?_
    refine x_icmp_ge C 37 dX10_remember_25 (by decide) h (fun h => ?_) (fun h => ?_)
    · refine x_iconst C dX10_remember_37 ?_
      refine x_loc [(0, .inr (.inr (some 0)))] ⟨rfl, trivial⟩ ?_
      exact t_X_remember_38 hd9 C hR _ _ h
    · refine x_aload_n C dX10_remember_28 rfl ?_
      refine x_getI C dX10_remember_29 fF_X10_303 rfl rfl ?_
      refine x_iconst C dX10_remember_32 ?_
      refine x_iadd C dX10_remember_33 ?_
      refine x_goto C 38 dX10_remember_34 (by decide) ?_
      refine x_loc [(0, .inr (.inr (some 0)))] ⟨rfl, trivial⟩ ?_
      exact t_X_remember_38 hd9 C hR _ _ h
  refine x_ite h (fun hc9 h => ?_) (fun hc9 h => ?_)
  · refine x_aaload C dX10_remember_8 (t := 0) (fun _ => rfl) rfl (x_pk (k := 9) hc9 (by decide)).1 (show [110, 143, 176, 209, 242, 275, 308, 341, 374, 407][xix (m 0 8)]? = some 407 by rw [(x_pk (k := 9) (n := 10) hc9 (by decide)).2]; rfl) ?_
    refine x_aload_n C dX10_remember_9 rfl ?_
    refine x_getR C dX10_remember_10 fF_X10_27 rfl rfl ?_
    obtain ⟨q9, hq9, h⟩ := x_bind h
    refine x_callV0 C dX10_remember_13 (xin_18 _ (List.mem_of_getElem? (i := 0) rfl)) xy_X3_copyFrom (xi_X3_copyFrom) (xs_X3_copyFrom) xT_23 xv_66 (T0 := xT_24) rfl (by omega) (by decide) (b := 0) rfl ⟨_, _, rfl⟩ (av := [.inr (.inr (some 33))]) rfl (Nat.le_of_ble_eq_true rfl) (c_L_cp _ _ _ hq9) rfl ?_
    refine x_aload_n C dX10_remember_16 rfl ?_
    refine x_aload_n C dX10_remember_17 rfl ?_
    refine x_getI C dX10_remember_18 fF_X10_303 rfl rfl ?_
    refine x_iconst C dX10_remember_21 ?_
    refine x_iadd C dX10_remember_22 ?_
    refine x_bipush C dX10_remember_23 (by decide) ?_
    refine x_icmp_ge C 37 dX10_remember_25 (by decide) h (fun h => ?_) (fun h => ?_)
    · refine x_iconst C dX10_remember_37 ?_
      refine x_loc [(0, .inr (.inr (some 0)))] ⟨rfl, trivial⟩ ?_
      exact t_X_remember_38 hd9 C hR _ _ h
    · refine x_aload_n C dX10_remember_28 rfl ?_
      refine x_getI C dX10_remember_29 fF_X10_303 rfl rfl ?_
      refine x_iconst C dX10_remember_32 ?_
      refine x_iadd C dX10_remember_33 ?_
      refine x_goto C 38 dX10_remember_34 (by decide) ?_
      refine x_loc [(0, .inr (.inr (some 0)))] ⟨rfl, trivial⟩ ?_
      exact t_X_remember_38 hd9 C hR _ _ h
  cases h
theorem c_X_remember (l : Launch) (m m9 : xM) (h : f_X_remember m = some m9) : xMet l yX10_remember cX10_remember 1 none 4 lay_X [.inr (.inr (some 0))] m none m9 :=
  xMet_v (by decide +kernel) (Nat.le_of_ble_eq_true rfl) (fun Γ C hR hl9 => t_X_remember (Nat.le_refl _) C hR m h)
/-! ===== yX10_pass ===== -/
theorem xy_X10_remember : xY yX10_remember cX10_remember 1 none 0 := ⟨(xin_17 _ (List.mem_of_getElem? (i := 21) rfl)), (xin_1 _ (List.mem_of_getElem? (i := 2) rfl)), by decide, by decide, by decide +kernel⟩
theorem xi_X10_remember : Cond.instanceMethod yX10_remember ∈ wsL_law := (xin_17 _ (List.mem_of_getElem? (i := 19) rfl))
theorem xs_X10_remember : Cond.selects yX10_remember.cls yX10_remember yX10_remember ∈ wsL_law := (xin_17 _ (List.mem_of_getElem? (i := 20) rfl))
def xT_25 : List Nat := [11, 12, 13, 14, 15, 16, 17, 18, 19, 20, 21, 22, 23, 24, 25, 26, 27, 28, 29, 30, 31, 32, 33, 34, 35, 36, 37, 38, 39, 40, 41, 42, 43, 1, 2, 3, 4, 5]
theorem xv_67 : xview lay_X lay_L0 xT_25 := xview_of (by decide +kernel)
theorem dX10_pass_0 : decode cX10_pass 0 = .ok (.iload_n 1, 1) := by decide +kernel
theorem dX10_pass_1 : decode cX10_pass 1 = .ok (.iconst 1, 1) := by decide +kernel
theorem dX10_pass_2 : decode cX10_pass 2 = .ok (.if_icmp .lt 10, 3) := by decide +kernel
theorem dX10_pass_5 : decode cX10_pass 5 = .ok (.iload_n 1, 1) := by decide +kernel
theorem dX10_pass_6 : decode cX10_pass 6 = .ok (.sipush 200, 3) := by decide +kernel
theorem dX10_pass_9 : decode cX10_pass 9 = .ok (.if_icmp .le 14, 3) := by decide +kernel
theorem dX10_pass_12 : decode cX10_pass 12 = .ok (.new 126, 3) := by decide +kernel
theorem dX10_pass_15 : decode cX10_pass 15 = .ok (.dup, 1) := by decide +kernel
theorem dX10_pass_16 : decode cX10_pass 16 = .ok (.ldc_w 294, 3) := by decide +kernel
theorem dX10_pass_19 : decode cX10_pass 19 = .ok (.invokespecial 130, 3) := by decide +kernel
theorem dX10_pass_22 : decode cX10_pass 22 = .ok (.athrow, 1) := by decide +kernel
theorem dX10_pass_23 : decode cX10_pass 23 = .ok (.aload_n 0, 1) := by decide +kernel
theorem dX10_pass_24 : decode cX10_pass 24 = .ok (.getfield 27, 3) := by decide +kernel
theorem dX10_pass_27 : decode cX10_pass 27 = .ok (.getfield 139, 3) := by decide +kernel
theorem dX10_pass_30 : decode cX10_pass 30 = .ok (.iload_n 1, 1) := by decide +kernel
theorem dX10_pass_31 : decode cX10_pass 31 = .ok (.iadd, 1) := by decide +kernel
theorem dX10_pass_32 : decode cX10_pass 32 = .ok (.ldc_w 299, 3) := by decide +kernel
theorem dX10_pass_35 : decode cX10_pass 35 = .ok (.if_icmp .le 6, 3) := by decide +kernel
theorem dX10_pass_38 : decode cX10_pass 38 = .ok (.bipush (-2), 2) := by decide +kernel
theorem dX10_pass_40 : decode cX10_pass 40 = .ok (.ireturn, 1) := by decide +kernel
theorem dX10_pass_41 : decode cX10_pass 41 = .ok (.aload_n 0, 1) := by decide +kernel
theorem dX10_pass_42 : decode cX10_pass 42 = .ok (.invokevirtual 300, 3) := by decide +kernel
theorem dX10_pass_45 : decode cX10_pass 45 = .ok (.aload_n 0, 1) := by decide +kernel
theorem dX10_pass_46 : decode cX10_pass 46 = .ok (.getfield 27, 3) := by decide +kernel
theorem dX10_pass_49 : decode cX10_pass 49 = .ok (.getfield 178, 3) := by decide +kernel
theorem dX10_pass_52 : decode cX10_pass 52 = .ok (.bipush 10, 2) := by decide +kernel
theorem dX10_pass_54 : decode cX10_pass 54 = .ok (.iaload, 1) := by decide +kernel
theorem dX10_pass_55 : decode cX10_pass 55 = .ok (.istore_n 2, 1) := by decide +kernel
theorem dX10_pass_56 : decode cX10_pass 56 = .ok (.aload_n 0, 1) := by decide +kernel
theorem dX10_pass_57 : decode cX10_pass 57 = .ok (.getfield 27, 3) := by decide +kernel
theorem dX10_pass_60 : decode cX10_pass 60 = .ok (.iload_n 1, 1) := by decide +kernel
theorem dX10_pass_61 : decode cX10_pass 61 = .ok (.invokevirtual 296, 3) := by decide +kernel
theorem dX10_pass_64 : decode cX10_pass 64 = .ok (.aload_n 0, 1) := by decide +kernel
theorem dX10_pass_65 : decode cX10_pass 65 = .ok (.getfield 27, 3) := by decide +kernel
theorem dX10_pass_68 : decode cX10_pass 68 = .ok (.getfield 178, 3) := by decide +kernel
theorem dX10_pass_71 : decode cX10_pass 71 = .ok (.bipush 10, 2) := by decide +kernel
theorem dX10_pass_73 : decode cX10_pass 73 = .ok (.iaload, 1) := by decide +kernel
theorem dX10_pass_74 : decode cX10_pass 74 = .ok (.iload_n 2, 1) := by decide +kernel
theorem dX10_pass_75 : decode cX10_pass 75 = .ok (.isub, 1) := by decide +kernel
theorem dX10_pass_76 : decode cX10_pass 76 = .ok (.ireturn, 1) := by decide +kernel
def f_X_pass_12 (z : Int) (m : xM) : Option (Int × xM) :=
     none
set_option maxRecDepth 1000000 in
set_option maxHeartbeats 4000000 in
theorem t_X_pass_12 {Γ : xG} {d : Nat} (hd9 : 8 ≤ d) (C : xC Γ lay_X RX10 cX10_pass 3 d) (z : Int) {r : Int} {m9 : xM} (hR : xRi Γ lay_X cX10_pass r m9) (m : xM) (h : f_X_pass_12 z m = some (r, m9)) : xW Γ lay_X 3 12 [] [] m := by
  unfold f_X_pass_12 at h
  cases h
def f_X_pass (z : Int) (m : xM) : Option (Int × xM) :=
     (if xw z < xw 1 then f_X_pass_12 z m
      else (if xw 200 < xw z then f_X_pass_12 z m
      else (if xw 99999 < xw ((m 11 7) + z) then some ((-2), m)
      else (Option.bind (f_X_remember m) fun q0 =>
      (if xib 10 11 then (Option.bind (f_L_run z (xvw xT_25 q0)) fun q1 =>
      (if xib 10 11 then some (((xmg xT_25 38 q0 q1) 41 10) - (q0 41 10), (xmg xT_25 38 q0 q1))
      else none))
      else none)))))
set_option maxRecDepth 1000000 in
set_option maxHeartbeats 4000000 in
theorem t_X_pass {Γ : xG} {d : Nat} (hd9 : 8 ≤ d) (C : xC Γ lay_X RX10 cX10_pass 3 d) (z : Int) {r : Int} {m9 : xM} (hR : xRi Γ lay_X cX10_pass r m9) (m : xM) (h : f_X_pass z m = some (r, m9)) : xW Γ lay_X 3 0 [(0, .inr (.inr (some 0))), (1, .inl z)] [] m := by
  unfold f_X_pass at h
  refine x_iload_n C dX10_pass_0 rfl ?_
  refine x_iconst C dX10_pass_1 ?_
  refine x_icmp_lt C 12 dX10_pass_2 (by decide) h (fun h => ?_) (fun h => ?_)
  · refine x_loc [] trivial ?_
    exact t_X_pass_12 hd9 C _ hR _ h
  · refine x_iload_n C dX10_pass_5 rfl ?_
    refine x_sipush C dX10_pass_6 (by decide) ?_
    refine x_icmp_le C 23 dX10_pass_9 (by decide) h (fun h => ?_) (fun h => ?_)
    · refine x_aload_n C dX10_pass_23 rfl ?_
      refine x_getR C dX10_pass_24 fF_X10_27 rfl rfl ?_
      refine x_getI C dX10_pass_27 fF_X10_139 rfl rfl ?_
      refine x_iload_n C dX10_pass_30 rfl ?_
      refine x_iadd C dX10_pass_31 ?_
      refine x_ldc_w C 99999 dX10_pass_32 (xin_21 _ (List.mem_of_getElem? (i := 0) rfl)) (by decide) ?_
      refine x_icmp_le C 41 dX10_pass_35 (by decide) h (fun h => ?_) (fun h => ?_)
      · refine x_aload_n C dX10_pass_41 rfl ?_
        obtain ⟨q0, hq0, h⟩ := x_bind h
        refine x_callVI C dX10_pass_42 (xin_17 _ (List.mem_of_getElem? (i := 18) rfl)) xy_X10_remember (xi_X10_remember) (xs_X10_remember) (by omega) (by decide) (b := 0) rfl ⟨_, _, rfl⟩ (av := []) rfl (Nat.le_of_ble_eq_true rfl) (c_X_remember _ _ _ hq0) rfl ?_
        refine x_aload_n C dX10_pass_45 rfl ?_
        refine x_getR C dX10_pass_46 fF_X10_27 rfl rfl ?_
        refine x_getR C dX10_pass_49 fF_X10_178 rfl rfl ?_
        refine x_bipush C dX10_pass_52 (by decide) ?_
        refine x_iaload C dX10_pass_54 rfl h (fun h => ?_)
        refine x_istore_n C dX10_pass_55 (by decide) ?_
        refine x_aload_n C dX10_pass_56 rfl ?_
        refine x_getR C dX10_pass_57 fF_X10_27 rfl rfl ?_
        refine x_iload_n C dX10_pass_60 rfl ?_
        obtain ⟨q1, hq1, h⟩ := x_bind h
        refine x_callV C dX10_pass_61 (xin_21 _ (List.mem_of_getElem? (i := 2) rfl)) xy_X3_run (xi_X3_run) (xs_X3_run) xT_25 xv_67 (by omega) (by decide) (b := 0) rfl ⟨_, _, rfl⟩ (av := [.inl z]) rfl (Nat.le_of_ble_eq_true rfl) (c_L_run _ _ _ _ hq1) rfl ?_
        refine x_aload_n C dX10_pass_64 rfl ?_
        refine x_getR C dX10_pass_65 fF_X10_27 rfl rfl ?_
        refine x_getR C dX10_pass_68 fF_X10_178 rfl rfl ?_
        refine x_bipush C dX10_pass_71 (by decide) ?_
        refine x_iaload C dX10_pass_73 rfl h (fun h => ?_)
        refine x_iload_n C dX10_pass_74 rfl ?_
        refine x_isub C dX10_pass_75 ?_
        exact x_ireturn hR dX10_pass_76 h
      · refine x_bipush C dX10_pass_38 (by decide) ?_
        exact x_ireturn hR dX10_pass_40 h
    · refine x_loc [] trivial ?_
      exact t_X_pass_12 hd9 C _ hR _ h
theorem c_X_pass (l : Launch) (z : Int) (m : xM) (r : Int) (m9 : xM) (h : f_X_pass z m = some (r, m9)) : xMet l yX10_pass cX10_pass 3 (some .int) 8 lay_X [.inr (.inr (some 0)), .inl z] m (some (.inl r)) m9 :=
  xMet_i (by decide +kernel) (Nat.le_of_ble_eq_true rfl) (fun Γ C hR hl9 => t_X_pass (Nat.le_refl _) C z hR m h)

/-! ===== yX11_word ===== -/
theorem dX11_word_0 : decode cX11_word 0 = .ok (.aload_n 0, 1) := by decide +kernel
theorem dX11_word_1 : decode cX11_word 1 = .ok (.iconst 0, 1) := by decide +kernel
theorem dX11_word_2 : decode cX11_word 2 = .ok (.putfield 66, 3) := by decide +kernel
theorem dX11_word_5 : decode cX11_word 5 = .ok (.iload_n 1, 1) := by decide +kernel
theorem dX11_word_6 : decode cX11_word 6 = .ok (.invokestatic 215, 3) := by decide +kernel
theorem dX11_word_9 : decode cX11_word 9 = .ok (.ifCond .ne 9, 3) := by decide +kernel
theorem dX11_word_12 : decode cX11_word 12 = .ok (.aload_n 0, 1) := by decide +kernel
theorem dX11_word_13 : decode cX11_word 13 = .ok (.iconst 1, 1) := by decide +kernel
theorem dX11_word_14 : decode cX11_word 14 = .ok (.invokevirtual 212, 3) := by decide +kernel
theorem dX11_word_17 : decode cX11_word 17 = .ok (.ireturn, 1) := by decide +kernel
theorem dX11_word_18 : decode cX11_word 18 = .ok (.iload_n 3, 1) := by decide +kernel
theorem dX11_word_19 : decode cX11_word 19 = .ok (.iconst 0, 1) := by decide +kernel
theorem dX11_word_20 : decode cX11_word 20 = .ok (.aload_n 0, 1) := by decide +kernel
theorem dX11_word_21 : decode cX11_word 21 = .ok (.getfield 9, 3) := by decide +kernel
theorem dX11_word_24 : decode cX11_word 24 = .ok (.iload_n 1, 1) := by decide +kernel
theorem dX11_word_25 : decode cX11_word 25 = .ok (.iload_n 2, 1) := by decide +kernel
theorem dX11_word_26 : decode cX11_word 26 = .ok (.invokestatic 93, 3) := by decide +kernel
theorem dX11_word_29 : decode cX11_word 29 = .ok (.iaload, 1) := by decide +kernel
theorem dX11_word_30 : decode cX11_word 30 = .ok (.iconst 1, 1) := by decide +kernel
theorem dX11_word_31 : decode cX11_word 31 = .ok (.isub, 1) := by decide +kernel
theorem dX11_word_32 : decode cX11_word 32 = .ok (.invokestatic 81, 3) := by decide +kernel
theorem dX11_word_35 : decode cX11_word 35 = .ok (.ifCond .eq 18, 3) := by decide +kernel
theorem dX11_word_38 : decode cX11_word 38 = .ok (.aload_n 0, 1) := by decide +kernel
theorem dX11_word_39 : decode cX11_word 39 = .ok (.getfield 9, 3) := by decide +kernel
theorem dX11_word_42 : decode cX11_word 42 = .ok (.iload_n 1, 1) := by decide +kernel
theorem dX11_word_43 : decode cX11_word 43 = .ok (.iload_n 2, 1) := by decide +kernel
theorem dX11_word_44 : decode cX11_word 44 = .ok (.invokestatic 89, 3) := by decide +kernel
theorem dX11_word_47 : decode cX11_word 47 = .ok (.iload_n 3, 1) := by decide +kernel
theorem dX11_word_48 : decode cX11_word 48 = .ok (.iadd, 1) := by decide +kernel
theorem dX11_word_49 : decode cX11_word 49 = .ok (.iaload, 1) := by decide +kernel
theorem dX11_word_50 : decode cX11_word 50 = .ok (.goto 4, 3) := by decide +kernel
theorem dX11_word_53 : decode cX11_word 53 = .ok (.iconst (-1), 1) := by decide +kernel
theorem dX11_word_54 : decode cX11_word 54 = .ok (.ireturn, 1) := by decide +kernel
def f_m_word (e : Int) (w : Int) (p : Int) (m : xM) : Option (Int × xM) :=
     (Option.bind (f_m_isEnd e (xvw [] (xu m 0 6 0))) fun q0 =>
      (if xw q0 = 0 then (Option.bind (f_m_raise 1 (xu m 0 6 0)) fun q4 =>
      some (q4.1, q4.2))
      else (Option.bind (f_m_countAt e w (xvw [] (xu m 0 6 0))) fun q1 =>
      (if xib q1 3530 then (Option.bind (f_m_inRange p 0 ((m 1 (xix q1)) - 1) (xvw [] (xu m 0 6 0))) fun q2 =>
      (if xw q2 = 0 then some ((-1), (xu m 0 6 0))
      else (Option.bind (f_m_wordsAt e w (xvw [] (xu m 0 6 0))) fun q3 =>
      (if xib (q3 + p) 3530 then some ((m 1 (xix (q3 + p))), (xu m 0 6 0))
      else none))))
      else none))))
set_option maxRecDepth 1000000 in
set_option maxHeartbeats 4000000 in
theorem t_m_word {Γ : xG} {d : Nat} (hd9 : 3 ≤ d) (C : xC Γ lay_M RX11 cX11_word 4 d) (e : Int) (w : Int) (p : Int) {r : Int} {m9 : xM} (hR : xRi Γ lay_M cX11_word r m9) (m : xM) (h : f_m_word e w p m = some (r, m9)) : xW Γ lay_M 4 0 [(0, .inr (.inr (some 0))), (1, .inl e), (2, .inl w), (3, .inl p)] [] m := by
  unfold f_m_word at h
  refine x_aload_n C dX11_word_0 rfl ?_
  refine x_iconst C dX11_word_1 ?_
  refine x_putI C dX11_word_2 fF_X11_66 rfl rfl ?_
  refine x_iload_n C dX11_word_5 rfl ?_
  obtain ⟨q0, hq0, h⟩ := x_bind h
  refine x_callSp C dX11_word_6 (xin_27 _ (List.mem_of_getElem? (i := 11) rfl)) xy_X11_isEnd (xt_X11_isEnd) [] xv_49 (by omega) (by decide) (av := [.inl e]) rfl (Nat.le_of_ble_eq_true rfl) (c_m_isEnd _ _ _ _ hq0) rfl ?_
  refine x_if_ne C 18 dX11_word_9 (by decide) h (fun h => ?_) (fun h => ?_)
  · refine x_iload_n C dX11_word_18 rfl ?_
    refine x_iconst C dX11_word_19 ?_
    refine x_aload_n C dX11_word_20 rfl ?_
    refine x_getR C dX11_word_21 fF_X11_9 rfl rfl ?_
    refine x_iload_n C dX11_word_24 rfl ?_
    refine x_iload_n C dX11_word_25 rfl ?_
    obtain ⟨q1, hq1, h⟩ := x_bind h
    refine x_callSp C dX11_word_26 (xin_31 _ (List.mem_of_getElem? (i := 4) rfl)) xy_X11_countAt (xt_X11_countAt) [] xv_49 (by omega) (by decide) (av := [.inl e, .inl w]) rfl (Nat.le_of_ble_eq_true rfl) (c_m_countAt _ _ _ _ _ hq1) rfl ?_
    refine x_iaload C dX11_word_29 rfl h (fun h => ?_)
    refine x_iconst C dX11_word_30 ?_
    refine x_isub C dX11_word_31 ?_
    obtain ⟨q2, hq2, h⟩ := x_bind h
    refine x_callSp C dX11_word_32 (xin_18 _ (List.mem_of_getElem? (i := 19) rfl)) xy_X11_inRange (xt_X11_inRange) [] xv_49 (by omega) (by decide) (av := [.inl p, .inl 0, .inl ((m 1 (xix q1)) - 1)]) rfl (Nat.le_of_ble_eq_true rfl) (c_m_inRange _ _ _ _ _ _ hq2) rfl ?_
    refine x_if_eq C 53 dX11_word_35 (by decide) h (fun h => ?_) (fun h => ?_)
    · refine x_iconst C dX11_word_53 ?_
      exact x_ireturn hR dX11_word_54 h
    · refine x_aload_n C dX11_word_38 rfl ?_
      refine x_getR C dX11_word_39 fF_X11_9 rfl rfl ?_
      refine x_iload_n C dX11_word_42 rfl ?_
      refine x_iload_n C dX11_word_43 rfl ?_
      obtain ⟨q3, hq3, h⟩ := x_bind h
      refine x_callSp C dX11_word_44 (xin_31 _ (List.mem_of_getElem? (i := 7) rfl)) xy_X11_wordsAt (xt_X11_wordsAt) [] xv_49 (by omega) (by decide) (av := [.inl e, .inl w]) rfl (Nat.le_of_ble_eq_true rfl) (c_m_wordsAt _ _ _ _ _ hq3) rfl ?_
      refine x_iload_n C dX11_word_47 rfl ?_
      refine x_iadd C dX11_word_48 ?_
      refine x_iaload C dX11_word_49 rfl h (fun h => ?_)
      refine x_goto C 54 dX11_word_50 (by decide) ?_
      exact x_ireturn hR dX11_word_54 h
  · refine x_aload_n C dX11_word_12 rfl ?_
    refine x_iconst C dX11_word_13 ?_
    obtain ⟨q4, hq4, h⟩ := x_bind h
    refine x_callVI C dX11_word_14 (xin_18 _ (List.mem_of_getElem? (i := 22) rfl)) xy_X11_raise (xi_X11_raise) (xs_X11_raise) (by omega) (by decide) (b := 0) rfl ⟨_, _, rfl⟩ (av := [.inl 1]) rfl (Nat.le_of_ble_eq_true rfl) (c_m_raise _ _ _ q4.1 q4.2 hq4) rfl ?_
    exact x_ireturn hR dX11_word_17 h
theorem c_m_word (l : Launch) (e : Int) (w : Int) (p : Int) (m : xM) (r : Int) (m9 : xM) (h : f_m_word e w p m = some (r, m9)) : xMet l yX11_word cX11_word 4 (some .int) 3 lay_M [.inr (.inr (some 0)), .inl e, .inl w, .inl p] m (some (.inl r)) m9 :=
  xMet_i (by decide +kernel) (Nat.le_of_ble_eq_true rfl) (fun Γ C hR hl9 => t_m_word (Nat.le_refl _) C e w p hR m h)
/-! ===== yX11_event ===== -/
theorem dX11_event_0 : decode cX11_event 0 = .ok (.aload_n 0, 1) := by decide +kernel
theorem dX11_event_1 : decode cX11_event 1 = .ok (.iconst 0, 1) := by decide +kernel
theorem dX11_event_2 : decode cX11_event 2 = .ok (.putfield 66, 3) := by decide +kernel
theorem dX11_event_5 : decode cX11_event 5 = .ok (.iload_n 1, 1) := by decide +kernel
theorem dX11_event_6 : decode cX11_event 6 = .ok (.iconst 0, 1) := by decide +kernel
theorem dX11_event_7 : decode cX11_event 7 = .ok (.aload_n 0, 1) := by decide +kernel
theorem dX11_event_8 : decode cX11_event 8 = .ok (.getfield 9, 3) := by decide +kernel
theorem dX11_event_11 : decode cX11_event 11 = .ok (.bipush 10, 2) := by decide +kernel
theorem dX11_event_13 : decode cX11_event 13 = .ok (.iaload, 1) := by decide +kernel
theorem dX11_event_14 : decode cX11_event 14 = .ok (.iconst 1, 1) := by decide +kernel
theorem dX11_event_15 : decode cX11_event 15 = .ok (.isub, 1) := by decide +kernel
theorem dX11_event_16 : decode cX11_event 16 = .ok (.invokestatic 81, 3) := by decide +kernel
theorem dX11_event_19 : decode cX11_event 19 = .ok (.ifCond .eq 16, 3) := by decide +kernel
theorem dX11_event_22 : decode cX11_event 22 = .ok (.iload_n 2, 1) := by decide +kernel
theorem dX11_event_23 : decode cX11_event 23 = .ok (.iconst 0, 1) := by decide +kernel
theorem dX11_event_24 : decode cX11_event 24 = .ok (.iconst 3, 1) := by decide +kernel
theorem dX11_event_25 : decode cX11_event 25 = .ok (.invokestatic 81, 3) := by decide +kernel
theorem dX11_event_28 : decode cX11_event 28 = .ok (.ifCond .eq 7, 3) := by decide +kernel
theorem dX11_event_31 : decode cX11_event 31 = .ok (.iconst 1, 1) := by decide +kernel
theorem dX11_event_32 : decode cX11_event 32 = .ok (.goto 4, 3) := by decide +kernel
theorem dX11_event_35 : decode cX11_event 35 = .ok (.iconst 0, 1) := by decide +kernel
theorem dX11_event_36 : decode cX11_event 36 = .ok (.istore_n 3, 1) := by decide +kernel
theorem dX11_event_37 : decode cX11_event 37 = .ok (.iload_n 3, 1) := by decide +kernel
theorem dX11_event_38 : decode cX11_event 38 = .ok (.ifCond .eq 20, 3) := by decide +kernel
theorem dX11_event_41 : decode cX11_event 41 = .ok (.aload_n 0, 1) := by decide +kernel
theorem dX11_event_42 : decode cX11_event 42 = .ok (.getfield 9, 3) := by decide +kernel
theorem dX11_event_45 : decode cX11_event 45 = .ok (.sipush 1490, 3) := by decide +kernel
theorem dX11_event_48 : decode cX11_event 48 = .ok (.iconst 4, 1) := by decide +kernel
theorem dX11_event_49 : decode cX11_event 49 = .ok (.iload_n 1, 1) := by decide +kernel
theorem dX11_event_50 : decode cX11_event 50 = .ok (.imul, 1) := by decide +kernel
theorem dX11_event_51 : decode cX11_event 51 = .ok (.iadd, 1) := by decide +kernel
theorem dX11_event_52 : decode cX11_event 52 = .ok (.iload_n 2, 1) := by decide +kernel
theorem dX11_event_53 : decode cX11_event 53 = .ok (.iadd, 1) := by decide +kernel
theorem dX11_event_54 : decode cX11_event 54 = .ok (.iaload, 1) := by decide +kernel
theorem dX11_event_55 : decode cX11_event 55 = .ok (.goto 8, 3) := by decide +kernel
theorem dX11_event_58 : decode cX11_event 58 = .ok (.aload_n 0, 1) := by decide +kernel
theorem dX11_event_59 : decode cX11_event 59 = .ok (.iconst 1, 1) := by decide +kernel
theorem dX11_event_60 : decode cX11_event 60 = .ok (.invokevirtual 212, 3) := by decide +kernel
theorem dX11_event_63 : decode cX11_event 63 = .ok (.ireturn, 1) := by decide +kernel
def f_m_event_36 (e : Int) (w : Int) (s0 : Int) (m : xM) : Option (Int × xM) :=
     (if xw s0 = 0 then (Option.bind (f_m_raise 1 m) fun q1 =>
      some (q1.1, q1.2))
      else (if xib ((1490 + (4 * e)) + w) 3530 then some ((m 1 (xix ((1490 + (4 * e)) + w))), m)
      else none))
set_option maxRecDepth 1000000 in
set_option maxHeartbeats 4000000 in
theorem t_m_event_36 {Γ : xG} {d : Nat} (hd9 : 2 ≤ d) (C : xC Γ lay_M RX11 cX11_event 4 d) (e : Int) (w : Int) {r : Int} {m9 : xM} (hR : xRi Γ lay_M cX11_event r m9) (s0 : Int) (m : xM) (h : f_m_event_36 e w s0 m = some (r, m9)) : xW Γ lay_M 4 36 [(0, .inr (.inr (some 0))), (1, .inl e), (2, .inl w)] [.inl s0] m := by
  unfold f_m_event_36 at h
  refine x_istore_n C dX11_event_36 (by decide) ?_
  refine x_iload_n C dX11_event_37 rfl ?_
  refine x_if_eq C 58 dX11_event_38 (by decide) h (fun h => ?_) (fun h => ?_)
  · refine x_aload_n C dX11_event_58 rfl ?_
    refine x_iconst C dX11_event_59 ?_
    obtain ⟨q1, hq1, h⟩ := x_bind h
    refine x_callVI C dX11_event_60 (xin_18 _ (List.mem_of_getElem? (i := 22) rfl)) xy_X11_raise (xi_X11_raise) (xs_X11_raise) (by omega) (by decide) (b := 0) rfl ⟨_, _, rfl⟩ (av := [.inl 1]) rfl (Nat.le_of_ble_eq_true rfl) (c_m_raise _ _ _ q1.1 q1.2 hq1) rfl ?_
    exact x_ireturn hR dX11_event_63 h
  · refine x_aload_n C dX11_event_41 rfl ?_
    refine x_getR C dX11_event_42 fF_X11_9 rfl rfl ?_
    refine x_sipush C dX11_event_45 (by decide) ?_
    refine x_iconst C dX11_event_48 ?_
    refine x_iload_n C dX11_event_49 rfl ?_
    refine x_imul C dX11_event_50 ?_
    refine x_iadd C dX11_event_51 ?_
    refine x_iload_n C dX11_event_52 rfl ?_
    refine x_iadd C dX11_event_53 ?_
    refine x_iaload C dX11_event_54 rfl h (fun h => ?_)
    refine x_goto C 63 dX11_event_55 (by decide) ?_
    exact x_ireturn hR dX11_event_63 h
def f_m_event_35 (e : Int) (w : Int) (m : xM) : Option (Int × xM) :=
     f_m_event_36 e w 0 m
set_option maxRecDepth 1000000 in
set_option maxHeartbeats 4000000 in
theorem t_m_event_35 {Γ : xG} {d : Nat} (hd9 : 2 ≤ d) (C : xC Γ lay_M RX11 cX11_event 4 d) (e : Int) (w : Int) {r : Int} {m9 : xM} (hR : xRi Γ lay_M cX11_event r m9) (m : xM) (h : f_m_event_35 e w m = some (r, m9)) : xW Γ lay_M 4 35 [(0, .inr (.inr (some 0))), (1, .inl e), (2, .inl w)] [] m := by
  unfold f_m_event_35 at h
  refine x_iconst C dX11_event_35 ?_
  refine x_loc [(0, .inr (.inr (some 0))), (1, .inl e), (2, .inl w)] ⟨rfl, rfl, rfl, trivial⟩ ?_
  exact t_m_event_36 hd9 C _ _ hR _ _ h
def f_m_event (e : Int) (w : Int) (m : xM) : Option (Int × xM) :=
     (if xib 10 3530 then (Option.bind (f_m_inRange e 0 ((m 1 10) - 1) (xvw [] (xu m 0 6 0))) fun q0 =>
      (if xw q0 = 0 then f_m_event_35 e w (xu m 0 6 0)
      else (Option.bind (f_m_inRange w 0 3 (xvw [] (xu m 0 6 0))) fun q2 =>
      (if xw q2 = 0 then f_m_event_35 e w (xu m 0 6 0)
      else f_m_event_36 e w 1 (xu m 0 6 0)))))
      else none)
set_option maxRecDepth 1000000 in
set_option maxHeartbeats 4000000 in
theorem t_m_event {Γ : xG} {d : Nat} (hd9 : 2 ≤ d) (C : xC Γ lay_M RX11 cX11_event 4 d) (e : Int) (w : Int) {r : Int} {m9 : xM} (hR : xRi Γ lay_M cX11_event r m9) (m : xM) (h : f_m_event e w m = some (r, m9)) : xW Γ lay_M 4 0 [(0, .inr (.inr (some 0))), (1, .inl e), (2, .inl w)] [] m := by
  unfold f_m_event at h
  refine x_aload_n C dX11_event_0 rfl ?_
  refine x_iconst C dX11_event_1 ?_
  refine x_putI C dX11_event_2 fF_X11_66 rfl rfl ?_
  refine x_iload_n C dX11_event_5 rfl ?_
  refine x_iconst C dX11_event_6 ?_
  refine x_aload_n C dX11_event_7 rfl ?_
  refine x_getR C dX11_event_8 fF_X11_9 rfl rfl ?_
  refine x_bipush C dX11_event_11 (by decide) ?_
  refine x_iaload C dX11_event_13 rfl h (fun h => ?_)
  refine x_iconst C dX11_event_14 ?_
  refine x_isub C dX11_event_15 ?_
  obtain ⟨q0, hq0, h⟩ := x_bind h
  refine x_callSp C dX11_event_16 (xin_18 _ (List.mem_of_getElem? (i := 19) rfl)) xy_X11_inRange (xt_X11_inRange) [] xv_49 (by omega) (by decide) (av := [.inl e, .inl 0, .inl ((m 1 10) - 1)]) rfl (Nat.le_of_ble_eq_true rfl) (c_m_inRange _ _ _ _ _ _ hq0) rfl ?_
  refine x_if_eq C 35 dX11_event_19 (by decide) h (fun h => ?_) (fun h => ?_)
  · refine x_loc [(0, .inr (.inr (some 0))), (1, .inl e), (2, .inl w)] ⟨rfl, rfl, rfl, trivial⟩ ?_
    exact t_m_event_35 hd9 C _ _ hR _ h
  · refine x_iload_n C dX11_event_22 rfl ?_
    refine x_iconst C dX11_event_23 ?_
    refine x_iconst C dX11_event_24 ?_
    obtain ⟨q2, hq2, h⟩ := x_bind h
    refine x_callSp C dX11_event_25 (xin_18 _ (List.mem_of_getElem? (i := 19) rfl)) xy_X11_inRange (xt_X11_inRange) [] xv_49 (by omega) (by decide) (av := [.inl w, .inl 0, .inl 3]) rfl (Nat.le_of_ble_eq_true rfl) (c_m_inRange _ _ _ _ _ _ hq2) rfl ?_
    refine x_if_eq C 35 dX11_event_28 (by decide) h (fun h => ?_) (fun h => ?_)
    · refine x_loc [(0, .inr (.inr (some 0))), (1, .inl e), (2, .inl w)] ⟨rfl, rfl, rfl, trivial⟩ ?_
      exact t_m_event_35 hd9 C _ _ hR _ h
    · refine x_iconst C dX11_event_31 ?_
      refine x_goto C 36 dX11_event_32 (by decide) ?_
      refine x_loc [(0, .inr (.inr (some 0))), (1, .inl e), (2, .inl w)] ⟨rfl, rfl, rfl, trivial⟩ ?_
      exact t_m_event_36 hd9 C _ _ hR _ _ h
theorem c_m_event (l : Launch) (e : Int) (w : Int) (m : xM) (r : Int) (m9 : xM) (h : f_m_event e w m = some (r, m9)) : xMet l yX11_event cX11_event 4 (some .int) 2 lay_M [.inr (.inr (some 0)), .inl e, .inl w] m (some (.inl r)) m9 :=
  xMet_i (by decide +kernel) (Nat.le_of_ble_eq_true rfl) (fun Γ C hR hl9 => t_m_event (Nat.le_refl _) C e w hR m h)
/-! ===== yX11_rateFor ===== -/
theorem dX11_rateFor_0 : decode cX11_rateFor 0 = .ok (.aload_n 0, 1) := by decide +kernel
theorem dX11_rateFor_1 : decode cX11_rateFor 1 = .ok (.iconst 0, 1) := by decide +kernel
theorem dX11_rateFor_2 : decode cX11_rateFor 2 = .ok (.putfield 66, 3) := by decide +kernel
theorem dX11_rateFor_5 : decode cX11_rateFor 5 = .ok (.iload_n 1, 1) := by decide +kernel
theorem dX11_rateFor_6 : decode cX11_rateFor 6 = .ok (.iconst 0, 1) := by decide +kernel
theorem dX11_rateFor_7 : decode cX11_rateFor 7 = .ok (.bipush 9, 2) := by decide +kernel
theorem dX11_rateFor_9 : decode cX11_rateFor 9 = .ok (.invokestatic 81, 3) := by decide +kernel
theorem dX11_rateFor_12 : decode cX11_rateFor 12 = .ok (.ifCond .eq 11, 3) := by decide +kernel
theorem dX11_rateFor_15 : decode cX11_rateFor 15 = .ok (.aload_n 0, 1) := by decide +kernel
theorem dX11_rateFor_16 : decode cX11_rateFor 16 = .ok (.iload_n 1, 1) := by decide +kernel
theorem dX11_rateFor_17 : decode cX11_rateFor 17 = .ok (.invokevirtual 140, 3) := by decide +kernel
theorem dX11_rateFor_20 : decode cX11_rateFor 20 = .ok (.goto 8, 3) := by decide +kernel
theorem dX11_rateFor_23 : decode cX11_rateFor 23 = .ok (.aload_n 0, 1) := by decide +kernel
theorem dX11_rateFor_24 : decode cX11_rateFor 24 = .ok (.iconst 1, 1) := by decide +kernel
theorem dX11_rateFor_25 : decode cX11_rateFor 25 = .ok (.invokevirtual 212, 3) := by decide +kernel
theorem dX11_rateFor_28 : decode cX11_rateFor 28 = .ok (.ireturn, 1) := by decide +kernel
def f_m_rateFor (q : Int) (m : xM) : Option (Int × xM) :=
     (Option.bind (f_m_inRange q 0 9 (xvw [] (xu m 0 6 0))) fun q0 =>
      (if xw q0 = 0 then (Option.bind (f_m_raise 1 (xu m 0 6 0)) fun q1 =>
      some (q1.1, q1.2))
      else (Option.bind (f_m_greatestRate q (xu m 0 6 0)) fun q2 =>
      some (q2, (xu m 0 6 0)))))
set_option maxRecDepth 1000000 in
set_option maxHeartbeats 4000000 in
theorem t_m_rateFor {Γ : xG} {d : Nat} (hd9 : 2 ≤ d) (C : xC Γ lay_M RX11 cX11_rateFor 2 d) (q : Int) {r : Int} {m9 : xM} (hR : xRi Γ lay_M cX11_rateFor r m9) (m : xM) (h : f_m_rateFor q m = some (r, m9)) : xW Γ lay_M 2 0 [(0, .inr (.inr (some 0))), (1, .inl q)] [] m := by
  unfold f_m_rateFor at h
  refine x_aload_n C dX11_rateFor_0 rfl ?_
  refine x_iconst C dX11_rateFor_1 ?_
  refine x_putI C dX11_rateFor_2 fF_X11_66 rfl rfl ?_
  refine x_iload_n C dX11_rateFor_5 rfl ?_
  refine x_iconst C dX11_rateFor_6 ?_
  refine x_bipush C dX11_rateFor_7 (by decide) ?_
  obtain ⟨q0, hq0, h⟩ := x_bind h
  refine x_callSp C dX11_rateFor_9 (xin_18 _ (List.mem_of_getElem? (i := 19) rfl)) xy_X11_inRange (xt_X11_inRange) [] xv_49 (by omega) (by decide) (av := [.inl q, .inl 0, .inl 9]) rfl (Nat.le_of_ble_eq_true rfl) (c_m_inRange _ _ _ _ _ _ hq0) rfl ?_
  refine x_if_eq C 23 dX11_rateFor_12 (by decide) h (fun h => ?_) (fun h => ?_)
  · refine x_aload_n C dX11_rateFor_23 rfl ?_
    refine x_iconst C dX11_rateFor_24 ?_
    obtain ⟨q1, hq1, h⟩ := x_bind h
    refine x_callVI C dX11_rateFor_25 (xin_18 _ (List.mem_of_getElem? (i := 22) rfl)) xy_X11_raise (xi_X11_raise) (xs_X11_raise) (by omega) (by decide) (b := 0) rfl ⟨_, _, rfl⟩ (av := [.inl 1]) rfl (Nat.le_of_ble_eq_true rfl) (c_m_raise _ _ _ q1.1 q1.2 hq1) rfl ?_
    exact x_ireturn hR dX11_rateFor_28 h
  · refine x_aload_n C dX11_rateFor_15 rfl ?_
    refine x_iload_n C dX11_rateFor_16 rfl ?_
    obtain ⟨q2, hq2, h⟩ := x_bind h
    refine x_callVI C dX11_rateFor_17 (xin_32 _ (List.mem_of_getElem? (i := 22) rfl)) xy_X11_greatestRate (xi_X11_greatestRate) (xs_X11_greatestRate) (by omega) (by decide) (b := 0) rfl ⟨_, _, rfl⟩ (av := [.inl q]) rfl (Nat.le_of_ble_eq_true rfl) (c_m_greatestRate _ _ _ _ hq2) rfl ?_
    refine x_goto C 28 dX11_rateFor_20 (by decide) ?_
    exact x_ireturn hR dX11_rateFor_28 h
theorem c_m_rateFor (l : Launch) (q : Int) (m : xM) (r : Int) (m9 : xM) (h : f_m_rateFor q m = some (r, m9)) : xMet l yX11_rateFor cX11_rateFor 2 (some .int) 2 lay_M [.inr (.inr (some 0)), .inl q] m (some (.inl r)) m9 :=
  xMet_i (by decide +kernel) (Nat.le_of_ble_eq_true rfl) (fun Γ C hR hl9 => t_m_rateFor (Nat.le_refl _) C q hR m h)
/-! ===== yX11_nextCost ===== -/
theorem dX11_nextCost_0 : decode cX11_nextCost 0 = .ok (.aload_n 0, 1) := by decide +kernel
theorem dX11_nextCost_1 : decode cX11_nextCost 1 = .ok (.iconst 0, 1) := by decide +kernel
theorem dX11_nextCost_2 : decode cX11_nextCost 2 = .ok (.putfield 66, 3) := by decide +kernel
theorem dX11_nextCost_5 : decode cX11_nextCost 5 = .ok (.iload_n 1, 1) := by decide +kernel
theorem dX11_nextCost_6 : decode cX11_nextCost 6 = .ok (.invokestatic 215, 3) := by decide +kernel
theorem dX11_nextCost_9 : decode cX11_nextCost 9 = .ok (.ifCond .ne 9, 3) := by decide +kernel
theorem dX11_nextCost_12 : decode cX11_nextCost 12 = .ok (.aload_n 0, 1) := by decide +kernel
theorem dX11_nextCost_13 : decode cX11_nextCost 13 = .ok (.iconst 1, 1) := by decide +kernel
theorem dX11_nextCost_14 : decode cX11_nextCost 14 = .ok (.invokevirtual 212, 3) := by decide +kernel
theorem dX11_nextCost_17 : decode cX11_nextCost 17 = .ok (.ireturn, 1) := by decide +kernel
theorem dX11_nextCost_18 : decode cX11_nextCost 18 = .ok (.aload_n 0, 1) := by decide +kernel
theorem dX11_nextCost_19 : decode cX11_nextCost 19 = .ok (.iconst 2, 1) := by decide +kernel
theorem dX11_nextCost_20 : decode cX11_nextCost 20 = .ok (.invokevirtual 77, 3) := by decide +kernel
theorem dX11_nextCost_23 : decode cX11_nextCost 23 = .ok (.ifCond .eq 12, 3) := by decide +kernel
theorem dX11_nextCost_26 : decode cX11_nextCost 26 = .ok (.aload_n 0, 1) := by decide +kernel
theorem dX11_nextCost_27 : decode cX11_nextCost 27 = .ok (.iload_n 1, 1) := by decide +kernel
theorem dX11_nextCost_28 : decode cX11_nextCost 28 = .ok (.iconst 0, 1) := by decide +kernel
theorem dX11_nextCost_29 : decode cX11_nextCost 29 = .ok (.invokevirtual 101, 3) := by decide +kernel
theorem dX11_nextCost_32 : decode cX11_nextCost 32 = .ok (.ifCond .ne 5, 3) := by decide +kernel
theorem dX11_nextCost_35 : decode cX11_nextCost 35 = .ok (.iconst 0, 1) := by decide +kernel
theorem dX11_nextCost_36 : decode cX11_nextCost 36 = .ok (.ireturn, 1) := by decide +kernel
theorem dX11_nextCost_37 : decode cX11_nextCost 37 = .ok (.aload_n 0, 1) := by decide +kernel
theorem dX11_nextCost_38 : decode cX11_nextCost 38 = .ok (.iload_n 1, 1) := by decide +kernel
theorem dX11_nextCost_39 : decode cX11_nextCost 39 = .ok (.invokevirtual 165, 3) := by decide +kernel
theorem dX11_nextCost_42 : decode cX11_nextCost 42 = .ok (.aload_n 0, 1) := by decide +kernel
theorem dX11_nextCost_43 : decode cX11_nextCost 43 = .ok (.iload_n 1, 1) := by decide +kernel
theorem dX11_nextCost_44 : decode cX11_nextCost 44 = .ok (.iload_n 1, 1) := by decide +kernel
theorem dX11_nextCost_45 : decode cX11_nextCost 45 = .ok (.bipush 117, 2) := by decide +kernel
theorem dX11_nextCost_47 : decode cX11_nextCost 47 = .ok (.invokestatic 69, 3) := by decide +kernel
theorem dX11_nextCost_50 : decode cX11_nextCost 50 = .ok (.bipush 8, 2) := by decide +kernel
theorem dX11_nextCost_52 : decode cX11_nextCost 52 = .ok (.aload_n 0, 1) := by decide +kernel
theorem dX11_nextCost_53 : decode cX11_nextCost 53 = .ok (.iload_n 1, 1) := by decide +kernel
theorem dX11_nextCost_54 : decode cX11_nextCost 54 = .ok (.iconst 0, 1) := by decide +kernel
theorem dX11_nextCost_55 : decode cX11_nextCost 55 = .ok (.invokevirtual 101, 3) := by decide +kernel
theorem dX11_nextCost_58 : decode cX11_nextCost 58 = .ok (.invokestatic 96, 3) := by decide +kernel
theorem dX11_nextCost_61 : decode cX11_nextCost 61 = .ok (.invokevirtual 168, 3) := by decide +kernel
theorem dX11_nextCost_64 : decode cX11_nextCost 64 = .ok (.istore_n 2, 1) := by decide +kernel
theorem dX11_nextCost_65 : decode cX11_nextCost 65 = .ok (.aload_n 0, 1) := by decide +kernel
theorem dX11_nextCost_66 : decode cX11_nextCost 66 = .ok (.iload_n 1, 1) := by decide +kernel
theorem dX11_nextCost_67 : decode cX11_nextCost 67 = .ok (.invokevirtual 171, 3) := by decide +kernel
theorem dX11_nextCost_70 : decode cX11_nextCost 70 = .ok (.iload_n 2, 1) := by decide +kernel
theorem dX11_nextCost_71 : decode cX11_nextCost 71 = .ok (.ireturn, 1) := by decide +kernel
def f_m_nextCost (e : Int) (m : xM) : Option (Int × xM) :=
     (Option.bind (f_m_isEnd e (xvw [] (xu m 0 6 0))) fun q0 =>
      (if xw q0 = 0 then (Option.bind (f_m_raise 1 (xu m 0 6 0)) fun q8 =>
      some (q8.1, q8.2))
      else (Option.bind (f_m_isPhase 2 (xu m 0 6 0)) fun q1 =>
      (if xw q1 = 0 then some (0, (xu m 0 6 0))
      else (Option.bind (f_m_of e 0 (xu m 0 6 0)) fun q2 =>
      (if xw q2 = 0 then some (0, (xu m 0 6 0))
      else (Option.bind (f_m_keepWords e (xu m 0 6 0)) fun q3 =>
      (Option.bind (f_m_endAt e 117 (xvw [] q3)) fun q4 =>
      (Option.bind (f_m_of e 0 q3) fun q5 =>
      (Option.bind (f_m_write e q4 (if xw q5 < xw 8 then q5 else 8) q3) fun q6 =>
      (Option.bind (f_m_takeWordsBack e q6.2) fun q7 =>
      some (q6.1, q7))))))))))))
set_option maxRecDepth 1000000 in
set_option maxHeartbeats 4000000 in
theorem t_m_nextCost {Γ : xG} {d : Nat} (hd9 : 5 ≤ d) (C : xC Γ lay_M RX11 cX11_nextCost 3 d) (e : Int) {r : Int} {m9 : xM} (hR : xRi Γ lay_M cX11_nextCost r m9) (m : xM) (h : f_m_nextCost e m = some (r, m9)) : xW Γ lay_M 3 0 [(0, .inr (.inr (some 0))), (1, .inl e)] [] m := by
  unfold f_m_nextCost at h
  refine x_aload_n C dX11_nextCost_0 rfl ?_
  refine x_iconst C dX11_nextCost_1 ?_
  refine x_putI C dX11_nextCost_2 fF_X11_66 rfl rfl ?_
  refine x_iload_n C dX11_nextCost_5 rfl ?_
  obtain ⟨q0, hq0, h⟩ := x_bind h
  refine x_callSp C dX11_nextCost_6 (xin_27 _ (List.mem_of_getElem? (i := 11) rfl)) xy_X11_isEnd (xt_X11_isEnd) [] xv_49 (by omega) (by decide) (av := [.inl e]) rfl (Nat.le_of_ble_eq_true rfl) (c_m_isEnd _ _ _ _ hq0) rfl ?_
  refine x_if_ne C 18 dX11_nextCost_9 (by decide) h (fun h => ?_) (fun h => ?_)
  · refine x_aload_n C dX11_nextCost_18 rfl ?_
    refine x_iconst C dX11_nextCost_19 ?_
    obtain ⟨q1, hq1, h⟩ := x_bind h
    refine x_callVI C dX11_nextCost_20 (xin_25 _ (List.mem_of_getElem? (i := 12) rfl)) xy_X11_isPhase (xi_X11_isPhase) (xs_X11_isPhase) (by omega) (by decide) (b := 0) rfl ⟨_, _, rfl⟩ (av := [.inl 2]) rfl (Nat.le_of_ble_eq_true rfl) (c_m_isPhase _ _ _ _ hq1) rfl ?_
    refine x_if_eq C 35 dX11_nextCost_23 (by decide) h (fun h => ?_) (fun h => ?_)
    · refine x_iconst C dX11_nextCost_35 ?_
      exact x_ireturn hR dX11_nextCost_36 h
    · refine x_aload_n C dX11_nextCost_26 rfl ?_
      refine x_iload_n C dX11_nextCost_27 rfl ?_
      refine x_iconst C dX11_nextCost_28 ?_
      obtain ⟨q2, hq2, h⟩ := x_bind h
      refine x_callVI C dX11_nextCost_29 (xin_27 _ (List.mem_of_getElem? (i := 14) rfl)) xy_X11_of (xi_X11_of) (xs_X11_of) (by omega) (by decide) (b := 0) rfl ⟨_, _, rfl⟩ (av := [.inl e, .inl 0]) rfl (Nat.le_of_ble_eq_true rfl) (c_m_of _ _ _ _ _ hq2) rfl ?_
      refine x_if_ne C 37 dX11_nextCost_32 (by decide) h (fun h => ?_) (fun h => ?_)
      · refine x_aload_n C dX11_nextCost_37 rfl ?_
        refine x_iload_n C dX11_nextCost_38 rfl ?_
        obtain ⟨q3, hq3, h⟩ := x_bind h
        refine x_callVI C dX11_nextCost_39 (xin_34 _ (List.mem_of_getElem? (i := 12) rfl)) xy_X11_keepWords (xi_X11_keepWords) (xs_X11_keepWords) (by omega) (by decide) (b := 0) rfl ⟨_, _, rfl⟩ (av := [.inl e]) rfl (Nat.le_of_ble_eq_true rfl) (c_m_keepWords _ _ _ _ hq3) rfl ?_
        refine x_aload_n C dX11_nextCost_42 rfl ?_
        refine x_iload_n C dX11_nextCost_43 rfl ?_
        refine x_iload_n C dX11_nextCost_44 rfl ?_
        refine x_bipush C dX11_nextCost_45 (by decide) ?_
        obtain ⟨q4, hq4, h⟩ := x_bind h
        refine x_callSp C dX11_nextCost_47 (xin_27 _ (List.mem_of_getElem? (i := 18) rfl)) xy_X11_endAt (xt_X11_endAt) [] xv_49 (by omega) (by decide) (av := [.inl e, .inl 117]) rfl (Nat.le_of_ble_eq_true rfl) (c_m_endAt _ _ _ _ _ hq4) rfl ?_
        refine x_bipush C dX11_nextCost_50 (by decide) ?_
        refine x_aload_n C dX11_nextCost_52 rfl ?_
        refine x_iload_n C dX11_nextCost_53 rfl ?_
        refine x_iconst C dX11_nextCost_54 ?_
        obtain ⟨q5, hq5, h⟩ := x_bind h
        refine x_callVI C dX11_nextCost_55 (xin_27 _ (List.mem_of_getElem? (i := 14) rfl)) xy_X11_of (xi_X11_of) (xs_X11_of) (by omega) (by decide) (b := 0) rfl ⟨_, _, rfl⟩ (av := [.inl e, .inl 0]) rfl (Nat.le_of_ble_eq_true rfl) (c_m_of _ _ _ _ _ hq5) rfl ?_
        refine x_min C dX11_nextCost_58 (xin_30 _ (List.mem_of_getElem? (i := 15) rfl)) gm_min_s gm_math gm_min_c (by omega) (Nat.le_of_ble_eq_true rfl) ?_
        obtain ⟨q6, hq6, h⟩ := x_bind h
        refine x_callVI C dX11_nextCost_61 (xin_34 _ (List.mem_of_getElem? (i := 17) rfl)) xy_X11_write (xi_X11_write) (xs_X11_write) (by omega) (by decide) (b := 0) rfl ⟨_, _, rfl⟩ (av := [.inl e, .inl q4, .inl (if xw q5 < xw 8 then q5 else 8)]) rfl (Nat.le_of_ble_eq_true rfl) (c_m_write _ _ _ _ _ q6.1 q6.2 hq6) rfl ?_
        refine x_istore_n C dX11_nextCost_64 (by decide) ?_
        refine x_aload_n C dX11_nextCost_65 rfl ?_
        refine x_iload_n C dX11_nextCost_66 rfl ?_
        obtain ⟨q7, hq7, h⟩ := x_bind h
        refine x_callVI C dX11_nextCost_67 (xin_35 _ (List.mem_of_getElem? (i := 1) rfl)) xy_X11_takeWordsBack (xi_X11_takeWordsBack) (xs_X11_takeWordsBack) (by omega) (by decide) (b := 0) rfl ⟨_, _, rfl⟩ (av := [.inl e]) rfl (Nat.le_of_ble_eq_true rfl) (c_m_takeWordsBack _ _ _ _ hq7) rfl ?_
        refine x_iload_n C dX11_nextCost_70 rfl ?_
        exact x_ireturn hR dX11_nextCost_71 h
      · refine x_iconst C dX11_nextCost_35 ?_
        exact x_ireturn hR dX11_nextCost_36 h
  · refine x_aload_n C dX11_nextCost_12 rfl ?_
    refine x_iconst C dX11_nextCost_13 ?_
    obtain ⟨q8, hq8, h⟩ := x_bind h
    refine x_callVI C dX11_nextCost_14 (xin_18 _ (List.mem_of_getElem? (i := 22) rfl)) xy_X11_raise (xi_X11_raise) (xs_X11_raise) (by omega) (by decide) (b := 0) rfl ⟨_, _, rfl⟩ (av := [.inl 1]) rfl (Nat.le_of_ble_eq_true rfl) (c_m_raise _ _ _ q8.1 q8.2 hq8) rfl ?_
    exact x_ireturn hR dX11_nextCost_17 h
theorem c_m_nextCost (l : Launch) (e : Int) (m : xM) (r : Int) (m9 : xM) (h : f_m_nextCost e m = some (r, m9)) : xMet l yX11_nextCost cX11_nextCost 3 (some .int) 5 lay_M [.inr (.inr (some 0)), .inl e] m (some (.inl r)) m9 :=
  xMet_i (by decide +kernel) (Nat.le_of_ble_eq_true rfl) (fun Γ C hR hl9 => t_m_nextCost (Nat.le_refl _) C e hR m h)
/-! ===== yX11_isDone ===== -/
theorem dX11_isDone_0 : decode cX11_isDone 0 = .ok (.aload_n 0, 1) := by decide +kernel
theorem dX11_isDone_1 : decode cX11_isDone 1 = .ok (.iconst 2, 1) := by decide +kernel
theorem dX11_isDone_2 : decode cX11_isDone 2 = .ok (.invokevirtual 77, 3) := by decide +kernel
theorem dX11_isDone_5 : decode cX11_isDone 5 = .ok (.istore_n 1, 1) := by decide +kernel
theorem dX11_isDone_6 : decode cX11_isDone 6 = .ok (.iconst 0, 1) := by decide +kernel
theorem dX11_isDone_7 : decode cX11_isDone 7 = .ok (.istore_n 2, 1) := by decide +kernel
theorem dX11_isDone_8 : decode cX11_isDone 8 = .ok (.iload_n 2, 1) := by decide +kernel
theorem dX11_isDone_9 : decode cX11_isDone 9 = .ok (.iconst 2, 1) := by decide +kernel
theorem dX11_isDone_10 : decode cX11_isDone 10 = .ok (.if_icmp .ge 35, 3) := by decide +kernel
theorem dX11_isDone_13 : decode cX11_isDone 13 = .ok (.iload_n 1, 1) := by decide +kernel
theorem dX11_isDone_14 : decode cX11_isDone 14 = .ok (.aload_n 0, 1) := by decide +kernel
theorem dX11_isDone_15 : decode cX11_isDone 15 = .ok (.iload_n 2, 1) := by decide +kernel
theorem dX11_isDone_16 : decode cX11_isDone 16 = .ok (.iconst 0, 1) := by decide +kernel
theorem dX11_isDone_17 : decode cX11_isDone 17 = .ok (.invokevirtual 101, 3) := by decide +kernel
theorem dX11_isDone_20 : decode cX11_isDone 20 = .ok (.ifCond .ne 16, 3) := by decide +kernel
theorem dX11_isDone_23 : decode cX11_isDone 23 = .ok (.aload_n 0, 1) := by decide +kernel
theorem dX11_isDone_24 : decode cX11_isDone 24 = .ok (.iload_n 2, 1) := by decide +kernel
theorem dX11_isDone_25 : decode cX11_isDone 25 = .ok (.iconst 1, 1) := by decide +kernel
theorem dX11_isDone_26 : decode cX11_isDone 26 = .ok (.invokevirtual 101, 3) := by decide +kernel
theorem dX11_isDone_29 : decode cX11_isDone 29 = .ok (.ifCond .ne 7, 3) := by decide +kernel
theorem dX11_isDone_32 : decode cX11_isDone 32 = .ok (.iconst 1, 1) := by decide +kernel
theorem dX11_isDone_33 : decode cX11_isDone 33 = .ok (.goto 4, 3) := by decide +kernel
theorem dX11_isDone_36 : decode cX11_isDone 36 = .ok (.iconst 0, 1) := by decide +kernel
theorem dX11_isDone_37 : decode cX11_isDone 37 = .ok (.iand, 1) := by decide +kernel
theorem dX11_isDone_38 : decode cX11_isDone 38 = .ok (.istore_n 1, 1) := by decide +kernel
theorem dX11_isDone_39 : decode cX11_isDone 39 = .ok (.iinc 2 1, 3) := by decide +kernel
theorem dX11_isDone_42 : decode cX11_isDone 42 = .ok (.goto (-34), 3) := by decide +kernel
theorem dX11_isDone_45 : decode cX11_isDone 45 = .ok (.iload_n 1, 1) := by decide +kernel
theorem dX11_isDone_46 : decode cX11_isDone 46 = .ok (.ireturn, 1) := by decide +kernel
def f_m_isDone_37 (m : xM) (k8 : Int → Int → Option (Int)) (x2 : Int) (s0 : Int) (s1 : Int) : Option (Int) :=
     k8 (xiand s1 s0) (x2 + 1)
set_option maxRecDepth 1000000 in
set_option maxHeartbeats 4000000 in
theorem t_m_isDone_37 {Γ : xG} {d : Nat} (hd9 : 3 ≤ d) (C : xC Γ lay_M RX11 cX11_isDone 3 d) {r : Int} {m : xM} (hR : xRz Γ lay_M cX11_isDone r m) {k8 : Int → Int → Option (Int)} (hk8 : ∀ (x1 : Int) (x2 : Int), k8 x1 x2 = some r → xW Γ lay_M 3 8 [(0, .inr (.inr (some 0))), (1, .inl x1), (2, .inl x2)] [] m) (x2 : Int) (s0 : Int) (s1 : Int) (h : f_m_isDone_37 m k8 x2 s0 s1 = some r) : xW Γ lay_M 3 37 [(0, .inr (.inr (some 0))), (2, .inl x2)] [.inl s0, .inl s1] m := by
  unfold f_m_isDone_37 at h
  refine x_iand C dX11_isDone_37 ?_
  refine x_istore_n C dX11_isDone_38 (by decide) ?_
  refine x_iinc C dX11_isDone_39 (by decide) rfl ?_
  refine x_goto C 8 dX11_isDone_42 (by decide) ?_
  refine x_loc [(0, .inr (.inr (some 0))), (1, .inl (xiand s1 s0)), (2, .inl (x2 + 1))] ⟨rfl, rfl, rfl, trivial⟩ ?_
  exact hk8 _ _ h
def f_m_isDone_36 (m : xM) (k8 : Int → Int → Option (Int)) (x2 : Int) (s0 : Int) : Option (Int) :=
     f_m_isDone_37 m k8 x2 0 s0
set_option maxRecDepth 1000000 in
set_option maxHeartbeats 4000000 in
theorem t_m_isDone_36 {Γ : xG} {d : Nat} (hd9 : 3 ≤ d) (C : xC Γ lay_M RX11 cX11_isDone 3 d) {r : Int} {m : xM} (hR : xRz Γ lay_M cX11_isDone r m) {k8 : Int → Int → Option (Int)} (hk8 : ∀ (x1 : Int) (x2 : Int), k8 x1 x2 = some r → xW Γ lay_M 3 8 [(0, .inr (.inr (some 0))), (1, .inl x1), (2, .inl x2)] [] m) (x2 : Int) (s0 : Int) (h : f_m_isDone_36 m k8 x2 s0 = some r) : xW Γ lay_M 3 36 [(0, .inr (.inr (some 0))), (2, .inl x2)] [.inl s0] m := by
  unfold f_m_isDone_36 at h
  refine x_iconst C dX11_isDone_36 ?_
  refine x_loc [(0, .inr (.inr (some 0))), (2, .inl x2)] ⟨rfl, rfl, trivial⟩ ?_
  exact t_m_isDone_37 hd9 C hR hk8 _ _ _ h
def f_m_isDone_8 (m : xM) : Nat → Int → Int → Option (Int)
  | 0, _, _ => none
  | n + 1, x1, x2 =>
     (if xw x2 < xw 2 then (Option.bind (f_m_of x2 0 m) fun q1 =>
      (if xw q1 = 0 then (Option.bind (f_m_of x2 1 m) fun q2 =>
      (if xw q2 = 0 then f_m_isDone_37 m (f_m_isDone_8 m n) x2 1 x1
      else f_m_isDone_36 m (f_m_isDone_8 m n) x2 x1))
      else f_m_isDone_36 m (f_m_isDone_8 m n) x2 x1))
      else (if xbz x1 then some x1
      else none))
set_option maxRecDepth 1000000 in
set_option maxHeartbeats 4000000 in
theorem t_m_isDone_8 {Γ : xG} {d : Nat} (hd9 : 3 ≤ d) (C : xC Γ lay_M RX11 cX11_isDone 3 d) {r : Int} {m : xM} (hR : xRz Γ lay_M cX11_isDone r m) : ∀ (n : Nat) (x1 : Int) (x2 : Int), f_m_isDone_8 m n x1 x2 = some r → xW Γ lay_M 3 8 [(0, .inr (.inr (some 0))), (1, .inl x1), (2, .inl x2)] [] m := by
  intro n
  induction n with
  | zero => intro _ _ h; cases h
  | succ n ih =>
    intro x1 x2 h
    rw [f_m_isDone_8] at h
    refine x_iload_n C dX11_isDone_8 rfl ?_
    refine x_iconst C dX11_isDone_9 ?_
    refine x_icmp_ge C 45 dX11_isDone_10 (by decide) h (fun h => ?_) (fun h => ?_)
    · refine x_iload_n C dX11_isDone_45 rfl ?_
      obtain ⟨hz9, h⟩ := x_some1 h
      exact x_zreturnP hR hz9 dX11_isDone_46 h
    · refine x_iload_n C dX11_isDone_13 rfl ?_
      refine x_aload_n C dX11_isDone_14 rfl ?_
      refine x_iload_n C dX11_isDone_15 rfl ?_
      refine x_iconst C dX11_isDone_16 ?_
      obtain ⟨q1, hq1, h⟩ := x_bind h
      refine x_callVI C dX11_isDone_17 (xin_27 _ (List.mem_of_getElem? (i := 14) rfl)) xy_X11_of (xi_X11_of) (xs_X11_of) (by omega) (by decide) (b := 0) rfl ⟨_, _, rfl⟩ (av := [.inl x2, .inl 0]) rfl (Nat.le_of_ble_eq_true rfl) (c_m_of _ _ _ _ _ hq1) rfl ?_
      refine x_if_ne C 36 dX11_isDone_20 (by decide) h (fun h => ?_) (fun h => ?_)
      · refine x_loc [(0, .inr (.inr (some 0))), (2, .inl x2)] ⟨rfl, rfl, trivial⟩ ?_
        exact t_m_isDone_36 hd9 C hR ih _ _ h
      · refine x_aload_n C dX11_isDone_23 rfl ?_
        refine x_iload_n C dX11_isDone_24 rfl ?_
        refine x_iconst C dX11_isDone_25 ?_
        obtain ⟨q2, hq2, h⟩ := x_bind h
        refine x_callVI C dX11_isDone_26 (xin_27 _ (List.mem_of_getElem? (i := 14) rfl)) xy_X11_of (xi_X11_of) (xs_X11_of) (by omega) (by decide) (b := 0) rfl ⟨_, _, rfl⟩ (av := [.inl x2, .inl 1]) rfl (Nat.le_of_ble_eq_true rfl) (c_m_of _ _ _ _ _ hq2) rfl ?_
        refine x_if_ne C 36 dX11_isDone_29 (by decide) h (fun h => ?_) (fun h => ?_)
        · refine x_loc [(0, .inr (.inr (some 0))), (2, .inl x2)] ⟨rfl, rfl, trivial⟩ ?_
          exact t_m_isDone_36 hd9 C hR ih _ _ h
        · refine x_iconst C dX11_isDone_32 ?_
          refine x_goto C 37 dX11_isDone_33 (by decide) ?_
          refine x_loc [(0, .inr (.inr (some 0))), (2, .inl x2)] ⟨rfl, rfl, trivial⟩ ?_
          exact t_m_isDone_37 hd9 C hR ih _ _ _ h
def f_m_isDone (m : xM) : Option (Int) :=
     (Option.bind (f_m_isPhase 2 m) fun q0 =>
      f_m_isDone_8 m fu q0 0)
set_option maxRecDepth 1000000 in
set_option maxHeartbeats 4000000 in
theorem t_m_isDone {Γ : xG} {d : Nat} (hd9 : 3 ≤ d) (C : xC Γ lay_M RX11 cX11_isDone 3 d) {r : Int} {m : xM} (hR : xRz Γ lay_M cX11_isDone r m) (h : f_m_isDone m = some r) : xW Γ lay_M 3 0 [(0, .inr (.inr (some 0)))] [] m := by
  unfold f_m_isDone at h
  refine x_aload_n C dX11_isDone_0 rfl ?_
  refine x_iconst C dX11_isDone_1 ?_
  obtain ⟨q0, hq0, h⟩ := x_bind h
  refine x_callVI C dX11_isDone_2 (xin_25 _ (List.mem_of_getElem? (i := 12) rfl)) xy_X11_isPhase (xi_X11_isPhase) (xs_X11_isPhase) (by omega) (by decide) (b := 0) rfl ⟨_, _, rfl⟩ (av := [.inl 2]) rfl (Nat.le_of_ble_eq_true rfl) (c_m_isPhase _ _ _ _ hq0) rfl ?_
  refine x_istore_n C dX11_isDone_5 (by decide) ?_
  refine x_iconst C dX11_isDone_6 ?_
  refine x_istore_n C dX11_isDone_7 (by decide) ?_
  refine x_loc [(0, .inr (.inr (some 0))), (1, .inl q0), (2, .inl 0)] ⟨rfl, rfl, rfl, trivial⟩ ?_
  exact t_m_isDone_8 hd9 C hR fu _ _ h
theorem c_m_isDone (l : Launch) (m : xM) (r : Int) (h : f_m_isDone m = some r) : xMet l yX11_isDone cX11_isDone 3 (some .boolean) 3 lay_M [.inr (.inr (some 0))] m (some (.inl r)) m :=
  xMet_z (by decide +kernel) (Nat.le_of_ble_eq_true rfl) (fun Γ C hR hl9 => t_m_isDone (Nat.le_refl _) C hR h)
/-! ===== yX11_finishOf ===== -/
theorem xy_X11_isDone : xY yX11_isDone cX11_isDone 3 (some .boolean) 0 := ⟨(xin_44 _ (List.mem_of_getElem? (i := 19) rfl)), (xin_1 _ (List.mem_of_getElem? (i := 5) rfl)), by decide, by decide, by decide +kernel⟩
theorem xi_X11_isDone : Cond.instanceMethod yX11_isDone ∈ wsL_law := (xin_44 _ (List.mem_of_getElem? (i := 17) rfl))
theorem xs_X11_isDone : Cond.selects yX11_isDone.cls yX11_isDone yX11_isDone ∈ wsL_law := (xin_44 _ (List.mem_of_getElem? (i := 18) rfl))
theorem xy_X11_passTick : xY yX11_passTick cX11_passTick 1 none 0 := ⟨(xin_44 _ (List.mem_of_getElem? (i := 23) rfl)), (xin_1 _ (List.mem_of_getElem? (i := 5) rfl)), by decide, by decide, by decide +kernel⟩
theorem xi_X11_passTick : Cond.instanceMethod yX11_passTick ∈ wsL_law := (xin_44 _ (List.mem_of_getElem? (i := 21) rfl))
theorem xs_X11_passTick : Cond.selects yX11_passTick.cls yX11_passTick yX11_passTick ∈ wsL_law := (xin_44 _ (List.mem_of_getElem? (i := 22) rfl))
theorem dX11_finishOf_0 : decode cX11_finishOf 0 = .ok (.iconst 0, 1) := by decide +kernel
theorem dX11_finishOf_1 : decode cX11_finishOf 1 = .ok (.istore_n 1, 1) := by decide +kernel
theorem dX11_finishOf_2 : decode cX11_finishOf 2 = .ok (.iload_n 1, 1) := by decide +kernel
theorem dX11_finishOf_3 : decode cX11_finishOf 3 = .ok (.sipush 400, 3) := by decide +kernel
theorem dX11_finishOf_6 : decode cX11_finishOf 6 = .ok (.if_icmp .gt 30, 3) := by decide +kernel
theorem dX11_finishOf_9 : decode cX11_finishOf 9 = .ok (.aload_n 0, 1) := by decide +kernel
theorem dX11_finishOf_10 : decode cX11_finishOf 10 = .ok (.iconst 0, 1) := by decide +kernel
theorem dX11_finishOf_11 : decode cX11_finishOf 11 = .ok (.invokevirtual 77, 3) := by decide +kernel
theorem dX11_finishOf_14 : decode cX11_finishOf 14 = .ok (.ifCond .ne 22, 3) := by decide +kernel
theorem dX11_finishOf_17 : decode cX11_finishOf 17 = .ok (.aload_n 0, 1) := by decide +kernel
theorem dX11_finishOf_18 : decode cX11_finishOf 18 = .ok (.invokevirtual 221, 3) := by decide +kernel
theorem dX11_finishOf_21 : decode cX11_finishOf 21 = .ok (.ifCond .eq 5, 3) := by decide +kernel
theorem dX11_finishOf_24 : decode cX11_finishOf 24 = .ok (.iload_n 1, 1) := by decide +kernel
theorem dX11_finishOf_25 : decode cX11_finishOf 25 = .ok (.ireturn, 1) := by decide +kernel
theorem dX11_finishOf_26 : decode cX11_finishOf 26 = .ok (.aload_n 0, 1) := by decide +kernel
theorem dX11_finishOf_27 : decode cX11_finishOf 27 = .ok (.invokevirtual 225, 3) := by decide +kernel
theorem dX11_finishOf_30 : decode cX11_finishOf 30 = .ok (.iinc 1 1, 3) := by decide +kernel
theorem dX11_finishOf_33 : decode cX11_finishOf 33 = .ok (.goto (-31), 3) := by decide +kernel
theorem dX11_finishOf_36 : decode cX11_finishOf 36 = .ok (.iconst (-1), 1) := by decide +kernel
theorem dX11_finishOf_37 : decode cX11_finishOf 37 = .ok (.ireturn, 1) := by decide +kernel
def f_m_finishOf_2 : Nat → Int → xM → Option (Int × xM)
  | 0, _, _ => none
  | n + 1, x1, m =>
     (if xw 400 < xw x1 then some ((-1), m)
      else (Option.bind (f_m_isPhase 0 m) fun q0 =>
      (if xw q0 = 0 then (Option.bind (f_m_isDone m) fun q1 =>
      (if xw q1 = 0 then (Option.bind (f_m_passTick m) fun q2 =>
      f_m_finishOf_2 n (x1 + 1) q2)
      else some (x1, m)))
      else some ((-1), m))))
set_option maxRecDepth 1000000 in
set_option maxHeartbeats 4000000 in
theorem t_m_finishOf_2 {Γ : xG} {d : Nat} (hd9 : 10 ≤ d) (C : xC Γ lay_M RX11 cX11_finishOf 2 d) {r : Int} {m9 : xM} (hR : xRi Γ lay_M cX11_finishOf r m9) : ∀ (n : Nat) (x1 : Int) (m : xM), f_m_finishOf_2 n x1 m = some (r, m9) → xW Γ lay_M 2 2 [(0, .inr (.inr (some 0))), (1, .inl x1)] [] m := by
  intro n
  induction n with
  | zero => intro _ _ h; cases h
  | succ n ih =>
    intro x1 m h
    rw [f_m_finishOf_2] at h
    refine x_iload_n C dX11_finishOf_2 rfl ?_
    refine x_sipush C dX11_finishOf_3 (by decide) ?_
    refine x_icmp_gt C 36 dX11_finishOf_6 (by decide) h (fun h => ?_) (fun h => ?_)
    · refine x_iconst C dX11_finishOf_36 ?_
      exact x_ireturn hR dX11_finishOf_37 h
    · refine x_aload_n C dX11_finishOf_9 rfl ?_
      refine x_iconst C dX11_finishOf_10 ?_
      obtain ⟨q0, hq0, h⟩ := x_bind h
      refine x_callVI C dX11_finishOf_11 (xin_25 _ (List.mem_of_getElem? (i := 12) rfl)) xy_X11_isPhase (xi_X11_isPhase) (xs_X11_isPhase) (by omega) (by decide) (b := 0) rfl ⟨_, _, rfl⟩ (av := [.inl 0]) rfl (Nat.le_of_ble_eq_true rfl) (c_m_isPhase _ _ _ _ hq0) rfl ?_
      refine x_if_ne C 36 dX11_finishOf_14 (by decide) h (fun h => ?_) (fun h => ?_)
      · refine x_iconst C dX11_finishOf_36 ?_
        exact x_ireturn hR dX11_finishOf_37 h
      · refine x_aload_n C dX11_finishOf_17 rfl ?_
        obtain ⟨q1, hq1, h⟩ := x_bind h
        refine x_callVI C dX11_finishOf_18 (xin_44 _ (List.mem_of_getElem? (i := 16) rfl)) xy_X11_isDone (xi_X11_isDone) (xs_X11_isDone) (by omega) (by decide) (b := 0) rfl ⟨_, _, rfl⟩ (av := []) rfl (Nat.le_of_ble_eq_true rfl) (c_m_isDone _ _ _ hq1) rfl ?_
        refine x_if_eq C 26 dX11_finishOf_21 (by decide) h (fun h => ?_) (fun h => ?_)
        · refine x_aload_n C dX11_finishOf_26 rfl ?_
          obtain ⟨q2, hq2, h⟩ := x_bind h
          refine x_callVI C dX11_finishOf_27 (xin_44 _ (List.mem_of_getElem? (i := 20) rfl)) xy_X11_passTick (xi_X11_passTick) (xs_X11_passTick) (by omega) (by decide) (b := 0) rfl ⟨_, _, rfl⟩ (av := []) rfl (Nat.le_of_ble_eq_true rfl) (c_m_passTick _ _ _ hq2) rfl ?_
          refine x_iinc C dX11_finishOf_30 (by decide) rfl ?_
          refine x_goto C 2 dX11_finishOf_33 (by decide) ?_
          refine x_loc [(0, .inr (.inr (some 0))), (1, .inl (x1 + 1))] ⟨rfl, rfl, trivial⟩ ?_
          exact ih _ _ h
        · refine x_iload_n C dX11_finishOf_24 rfl ?_
          exact x_ireturn hR dX11_finishOf_25 h
def f_m_finishOf (m : xM) : Option (Int × xM) :=
     f_m_finishOf_2 fu 0 m
set_option maxRecDepth 1000000 in
set_option maxHeartbeats 4000000 in
theorem t_m_finishOf {Γ : xG} {d : Nat} (hd9 : 10 ≤ d) (C : xC Γ lay_M RX11 cX11_finishOf 2 d) {r : Int} {m9 : xM} (hR : xRi Γ lay_M cX11_finishOf r m9) (m : xM) (h : f_m_finishOf m = some (r, m9)) : xW Γ lay_M 2 0 [(0, .inr (.inr (some 0)))] [] m := by
  unfold f_m_finishOf at h
  refine x_iconst C dX11_finishOf_0 ?_
  refine x_istore_n C dX11_finishOf_1 (by decide) ?_
  refine x_loc [(0, .inr (.inr (some 0))), (1, .inl 0)] ⟨rfl, rfl, trivial⟩ ?_
  exact t_m_finishOf_2 hd9 C hR fu _ _ h
theorem c_m_finishOf (l : Launch) (m : xM) (r : Int) (m9 : xM) (h : f_m_finishOf m = some (r, m9)) : xMet l yX11_finishOf cX11_finishOf 2 (some .int) 10 lay_M [.inr (.inr (some 0))] m (some (.inl r)) m9 :=
  xMet_i (by decide +kernel) (Nat.le_of_ble_eq_true rfl) (fun Γ C hR hl9 => t_m_finishOf (Nat.le_refl _) C hR m h)
/-! ===== yX11_copy ===== -/
theorem dX11_copy_0 : decode cX11_copy 0 = .ok (.iconst 0, 1) := by decide +kernel
theorem dX11_copy_1 : decode cX11_copy 1 = .ok (.istore 4, 2) := by decide +kernel
theorem dX11_copy_3 : decode cX11_copy 3 = .ok (.iload 4, 2) := by decide +kernel
theorem dX11_copy_5 : decode cX11_copy 5 = .ok (.sipush 3530, 3) := by decide +kernel
theorem dX11_copy_8 : decode cX11_copy 8 = .ok (.if_icmp .ge 29, 3) := by decide +kernel
theorem dX11_copy_11 : decode cX11_copy 11 = .ok (.aload_n 2, 1) := by decide +kernel
theorem dX11_copy_12 : decode cX11_copy 12 = .ok (.sipush 3530, 3) := by decide +kernel
theorem dX11_copy_15 : decode cX11_copy 15 = .ok (.iload_n 3, 1) := by decide +kernel
theorem dX11_copy_16 : decode cX11_copy 16 = .ok (.imul, 1) := by decide +kernel
theorem dX11_copy_17 : decode cX11_copy 17 = .ok (.iload 4, 2) := by decide +kernel
theorem dX11_copy_19 : decode cX11_copy 19 = .ok (.iadd, 1) := by decide +kernel
theorem dX11_copy_20 : decode cX11_copy 20 = .ok (.aload_n 0, 1) := by decide +kernel
theorem dX11_copy_21 : decode cX11_copy 21 = .ok (.sipush 3530, 3) := by decide +kernel
theorem dX11_copy_24 : decode cX11_copy 24 = .ok (.iload_n 1, 1) := by decide +kernel
theorem dX11_copy_25 : decode cX11_copy 25 = .ok (.imul, 1) := by decide +kernel
theorem dX11_copy_26 : decode cX11_copy 26 = .ok (.iload 4, 2) := by decide +kernel
theorem dX11_copy_28 : decode cX11_copy 28 = .ok (.iadd, 1) := by decide +kernel
theorem dX11_copy_29 : decode cX11_copy 29 = .ok (.iaload, 1) := by decide +kernel
theorem dX11_copy_30 : decode cX11_copy 30 = .ok (.iastore, 1) := by decide +kernel
theorem dX11_copy_31 : decode cX11_copy 31 = .ok (.iinc 4 1, 3) := by decide +kernel
theorem dX11_copy_34 : decode cX11_copy 34 = .ok (.goto (-31), 3) := by decide +kernel
theorem dX11_copy_37 : decode cX11_copy 37 = .ok (.return_, 1) := by decide +kernel
def f_m_copyA_31 (a : Int) (b : Int) (k3 : Int → xM → Option (xM)) (x4 : Int) (m : xM) : Option (xM) :=
     k3 (x4 + 1) m
set_option maxRecDepth 1000000 in
set_option maxHeartbeats 4000000 in
theorem t_m_copyA_31 {Γ : xG} {d : Nat} (hd9 : 1 ≤ d) (C : xC Γ lay_cA RX11 cX11_copy 5 d) (a : Int) (b : Int) {m9 : xM} (hR : xRv Γ lay_cA cX11_copy m9) {k3 : Int → xM → Option (xM)} (hk3 : ∀ (x4 : Int) (m : xM), k3 x4 m = some m9 → xW Γ lay_cA 5 3 [(0, .inr (.inr (some 0))), (1, .inl a), (2, .inr (.inr (some 1))), (3, .inl b), (4, .inl x4)] [] m) (x4 : Int) (m : xM) (h : f_m_copyA_31 a b k3 x4 m = some m9) : xW Γ lay_cA 5 31 [(0, .inr (.inr (some 0))), (1, .inl a), (2, .inr (.inr (some 1))), (3, .inl b), (4, .inl x4)] [] m := by
  unfold f_m_copyA_31 at h
  refine x_iinc C dX11_copy_31 (by decide) rfl ?_
  refine x_goto C 3 dX11_copy_34 (by decide) ?_
  refine x_loc [(0, .inr (.inr (some 0))), (1, .inl a), (2, .inr (.inr (some 1))), (3, .inl b), (4, .inl (x4 + 1))] ⟨rfl, rfl, rfl, rfl, rfl, trivial⟩ ?_
  exact hk3 _ _ h
def f_m_copyA_3 (a : Int) (b : Int) : Nat → Int → xM → Option (xM)
  | 0, _, _ => none
  | n + 1, x4, m =>
     (if xw x4 < xw 3530 then (if xib ((3530 * a) + x4) 3530 then (if xib ((3530 * b) + x4) 3530 then f_m_copyA_31 a b (f_m_copyA_3 a b n) x4 (xu m 1 (xix ((3530 * b) + x4)) (m 0 (xix ((3530 * a) + x4))))
      else none)
      else none)
      else some m)
set_option maxRecDepth 1000000 in
set_option maxHeartbeats 4000000 in
theorem t_m_copyA_3 {Γ : xG} {d : Nat} (hd9 : 1 ≤ d) (C : xC Γ lay_cA RX11 cX11_copy 5 d) (a : Int) (b : Int) {m9 : xM} (hR : xRv Γ lay_cA cX11_copy m9) : ∀ (n : Nat) (x4 : Int) (m : xM), f_m_copyA_3 a b n x4 m = some m9 → xW Γ lay_cA 5 3 [(0, .inr (.inr (some 0))), (1, .inl a), (2, .inr (.inr (some 1))), (3, .inl b), (4, .inl x4)] [] m := by
  intro n
  induction n with
  | zero => intro _ _ h; cases h
  | succ n ih =>
    intro x4 m h
    rw [f_m_copyA_3] at h
    refine x_iload C dX11_copy_3 rfl ?_
    refine x_sipush C dX11_copy_5 (by decide) ?_
    refine x_icmp_ge C 37 dX11_copy_8 (by decide) h (fun h => ?_) (fun h => ?_)
    · exact x_returnV hR dX11_copy_37 h
    · refine x_aload_n C dX11_copy_11 rfl ?_
      refine x_sipush C dX11_copy_12 (by decide) ?_
      refine x_iload_n C dX11_copy_15 rfl ?_
      refine x_imul C dX11_copy_16 ?_
      refine x_iload C dX11_copy_17 rfl ?_
      refine x_iadd C dX11_copy_19 ?_
      refine x_aload_n C dX11_copy_20 rfl ?_
      refine x_sipush C dX11_copy_21 (by decide) ?_
      refine x_iload_n C dX11_copy_24 rfl ?_
      refine x_imul C dX11_copy_25 ?_
      refine x_iload C dX11_copy_26 rfl ?_
      refine x_iadd C dX11_copy_28 ?_
      refine x_iaload C dX11_copy_29 rfl h (fun h => ?_)
      refine x_iastore C dX11_copy_30 rfl h (fun h => ?_)
      refine x_loc [(0, .inr (.inr (some 0))), (1, .inl a), (2, .inr (.inr (some 1))), (3, .inl b), (4, .inl x4)] ⟨rfl, rfl, rfl, rfl, rfl, trivial⟩ ?_
      exact t_m_copyA_31 hd9 C _ _ hR ih _ _ h
def f_m_copyA (a : Int) (b : Int) (m : xM) : Option (xM) :=
     f_m_copyA_3 a b fu 0 m
set_option maxRecDepth 1000000 in
set_option maxHeartbeats 4000000 in
theorem t_m_copyA {Γ : xG} {d : Nat} (hd9 : 1 ≤ d) (C : xC Γ lay_cA RX11 cX11_copy 5 d) (a : Int) (b : Int) {m9 : xM} (hR : xRv Γ lay_cA cX11_copy m9) (m : xM) (h : f_m_copyA a b m = some m9) : xW Γ lay_cA 5 0 [(0, .inr (.inr (some 0))), (1, .inl a), (2, .inr (.inr (some 1))), (3, .inl b)] [] m := by
  unfold f_m_copyA at h
  refine x_iconst C dX11_copy_0 ?_
  refine x_istore C dX11_copy_1 (by decide) ?_
  refine x_loc [(0, .inr (.inr (some 0))), (1, .inl a), (2, .inr (.inr (some 1))), (3, .inl b), (4, .inl 0)] ⟨rfl, rfl, rfl, rfl, rfl, trivial⟩ ?_
  exact t_m_copyA_3 hd9 C _ _ hR fu _ _ h
theorem c_m_copyA (l : Launch) (a : Int) (b : Int) (m m9 : xM) (h : f_m_copyA a b m = some m9) : xMet l yX11_copy cX11_copy 5 none 1 lay_cA [.inr (.inr (some 0)), .inl a, .inr (.inr (some 1)), .inl b] m none m9 :=
  xMet_v (by decide +kernel) (Nat.le_of_ble_eq_true rfl) (fun Γ C hR hl9 => t_m_copyA (Nat.le_refl _) C a b hR m h)
/-! ===== yX11_copy ===== -/
def f_m_copyB_31 (a : Int) (b : Int) (k3 : Int → xM → Option (xM)) (x4 : Int) (m : xM) : Option (xM) :=
     k3 (x4 + 1) m
set_option maxRecDepth 1000000 in
set_option maxHeartbeats 4000000 in
theorem t_m_copyB_31 {Γ : xG} {d : Nat} (hd9 : 1 ≤ d) (C : xC Γ lay_cB RX11 cX11_copy 5 d) (a : Int) (b : Int) {m9 : xM} (hR : xRv Γ lay_cB cX11_copy m9) {k3 : Int → xM → Option (xM)} (hk3 : ∀ (x4 : Int) (m : xM), k3 x4 m = some m9 → xW Γ lay_cB 5 3 [(0, .inr (.inr (some 0))), (1, .inl a), (2, .inr (.inr (some 1))), (3, .inl b), (4, .inl x4)] [] m) (x4 : Int) (m : xM) (h : f_m_copyB_31 a b k3 x4 m = some m9) : xW Γ lay_cB 5 31 [(0, .inr (.inr (some 0))), (1, .inl a), (2, .inr (.inr (some 1))), (3, .inl b), (4, .inl x4)] [] m := by
  unfold f_m_copyB_31 at h
  refine x_iinc C dX11_copy_31 (by decide) rfl ?_
  refine x_goto C 3 dX11_copy_34 (by decide) ?_
  refine x_loc [(0, .inr (.inr (some 0))), (1, .inl a), (2, .inr (.inr (some 1))), (3, .inl b), (4, .inl (x4 + 1))] ⟨rfl, rfl, rfl, rfl, rfl, trivial⟩ ?_
  exact hk3 _ _ h
def f_m_copyB_3 (a : Int) (b : Int) : Nat → Int → xM → Option (xM)
  | 0, _, _ => none
  | n + 1, x4, m =>
     (if xw x4 < xw 3530 then (if xib ((3530 * a) + x4) 3530 then (if xib ((3530 * b) + x4) 35300 then f_m_copyB_31 a b (f_m_copyB_3 a b n) x4 (xu m 1 (xix ((3530 * b) + x4)) (m 0 (xix ((3530 * a) + x4))))
      else none)
      else none)
      else some m)
set_option maxRecDepth 1000000 in
set_option maxHeartbeats 4000000 in
theorem t_m_copyB_3 {Γ : xG} {d : Nat} (hd9 : 1 ≤ d) (C : xC Γ lay_cB RX11 cX11_copy 5 d) (a : Int) (b : Int) {m9 : xM} (hR : xRv Γ lay_cB cX11_copy m9) : ∀ (n : Nat) (x4 : Int) (m : xM), f_m_copyB_3 a b n x4 m = some m9 → xW Γ lay_cB 5 3 [(0, .inr (.inr (some 0))), (1, .inl a), (2, .inr (.inr (some 1))), (3, .inl b), (4, .inl x4)] [] m := by
  intro n
  induction n with
  | zero => intro _ _ h; cases h
  | succ n ih =>
    intro x4 m h
    rw [f_m_copyB_3] at h
    refine x_iload C dX11_copy_3 rfl ?_
    refine x_sipush C dX11_copy_5 (by decide) ?_
    refine x_icmp_ge C 37 dX11_copy_8 (by decide) h (fun h => ?_) (fun h => ?_)
    · exact x_returnV hR dX11_copy_37 h
    · refine x_aload_n C dX11_copy_11 rfl ?_
      refine x_sipush C dX11_copy_12 (by decide) ?_
      refine x_iload_n C dX11_copy_15 rfl ?_
      refine x_imul C dX11_copy_16 ?_
      refine x_iload C dX11_copy_17 rfl ?_
      refine x_iadd C dX11_copy_19 ?_
      refine x_aload_n C dX11_copy_20 rfl ?_
      refine x_sipush C dX11_copy_21 (by decide) ?_
      refine x_iload_n C dX11_copy_24 rfl ?_
      refine x_imul C dX11_copy_25 ?_
      refine x_iload C dX11_copy_26 rfl ?_
      refine x_iadd C dX11_copy_28 ?_
      refine x_iaload C dX11_copy_29 rfl h (fun h => ?_)
      refine x_iastore C dX11_copy_30 rfl h (fun h => ?_)
      refine x_loc [(0, .inr (.inr (some 0))), (1, .inl a), (2, .inr (.inr (some 1))), (3, .inl b), (4, .inl x4)] ⟨rfl, rfl, rfl, rfl, rfl, trivial⟩ ?_
      exact t_m_copyB_31 hd9 C _ _ hR ih _ _ h
def f_m_copyB (a : Int) (b : Int) (m : xM) : Option (xM) :=
     f_m_copyB_3 a b fu 0 m
set_option maxRecDepth 1000000 in
set_option maxHeartbeats 4000000 in
theorem t_m_copyB {Γ : xG} {d : Nat} (hd9 : 1 ≤ d) (C : xC Γ lay_cB RX11 cX11_copy 5 d) (a : Int) (b : Int) {m9 : xM} (hR : xRv Γ lay_cB cX11_copy m9) (m : xM) (h : f_m_copyB a b m = some m9) : xW Γ lay_cB 5 0 [(0, .inr (.inr (some 0))), (1, .inl a), (2, .inr (.inr (some 1))), (3, .inl b)] [] m := by
  unfold f_m_copyB at h
  refine x_iconst C dX11_copy_0 ?_
  refine x_istore C dX11_copy_1 (by decide) ?_
  refine x_loc [(0, .inr (.inr (some 0))), (1, .inl a), (2, .inr (.inr (some 1))), (3, .inl b), (4, .inl 0)] ⟨rfl, rfl, rfl, rfl, rfl, trivial⟩ ?_
  exact t_m_copyB_3 hd9 C _ _ hR fu _ _ h
theorem c_m_copyB (l : Launch) (a : Int) (b : Int) (m m9 : xM) (h : f_m_copyB a b m = some m9) : xMet l yX11_copy cX11_copy 5 none 1 lay_cB [.inr (.inr (some 0)), .inl a, .inr (.inr (some 1)), .inl b] m none m9 :=
  xMet_v (by decide +kernel) (Nat.le_of_ble_eq_true rfl) (fun Γ C hR hl9 => t_m_copyB (Nat.le_refl _) C a b hR m h)
/-! ===== yX11_copy ===== -/
def f_m_copyC_31 (a : Int) (b : Int) (k3 : Int → xM → Option (xM)) (x4 : Int) (m : xM) : Option (xM) :=
     k3 (x4 + 1) m
set_option maxRecDepth 1000000 in
set_option maxHeartbeats 4000000 in
theorem t_m_copyC_31 {Γ : xG} {d : Nat} (hd9 : 1 ≤ d) (C : xC Γ lay_cC RX11 cX11_copy 5 d) (a : Int) (b : Int) {m9 : xM} (hR : xRv Γ lay_cC cX11_copy m9) {k3 : Int → xM → Option (xM)} (hk3 : ∀ (x4 : Int) (m : xM), k3 x4 m = some m9 → xW Γ lay_cC 5 3 [(0, .inr (.inr (some 0))), (1, .inl a), (2, .inr (.inr (some 1))), (3, .inl b), (4, .inl x4)] [] m) (x4 : Int) (m : xM) (h : f_m_copyC_31 a b k3 x4 m = some m9) : xW Γ lay_cC 5 31 [(0, .inr (.inr (some 0))), (1, .inl a), (2, .inr (.inr (some 1))), (3, .inl b), (4, .inl x4)] [] m := by
  unfold f_m_copyC_31 at h
  refine x_iinc C dX11_copy_31 (by decide) rfl ?_
  refine x_goto C 3 dX11_copy_34 (by decide) ?_
  refine x_loc [(0, .inr (.inr (some 0))), (1, .inl a), (2, .inr (.inr (some 1))), (3, .inl b), (4, .inl (x4 + 1))] ⟨rfl, rfl, rfl, rfl, rfl, trivial⟩ ?_
  exact hk3 _ _ h
def f_m_copyC_3 (a : Int) (b : Int) : Nat → Int → xM → Option (xM)
  | 0, _, _ => none
  | n + 1, x4, m =>
     (if xw x4 < xw 3530 then (if xib ((3530 * a) + x4) 35300 then (if xib ((3530 * b) + x4) 3530 then f_m_copyC_31 a b (f_m_copyC_3 a b n) x4 (xu m 1 (xix ((3530 * b) + x4)) (m 0 (xix ((3530 * a) + x4))))
      else none)
      else none)
      else some m)
set_option maxRecDepth 1000000 in
set_option maxHeartbeats 4000000 in
theorem t_m_copyC_3 {Γ : xG} {d : Nat} (hd9 : 1 ≤ d) (C : xC Γ lay_cC RX11 cX11_copy 5 d) (a : Int) (b : Int) {m9 : xM} (hR : xRv Γ lay_cC cX11_copy m9) : ∀ (n : Nat) (x4 : Int) (m : xM), f_m_copyC_3 a b n x4 m = some m9 → xW Γ lay_cC 5 3 [(0, .inr (.inr (some 0))), (1, .inl a), (2, .inr (.inr (some 1))), (3, .inl b), (4, .inl x4)] [] m := by
  intro n
  induction n with
  | zero => intro _ _ h; cases h
  | succ n ih =>
    intro x4 m h
    rw [f_m_copyC_3] at h
    refine x_iload C dX11_copy_3 rfl ?_
    refine x_sipush C dX11_copy_5 (by decide) ?_
    refine x_icmp_ge C 37 dX11_copy_8 (by decide) h (fun h => ?_) (fun h => ?_)
    · exact x_returnV hR dX11_copy_37 h
    · refine x_aload_n C dX11_copy_11 rfl ?_
      refine x_sipush C dX11_copy_12 (by decide) ?_
      refine x_iload_n C dX11_copy_15 rfl ?_
      refine x_imul C dX11_copy_16 ?_
      refine x_iload C dX11_copy_17 rfl ?_
      refine x_iadd C dX11_copy_19 ?_
      refine x_aload_n C dX11_copy_20 rfl ?_
      refine x_sipush C dX11_copy_21 (by decide) ?_
      refine x_iload_n C dX11_copy_24 rfl ?_
      refine x_imul C dX11_copy_25 ?_
      refine x_iload C dX11_copy_26 rfl ?_
      refine x_iadd C dX11_copy_28 ?_
      refine x_iaload C dX11_copy_29 rfl h (fun h => ?_)
      refine x_iastore C dX11_copy_30 rfl h (fun h => ?_)
      refine x_loc [(0, .inr (.inr (some 0))), (1, .inl a), (2, .inr (.inr (some 1))), (3, .inl b), (4, .inl x4)] ⟨rfl, rfl, rfl, rfl, rfl, trivial⟩ ?_
      exact t_m_copyC_31 hd9 C _ _ hR ih _ _ h
def f_m_copyC (a : Int) (b : Int) (m : xM) : Option (xM) :=
     f_m_copyC_3 a b fu 0 m
set_option maxRecDepth 1000000 in
set_option maxHeartbeats 4000000 in
theorem t_m_copyC {Γ : xG} {d : Nat} (hd9 : 1 ≤ d) (C : xC Γ lay_cC RX11 cX11_copy 5 d) (a : Int) (b : Int) {m9 : xM} (hR : xRv Γ lay_cC cX11_copy m9) (m : xM) (h : f_m_copyC a b m = some m9) : xW Γ lay_cC 5 0 [(0, .inr (.inr (some 0))), (1, .inl a), (2, .inr (.inr (some 1))), (3, .inl b)] [] m := by
  unfold f_m_copyC at h
  refine x_iconst C dX11_copy_0 ?_
  refine x_istore C dX11_copy_1 (by decide) ?_
  refine x_loc [(0, .inr (.inr (some 0))), (1, .inl a), (2, .inr (.inr (some 1))), (3, .inl b), (4, .inl 0)] ⟨rfl, rfl, rfl, rfl, rfl, trivial⟩ ?_
  exact t_m_copyC_3 hd9 C _ _ hR fu _ _ h
theorem c_m_copyC (l : Launch) (a : Int) (b : Int) (m m9 : xM) (h : f_m_copyC a b m = some m9) : xMet l yX11_copy cX11_copy 5 none 1 lay_cC [.inr (.inr (some 0)), .inl a, .inr (.inr (some 1)), .inl b] m none m9 :=
  xMet_v (by decide +kernel) (Nat.le_of_ble_eq_true rfl) (fun Γ C hR hl9 => t_m_copyC (Nat.le_refl _) C a b hR m h)
/-! ===== yX11_copy ===== -/
def f_m_copyD_31 (a : Int) (b : Int) (k3 : Int → xM → Option (xM)) (x4 : Int) (m : xM) : Option (xM) :=
     k3 (x4 + 1) m
set_option maxRecDepth 1000000 in
set_option maxHeartbeats 4000000 in
theorem t_m_copyD_31 {Γ : xG} {d : Nat} (hd9 : 1 ≤ d) (C : xC Γ lay_cD RX11 cX11_copy 5 d) (a : Int) (b : Int) {m9 : xM} (hR : xRv Γ lay_cD cX11_copy m9) {k3 : Int → xM → Option (xM)} (hk3 : ∀ (x4 : Int) (m : xM), k3 x4 m = some m9 → xW Γ lay_cD 5 3 [(0, .inr (.inr (some 0))), (1, .inl a), (2, .inr (.inr (some 0))), (3, .inl b), (4, .inl x4)] [] m) (x4 : Int) (m : xM) (h : f_m_copyD_31 a b k3 x4 m = some m9) : xW Γ lay_cD 5 31 [(0, .inr (.inr (some 0))), (1, .inl a), (2, .inr (.inr (some 0))), (3, .inl b), (4, .inl x4)] [] m := by
  unfold f_m_copyD_31 at h
  refine x_iinc C dX11_copy_31 (by decide) rfl ?_
  refine x_goto C 3 dX11_copy_34 (by decide) ?_
  refine x_loc [(0, .inr (.inr (some 0))), (1, .inl a), (2, .inr (.inr (some 0))), (3, .inl b), (4, .inl (x4 + 1))] ⟨rfl, rfl, rfl, rfl, rfl, trivial⟩ ?_
  exact hk3 _ _ h
def f_m_copyD_3 (a : Int) (b : Int) : Nat → Int → xM → Option (xM)
  | 0, _, _ => none
  | n + 1, x4, m =>
     (if xw x4 < xw 3530 then (if xib ((3530 * a) + x4) 35300 then (if xib ((3530 * b) + x4) 35300 then f_m_copyD_31 a b (f_m_copyD_3 a b n) x4 (xu m 0 (xix ((3530 * b) + x4)) (m 0 (xix ((3530 * a) + x4))))
      else none)
      else none)
      else some m)
set_option maxRecDepth 1000000 in
set_option maxHeartbeats 4000000 in
theorem t_m_copyD_3 {Γ : xG} {d : Nat} (hd9 : 1 ≤ d) (C : xC Γ lay_cD RX11 cX11_copy 5 d) (a : Int) (b : Int) {m9 : xM} (hR : xRv Γ lay_cD cX11_copy m9) : ∀ (n : Nat) (x4 : Int) (m : xM), f_m_copyD_3 a b n x4 m = some m9 → xW Γ lay_cD 5 3 [(0, .inr (.inr (some 0))), (1, .inl a), (2, .inr (.inr (some 0))), (3, .inl b), (4, .inl x4)] [] m := by
  intro n
  induction n with
  | zero => intro _ _ h; cases h
  | succ n ih =>
    intro x4 m h
    rw [f_m_copyD_3] at h
    refine x_iload C dX11_copy_3 rfl ?_
    refine x_sipush C dX11_copy_5 (by decide) ?_
    refine x_icmp_ge C 37 dX11_copy_8 (by decide) h (fun h => ?_) (fun h => ?_)
    · exact x_returnV hR dX11_copy_37 h
    · refine x_aload_n C dX11_copy_11 rfl ?_
      refine x_sipush C dX11_copy_12 (by decide) ?_
      refine x_iload_n C dX11_copy_15 rfl ?_
      refine x_imul C dX11_copy_16 ?_
      refine x_iload C dX11_copy_17 rfl ?_
      refine x_iadd C dX11_copy_19 ?_
      refine x_aload_n C dX11_copy_20 rfl ?_
      refine x_sipush C dX11_copy_21 (by decide) ?_
      refine x_iload_n C dX11_copy_24 rfl ?_
      refine x_imul C dX11_copy_25 ?_
      refine x_iload C dX11_copy_26 rfl ?_
      refine x_iadd C dX11_copy_28 ?_
      refine x_iaload C dX11_copy_29 rfl h (fun h => ?_)
      refine x_iastore C dX11_copy_30 rfl h (fun h => ?_)
      refine x_loc [(0, .inr (.inr (some 0))), (1, .inl a), (2, .inr (.inr (some 0))), (3, .inl b), (4, .inl x4)] ⟨rfl, rfl, rfl, rfl, rfl, trivial⟩ ?_
      exact t_m_copyD_31 hd9 C _ _ hR ih _ _ h
def f_m_copyD (a : Int) (b : Int) (m : xM) : Option (xM) :=
     f_m_copyD_3 a b fu 0 m
set_option maxRecDepth 1000000 in
set_option maxHeartbeats 4000000 in
theorem t_m_copyD {Γ : xG} {d : Nat} (hd9 : 1 ≤ d) (C : xC Γ lay_cD RX11 cX11_copy 5 d) (a : Int) (b : Int) {m9 : xM} (hR : xRv Γ lay_cD cX11_copy m9) (m : xM) (h : f_m_copyD a b m = some m9) : xW Γ lay_cD 5 0 [(0, .inr (.inr (some 0))), (1, .inl a), (2, .inr (.inr (some 0))), (3, .inl b)] [] m := by
  unfold f_m_copyD at h
  refine x_iconst C dX11_copy_0 ?_
  refine x_istore C dX11_copy_1 (by decide) ?_
  refine x_loc [(0, .inr (.inr (some 0))), (1, .inl a), (2, .inr (.inr (some 0))), (3, .inl b), (4, .inl 0)] ⟨rfl, rfl, rfl, rfl, rfl, trivial⟩ ?_
  exact t_m_copyD_3 hd9 C _ _ hR fu _ _ h
theorem c_m_copyD (l : Launch) (a : Int) (b : Int) (m m9 : xM) (h : f_m_copyD a b m = some m9) : xMet l yX11_copy cX11_copy 5 none 1 lay_cD [.inr (.inr (some 0)), .inl a, .inr (.inr (some 0)), .inl b] m none m9 :=
  xMet_v (by decide +kernel) (Nat.le_of_ble_eq_true rfl) (fun Γ C hR hl9 => t_m_copyD (Nat.le_refl _) C a b hR m h)
/-! ===== yX11_ticksToFinish ===== -/
theorem fF_X11_16 : xF RX11 16 13 2 (.array .int) true := ⟨RX11, TX11, 26, tyX11, rfl, by decide, (xin_9 _ (List.mem_of_getElem? (i := 4) rfl)), rfl, inlX11, tyX11_ok, nmX11, rfl, rfl⟩
theorem xy_X11_copy : xY yX11_copy cX11_copy 5 none 4 := ⟨(xin_23 _ (List.mem_of_getElem? (i := 18) rfl)), (xin_1 _ (List.mem_of_getElem? (i := 5) rfl)), by decide, by decide, by decide +kernel⟩
theorem xt_X11_copy : Cond.static yX11_copy ∈ wsL_law := (xin_23 _ (List.mem_of_getElem? (i := 17) rfl))
theorem xv_50 : xview lay_M lay_cA [1, 3] := xview_of (by decide +kernel)
theorem xy_X11_finishOf : xY yX11_finishOf cX11_finishOf 2 (some .int) 0 := ⟨(xin_44 _ (List.mem_of_getElem? (i := 15) rfl)), (xin_1 _ (List.mem_of_getElem? (i := 5) rfl)), by decide, by decide, by decide +kernel⟩
theorem xi_X11_finishOf : Cond.instanceMethod yX11_finishOf ∈ wsL_law := (xin_44 _ (List.mem_of_getElem? (i := 13) rfl))
theorem xs_X11_finishOf : Cond.selects yX11_finishOf.cls yX11_finishOf yX11_finishOf ∈ wsL_law := (xin_44 _ (List.mem_of_getElem? (i := 14) rfl))
theorem xv_51 : xview lay_M lay_cA [3, 1] := xview_of (by decide +kernel)
theorem dX11_ticksToFinish_0 : decode cX11_ticksToFinish 0 = .ok (.aload_n 0, 1) := by decide +kernel
theorem dX11_ticksToFinish_1 : decode cX11_ticksToFinish 1 = .ok (.iconst 0, 1) := by decide +kernel
theorem dX11_ticksToFinish_2 : decode cX11_ticksToFinish 2 = .ok (.putfield 66, 3) := by decide +kernel
theorem dX11_ticksToFinish_5 : decode cX11_ticksToFinish 5 = .ok (.aload_n 0, 1) := by decide +kernel
theorem dX11_ticksToFinish_6 : decode cX11_ticksToFinish 6 = .ok (.getfield 9, 3) := by decide +kernel
theorem dX11_ticksToFinish_9 : decode cX11_ticksToFinish 9 = .ok (.iconst 0, 1) := by decide +kernel
theorem dX11_ticksToFinish_10 : decode cX11_ticksToFinish 10 = .ok (.aload_n 0, 1) := by decide +kernel
theorem dX11_ticksToFinish_11 : decode cX11_ticksToFinish 11 = .ok (.getfield 16, 3) := by decide +kernel
theorem dX11_ticksToFinish_14 : decode cX11_ticksToFinish 14 = .ok (.iconst 0, 1) := by decide +kernel
theorem dX11_ticksToFinish_15 : decode cX11_ticksToFinish 15 = .ok (.invokestatic 228, 3) := by decide +kernel
theorem dX11_ticksToFinish_18 : decode cX11_ticksToFinish 18 = .ok (.aload_n 0, 1) := by decide +kernel
theorem dX11_ticksToFinish_19 : decode cX11_ticksToFinish 19 = .ok (.invokevirtual 232, 3) := by decide +kernel
theorem dX11_ticksToFinish_22 : decode cX11_ticksToFinish 22 = .ok (.istore_n 1, 1) := by decide +kernel
theorem dX11_ticksToFinish_23 : decode cX11_ticksToFinish 23 = .ok (.aload_n 0, 1) := by decide +kernel
theorem dX11_ticksToFinish_24 : decode cX11_ticksToFinish 24 = .ok (.getfield 16, 3) := by decide +kernel
theorem dX11_ticksToFinish_27 : decode cX11_ticksToFinish 27 = .ok (.iconst 0, 1) := by decide +kernel
theorem dX11_ticksToFinish_28 : decode cX11_ticksToFinish 28 = .ok (.aload_n 0, 1) := by decide +kernel
theorem dX11_ticksToFinish_29 : decode cX11_ticksToFinish 29 = .ok (.getfield 9, 3) := by decide +kernel
theorem dX11_ticksToFinish_32 : decode cX11_ticksToFinish 32 = .ok (.iconst 0, 1) := by decide +kernel
theorem dX11_ticksToFinish_33 : decode cX11_ticksToFinish 33 = .ok (.invokestatic 228, 3) := by decide +kernel
theorem dX11_ticksToFinish_36 : decode cX11_ticksToFinish 36 = .ok (.iload_n 1, 1) := by decide +kernel
theorem dX11_ticksToFinish_37 : decode cX11_ticksToFinish 37 = .ok (.ireturn, 1) := by decide +kernel
def f_m_ticksToFinish (m : xM) : Option (Int × xM) :=
     (Option.bind (f_m_copyA 0 0 (xvw [1, 3] (xu m 0 6 0))) fun q0 =>
      (Option.bind (f_m_finishOf (xmg [1, 3] 2 (xu m 0 6 0) q0)) fun q1 =>
      (Option.bind (f_m_copyA 0 0 (xvw [3, 1] q1.2)) fun q2 =>
      some (q1.1, (xmg [3, 1] 2 q1.2 q2)))))
set_option maxRecDepth 1000000 in
set_option maxHeartbeats 4000000 in
theorem t_m_ticksToFinish {Γ : xG} {d : Nat} (hd9 : 11 ≤ d) (C : xC Γ lay_M RX11 cX11_ticksToFinish 2 d) {r : Int} {m9 : xM} (hR : xRi Γ lay_M cX11_ticksToFinish r m9) (m : xM) (h : f_m_ticksToFinish m = some (r, m9)) : xW Γ lay_M 2 0 [(0, .inr (.inr (some 0)))] [] m := by
  unfold f_m_ticksToFinish at h
  refine x_aload_n C dX11_ticksToFinish_0 rfl ?_
  refine x_iconst C dX11_ticksToFinish_1 ?_
  refine x_putI C dX11_ticksToFinish_2 fF_X11_66 rfl rfl ?_
  refine x_aload_n C dX11_ticksToFinish_5 rfl ?_
  refine x_getR C dX11_ticksToFinish_6 fF_X11_9 rfl rfl ?_
  refine x_iconst C dX11_ticksToFinish_9 ?_
  refine x_aload_n C dX11_ticksToFinish_10 rfl ?_
  refine x_getR C dX11_ticksToFinish_11 fF_X11_16 rfl rfl ?_
  refine x_iconst C dX11_ticksToFinish_14 ?_
  obtain ⟨q0, hq0, h⟩ := x_bind h
  refine x_callS C dX11_ticksToFinish_15 (xin_23 _ (List.mem_of_getElem? (i := 16) rfl)) xy_X11_copy (xt_X11_copy) [1, 3] xv_50 (by omega) (by decide) (av := [.inr (.inr (some 0)), .inl 0, .inr (.inr (some 1)), .inl 0]) rfl (Nat.le_of_ble_eq_true rfl) (c_m_copyA _ _ _ _ _ hq0) rfl ?_
  refine x_aload_n C dX11_ticksToFinish_18 rfl ?_
  obtain ⟨q1, hq1, h⟩ := x_bind h
  refine x_callVI C dX11_ticksToFinish_19 (xin_44 _ (List.mem_of_getElem? (i := 12) rfl)) xy_X11_finishOf (xi_X11_finishOf) (xs_X11_finishOf) (by omega) (by decide) (b := 0) rfl ⟨_, _, rfl⟩ (av := []) rfl (Nat.le_of_ble_eq_true rfl) (c_m_finishOf _ _ q1.1 q1.2 hq1) rfl ?_
  refine x_istore_n C dX11_ticksToFinish_22 (by decide) ?_
  refine x_aload_n C dX11_ticksToFinish_23 rfl ?_
  refine x_getR C dX11_ticksToFinish_24 fF_X11_16 rfl rfl ?_
  refine x_iconst C dX11_ticksToFinish_27 ?_
  refine x_aload_n C dX11_ticksToFinish_28 rfl ?_
  refine x_getR C dX11_ticksToFinish_29 fF_X11_9 rfl rfl ?_
  refine x_iconst C dX11_ticksToFinish_32 ?_
  obtain ⟨q2, hq2, h⟩ := x_bind h
  refine x_callS C dX11_ticksToFinish_33 (xin_23 _ (List.mem_of_getElem? (i := 16) rfl)) xy_X11_copy (xt_X11_copy) [3, 1] xv_51 (by omega) (by decide) (av := [.inr (.inr (some 0)), .inl 0, .inr (.inr (some 1)), .inl 0]) rfl (Nat.le_of_ble_eq_true rfl) (c_m_copyA _ _ _ _ _ hq2) rfl ?_
  refine x_iload_n C dX11_ticksToFinish_36 rfl ?_
  exact x_ireturn hR dX11_ticksToFinish_37 h
theorem c_m_ticksToFinish (l : Launch) (m : xM) (r : Int) (m9 : xM) (h : f_m_ticksToFinish m = some (r, m9)) : xMet l yX11_ticksToFinish cX11_ticksToFinish 2 (some .int) 11 lay_M [.inr (.inr (some 0))] m (some (.inl r)) m9 :=
  xMet_i (by decide +kernel) (Nat.le_of_ble_eq_true rfl) (fun Γ C hR hl9 => t_m_ticksToFinish (Nat.le_refl _) C hR m h)
/-! ===== yX11_receivedBehind ===== -/
theorem dX11_receivedBehind_0 : decode cX11_receivedBehind 0 = .ok (.aload_n 0, 1) := by decide +kernel
theorem dX11_receivedBehind_1 : decode cX11_receivedBehind 1 = .ok (.iload_n 1, 1) := by decide +kernel
theorem dX11_receivedBehind_2 : decode cX11_receivedBehind 2 = .ok (.invokestatic 215, 3) := by decide +kernel
theorem dX11_receivedBehind_5 : decode cX11_receivedBehind 5 = .ok (.ifCond .ne 7, 3) := by decide +kernel
theorem dX11_receivedBehind_8 : decode cX11_receivedBehind 8 = .ok (.iconst 1, 1) := by decide +kernel
theorem dX11_receivedBehind_9 : decode cX11_receivedBehind 9 = .ok (.goto 19, 3) := by decide +kernel
theorem dX11_receivedBehind_12 : decode cX11_receivedBehind 12 = .ok (.iload_n 2, 1) := by decide +kernel
theorem dX11_receivedBehind_13 : decode cX11_receivedBehind 13 = .ok (.iconst 0, 1) := by decide +kernel
theorem dX11_receivedBehind_14 : decode cX11_receivedBehind 14 = .ok (.sipush 400, 3) := by decide +kernel
theorem dX11_receivedBehind_17 : decode cX11_receivedBehind 17 = .ok (.invokestatic 81, 3) := by decide +kernel
theorem dX11_receivedBehind_20 : decode cX11_receivedBehind 20 = .ok (.ifCond .eq 7, 3) := by decide +kernel
theorem dX11_receivedBehind_23 : decode cX11_receivedBehind 23 = .ok (.iconst 0, 1) := by decide +kernel
theorem dX11_receivedBehind_24 : decode cX11_receivedBehind 24 = .ok (.goto 4, 3) := by decide +kernel
theorem dX11_receivedBehind_27 : decode cX11_receivedBehind 27 = .ok (.iconst 2, 1) := by decide +kernel
theorem dX11_receivedBehind_28 : decode cX11_receivedBehind 28 = .ok (.putfield 66, 3) := by decide +kernel
theorem dX11_receivedBehind_31 : decode cX11_receivedBehind 31 = .ok (.aload_n 0, 1) := by decide +kernel
theorem dX11_receivedBehind_32 : decode cX11_receivedBehind 32 = .ok (.getfield 66, 3) := by decide +kernel
theorem dX11_receivedBehind_35 : decode cX11_receivedBehind 35 = .ok (.ifCond .eq 5, 3) := by decide +kernel
theorem dX11_receivedBehind_38 : decode cX11_receivedBehind 38 = .ok (.iconst 0, 1) := by decide +kernel
theorem dX11_receivedBehind_39 : decode cX11_receivedBehind 39 = .ok (.ireturn, 1) := by decide +kernel
theorem dX11_receivedBehind_40 : decode cX11_receivedBehind 40 = .ok (.aload_n 0, 1) := by decide +kernel
theorem dX11_receivedBehind_41 : decode cX11_receivedBehind 41 = .ok (.getfield 9, 3) := by decide +kernel
theorem dX11_receivedBehind_44 : decode cX11_receivedBehind 44 = .ok (.iconst 0, 1) := by decide +kernel
theorem dX11_receivedBehind_45 : decode cX11_receivedBehind 45 = .ok (.aload_n 0, 1) := by decide +kernel
theorem dX11_receivedBehind_46 : decode cX11_receivedBehind 46 = .ok (.getfield 16, 3) := by decide +kernel
theorem dX11_receivedBehind_49 : decode cX11_receivedBehind 49 = .ok (.iconst 0, 1) := by decide +kernel
theorem dX11_receivedBehind_50 : decode cX11_receivedBehind 50 = .ok (.invokestatic 228, 3) := by decide +kernel
theorem dX11_receivedBehind_53 : decode cX11_receivedBehind 53 = .ok (.iconst 0, 1) := by decide +kernel
theorem dX11_receivedBehind_54 : decode cX11_receivedBehind 54 = .ok (.istore_n 3, 1) := by decide +kernel
theorem dX11_receivedBehind_55 : decode cX11_receivedBehind 55 = .ok (.iload_n 3, 1) := by decide +kernel
theorem dX11_receivedBehind_56 : decode cX11_receivedBehind 56 = .ok (.iload_n 2, 1) := by decide +kernel
theorem dX11_receivedBehind_57 : decode cX11_receivedBehind 57 = .ok (.if_icmp .ge 13, 3) := by decide +kernel
theorem dX11_receivedBehind_60 : decode cX11_receivedBehind 60 = .ok (.aload_n 0, 1) := by decide +kernel
theorem dX11_receivedBehind_61 : decode cX11_receivedBehind 61 = .ok (.invokevirtual 225, 3) := by decide +kernel
theorem dX11_receivedBehind_64 : decode cX11_receivedBehind 64 = .ok (.iinc 3 1, 3) := by decide +kernel
theorem dX11_receivedBehind_67 : decode cX11_receivedBehind 67 = .ok (.goto (-12), 3) := by decide +kernel
theorem dX11_receivedBehind_70 : decode cX11_receivedBehind 70 = .ok (.aload_n 0, 1) := by decide +kernel
theorem dX11_receivedBehind_71 : decode cX11_receivedBehind 71 = .ok (.iload_n 1, 1) := by decide +kernel
theorem dX11_receivedBehind_72 : decode cX11_receivedBehind 72 = .ok (.iconst 4, 1) := by decide +kernel
theorem dX11_receivedBehind_73 : decode cX11_receivedBehind 73 = .ok (.invokevirtual 101, 3) := by decide +kernel
theorem dX11_receivedBehind_76 : decode cX11_receivedBehind 76 = .ok (.istore_n 3, 1) := by decide +kernel
theorem dX11_receivedBehind_77 : decode cX11_receivedBehind 77 = .ok (.aload_n 0, 1) := by decide +kernel
theorem dX11_receivedBehind_78 : decode cX11_receivedBehind 78 = .ok (.getfield 16, 3) := by decide +kernel
theorem dX11_receivedBehind_81 : decode cX11_receivedBehind 81 = .ok (.iconst 0, 1) := by decide +kernel
theorem dX11_receivedBehind_82 : decode cX11_receivedBehind 82 = .ok (.aload_n 0, 1) := by decide +kernel
theorem dX11_receivedBehind_83 : decode cX11_receivedBehind 83 = .ok (.getfield 9, 3) := by decide +kernel
theorem dX11_receivedBehind_86 : decode cX11_receivedBehind 86 = .ok (.iconst 0, 1) := by decide +kernel
theorem dX11_receivedBehind_87 : decode cX11_receivedBehind 87 = .ok (.invokestatic 228, 3) := by decide +kernel
theorem dX11_receivedBehind_90 : decode cX11_receivedBehind 90 = .ok (.iload_n 3, 1) := by decide +kernel
theorem dX11_receivedBehind_91 : decode cX11_receivedBehind 91 = .ok (.ireturn, 1) := by decide +kernel
def f_m_receivedBehind_70 (e : Int) (z : Int) (m : xM) : Option (Int × xM) :=
     (Option.bind (f_m_of e 4 m) fun q3 =>
      (Option.bind (f_m_copyA 0 0 (xvw [3, 1] m)) fun q4 =>
      some (q3, (xmg [3, 1] 2 m q4))))
set_option maxRecDepth 1000000 in
set_option maxHeartbeats 4000000 in
theorem t_m_receivedBehind_70 {Γ : xG} {d : Nat} (hd9 : 10 ≤ d) (C : xC Γ lay_M RX11 cX11_receivedBehind 4 d) (e : Int) (z : Int) {r : Int} {m9 : xM} (hR : xRi Γ lay_M cX11_receivedBehind r m9) (m : xM) (h : f_m_receivedBehind_70 e z m = some (r, m9)) : xW Γ lay_M 4 70 [(0, .inr (.inr (some 0))), (1, .inl e)] [] m := by
  unfold f_m_receivedBehind_70 at h
  refine x_aload_n C dX11_receivedBehind_70 rfl ?_
  refine x_iload_n C dX11_receivedBehind_71 rfl ?_
  refine x_iconst C dX11_receivedBehind_72 ?_
  obtain ⟨q3, hq3, h⟩ := x_bind h
  refine x_callVI C dX11_receivedBehind_73 (xin_27 _ (List.mem_of_getElem? (i := 14) rfl)) xy_X11_of (xi_X11_of) (xs_X11_of) (by omega) (by decide) (b := 0) rfl ⟨_, _, rfl⟩ (av := [.inl e, .inl 4]) rfl (Nat.le_of_ble_eq_true rfl) (c_m_of _ _ _ _ _ hq3) rfl ?_
  refine x_istore_n C dX11_receivedBehind_76 (by decide) ?_
  refine x_aload_n C dX11_receivedBehind_77 rfl ?_
  refine x_getR C dX11_receivedBehind_78 fF_X11_16 rfl rfl ?_
  refine x_iconst C dX11_receivedBehind_81 ?_
  refine x_aload_n C dX11_receivedBehind_82 rfl ?_
  refine x_getR C dX11_receivedBehind_83 fF_X11_9 rfl rfl ?_
  refine x_iconst C dX11_receivedBehind_86 ?_
  obtain ⟨q4, hq4, h⟩ := x_bind h
  refine x_callS C dX11_receivedBehind_87 (xin_23 _ (List.mem_of_getElem? (i := 16) rfl)) xy_X11_copy (xt_X11_copy) [3, 1] xv_51 (by omega) (by decide) (av := [.inr (.inr (some 0)), .inl 0, .inr (.inr (some 1)), .inl 0]) rfl (Nat.le_of_ble_eq_true rfl) (c_m_copyA _ _ _ _ _ hq4) rfl ?_
  refine x_iload_n C dX11_receivedBehind_90 rfl ?_
  exact x_ireturn hR dX11_receivedBehind_91 h
def f_m_receivedBehind_55 (e : Int) (z : Int) : Nat → Int → xM → Option (Int × xM)
  | 0, _, _ => none
  | n + 1, x3, m =>
     (if xw x3 < xw z then (Option.bind (f_m_passTick m) fun q5 =>
      f_m_receivedBehind_55 e z n (x3 + 1) q5)
      else f_m_receivedBehind_70 e z m)
set_option maxRecDepth 1000000 in
set_option maxHeartbeats 4000000 in
theorem t_m_receivedBehind_55 {Γ : xG} {d : Nat} (hd9 : 10 ≤ d) (C : xC Γ lay_M RX11 cX11_receivedBehind 4 d) (e : Int) (z : Int) {r : Int} {m9 : xM} (hR : xRi Γ lay_M cX11_receivedBehind r m9) : ∀ (n : Nat) (x3 : Int) (m : xM), f_m_receivedBehind_55 e z n x3 m = some (r, m9) → xW Γ lay_M 4 55 [(0, .inr (.inr (some 0))), (1, .inl e), (2, .inl z), (3, .inl x3)] [] m := by
  intro n
  induction n with
  | zero => intro _ _ h; cases h
  | succ n ih =>
    intro x3 m h
    rw [f_m_receivedBehind_55] at h
    refine x_iload_n C dX11_receivedBehind_55 rfl ?_
    refine x_iload_n C dX11_receivedBehind_56 rfl ?_
    refine x_icmp_ge C 70 dX11_receivedBehind_57 (by decide) h (fun h => ?_) (fun h => ?_)
    · refine x_loc [(0, .inr (.inr (some 0))), (1, .inl e)] ⟨rfl, rfl, trivial⟩ ?_
      exact t_m_receivedBehind_70 hd9 C _ _ hR _ h
    · refine x_aload_n C dX11_receivedBehind_60 rfl ?_
      obtain ⟨q5, hq5, h⟩ := x_bind h
      refine x_callVI C dX11_receivedBehind_61 (xin_44 _ (List.mem_of_getElem? (i := 20) rfl)) xy_X11_passTick (xi_X11_passTick) (xs_X11_passTick) (by omega) (by decide) (b := 0) rfl ⟨_, _, rfl⟩ (av := []) rfl (Nat.le_of_ble_eq_true rfl) (c_m_passTick _ _ _ hq5) rfl ?_
      refine x_iinc C dX11_receivedBehind_64 (by decide) rfl ?_
      refine x_goto C 55 dX11_receivedBehind_67 (by decide) ?_
      refine x_loc [(0, .inr (.inr (some 0))), (1, .inl e), (2, .inl z), (3, .inl (x3 + 1))] ⟨rfl, rfl, rfl, rfl, trivial⟩ ?_
      exact ih _ _ h
def f_m_receivedBehind_28 (e : Int) (z : Int) (s0 : Int) (m : xM) : Option (Int × xM) :=
     (if xw s0 = 0 then (Option.bind (f_m_copyA 0 0 (xvw [1, 3] (xu m 0 6 s0))) fun q2 =>
      f_m_receivedBehind_55 e z fu 0 (xmg [1, 3] 2 (xu m 0 6 s0) q2))
      else some (0, (xu m 0 6 s0)))
set_option maxRecDepth 1000000 in
set_option maxHeartbeats 4000000 in
theorem t_m_receivedBehind_28 {Γ : xG} {d : Nat} (hd9 : 10 ≤ d) (C : xC Γ lay_M RX11 cX11_receivedBehind 4 d) (e : Int) (z : Int) {r : Int} {m9 : xM} (hR : xRi Γ lay_M cX11_receivedBehind r m9) (s0 : Int) (m : xM) (h : f_m_receivedBehind_28 e z s0 m = some (r, m9)) : xW Γ lay_M 4 28 [(0, .inr (.inr (some 0))), (1, .inl e), (2, .inl z)] [.inl s0, .inr (.inr (some 0))] m := by
  unfold f_m_receivedBehind_28 at h
  refine x_putI C dX11_receivedBehind_28 fF_X11_66 rfl rfl ?_
  refine x_aload_n C dX11_receivedBehind_31 rfl ?_
  refine x_getI C dX11_receivedBehind_32 fF_X11_66 rfl rfl ?_
  refine x_if_eq C 40 dX11_receivedBehind_35 (by decide) h (fun h => ?_) (fun h => ?_)
  · refine x_aload_n C dX11_receivedBehind_40 rfl ?_
    refine x_getR C dX11_receivedBehind_41 fF_X11_9 rfl rfl ?_
    refine x_iconst C dX11_receivedBehind_44 ?_
    refine x_aload_n C dX11_receivedBehind_45 rfl ?_
    refine x_getR C dX11_receivedBehind_46 fF_X11_16 rfl rfl ?_
    refine x_iconst C dX11_receivedBehind_49 ?_
    obtain ⟨q2, hq2, h⟩ := x_bind h
    refine x_callS C dX11_receivedBehind_50 (xin_23 _ (List.mem_of_getElem? (i := 16) rfl)) xy_X11_copy (xt_X11_copy) [1, 3] xv_50 (by omega) (by decide) (av := [.inr (.inr (some 0)), .inl 0, .inr (.inr (some 1)), .inl 0]) rfl (Nat.le_of_ble_eq_true rfl) (c_m_copyA _ _ _ _ _ hq2) rfl ?_
    refine x_iconst C dX11_receivedBehind_53 ?_
    refine x_istore_n C dX11_receivedBehind_54 (by decide) ?_
    refine x_loc [(0, .inr (.inr (some 0))), (1, .inl e), (2, .inl z), (3, .inl 0)] ⟨rfl, rfl, rfl, rfl, trivial⟩ ?_
    exact t_m_receivedBehind_55 hd9 C _ _ hR fu _ _ h
  · refine x_iconst C dX11_receivedBehind_38 ?_
    exact x_ireturn hR dX11_receivedBehind_39 h
def f_m_receivedBehind (e : Int) (z : Int) (m : xM) : Option (Int × xM) :=
     (Option.bind (f_m_isEnd e (xvw [] m)) fun q0 =>
      (if xw q0 = 0 then f_m_receivedBehind_28 e z 1 m
      else (Option.bind (f_m_inRange z 0 400 (xvw [] m)) fun q1 =>
      (if xw q1 = 0 then f_m_receivedBehind_28 e z 2 m
      else f_m_receivedBehind_28 e z 0 m))))
set_option maxRecDepth 1000000 in
set_option maxHeartbeats 4000000 in
theorem t_m_receivedBehind {Γ : xG} {d : Nat} (hd9 : 10 ≤ d) (C : xC Γ lay_M RX11 cX11_receivedBehind 4 d) (e : Int) (z : Int) {r : Int} {m9 : xM} (hR : xRi Γ lay_M cX11_receivedBehind r m9) (m : xM) (h : f_m_receivedBehind e z m = some (r, m9)) : xW Γ lay_M 4 0 [(0, .inr (.inr (some 0))), (1, .inl e), (2, .inl z)] [] m := by
  unfold f_m_receivedBehind at h
  refine x_aload_n C dX11_receivedBehind_0 rfl ?_
  refine x_iload_n C dX11_receivedBehind_1 rfl ?_
  obtain ⟨q0, hq0, h⟩ := x_bind h
  refine x_callSp C dX11_receivedBehind_2 (xin_27 _ (List.mem_of_getElem? (i := 11) rfl)) xy_X11_isEnd (xt_X11_isEnd) [] xv_49 (by omega) (by decide) (av := [.inl e]) rfl (Nat.le_of_ble_eq_true rfl) (c_m_isEnd _ _ _ _ hq0) rfl ?_
  refine x_if_ne C 12 dX11_receivedBehind_5 (by decide) h (fun h => ?_) (fun h => ?_)
  · refine x_iload_n C dX11_receivedBehind_12 rfl ?_
    refine x_iconst C dX11_receivedBehind_13 ?_
    refine x_sipush C dX11_receivedBehind_14 (by decide) ?_
    obtain ⟨q1, hq1, h⟩ := x_bind h
    refine x_callSp C dX11_receivedBehind_17 (xin_18 _ (List.mem_of_getElem? (i := 19) rfl)) xy_X11_inRange (xt_X11_inRange) [] xv_49 (by omega) (by decide) (av := [.inl z, .inl 0, .inl 400]) rfl (Nat.le_of_ble_eq_true rfl) (c_m_inRange _ _ _ _ _ _ hq1) rfl ?_
    refine x_if_eq C 27 dX11_receivedBehind_20 (by decide) h (fun h => ?_) (fun h => ?_)
    · refine x_iconst C dX11_receivedBehind_27 ?_
      refine x_loc [(0, .inr (.inr (some 0))), (1, .inl e), (2, .inl z)] ⟨rfl, rfl, rfl, trivial⟩ ?_
      exact t_m_receivedBehind_28 hd9 C _ _ hR _ _ h
    · refine x_iconst C dX11_receivedBehind_23 ?_
      refine x_goto C 28 dX11_receivedBehind_24 (by decide) ?_
      refine x_loc [(0, .inr (.inr (some 0))), (1, .inl e), (2, .inl z)] ⟨rfl, rfl, rfl, trivial⟩ ?_
      exact t_m_receivedBehind_28 hd9 C _ _ hR _ _ h
  · refine x_iconst C dX11_receivedBehind_8 ?_
    refine x_goto C 28 dX11_receivedBehind_9 (by decide) ?_
    refine x_loc [(0, .inr (.inr (some 0))), (1, .inl e), (2, .inl z)] ⟨rfl, rfl, rfl, trivial⟩ ?_
    exact t_m_receivedBehind_28 hd9 C _ _ hR _ _ h
theorem c_m_receivedBehind (l : Launch) (e : Int) (z : Int) (m : xM) (r : Int) (m9 : xM) (h : f_m_receivedBehind e z m = some (r, m9)) : xMet l yX11_receivedBehind cX11_receivedBehind 4 (some .int) 10 lay_M [.inr (.inr (some 0)), .inl e, .inl z] m (some (.inl r)) m9 :=
  xMet_i (by decide +kernel) (Nat.le_of_ble_eq_true rfl) (fun Γ C hR hl9 => t_m_receivedBehind (Nat.le_refl _) C e z hR m h)
/-! ===== yX11_leastQuality ===== -/
theorem dX11_leastQuality_0 : decode cX11_leastQuality 0 = .ok (.aload_n 0, 1) := by decide +kernel
theorem dX11_leastQuality_1 : decode cX11_leastQuality 1 = .ok (.iconst 0, 1) := by decide +kernel
theorem dX11_leastQuality_2 : decode cX11_leastQuality 2 = .ok (.putfield 66, 3) := by decide +kernel
theorem dX11_leastQuality_5 : decode cX11_leastQuality 5 = .ok (.iconst (-1), 1) := by decide +kernel
theorem dX11_leastQuality_6 : decode cX11_leastQuality 6 = .ok (.istore_n 1, 1) := by decide +kernel
theorem dX11_leastQuality_7 : decode cX11_leastQuality 7 = .ok (.aload_n 0, 1) := by decide +kernel
theorem dX11_leastQuality_8 : decode cX11_leastQuality 8 = .ok (.getfield 9, 3) := by decide +kernel
theorem dX11_leastQuality_11 : decode cX11_leastQuality 11 = .ok (.iconst 0, 1) := by decide +kernel
theorem dX11_leastQuality_12 : decode cX11_leastQuality 12 = .ok (.aload_n 0, 1) := by decide +kernel
theorem dX11_leastQuality_13 : decode cX11_leastQuality 13 = .ok (.getfield 16, 3) := by decide +kernel
theorem dX11_leastQuality_16 : decode cX11_leastQuality 16 = .ok (.iconst 0, 1) := by decide +kernel
theorem dX11_leastQuality_17 : decode cX11_leastQuality 17 = .ok (.invokestatic 228, 3) := by decide +kernel
theorem dX11_leastQuality_20 : decode cX11_leastQuality 20 = .ok (.iconst 0, 1) := by decide +kernel
theorem dX11_leastQuality_21 : decode cX11_leastQuality 21 = .ok (.istore_n 2, 1) := by decide +kernel
theorem dX11_leastQuality_22 : decode cX11_leastQuality 22 = .ok (.iload_n 2, 1) := by decide +kernel
theorem dX11_leastQuality_23 : decode cX11_leastQuality 23 = .ok (.bipush 9, 2) := by decide +kernel
theorem dX11_leastQuality_25 : decode cX11_leastQuality 25 = .ok (.if_icmp .gt 48, 3) := by decide +kernel
theorem dX11_leastQuality_28 : decode cX11_leastQuality 28 = .ok (.iload_n 1, 1) := by decide +kernel
theorem dX11_leastQuality_29 : decode cX11_leastQuality 29 = .ok (.iconst (-1), 1) := by decide +kernel
theorem dX11_leastQuality_30 : decode cX11_leastQuality 30 = .ok (.if_icmp .ne 43, 3) := by decide +kernel
theorem dX11_leastQuality_33 : decode cX11_leastQuality 33 = .ok (.aload_n 0, 1) := by decide +kernel
theorem dX11_leastQuality_34 : decode cX11_leastQuality 34 = .ok (.getfield 9, 3) := by decide +kernel
theorem dX11_leastQuality_37 : decode cX11_leastQuality 37 = .ok (.iconst 2, 1) := by decide +kernel
theorem dX11_leastQuality_38 : decode cX11_leastQuality 38 = .ok (.iload_n 2, 1) := by decide +kernel
theorem dX11_leastQuality_39 : decode cX11_leastQuality 39 = .ok (.iastore, 1) := by decide +kernel
theorem dX11_leastQuality_40 : decode cX11_leastQuality 40 = .ok (.aload_n 0, 1) := by decide +kernel
theorem dX11_leastQuality_41 : decode cX11_leastQuality 41 = .ok (.invokevirtual 232, 3) := by decide +kernel
theorem dX11_leastQuality_44 : decode cX11_leastQuality 44 = .ok (.iconst (-1), 1) := by decide +kernel
theorem dX11_leastQuality_45 : decode cX11_leastQuality 45 = .ok (.if_icmp .ne 7, 3) := by decide +kernel
theorem dX11_leastQuality_48 : decode cX11_leastQuality 48 = .ok (.iconst (-1), 1) := by decide +kernel
theorem dX11_leastQuality_49 : decode cX11_leastQuality 49 = .ok (.goto 4, 3) := by decide +kernel
theorem dX11_leastQuality_52 : decode cX11_leastQuality 52 = .ok (.iload_n 2, 1) := by decide +kernel
theorem dX11_leastQuality_53 : decode cX11_leastQuality 53 = .ok (.istore_n 1, 1) := by decide +kernel
theorem dX11_leastQuality_54 : decode cX11_leastQuality 54 = .ok (.aload_n 0, 1) := by decide +kernel
theorem dX11_leastQuality_55 : decode cX11_leastQuality 55 = .ok (.getfield 16, 3) := by decide +kernel
theorem dX11_leastQuality_58 : decode cX11_leastQuality 58 = .ok (.iconst 0, 1) := by decide +kernel
theorem dX11_leastQuality_59 : decode cX11_leastQuality 59 = .ok (.aload_n 0, 1) := by decide +kernel
theorem dX11_leastQuality_60 : decode cX11_leastQuality 60 = .ok (.getfield 9, 3) := by decide +kernel
theorem dX11_leastQuality_63 : decode cX11_leastQuality 63 = .ok (.iconst 0, 1) := by decide +kernel
theorem dX11_leastQuality_64 : decode cX11_leastQuality 64 = .ok (.invokestatic 228, 3) := by decide +kernel
theorem dX11_leastQuality_67 : decode cX11_leastQuality 67 = .ok (.iinc 2 1, 3) := by decide +kernel
theorem dX11_leastQuality_70 : decode cX11_leastQuality 70 = .ok (.goto (-48), 3) := by decide +kernel
theorem dX11_leastQuality_73 : decode cX11_leastQuality 73 = .ok (.iload_n 1, 1) := by decide +kernel
theorem dX11_leastQuality_74 : decode cX11_leastQuality 74 = .ok (.ireturn, 1) := by decide +kernel
def f_m_leastQuality_53 (k22 : Int → Int → xM → Option (Int × xM)) (x2 : Int) (s0 : Int) (m : xM) : Option (Int × xM) :=
     (Option.bind (f_m_copyA 0 0 (xvw [3, 1] m)) fun q2 =>
      k22 s0 (x2 + 1) (xmg [3, 1] 2 m q2))
set_option maxRecDepth 1000000 in
set_option maxHeartbeats 4000000 in
theorem t_m_leastQuality_53 {Γ : xG} {d : Nat} (hd9 : 11 ≤ d) (C : xC Γ lay_M RX11 cX11_leastQuality 3 d) {r : Int} {m9 : xM} (hR : xRi Γ lay_M cX11_leastQuality r m9) {k22 : Int → Int → xM → Option (Int × xM)} (hk22 : ∀ (x1 : Int) (x2 : Int) (m : xM), k22 x1 x2 m = some (r, m9) → xW Γ lay_M 3 22 [(0, .inr (.inr (some 0))), (1, .inl x1), (2, .inl x2)] [] m) (x2 : Int) (s0 : Int) (m : xM) (h : f_m_leastQuality_53 k22 x2 s0 m = some (r, m9)) : xW Γ lay_M 3 53 [(0, .inr (.inr (some 0))), (2, .inl x2)] [.inl s0] m := by
  unfold f_m_leastQuality_53 at h
  refine x_istore_n C dX11_leastQuality_53 (by decide) ?_
  refine x_aload_n C dX11_leastQuality_54 rfl ?_
  refine x_getR C dX11_leastQuality_55 fF_X11_16 rfl rfl ?_
  refine x_iconst C dX11_leastQuality_58 ?_
  refine x_aload_n C dX11_leastQuality_59 rfl ?_
  refine x_getR C dX11_leastQuality_60 fF_X11_9 rfl rfl ?_
  refine x_iconst C dX11_leastQuality_63 ?_
  obtain ⟨q2, hq2, h⟩ := x_bind h
  refine x_callS C dX11_leastQuality_64 (xin_23 _ (List.mem_of_getElem? (i := 16) rfl)) xy_X11_copy (xt_X11_copy) [3, 1] xv_51 (by omega) (by decide) (av := [.inr (.inr (some 0)), .inl 0, .inr (.inr (some 1)), .inl 0]) rfl (Nat.le_of_ble_eq_true rfl) (c_m_copyA _ _ _ _ _ hq2) rfl ?_
  refine x_iinc C dX11_leastQuality_67 (by decide) rfl ?_
  refine x_goto C 22 dX11_leastQuality_70 (by decide) ?_
  refine x_loc [(0, .inr (.inr (some 0))), (1, .inl s0), (2, .inl (x2 + 1))] ⟨rfl, rfl, rfl, trivial⟩ ?_
  exact hk22 _ _ _ h
def f_m_leastQuality_22 : Nat → Int → Int → xM → Option (Int × xM)
  | 0, _, _, _ => none
  | n + 1, x1, x2, m =>
     (if xw 9 < xw x2 then some (x1, m)
      else (if xw x1 = xw (-1) then (if xib 2 3530 then (Option.bind (f_m_finishOf (xu m 1 2 x2)) fun q1 =>
      (if xw q1.1 = xw (-1) then f_m_leastQuality_53 (f_m_leastQuality_22 n) x2 (-1) q1.2
      else f_m_leastQuality_53 (f_m_leastQuality_22 n) x2 x2 q1.2))
      else none)
      else some (x1, m)))
set_option maxRecDepth 1000000 in
set_option maxHeartbeats 4000000 in
theorem t_m_leastQuality_22 {Γ : xG} {d : Nat} (hd9 : 11 ≤ d) (C : xC Γ lay_M RX11 cX11_leastQuality 3 d) {r : Int} {m9 : xM} (hR : xRi Γ lay_M cX11_leastQuality r m9) : ∀ (n : Nat) (x1 : Int) (x2 : Int) (m : xM), f_m_leastQuality_22 n x1 x2 m = some (r, m9) → xW Γ lay_M 3 22 [(0, .inr (.inr (some 0))), (1, .inl x1), (2, .inl x2)] [] m := by
  intro n
  induction n with
  | zero => intro _ _ _ h; cases h
  | succ n ih =>
    intro x1 x2 m h
    rw [f_m_leastQuality_22] at h
    refine x_iload_n C dX11_leastQuality_22 rfl ?_
    refine x_bipush C dX11_leastQuality_23 (by decide) ?_
    refine x_icmp_gt C 73 dX11_leastQuality_25 (by decide) h (fun h => ?_) (fun h => ?_)
    · refine x_iload_n C dX11_leastQuality_73 rfl ?_
      exact x_ireturn hR dX11_leastQuality_74 h
    · refine x_iload_n C dX11_leastQuality_28 rfl ?_
      refine x_iconst C dX11_leastQuality_29 ?_
      refine x_icmp_ne C 73 dX11_leastQuality_30 (by decide) h (fun h => ?_) (fun h => ?_)
      · refine x_iload_n C dX11_leastQuality_73 rfl ?_
        exact x_ireturn hR dX11_leastQuality_74 h
      · refine x_aload_n C dX11_leastQuality_33 rfl ?_
        refine x_getR C dX11_leastQuality_34 fF_X11_9 rfl rfl ?_
        refine x_iconst C dX11_leastQuality_37 ?_
        refine x_iload_n C dX11_leastQuality_38 rfl ?_
        refine x_iastore C dX11_leastQuality_39 rfl h (fun h => ?_)
        refine x_aload_n C dX11_leastQuality_40 rfl ?_
        obtain ⟨q1, hq1, h⟩ := x_bind h
        refine x_callVI C dX11_leastQuality_41 (xin_44 _ (List.mem_of_getElem? (i := 12) rfl)) xy_X11_finishOf (xi_X11_finishOf) (xs_X11_finishOf) (by omega) (by decide) (b := 0) rfl ⟨_, _, rfl⟩ (av := []) rfl (Nat.le_of_ble_eq_true rfl) (c_m_finishOf _ _ q1.1 q1.2 hq1) rfl ?_
        refine x_iconst C dX11_leastQuality_44 ?_
        refine x_icmp_ne C 52 dX11_leastQuality_45 (by decide) h (fun h => ?_) (fun h => ?_)
        · refine x_iload_n C dX11_leastQuality_52 rfl ?_
          refine x_loc [(0, .inr (.inr (some 0))), (2, .inl x2)] ⟨rfl, rfl, trivial⟩ ?_
          exact t_m_leastQuality_53 hd9 C hR ih _ _ _ h
        · refine x_iconst C dX11_leastQuality_48 ?_
          refine x_goto C 53 dX11_leastQuality_49 (by decide) ?_
          refine x_loc [(0, .inr (.inr (some 0))), (2, .inl x2)] ⟨rfl, rfl, trivial⟩ ?_
          exact t_m_leastQuality_53 hd9 C hR ih _ _ _ h
def f_m_leastQuality (m : xM) : Option (Int × xM) :=
     (Option.bind (f_m_copyA 0 0 (xvw [1, 3] (xu m 0 6 0))) fun q0 =>
      f_m_leastQuality_22 fu (-1) 0 (xmg [1, 3] 2 (xu m 0 6 0) q0))
set_option maxRecDepth 1000000 in
set_option maxHeartbeats 4000000 in
theorem t_m_leastQuality {Γ : xG} {d : Nat} (hd9 : 11 ≤ d) (C : xC Γ lay_M RX11 cX11_leastQuality 3 d) {r : Int} {m9 : xM} (hR : xRi Γ lay_M cX11_leastQuality r m9) (m : xM) (h : f_m_leastQuality m = some (r, m9)) : xW Γ lay_M 3 0 [(0, .inr (.inr (some 0)))] [] m := by
  unfold f_m_leastQuality at h
  refine x_aload_n C dX11_leastQuality_0 rfl ?_
  refine x_iconst C dX11_leastQuality_1 ?_
  refine x_putI C dX11_leastQuality_2 fF_X11_66 rfl rfl ?_
  refine x_iconst C dX11_leastQuality_5 ?_
  refine x_istore_n C dX11_leastQuality_6 (by decide) ?_
  refine x_aload_n C dX11_leastQuality_7 rfl ?_
  refine x_getR C dX11_leastQuality_8 fF_X11_9 rfl rfl ?_
  refine x_iconst C dX11_leastQuality_11 ?_
  refine x_aload_n C dX11_leastQuality_12 rfl ?_
  refine x_getR C dX11_leastQuality_13 fF_X11_16 rfl rfl ?_
  refine x_iconst C dX11_leastQuality_16 ?_
  obtain ⟨q0, hq0, h⟩ := x_bind h
  refine x_callS C dX11_leastQuality_17 (xin_23 _ (List.mem_of_getElem? (i := 16) rfl)) xy_X11_copy (xt_X11_copy) [1, 3] xv_50 (by omega) (by decide) (av := [.inr (.inr (some 0)), .inl 0, .inr (.inr (some 1)), .inl 0]) rfl (Nat.le_of_ble_eq_true rfl) (c_m_copyA _ _ _ _ _ hq0) rfl ?_
  refine x_iconst C dX11_leastQuality_20 ?_
  refine x_istore_n C dX11_leastQuality_21 (by decide) ?_
  refine x_loc [(0, .inr (.inr (some 0))), (1, .inl (-1)), (2, .inl 0)] ⟨rfl, rfl, rfl, trivial⟩ ?_
  exact t_m_leastQuality_22 hd9 C hR fu _ _ _ h
theorem c_m_leastQuality (l : Launch) (m : xM) (r : Int) (m9 : xM) (h : f_m_leastQuality m = some (r, m9)) : xMet l yX11_leastQuality cX11_leastQuality 3 (some .int) 11 lay_M [.inr (.inr (some 0))] m (some (.inl r)) m9 :=
  xMet_i (by decide +kernel) (Nat.le_of_ble_eq_true rfl) (fun Γ C hR hl9 => t_m_leastQuality (Nat.le_refl _) C hR m h)

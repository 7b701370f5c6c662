/-! ===== texts: a number put behind, the length set, a letter read ===== -/
theorem dJ5_append_c97b9_0 : decode cJ5_append_c97b9 0 = .ok (.aload_n 0, 1) := by decide +kernel
theorem dJ5_append_c97b9_1 : decode cJ5_append_c97b9 1 = .ok (.getfield 79, 3) := by decide +kernel
theorem dJ5_append_c97b9_4 : decode cJ5_append_c97b9 4 = .ok (.istore_n 2, 1) := by decide +kernel
theorem dJ5_append_c97b9_5 : decode cJ5_append_c97b9 5 = .ok (.iload_n 2, 1) := by decide +kernel
theorem dJ5_append_c97b9_6 : decode cJ5_append_c97b9 6 = .ok (.iload_n 1, 1) := by decide +kernel
theorem dJ5_append_c97b9_7 : decode cJ5_append_c97b9 7 = .ok (.invokestatic 245, 3) := by decide +kernel
theorem dJ5_append_c97b9_10 : decode cJ5_append_c97b9 10 = .ok (.iadd, 1) := by decide +kernel
theorem dJ5_append_c97b9_11 : decode cJ5_append_c97b9 11 = .ok (.istore_n 3, 1) := by decide +kernel
theorem dJ5_append_c97b9_12 : decode cJ5_append_c97b9 12 = .ok (.aload_n 0, 1) := by decide +kernel
theorem dJ5_append_c97b9_13 : decode cJ5_append_c97b9 13 = .ok (.iload_n 3, 1) := by decide +kernel
theorem dJ5_append_c97b9_14 : decode cJ5_append_c97b9 14 = .ok (.invokevirtual 100, 3) := by decide +kernel
theorem dJ5_append_c97b9_17 : decode cJ5_append_c97b9 17 = .ok (.aload_n 0, 1) := by decide +kernel
theorem dJ5_append_c97b9_18 : decode cJ5_append_c97b9 18 = .ok (.invokevirtual 83, 3) := by decide +kernel
theorem dJ5_append_c97b9_21 : decode cJ5_append_c97b9 21 = .ok (.ifCond .eq 16, 3) := by decide +kernel
theorem dJ5_append_c97b9_24 : decode cJ5_append_c97b9 24 = .ok (.iload_n 1, 1) := by decide +kernel
theorem dJ5_append_c97b9_25 : decode cJ5_append_c97b9 25 = .ok (.iload_n 3, 1) := by decide +kernel
theorem dJ5_append_c97b9_26 : decode cJ5_append_c97b9 26 = .ok (.aload_n 0, 1) := by decide +kernel
theorem dJ5_append_c97b9_27 : decode cJ5_append_c97b9 27 = .ok (.getfield 15, 3) := by decide +kernel
theorem dJ5_append_c97b9_30 : decode cJ5_append_c97b9 30 = .ok (.invokestatic 248, 3) := by decide +kernel
theorem dJ5_append_c97b9_33 : decode cJ5_append_c97b9 33 = .ok (.pop, 1) := by decide +kernel
theorem dJ5_append_c97b9_34 : decode cJ5_append_c97b9 34 = .ok (.goto 14, 3) := by decide +kernel
theorem dJ5_append_c97b9_37 : decode cJ5_append_c97b9 37 = .ok (.iload_n 1, 1) := by decide +kernel
theorem dJ5_append_c97b9_38 : decode cJ5_append_c97b9 38 = .ok (.iload_n 2, 1) := by decide +kernel
theorem dJ5_append_c97b9_39 : decode cJ5_append_c97b9 39 = .ok (.iload_n 3, 1) := by decide +kernel
theorem dJ5_append_c97b9_40 : decode cJ5_append_c97b9 40 = .ok (.aload_n 0, 1) := by decide +kernel
theorem dJ5_append_c97b9_41 : decode cJ5_append_c97b9 41 = .ok (.getfield 15, 3) := by decide +kernel
theorem dJ5_append_c97b9_44 : decode cJ5_append_c97b9 44 = .ok (.invokestatic 251, 3) := by decide +kernel
theorem dJ5_append_c97b9_47 : decode cJ5_append_c97b9 47 = .ok (.pop, 1) := by decide +kernel
theorem dJ5_append_c97b9_48 : decode cJ5_append_c97b9 48 = .ok (.aload_n 0, 1) := by decide +kernel
theorem dJ5_append_c97b9_49 : decode cJ5_append_c97b9 49 = .ok (.iload_n 3, 1) := by decide +kernel
theorem dJ5_append_c97b9_50 : decode cJ5_append_c97b9 50 = .ok (.putfield 79, 3) := by decide +kernel
theorem dJ5_append_c97b9_53 : decode cJ5_append_c97b9 53 = .ok (.aload_n 0, 1) := by decide +kernel
theorem dJ5_append_c97b9_54 : decode cJ5_append_c97b9 54 = .ok (.areturn, 1) := by decide +kernel
theorem xy_J6_stringSize_0f7a4 : xY yJ6_stringSize_0f7a4 cJ6_stringSize_0f7a4 4 (some .int) 1 := ⟨(xin_61 _ (List.mem_of_getElem? (i := 17) rfl)), (xin_61 _ (List.mem_of_getElem? (i := 16) rfl)), by decide +kernel, by decide +kernel, by decide +kernel⟩
theorem xy_J6_getChars_ba4f3 : xY yJ6_getChars_ba4f3 cJ6_getChars_ba4f3 7 (some .int) 3 := ⟨(xin_61 _ (List.mem_of_getElem? (i := 20) rfl)), (xin_61 _ (List.mem_of_getElem? (i := 16) rfl)), by decide +kernel, by decide +kernel, by decide +kernel⟩
set_option maxRecDepth 100000 in
set_option maxHeartbeats 4000000 in
theorem k_appI5 {l : Launch} {dA : Nat → ClassId} {ad : Nat → Nat} {t0 t1 cap n : Nat} {ml : Int32} {f : Nat → Int32} {N9 c : Nat} (hN : N9 ≤ 1000000000) (hL : isL N9 c) (hn : n ≤ cap) (hn6 : n + c ≤ 60) (hc : cap ≤ 500) (hf : ∀ j, (f j).toInt8.toInt32 = f j) : tMet l yJ5_append_c97b9 cJ5_append_c97b9 4 (some (.object "java/lang/AbstractStringBuilder")) 4 1 120 [.ref t0, .int (Int32.ofInt (N9 : Int))] dA ad (tB dA t0 t1 cap n ml f) (fun r w => r = some (.ref t0) ∧ ∃ (t2 c2 : Nat) (f2 : Nat → Int32), w = tB dA t0 t2 c2 (n + c) ml f2 ∧ n + c ≤ c2 ∧ c2 ≤ 500 ∧ (∀ j, (f2 j).toInt8.toInt32 = f2 j) ∧ (∀ j, j < n → f2 j = f j) ∧ ∀ i, i < c → f2 (n + i) = Int32.ofInt (dgt N9 (c - 1 - i))) := by
  refine tMet_a (Or.inl ⟨_, rfl⟩) (Or.inl (by decide +kernel)) (Nat.le_of_ble_eq_true rfl) (fun Γ C hG hsa hda hR hl9 => ?_)
  subst hl9; subst hda; subst hsa
  have hs : (n : Int) + (c : Int) = ((n + c : Nat) : Int) := by omega
  have hc1 := hL.2.1
  refine y_aload C 0 dJ5_append_c97b9_0 rfl rfl ?_
  refine t_getJ C 0 dJ5_append_c97b9_1 yj_79 rfl rfl ?_
  refine y_istore C dJ5_append_c97b9_4 rfl (by omega) rfl ?_
  refine y_iload C 0 dJ5_append_c97b9_5 rfl rfl ?_
  refine y_iload C 2 dJ5_append_c97b9_6 rfl rfl ?_
  refine t_callS (wa := []) (av := [.int (Int32.ofInt (N9 : Int))]) C hG dJ5_append_c97b9_7 (xin_61 _ (List.mem_of_getElem? (i := 14) rfl)) (xin_61 _ (List.mem_of_getElem? (i := 15) rfl)) xy_J6_stringSize_0f7a4 (by omega) (by omega) rfl (Nat.le_of_ble_eq_true rfl) (k_size hN hL) (by omega) (by omega) rfl (fun rv w9 hw9 => ?_)
  obtain ⟨rfl, rfl⟩ := hw9
  refine tz_iadd C dJ5_append_c97b9_10 ?_
  rw [hs]
  refine y_istore C dJ5_append_c97b9_11 rfl (by omega) rfl ?_
  refine y_aload C 2 dJ5_append_c97b9_12 rfl rfl ?_
  refine y_iload C 0 dJ5_append_c97b9_13 rfl rfl ?_
  refine t_callU (wa := []) (av := [.int (Int32.ofInt ((n + c : Nat) : Int))]) C hG dJ5_append_c97b9_14 (xin_56 _ (List.mem_of_getElem? (i := 7) rfl)) (xin_56 _ (List.mem_of_getElem? (i := 8) rfl)) (xin_56 _ (List.mem_of_getElem? (i := 9) rfl)) (xin_56 _ (List.mem_of_getElem? (i := 10) rfl)) xy_J5_ensureCapacityInternal_d00df (by omega) (by omega) 0 rfl rfl (Nat.le_of_ble_eq_true rfl) (k_ens (m9 := n + c) hn6 hc hf) (by omega) (by omega) rfl (fun rv w9 hw9 => ?_)
  obtain ⟨rfl, t2, c2, f2, rfl, e1, e2, e3, e4, e5⟩ := hw9
  refine y_aload C 2 dJ5_append_c97b9_17 rfl rfl ?_
  refine t_callU (wa := []) (av := []) C hG dJ5_append_c97b9_18 (xin_57 _ (List.mem_of_getElem? (i := 17) rfl)) (xin_57 _ (List.mem_of_getElem? (i := 18) rfl)) (xin_57 _ (List.mem_of_getElem? (i := 19) rfl)) (xin_57 _ (List.mem_of_getElem? (i := 20) rfl)) xy_J5_isLatin1_aae02 (by omega) (by omega) 0 rfl rfl (Nat.le_of_ble_eq_true rfl) k_latin (by omega) (by omega) rfl (fun rv w9 hw9 => ?_)
  obtain ⟨rfl, rfl⟩ := hw9
  refine y_ifeq1 C 37 dJ5_append_c97b9_21 (by decide) ?_
  refine y_iload C 3 dJ5_append_c97b9_24 rfl rfl ?_
  refine y_iload C 0 dJ5_append_c97b9_25 rfl rfl ?_
  refine y_aload C 2 dJ5_append_c97b9_26 rfl rfl ?_
  refine t_getJ C 0 dJ5_append_c97b9_27 yj_15 rfl rfl ?_
  refine t_callS (wa := [(t0, .inr (1, [.ref t2, .int 0, .int ml, .int (Int32.ofInt (n : Int))]))]) (av := [.int (Int32.ofInt (N9 : Int)), .int (Int32.ofInt ((n + c : Nat) : Int)), .ref t2]) C hG dJ5_append_c97b9_30 (xin_61 _ (List.mem_of_getElem? (i := 18) rfl)) (xin_61 _ (List.mem_of_getElem? (i := 19) rfl)) xy_J6_getChars_ba4f3 (by omega) (by omega) rfl (Nat.le_of_ble_eq_true rfl) (k_chars (t1 := t2) (cap := c2) (f := f2) (e := n + c) hN hL ⟨by omega, e1, e3⟩ e5) (by omega) (by omega) rfl (fun rv w9 hw9 => ?_)
  obtain ⟨rfl, g, rfl, g1, g2, g3⟩ := hw9
  refine t_pop C dJ5_append_c97b9_33 rfl ?_
  refine y_goto C 48 dJ5_append_c97b9_34 (by decide) ?_
  refine y_aload C 2 dJ5_append_c97b9_48 rfl rfl ?_
  refine y_iload C 0 dJ5_append_c97b9_49 rfl rfl ?_
  refine y_putJ C dJ5_append_c97b9_50 yj_79 rfl rfl (Nat.le_of_ble_eq_true rfl) ?_
  refine y_aload C 2 dJ5_append_c97b9_53 rfl rfl ?_
  refine t_aret hR dJ5_append_c97b9_54 (by omega) (by omega) ⟨rfl, t2, c2, g, rfl, e1, e3, g1, fun j hj => ?_, fun i hi => ?_⟩
  · rw [g2 j (Or.inl (by omega)), e4 j (by omega)]
  · rw [← g3 (c - 1 - i) (by omega)]; congr 1; omega
theorem dJ4_append_bf812_0 : decode cJ4_append_bf812 0 = .ok (.aload_n 0, 1) := by decide +kernel
theorem dJ4_append_bf812_1 : decode cJ4_append_bf812 1 = .ok (.iload_n 1, 1) := by decide +kernel
theorem dJ4_append_bf812_2 : decode cJ4_append_bf812 2 = .ok (.invokespecial 53, 3) := by decide +kernel
theorem dJ4_append_bf812_5 : decode cJ4_append_bf812 5 = .ok (.pop, 1) := by decide +kernel
theorem dJ4_append_bf812_6 : decode cJ4_append_bf812 6 = .ok (.aload_n 0, 1) := by decide +kernel
theorem dJ4_append_bf812_7 : decode cJ4_append_bf812 7 = .ok (.areturn, 1) := by decide +kernel
theorem xy_J5_append_c97b9 : xY yJ5_append_c97b9 cJ5_append_c97b9 4 (some (.object "java/lang/AbstractStringBuilder")) 1 := ⟨(xin_61 _ (List.mem_of_getElem? (i := 13) rfl)), (xin_6 _ (List.mem_of_getElem? (i := 23) rfl)), by decide +kernel, by decide +kernel, by decide +kernel⟩
set_option maxRecDepth 100000 in
set_option maxHeartbeats 4000000 in
theorem k_appI {l : Launch} {dA : Nat → ClassId} {ad : Nat → Nat} {t0 t1 cap n : Nat} {ml : Int32} {f : Nat → Int32} {N9 c : Nat} (hN : N9 ≤ 1000000000) (hL : isL N9 c) (hn : n ≤ cap) (hn6 : n + c ≤ 60) (hc : cap ≤ 500) (hf : ∀ j, (f j).toInt8.toInt32 = f j) : tMet l yJ4_append_bf812 cJ4_append_bf812 2 (some (.object "java/lang/StringBuilder")) 5 1 120 [.ref t0, .int (Int32.ofInt (N9 : Int))] dA ad (tB dA t0 t1 cap n ml f) (fun r w => r = some (.ref t0) ∧ ∃ (t2 c2 : Nat) (f2 : Nat → Int32), w = tB dA t0 t2 c2 (n + c) ml f2 ∧ n + c ≤ c2 ∧ c2 ≤ 500 ∧ (∀ j, (f2 j).toInt8.toInt32 = f2 j) ∧ (∀ j, j < n → f2 j = f j) ∧ ∀ i, i < c → f2 (n + i) = Int32.ofInt (dgt N9 (c - 1 - i))) := by
  refine tMet_a (Or.inl ⟨_, rfl⟩) (Or.inl (by decide +kernel)) (Nat.le_of_ble_eq_true rfl) (fun Γ C hG hsa hda hR hl9 => ?_)
  subst hl9; subst hda; subst hsa
  refine y_aload C 0 dJ4_append_bf812_0 rfl rfl ?_
  refine y_iload C 1 dJ4_append_bf812_1 rfl rfl ?_
  refine t_callSU (wa := []) (av := [.int (Int32.ofInt (N9 : Int))]) C hG dJ4_append_bf812_2 (xin_61 _ (List.mem_of_getElem? (i := 10) rfl)) (xin_61 _ (List.mem_of_getElem? (i := 11) rfl)) (xin_56 _ (List.mem_of_getElem? (i := 2) rfl)) (xin_61 _ (List.mem_of_getElem? (i := 12) rfl)) (xin_2 _ (List.mem_of_getElem? (i := 18) rfl)) (by decide) xy_J5_append_c97b9 (by omega) (by omega) 0 rfl rfl (Nat.le_of_ble_eq_true rfl) (k_appI5 hN hL hn hn6 hc hf) (by omega) (by omega) rfl (fun rv w9 hw9 => ?_)
  obtain ⟨rfl, t2, c2, f2, rfl, e1, e2, e3, e4, e5⟩ := hw9
  refine t_pop C dJ4_append_bf812_5 rfl ?_
  refine y_aload C 0 dJ4_append_bf812_6 rfl rfl ?_
  exact t_aret hR dJ4_append_bf812_7 (by omega) (by omega) ⟨rfl, t2, c2, f2, rfl, e1, e2, e3, e4, e5⟩
theorem dJ5_setLength_d00df_0 : decode cJ5_setLength_d00df 0 = .ok (.iload_n 1, 1) := by decide +kernel
theorem dJ5_setLength_d00df_1 : decode cJ5_setLength_d00df 1 = .ok (.ifCond .ge 12, 3) := by decide +kernel
theorem dJ5_setLength_d00df_4 : decode cJ5_setLength_d00df 4 = .ok (.new 129, 3) := by decide +kernel
theorem dJ5_setLength_d00df_7 : decode cJ5_setLength_d00df 7 = .ok (.dup, 1) := by decide +kernel
theorem dJ5_setLength_d00df_8 : decode cJ5_setLength_d00df 8 = .ok (.iload_n 1, 1) := by decide +kernel
theorem dJ5_setLength_d00df_9 : decode cJ5_setLength_d00df 9 = .ok (.invokespecial 131, 3) := by decide +kernel
theorem dJ5_setLength_d00df_12 : decode cJ5_setLength_d00df 12 = .ok (.athrow, 1) := by decide +kernel
theorem dJ5_setLength_d00df_13 : decode cJ5_setLength_d00df 13 = .ok (.aload_n 0, 1) := by decide +kernel
theorem dJ5_setLength_d00df_14 : decode cJ5_setLength_d00df 14 = .ok (.iload_n 1, 1) := by decide +kernel
theorem dJ5_setLength_d00df_15 : decode cJ5_setLength_d00df 15 = .ok (.invokevirtual 100, 3) := by decide +kernel
theorem dJ5_setLength_d00df_18 : decode cJ5_setLength_d00df 18 = .ok (.aload_n 0, 1) := by decide +kernel
theorem dJ5_setLength_d00df_19 : decode cJ5_setLength_d00df 19 = .ok (.getfield 79, 3) := by decide +kernel
theorem dJ5_setLength_d00df_22 : decode cJ5_setLength_d00df 22 = .ok (.iload_n 1, 1) := by decide +kernel
theorem dJ5_setLength_d00df_23 : decode cJ5_setLength_d00df 23 = .ok (.if_icmp .ge 40, 3) := by decide +kernel
theorem dJ5_setLength_d00df_26 : decode cJ5_setLength_d00df 26 = .ok (.aload_n 0, 1) := by decide +kernel
theorem dJ5_setLength_d00df_27 : decode cJ5_setLength_d00df 27 = .ok (.invokevirtual 83, 3) := by decide +kernel
theorem dJ5_setLength_d00df_30 : decode cJ5_setLength_d00df 30 = .ok (.ifCond .eq 18, 3) := by decide +kernel
theorem dJ5_setLength_d00df_33 : decode cJ5_setLength_d00df 33 = .ok (.aload_n 0, 1) := by decide +kernel
theorem dJ5_setLength_d00df_34 : decode cJ5_setLength_d00df 34 = .ok (.getfield 15, 3) := by decide +kernel
theorem dJ5_setLength_d00df_37 : decode cJ5_setLength_d00df 37 = .ok (.aload_n 0, 1) := by decide +kernel
theorem dJ5_setLength_d00df_38 : decode cJ5_setLength_d00df 38 = .ok (.getfield 79, 3) := by decide +kernel
theorem dJ5_setLength_d00df_41 : decode cJ5_setLength_d00df 41 = .ok (.iload_n 1, 1) := by decide +kernel
theorem dJ5_setLength_d00df_42 : decode cJ5_setLength_d00df 42 = .ok (.invokestatic 133, 3) := by decide +kernel
theorem dJ5_setLength_d00df_45 : decode cJ5_setLength_d00df 45 = .ok (.goto 31, 3) := by decide +kernel
theorem dJ5_setLength_d00df_48 : decode cJ5_setLength_d00df 48 = .ok (.aload_n 0, 1) := by decide +kernel
theorem dJ5_setLength_d00df_49 : decode cJ5_setLength_d00df 49 = .ok (.getfield 15, 3) := by decide +kernel
theorem dJ5_setLength_d00df_52 : decode cJ5_setLength_d00df 52 = .ok (.aload_n 0, 1) := by decide +kernel
theorem dJ5_setLength_d00df_53 : decode cJ5_setLength_d00df 53 = .ok (.getfield 79, 3) := by decide +kernel
theorem dJ5_setLength_d00df_56 : decode cJ5_setLength_d00df 56 = .ok (.iload_n 1, 1) := by decide +kernel
theorem dJ5_setLength_d00df_57 : decode cJ5_setLength_d00df 57 = .ok (.invokestatic 137, 3) := by decide +kernel
theorem dJ5_setLength_d00df_60 : decode cJ5_setLength_d00df 60 = .ok (.goto 16, 3) := by decide +kernel
theorem dJ5_setLength_d00df_63 : decode cJ5_setLength_d00df 63 = .ok (.aload_n 0, 1) := by decide +kernel
theorem dJ5_setLength_d00df_64 : decode cJ5_setLength_d00df 64 = .ok (.getfield 79, 3) := by decide +kernel
theorem dJ5_setLength_d00df_67 : decode cJ5_setLength_d00df 67 = .ok (.iload_n 1, 1) := by decide +kernel
theorem dJ5_setLength_d00df_68 : decode cJ5_setLength_d00df 68 = .ok (.if_icmp .le 8, 3) := by decide +kernel
theorem dJ5_setLength_d00df_71 : decode cJ5_setLength_d00df 71 = .ok (.aload_n 0, 1) := by decide +kernel
theorem dJ5_setLength_d00df_72 : decode cJ5_setLength_d00df 72 = .ok (.iconst 1, 1) := by decide +kernel
theorem dJ5_setLength_d00df_73 : decode cJ5_setLength_d00df 73 = .ok (.putfield 73, 3) := by decide +kernel
theorem dJ5_setLength_d00df_76 : decode cJ5_setLength_d00df 76 = .ok (.aload_n 0, 1) := by decide +kernel
theorem dJ5_setLength_d00df_77 : decode cJ5_setLength_d00df 77 = .ok (.iload_n 1, 1) := by decide +kernel
theorem dJ5_setLength_d00df_78 : decode cJ5_setLength_d00df 78 = .ok (.putfield 79, 3) := by decide +kernel
theorem dJ5_setLength_d00df_81 : decode cJ5_setLength_d00df 81 = .ok (.return_, 1) := by decide +kernel
theorem yj_73 : yFJ RJ5 73 2 .boolean := ⟨by decide, (xin_56 _ (List.mem_of_getElem? (i := 6) rfl)), rfl, rfl, rfl⟩
set_option maxRecDepth 100000 in
set_option maxHeartbeats 4000000 in
theorem k_setLen5 {l : Launch} {dA : Nat → ClassId} {ad : Nat → Nat} {t0 t1 cap n : Nat} {ml : Int32} {f : Nat → Int32} (hn : n ≤ 60) (hc : cap ≤ 500) (hf : ∀ j, (f j).toInt8.toInt32 = f j) : tMet l yJ5_setLength_d00df cJ5_setLength_d00df 2 none 4 1 120 [.ref t0, .int (Int32.ofInt 0)] dA ad (tB dA t0 t1 cap n ml f) (fun r w => r = none ∧ ∃ (t2 c2 : Nat) (m2 : Int32) (f2 : Nat → Int32), w = tB dA t0 t2 c2 0 m2 f2 ∧ c2 ≤ 500 ∧ ∀ j, (f2 j).toInt8.toInt32 = f2 j) := by
  refine tMet_v (Or.inl (by decide +kernel)) (Nat.le_of_ble_eq_true rfl) (fun Γ C hG hsa hda hR hl9 => ?_)
  subst hl9; subst hda; subst hsa
  refine y_iload C 1 dJ5_setLength_d00df_0 rfl rfl ?_
  refine t_ifge C 13 dJ5_setLength_d00df_1 (by decide) (fun _ => ?_) (fun h9 => absurd (by decide) h9)
  refine y_aload C 0 dJ5_setLength_d00df_13 rfl rfl ?_
  refine y_iload C 1 dJ5_setLength_d00df_14 rfl rfl ?_
  refine t_callU (wa := []) (av := [.int (Int32.ofInt ((0 : Nat) : Int))]) C hG dJ5_setLength_d00df_15 (xin_56 _ (List.mem_of_getElem? (i := 7) rfl)) (xin_56 _ (List.mem_of_getElem? (i := 8) rfl)) (xin_56 _ (List.mem_of_getElem? (i := 9) rfl)) (xin_56 _ (List.mem_of_getElem? (i := 10) rfl)) xy_J5_ensureCapacityInternal_d00df (by omega) (by omega) 0 rfl rfl (Nat.le_of_ble_eq_true rfl) (k_ens (m9 := 0) (by omega) hc hf) (by omega) (by omega) rfl (fun rv w9 hw9 => ?_)
  obtain ⟨rfl, t2, c2, f2, rfl, e1, e2, e3, e4, e5⟩ := hw9
  refine y_aload C 0 dJ5_setLength_d00df_18 rfl rfl ?_
  refine t_getJ C 0 dJ5_setLength_d00df_19 yj_79 rfl rfl ?_
  refine y_iload C 1 dJ5_setLength_d00df_22 rfl rfl ?_
  refine t_icmpge C 63 dJ5_setLength_d00df_23 (by decide) (fun _ => ?_) (fun h9 => absurd ?_ h9)
  rotate_left
  · rw [b_xw (by omega), b_xw (by omega)]; omega
  refine y_aload C 0 dJ5_setLength_d00df_63 rfl rfl ?_
  refine t_getJ C 0 dJ5_setLength_d00df_64 yj_79 rfl rfl ?_
  refine y_iload C 1 dJ5_setLength_d00df_67 rfl rfl ?_
  refine t_icmple C 76 dJ5_setLength_d00df_68 (by decide) (fun _ => ?_) (fun _ => ?_)
  · skip
    refine y_aload C 0 dJ5_setLength_d00df_76 rfl rfl ?_
    refine y_iload C 1 dJ5_setLength_d00df_77 rfl rfl ?_
    refine y_putJ C dJ5_setLength_d00df_78 yj_79 rfl rfl (Nat.le_of_ble_eq_true rfl) ?_
    exact t_ret hR dJ5_setLength_d00df_81 (by omega) (by omega) ⟨rfl, t2, c2, ml, f2, rfl, e3, e5⟩
  · skip
    refine y_aload C 0 dJ5_setLength_d00df_71 rfl rfl ?_
    refine y_iconst (v := Int32.ofInt (1)) C dJ5_setLength_d00df_72 rfl ?_
    refine y_putJ C dJ5_setLength_d00df_73 yj_73 rfl rfl (Nat.le_of_ble_eq_true rfl) ?_
    refine y_aload C 0 dJ5_setLength_d00df_76 rfl rfl ?_
    refine y_iload C 1 dJ5_setLength_d00df_77 rfl rfl ?_
    refine y_putJ C dJ5_setLength_d00df_78 yj_79 rfl rfl (Nat.le_of_ble_eq_true rfl) ?_
    exact t_ret hR dJ5_setLength_d00df_81 (by omega) (by omega) ⟨rfl, t2, c2, _, f2, rfl, e3, e5⟩
theorem dJ4_setLength_d00df_0 : decode cJ4_setLength_d00df 0 = .ok (.aload_n 0, 1) := by decide +kernel
theorem dJ4_setLength_d00df_1 : decode cJ4_setLength_d00df 1 = .ok (.iload_n 1, 1) := by decide +kernel
theorem dJ4_setLength_d00df_2 : decode cJ4_setLength_d00df 2 = .ok (.invokespecial 333, 3) := by decide +kernel
theorem dJ4_setLength_d00df_5 : decode cJ4_setLength_d00df 5 = .ok (.return_, 1) := by decide +kernel
theorem xy_J5_setLength_d00df : xY yJ5_setLength_d00df cJ5_setLength_d00df 2 none 1 := ⟨(xin_56 _ (List.mem_of_getElem? (i := 4) rfl)), (xin_6 _ (List.mem_of_getElem? (i := 23) rfl)), by decide +kernel, by decide +kernel, by decide +kernel⟩
set_option maxRecDepth 100000 in
set_option maxHeartbeats 4000000 in
theorem k_setLen {l : Launch} {dA : Nat → ClassId} {ad : Nat → Nat} {t0 t1 cap n : Nat} {ml : Int32} {f : Nat → Int32} (hn : n ≤ 60) (hc : cap ≤ 500) (hf : ∀ j, (f j).toInt8.toInt32 = f j) : tMet l yJ4_setLength_d00df cJ4_setLength_d00df 2 none 5 1 120 [.ref t0, .int (Int32.ofInt 0)] dA ad (tB dA t0 t1 cap n ml f) (fun r w => r = none ∧ ∃ (t2 c2 : Nat) (m2 : Int32) (f2 : Nat → Int32), w = tB dA t0 t2 c2 0 m2 f2 ∧ c2 ≤ 500 ∧ ∀ j, (f2 j).toInt8.toInt32 = f2 j) := by
  refine tMet_v (Or.inl (by decide +kernel)) (Nat.le_of_ble_eq_true rfl) (fun Γ C hG hsa hda hR hl9 => ?_)
  subst hl9; subst hda; subst hsa
  refine y_aload C 0 dJ4_setLength_d00df_0 rfl rfl ?_
  refine y_iload C 1 dJ4_setLength_d00df_1 rfl rfl ?_
  refine t_callSU (wa := []) (av := [.int (Int32.ofInt 0)]) C hG dJ4_setLength_d00df_2 (xin_56 _ (List.mem_of_getElem? (i := 0) rfl)) (xin_56 _ (List.mem_of_getElem? (i := 1) rfl)) (xin_56 _ (List.mem_of_getElem? (i := 2) rfl)) (xin_56 _ (List.mem_of_getElem? (i := 3) rfl)) (xin_2 _ (List.mem_of_getElem? (i := 18) rfl)) (by decide) xy_J5_setLength_d00df (by omega) (by omega) 0 rfl rfl (Nat.le_of_ble_eq_true rfl) (k_setLen5 hn hc hf) (by omega) (by omega) rfl (fun rv w9 hw9 => ?_)
  obtain ⟨rfl, t2, c2, m2, f2, rfl, e1, e2⟩ := hw9
  exact t_ret hR dJ4_setLength_d00df_5 (by omega) (by omega) ⟨rfl, t2, c2, m2, f2, rfl, e1, e2⟩
theorem dJ5_length_8abf5_0 : decode cJ5_length_8abf5 0 = .ok (.aload_n 0, 1) := by decide +kernel
theorem dJ5_length_8abf5_1 : decode cJ5_length_8abf5 1 = .ok (.getfield 79, 3) := by decide +kernel
theorem dJ5_length_8abf5_4 : decode cJ5_length_8abf5 4 = .ok (.ireturn, 1) := by decide +kernel
set_option maxRecDepth 100000 in
set_option maxHeartbeats 4000000 in
theorem k_len5 {l : Launch} {dA : Nat → ClassId} {ad : Nat → Nat} {t0 t1 cap n : Nat} {ml : Int32} {f : Nat → Int32} : tMet l yJ5_length_8abf5 cJ5_length_8abf5 1 (some .int) 0 0 0 [.ref t0] dA ad (tB dA t0 t1 cap n ml f) (fun r w => r = some (.int (Int32.ofInt (n : Int))) ∧ w = tB dA t0 t1 cap n ml f) := by
  refine tMet_ii (Or.inl (by decide +kernel)) (Nat.le_of_ble_eq_true rfl) (fun Γ C hG hsa hda hR hl9 => ?_)
  subst hl9; subst hda; subst hsa
  refine y_aload C 0 dJ5_length_8abf5_0 rfl rfl ?_
  refine t_getJ C 0 dJ5_length_8abf5_1 yj_79 rfl rfl ?_
  exact t_iret hR dJ5_length_8abf5_4 (by omega) (by omega) ⟨rfl, rfl⟩
theorem dJ4_length_8abf5_0 : decode cJ4_length_8abf5 0 = .ok (.aload_n 0, 1) := by decide +kernel
theorem dJ4_length_8abf5_1 : decode cJ4_length_8abf5 1 = .ok (.invokespecial 343, 3) := by decide +kernel
theorem dJ4_length_8abf5_4 : decode cJ4_length_8abf5 4 = .ok (.ireturn, 1) := by decide +kernel
theorem xy_J5_length_8abf5 : xY yJ5_length_8abf5 cJ5_length_8abf5 1 (some .int) 0 := ⟨(xin_63 _ (List.mem_of_getElem? (i := 8) rfl)), (xin_6 _ (List.mem_of_getElem? (i := 23) rfl)), by decide +kernel, by decide +kernel, by decide +kernel⟩
set_option maxRecDepth 100000 in
set_option maxHeartbeats 4000000 in
theorem k_len {l : Launch} {dA : Nat → ClassId} {ad : Nat → Nat} {t0 t1 cap n : Nat} {ml : Int32} {f : Nat → Int32} : tMet l yJ4_length_8abf5 cJ4_length_8abf5 1 (some .int) 1 0 0 [.ref t0] dA ad (tB dA t0 t1 cap n ml f) (fun r w => r = some (.int (Int32.ofInt (n : Int))) ∧ w = tB dA t0 t1 cap n ml f) := by
  refine tMet_ii (Or.inl (by decide +kernel)) (Nat.le_of_ble_eq_true rfl) (fun Γ C hG hsa hda hR hl9 => ?_)
  subst hl9; subst hda; subst hsa
  refine y_aload C 0 dJ4_length_8abf5_0 rfl rfl ?_
  refine t_callSU (wa := []) (av := []) C hG dJ4_length_8abf5_1 (xin_63 _ (List.mem_of_getElem? (i := 5) rfl)) (xin_63 _ (List.mem_of_getElem? (i := 6) rfl)) (xin_56 _ (List.mem_of_getElem? (i := 2) rfl)) (xin_63 _ (List.mem_of_getElem? (i := 7) rfl)) (xin_2 _ (List.mem_of_getElem? (i := 18) rfl)) (by decide) xy_J5_length_8abf5 (by omega) (by omega) 0 rfl rfl (Nat.le_of_ble_eq_true rfl) k_len5 (by omega) (by omega) rfl (fun rv w9 hw9 => ?_)
  obtain ⟨rfl, rfl⟩ := hw9
  exact t_iret hR dJ4_length_8abf5_4 (by omega) (by omega) ⟨rfl, rfl⟩
theorem ch_tab : ∀ g, g < 127 → ((Int32.ofInt ((g : Nat) : Int) &&& Int32.ofInt 255).toUInt32 % 65536).toInt32 = Int32.ofInt ((g : Nat) : Int) ∧ narrow .char (.int (Int32.ofInt ((g : Nat) : Int))) = .int (Int32.ofInt ((g : Nat) : Int)) := by decide +kernel
theorem dJ5_charAt_5068e_0 : decode cJ5_charAt_5068e 0 = .ok (.aload_n 0, 1) := by decide +kernel
theorem dJ5_charAt_5068e_1 : decode cJ5_charAt_5068e 1 = .ok (.getfield 22, 3) := by decide +kernel
theorem dJ5_charAt_5068e_4 : decode cJ5_charAt_5068e 4 = .ok (.istore_n 2, 1) := by decide +kernel
theorem dJ5_charAt_5068e_5 : decode cJ5_charAt_5068e 5 = .ok (.aload_n 0, 1) := by decide +kernel
theorem dJ5_charAt_5068e_6 : decode cJ5_charAt_5068e 6 = .ok (.getfield 15, 3) := by decide +kernel
theorem dJ5_charAt_5068e_9 : decode cJ5_charAt_5068e 9 = .ok (.astore_n 3, 1) := by decide +kernel
theorem dJ5_charAt_5068e_10 : decode cJ5_charAt_5068e 10 = .ok (.aload_n 0, 1) := by decide +kernel
theorem dJ5_charAt_5068e_11 : decode cJ5_charAt_5068e 11 = .ok (.getfield 79, 3) := by decide +kernel
theorem dJ5_charAt_5068e_14 : decode cJ5_charAt_5068e 14 = .ok (.aload_n 3, 1) := by decide +kernel
theorem dJ5_charAt_5068e_15 : decode cJ5_charAt_5068e 15 = .ok (.arraylength, 1) := by decide +kernel
theorem dJ5_charAt_5068e_16 : decode cJ5_charAt_5068e 16 = .ok (.iload_n 2, 1) := by decide +kernel
theorem dJ5_charAt_5068e_17 : decode cJ5_charAt_5068e 17 = .ok (.ishr, 1) := by decide +kernel
theorem dJ5_charAt_5068e_18 : decode cJ5_charAt_5068e 18 = .ok (.invokestatic 138, 3) := by decide +kernel
theorem dJ5_charAt_5068e_21 : decode cJ5_charAt_5068e 21 = .ok (.istore 4, 2) := by decide +kernel
theorem dJ5_charAt_5068e_23 : decode cJ5_charAt_5068e 23 = .ok (.iload_n 1, 1) := by decide +kernel
theorem dJ5_charAt_5068e_24 : decode cJ5_charAt_5068e 24 = .ok (.iload 4, 2) := by decide +kernel
theorem dJ5_charAt_5068e_26 : decode cJ5_charAt_5068e 26 = .ok (.invokestatic 144, 3) := by decide +kernel
theorem dJ5_charAt_5068e_29 : decode cJ5_charAt_5068e 29 = .ok (.iload_n 2, 1) := by decide +kernel
theorem dJ5_charAt_5068e_30 : decode cJ5_charAt_5068e 30 = .ok (.ifCond .ne 12, 3) := by decide +kernel
theorem dJ5_charAt_5068e_33 : decode cJ5_charAt_5068e 33 = .ok (.aload_n 3, 1) := by decide +kernel
theorem dJ5_charAt_5068e_34 : decode cJ5_charAt_5068e 34 = .ok (.iload_n 1, 1) := by decide +kernel
theorem dJ5_charAt_5068e_35 : decode cJ5_charAt_5068e 35 = .ok (.baload, 1) := by decide +kernel
theorem dJ5_charAt_5068e_36 : decode cJ5_charAt_5068e 36 = .ok (.sipush 255, 3) := by decide +kernel
theorem dJ5_charAt_5068e_39 : decode cJ5_charAt_5068e 39 = .ok (.iand, 1) := by decide +kernel
theorem dJ5_charAt_5068e_40 : decode cJ5_charAt_5068e 40 = .ok (.i2c, 1) := by decide +kernel
theorem dJ5_charAt_5068e_41 : decode cJ5_charAt_5068e 41 = .ok (.ireturn, 1) := by decide +kernel
theorem dJ5_charAt_5068e_42 : decode cJ5_charAt_5068e 42 = .ok (.aload_n 3, 1) := by decide +kernel
theorem dJ5_charAt_5068e_43 : decode cJ5_charAt_5068e 43 = .ok (.iload_n 1, 1) := by decide +kernel
theorem dJ5_charAt_5068e_44 : decode cJ5_charAt_5068e 44 = .ok (.invokestatic 148, 3) := by decide +kernel
theorem dJ5_charAt_5068e_47 : decode cJ5_charAt_5068e 47 = .ok (.ireturn, 1) := by decide +kernel
set_option maxRecDepth 100000 in
set_option maxHeartbeats 4000000 in
theorem k_charAt5 {l : Launch} {dA : Nat → ClassId} {ad : Nat → Nat} {t0 t1 cap n : Nat} {ml : Int32} {f : Nat → Int32} {k9 g : Nat} (hk9 : k9 < n) (hn : n ≤ cap) (hc : cap ≤ 500) (hg : g < 127) (hfg : f k9 = Int32.ofInt ((g : Nat) : Int)) : tMet l yJ5_charAt_5068e cJ5_charAt_5068e 5 (some .char) 2 0 0 [.ref t0, .int (Int32.ofInt (k9 : Int))] dA ad (tB dA t0 t1 cap n ml f) (fun r w => r = some (.int (Int32.ofInt ((g : Nat) : Int))) ∧ w = tB dA t0 t1 cap n ml f) := by
  refine tMet_i .char ?_ (Or.inl (by decide +kernel)) (Nat.le_of_ble_eq_true rfl) (fun Γ C hG hsa hda hR hl9 => ?_)
  · intro r w hr
    have := hr.1
    injection this with h1; injection h1 with h2
    rw [h2]; exact (ch_tab g hg).2
  subst hl9; subst hda; subst hsa
  refine y_aload C 0 dJ5_charAt_5068e_0 rfl rfl ?_
  refine t_getJ C 0 dJ5_charAt_5068e_1 yj_22 rfl rfl ?_
  refine y_istore C dJ5_charAt_5068e_4 rfl (by omega) rfl ?_
  refine y_aload C 1 dJ5_charAt_5068e_5 rfl rfl ?_
  refine t_getJ C 0 dJ5_charAt_5068e_6 yj_15 rfl rfl ?_
  refine y_astoren C dJ5_charAt_5068e_9 rfl (by omega) rfl ?_
  refine y_aload C 2 dJ5_charAt_5068e_10 rfl rfl ?_
  refine t_getJ C 0 dJ5_charAt_5068e_11 yj_79 rfl rfl ?_
  refine y_aload C 0 dJ5_charAt_5068e_14 rfl rfl ?_
  refine t_alenB C 1 dJ5_charAt_5068e_15 rfl (b_of _).symm ?_
  refine y_iload C 1 dJ5_charAt_5068e_16 rfl rfl ?_
  refine t_ishr0 C dJ5_charAt_5068e_17 ?_
  refine t_min C dJ5_charAt_5068e_18 (xin_64 _ (List.mem_of_getElem? (i := 14) rfl)) (xin_11 _ (List.mem_of_getElem? (i := 10) rfl)) (xin_11 _ (List.mem_of_getElem? (i := 11) rfl)) (xin_11 _ (List.mem_of_getElem? (i := 12) rfl)) (by omega) (Nat.le_of_ble_eq_true rfl) (by omega) (by omega) ?_
  rw [show (if xw (cap : Int) < xw (n : Int) then (cap : Int) else (n : Int)) = (n : Int) from if_neg (by rw [b_xw (by omega), b_xw (by omega)]; omega)]
  refine y_istorew C dJ5_charAt_5068e_21 (by omega) rfl ?_
  refine y_iload C 4 dJ5_charAt_5068e_23 rfl rfl ?_
  refine y_iloadw C 0 dJ5_charAt_5068e_24 rfl ?_
  refine t_callSx (a := [.inl (k9 : Int), .inl (n : Int)]) (m := fun _ _ => 0) C dJ5_charAt_5068e_26 (xin_64 _ (List.mem_of_getElem? (i := 15) rfl)) (xin_13 _ (List.mem_of_getElem? (i := 19) rfl)) xyJ0_check (by omega) (by omega) rfl (Nat.le_of_ble_eq_true rfl) (c_s1 _ [] _ (by rw [b_xw (by omega)]; omega) (by rw [b_xw (by omega), b_xw (by omega)]; omega)) (by omega) (by omega) rfl ?_
  refine y_iload C 2 dJ5_charAt_5068e_29 rfl rfl ?_
  refine y_ifne0 C 42 dJ5_charAt_5068e_30 (by decide) ?_
  refine y_aload C 1 dJ5_charAt_5068e_33 rfl rfl ?_
  refine y_iload C 4 dJ5_charAt_5068e_34 rfl rfl ?_
  refine t_baldB (j := k9) C 1 dJ5_charAt_5068e_35 rfl (xib_in (b_ib (by omega))) (by show (xw (k9 : Int)).toNat = k9; rw [b_xw (by omega)]; exact Int.toNat_natCast _) ?_
  rw [hfg]
  refine y_sipush (v := Int32.ofInt (255)) C dJ5_charAt_5068e_36 (by decide) ?_
  refine y_iand C dJ5_charAt_5068e_39 ?_
  refine tz_i2c C dJ5_charAt_5068e_40 (ch_tab g hg).1 ?_
  exact t_iret hR dJ5_charAt_5068e_41 (by omega) (by omega) ⟨rfl, rfl⟩
theorem dJ4_charAt_5068e_0 : decode cJ4_charAt_5068e 0 = .ok (.aload_n 0, 1) := by decide +kernel
theorem dJ4_charAt_5068e_1 : decode cJ4_charAt_5068e 1 = .ok (.iload_n 1, 1) := by decide +kernel
theorem dJ4_charAt_5068e_2 : decode cJ4_charAt_5068e 2 = .ok (.invokespecial 329, 3) := by decide +kernel
theorem dJ4_charAt_5068e_5 : decode cJ4_charAt_5068e 5 = .ok (.ireturn, 1) := by decide +kernel
theorem xy_J5_charAt_5068e : xY yJ5_charAt_5068e cJ5_charAt_5068e 5 (some .char) 1 := ⟨(xin_64 _ (List.mem_of_getElem? (i := 13) rfl)), (xin_6 _ (List.mem_of_getElem? (i := 23) rfl)), by decide +kernel, by decide +kernel, by decide +kernel⟩
set_option maxRecDepth 100000 in
set_option maxHeartbeats 4000000 in
theorem k_charAt {l : Launch} {dA : Nat → ClassId} {ad : Nat → Nat} {t0 t1 cap n : Nat} {ml : Int32} {f : Nat → Int32} {k9 g : Nat} (hk9 : k9 < n) (hn : n ≤ cap) (hc : cap ≤ 500) (hg : g < 127) (hfg : f k9 = Int32.ofInt ((g : Nat) : Int)) : tMet l yJ4_charAt_5068e cJ4_charAt_5068e 2 (some .char) 3 0 0 [.ref t0, .int (Int32.ofInt (k9 : Int))] dA ad (tB dA t0 t1 cap n ml f) (fun r w => r = some (.int (Int32.ofInt ((g : Nat) : Int))) ∧ w = tB dA t0 t1 cap n ml f) := by
  refine tMet_i .char ?_ (Or.inl (by decide +kernel)) (Nat.le_of_ble_eq_true rfl) (fun Γ C hG hsa hda hR hl9 => ?_)
  · intro r w hr
    have := hr.1
    injection this with h1; injection h1 with h2
    rw [h2]; exact (ch_tab g hg).2
  subst hl9; subst hda; subst hsa
  refine y_aload C 0 dJ4_charAt_5068e_0 rfl rfl ?_
  refine y_iload C 1 dJ4_charAt_5068e_1 rfl rfl ?_
  refine t_callSU (wa := []) (av := [.int (Int32.ofInt (k9 : Int))]) C hG dJ4_charAt_5068e_2 (xin_64 _ (List.mem_of_getElem? (i := 10) rfl)) (xin_64 _ (List.mem_of_getElem? (i := 11) rfl)) (xin_56 _ (List.mem_of_getElem? (i := 2) rfl)) (xin_64 _ (List.mem_of_getElem? (i := 12) rfl)) (xin_2 _ (List.mem_of_getElem? (i := 18) rfl)) (by decide) xy_J5_charAt_5068e (by omega) (by omega) 0 rfl rfl (Nat.le_of_ble_eq_true rfl) (k_charAt5 hk9 hn hc hg hfg) (by omega) (by omega) rfl (fun rv w9 hw9 => ?_)
  obtain ⟨rfl, rfl⟩ := hw9
  exact t_iret hR dJ4_charAt_5068e_5 (by omega) (by omega) ⟨rfl, rfl⟩

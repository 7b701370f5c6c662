/-! ===== texts: a word, a letter put behind ===== -/
theorem dJ0_getBytes_840e7_0 : decode cJ0_getBytes_840e7 0 = .ok (.aload_n 0, 1) := by decide +kernel
theorem dJ0_getBytes_840e7_1 : decode cJ0_getBytes_840e7 1 = .ok (.invokevirtual 335, 3) := by decide +kernel
theorem dJ0_getBytes_840e7_4 : decode cJ0_getBytes_840e7 4 = .ok (.iload_n 3, 1) := by decide +kernel
theorem dJ0_getBytes_840e7_5 : decode cJ0_getBytes_840e7 5 = .ok (.if_icmp .ne 23, 3) := by decide +kernel
theorem dJ0_getBytes_840e7_8 : decode cJ0_getBytes_840e7 8 = .ok (.aload_n 0, 1) := by decide +kernel
theorem dJ0_getBytes_840e7_9 : decode cJ0_getBytes_840e7 9 = .ok (.getfield 9, 3) := by decide +kernel
theorem dJ0_getBytes_840e7_12 : decode cJ0_getBytes_840e7 12 = .ok (.iconst 0, 1) := by decide +kernel
theorem dJ0_getBytes_840e7_13 : decode cJ0_getBytes_840e7 13 = .ok (.aload_n 1, 1) := by decide +kernel
theorem dJ0_getBytes_840e7_14 : decode cJ0_getBytes_840e7 14 = .ok (.iload_n 2, 1) := by decide +kernel
theorem dJ0_getBytes_840e7_15 : decode cJ0_getBytes_840e7 15 = .ok (.iload_n 3, 1) := by decide +kernel
theorem dJ0_getBytes_840e7_16 : decode cJ0_getBytes_840e7 16 = .ok (.ishl, 1) := by decide +kernel
theorem dJ0_getBytes_840e7_17 : decode cJ0_getBytes_840e7 17 = .ok (.aload_n 0, 1) := by decide +kernel
theorem dJ0_getBytes_840e7_18 : decode cJ0_getBytes_840e7 18 = .ok (.getfield 9, 3) := by decide +kernel
theorem dJ0_getBytes_840e7_21 : decode cJ0_getBytes_840e7 21 = .ok (.arraylength, 1) := by decide +kernel
theorem dJ0_getBytes_840e7_22 : decode cJ0_getBytes_840e7 22 = .ok (.invokestatic 212, 3) := by decide +kernel
theorem dJ0_getBytes_840e7_25 : decode cJ0_getBytes_840e7 25 = .ok (.goto 18, 3) := by decide +kernel
theorem dJ0_getBytes_840e7_28 : decode cJ0_getBytes_840e7 28 = .ok (.aload_n 0, 1) := by decide +kernel
theorem dJ0_getBytes_840e7_29 : decode cJ0_getBytes_840e7 29 = .ok (.getfield 9, 3) := by decide +kernel
theorem dJ0_getBytes_840e7_32 : decode cJ0_getBytes_840e7 32 = .ok (.iconst 0, 1) := by decide +kernel
theorem dJ0_getBytes_840e7_33 : decode cJ0_getBytes_840e7 33 = .ok (.aload_n 1, 1) := by decide +kernel
theorem dJ0_getBytes_840e7_34 : decode cJ0_getBytes_840e7 34 = .ok (.iload_n 2, 1) := by decide +kernel
theorem dJ0_getBytes_840e7_35 : decode cJ0_getBytes_840e7 35 = .ok (.aload_n 0, 1) := by decide +kernel
theorem dJ0_getBytes_840e7_36 : decode cJ0_getBytes_840e7 36 = .ok (.getfield 9, 3) := by decide +kernel
theorem dJ0_getBytes_840e7_39 : decode cJ0_getBytes_840e7 39 = .ok (.arraylength, 1) := by decide +kernel
theorem dJ0_getBytes_840e7_40 : decode cJ0_getBytes_840e7 40 = .ok (.invokestatic 106, 3) := by decide +kernel
theorem dJ0_getBytes_840e7_43 : decode cJ0_getBytes_840e7 43 = .ok (.return_, 1) := by decide +kernel
theorem xy_J0_coder_7d493 : xY yJ0_coder_7d493 cJ0_coder_7d493 1 (some .byte) 0 := ⟨(xin_13 _ (List.mem_of_getElem? (i := 3) rfl)), (xin_12 _ (List.mem_of_getElem? (i := 21) rfl)), by decide +kernel, by decide +kernel, by decide +kernel⟩
set_option maxRecDepth 100000 in
set_option maxHeartbeats 4000000 in
theorem k_getBytes {l : Launch} {dA : Nat → ClassId} {ad : Nat → Nat} {t1 cap n i : Nat} {f : Nat → Int32} (hi : i < 26) (hn : n + (xSby.getD i []).length ≤ cap) (hc : cap ≤ 500) : tMet l yJ0_getBytes_840e7 cJ0_getBytes_840e7 4 none 1 0 0 [.ref (ad (1000 + i)), .ref t1, .int (Int32.ofInt (n : Int)), .int 0] dA ad ([(t1, .inl (dA 4, cap, .inl f))]) (fun r w => r = none ∧ w = [(t1, .inl (dA 4, cap, .inl (va_cpy (fun j => (xSby.getD i []).getD j 0) f 0 n (xSby.getD i []).length)))]) := by
  refine tMet_v (Or.inl (by decide +kernel)) (Nat.le_of_ble_eq_true rfl) (fun Γ C hG hsa hda hR hl9 => ?_)
  subst hl9; subst hda; subst hsa
  refine y_aload C 0 dJ0_getBytes_840e7_0 rfl rfl ?_
  refine t_callKx (i := i) (a := []) (m := fun _ _ => 0) C hi rfl dJ0_getBytes_840e7_1 (xin_13 _ (List.mem_of_getElem? (i := 0) rfl)) (xin_13 _ (List.mem_of_getElem? (i := 2) rfl)) (xin_13 _ (List.mem_of_getElem? (i := 1) rfl)) xy_J0_coder_7d493 (by omega) (by omega) rfl (Nat.le_of_ble_eq_true rfl) (c_s5 _ [] _ i hi) (by omega) (by omega) rfl ?_
  refine y_iload C 3 dJ0_getBytes_840e7_4 rfl rfl ?_
  refine t_icmpne (x := 0) (y := 0) C 28 dJ0_getBytes_840e7_5 (by decide) (fun h9 => absurd rfl h9) (fun _ => ?_)
  refine y_aload C 0 dJ0_getBytes_840e7_8 rfl rfl ?_
  refine t_sval C i hi dJ0_getBytes_840e7_9 (xin_12 _ (List.mem_of_getElem? (i := 23) rfl)) ?_
  refine y_iconst (v := 0) C dJ0_getBytes_840e7_12 (by decide) ?_
  refine y_aload C 1 dJ0_getBytes_840e7_13 rfl rfl ?_
  refine y_iload C 2 dJ0_getBytes_840e7_14 rfl rfl ?_
  refine y_iload C 3 dJ0_getBytes_840e7_15 rfl rfl ?_
  refine t_ishl0 C dJ0_getBytes_840e7_16 ?_
  refine y_aload C 0 dJ0_getBytes_840e7_17 rfl rfl ?_
  refine t_sval C i hi dJ0_getBytes_840e7_18 (xin_12 _ (List.mem_of_getElem? (i := 23) rfl)) ?_
  refine t_salen C i hi dJ0_getBytes_840e7_21 ?_
  refine t_copyT (t := n) C i hi 0 dJ0_getBytes_840e7_22 (xin_61 _ (List.mem_of_getElem? (i := 4) rfl)) (xin_18 _ (List.mem_of_getElem? (i := 9) rfl)) (xin_18 _ (List.mem_of_getElem? (i := 10) rfl)) (xin_18 _ (List.mem_of_getElem? (i := 11) rfl)) rfl hn (by omega) (by omega) (Nat.le_of_ble_eq_true rfl) ?_
  refine y_goto C 43 dJ0_getBytes_840e7_25 (by decide) ?_
  exact t_ret hR dJ0_getBytes_840e7_43 (by omega) (by omega) ⟨rfl, rfl⟩
theorem dJ5_inflateIfNeededFor_a7421_0 : decode cJ5_inflateIfNeededFor_a7421 0 = .ok (.getstatic 18, 3) := by decide +kernel
theorem dJ5_inflateIfNeededFor_a7421_3 : decode cJ5_inflateIfNeededFor_a7421 3 = .ok (.ifCond .eq 18, 3) := by decide +kernel
theorem dJ5_inflateIfNeededFor_a7421_6 : decode cJ5_inflateIfNeededFor_a7421 6 = .ok (.aload_n 0, 1) := by decide +kernel
theorem dJ5_inflateIfNeededFor_a7421_7 : decode cJ5_inflateIfNeededFor_a7421 7 = .ok (.getfield 22, 3) := by decide +kernel
theorem dJ5_inflateIfNeededFor_a7421_10 : decode cJ5_inflateIfNeededFor_a7421 10 = .ok (.aload_n 1, 1) := by decide +kernel
theorem dJ5_inflateIfNeededFor_a7421_11 : decode cJ5_inflateIfNeededFor_a7421 11 = .ok (.invokevirtual 40, 3) := by decide +kernel
theorem dJ5_inflateIfNeededFor_a7421_14 : decode cJ5_inflateIfNeededFor_a7421 14 = .ok (.if_icmp .eq 7, 3) := by decide +kernel
theorem dJ5_inflateIfNeededFor_a7421_17 : decode cJ5_inflateIfNeededFor_a7421 17 = .ok (.aload_n 0, 1) := by decide +kernel
theorem dJ5_inflateIfNeededFor_a7421_18 : decode cJ5_inflateIfNeededFor_a7421 18 = .ok (.invokevirtual 195, 3) := by decide +kernel
theorem dJ5_inflateIfNeededFor_a7421_21 : decode cJ5_inflateIfNeededFor_a7421 21 = .ok (.return_, 1) := by decide +kernel
set_option maxRecDepth 100000 in
set_option maxHeartbeats 4000000 in
theorem k_inflIf {l : Launch} {dA : Nat → ClassId} {ad : Nat → Nat} {t0 t1 cap n i : Nat} {ml : Int32} {f : Nat → Int32} (hi : i < 26) : tMet l yJ5_inflateIfNeededFor_a7421 cJ5_inflateIfNeededFor_a7421 2 none 1 0 0 [.ref t0, .ref (ad (1000 + i))] dA ad (tB dA t0 t1 cap n ml f) (fun r w => r = none ∧ w = tB dA t0 t1 cap n ml f) := by
  refine tMet_v (Or.inl (by decide +kernel)) (Nat.le_of_ble_eq_true rfl) (fun Γ C hG hsa hda hR hl9 => ?_)
  subst hl9; subst hda; subst hsa
  refine y_compact C dJ5_inflateIfNeededFor_a7421_0 (xin_7 _ (List.mem_of_getElem? (i := 2) rfl)) ?_
  refine y_ifeq1 C 21 dJ5_inflateIfNeededFor_a7421_3 (by decide) ?_
  refine y_aload C 0 dJ5_inflateIfNeededFor_a7421_6 rfl rfl ?_
  refine t_getJ C 0 dJ5_inflateIfNeededFor_a7421_7 yj_22 rfl rfl ?_
  refine y_aload C 1 dJ5_inflateIfNeededFor_a7421_10 rfl rfl ?_
  refine t_callKx (i := i) (a := []) (m := fun _ _ => 0) C hi rfl dJ5_inflateIfNeededFor_a7421_11 (xin_60 _ (List.mem_of_getElem? (i := 3) rfl)) (xin_13 _ (List.mem_of_getElem? (i := 2) rfl)) (xin_13 _ (List.mem_of_getElem? (i := 1) rfl)) xy_J0_coder_7d493 (by omega) (by omega) rfl (Nat.le_of_ble_eq_true rfl) (c_s5 _ [] _ i hi) (by omega) (by omega) rfl ?_
  refine t_icmpeq (x := 0) (y := 0) C 21 dJ5_inflateIfNeededFor_a7421_14 (by decide) (fun _ => ?_) (fun h9 => absurd rfl h9)
  exact t_ret hR dJ5_inflateIfNeededFor_a7421_21 (by omega) (by omega) ⟨rfl, rfl⟩
theorem dJ5_putStringAt_47b60_0 : decode cJ5_putStringAt_47b60 0 = .ok (.aload_n 0, 1) := by decide +kernel
theorem dJ5_putStringAt_47b60_1 : decode cJ5_putStringAt_47b60 1 = .ok (.aload_n 2, 1) := by decide +kernel
theorem dJ5_putStringAt_47b60_2 : decode cJ5_putStringAt_47b60 2 = .ok (.invokevirtual 397, 3) := by decide +kernel
theorem dJ5_putStringAt_47b60_5 : decode cJ5_putStringAt_47b60 5 = .ok (.aload_n 2, 1) := by decide +kernel
theorem dJ5_putStringAt_47b60_6 : decode cJ5_putStringAt_47b60 6 = .ok (.aload_n 0, 1) := by decide +kernel
theorem dJ5_putStringAt_47b60_7 : decode cJ5_putStringAt_47b60 7 = .ok (.getfield 15, 3) := by decide +kernel
theorem dJ5_putStringAt_47b60_10 : decode cJ5_putStringAt_47b60 10 = .ok (.iload_n 1, 1) := by decide +kernel
theorem dJ5_putStringAt_47b60_11 : decode cJ5_putStringAt_47b60 11 = .ok (.aload_n 0, 1) := by decide +kernel
theorem dJ5_putStringAt_47b60_12 : decode cJ5_putStringAt_47b60 12 = .ok (.getfield 22, 3) := by decide +kernel
theorem dJ5_putStringAt_47b60_15 : decode cJ5_putStringAt_47b60 15 = .ok (.invokevirtual 399, 3) := by decide +kernel
theorem dJ5_putStringAt_47b60_18 : decode cJ5_putStringAt_47b60 18 = .ok (.return_, 1) := by decide +kernel
theorem xy_J5_inflateIfNeededFor_a7421 : xY yJ5_inflateIfNeededFor_a7421 cJ5_inflateIfNeededFor_a7421 2 none 1 := ⟨(xin_60 _ (List.mem_of_getElem? (i := 2) rfl)), (xin_6 _ (List.mem_of_getElem? (i := 23) rfl)), by decide +kernel, by decide +kernel, by decide +kernel⟩
theorem xy_J0_getBytes_840e7 : xY yJ0_getBytes_840e7 cJ0_getBytes_840e7 4 none 3 := ⟨(xin_61 _ (List.mem_of_getElem? (i := 3) rfl)), (xin_12 _ (List.mem_of_getElem? (i := 21) rfl)), by decide +kernel, by decide +kernel, by decide +kernel⟩
set_option maxRecDepth 100000 in
set_option maxHeartbeats 4000000 in
theorem k_putStr {l : Launch} {dA : Nat → ClassId} {ad : Nat → Nat} {t0 t1 cap n i : Nat} {ml : Int32} {f : Nat → Int32} (hi : i < 26) (hn : n + (xSby.getD i []).length ≤ cap) (hc : cap ≤ 500) : tMet l yJ5_putStringAt_47b60 cJ5_putStringAt_47b60 3 none 2 0 0 [.ref t0, .int (Int32.ofInt (n : Int)), .ref (ad (1000 + i))] dA ad (tB dA t0 t1 cap n ml f) (fun r w => r = none ∧ w = tB dA t0 t1 cap n ml (va_cpy (fun j => (xSby.getD i []).getD j 0) f 0 n (xSby.getD i []).length)) := by
  refine tMet_v (Or.inl (by decide +kernel)) (Nat.le_of_ble_eq_true rfl) (fun Γ C hG hsa hda hR hl9 => ?_)
  subst hl9; subst hda; subst hsa
  refine y_aload C 0 dJ5_putStringAt_47b60_0 rfl rfl ?_
  refine y_aload C 2 dJ5_putStringAt_47b60_1 rfl rfl ?_
  refine t_callU (wa := []) (av := [.ref (ySA Γ (1000 + i))]) C hG dJ5_putStringAt_47b60_2 (xin_59 _ (List.mem_of_getElem? (i := 22) rfl)) (xin_59 _ (List.mem_of_getElem? (i := 23) rfl)) (xin_60 _ (List.mem_of_getElem? (i := 0) rfl)) (xin_60 _ (List.mem_of_getElem? (i := 1) rfl)) xy_J5_inflateIfNeededFor_a7421 (by omega) (by omega) 0 rfl rfl (Nat.le_of_ble_eq_true rfl) (k_inflIf hi) (by omega) (by omega) rfl (fun rv w9 hw9 => ?_)
  obtain ⟨rfl, rfl⟩ := hw9
  refine y_aload C 2 dJ5_putStringAt_47b60_5 rfl rfl ?_
  refine y_aload C 0 dJ5_putStringAt_47b60_6 rfl rfl ?_
  refine t_getJ C 0 dJ5_putStringAt_47b60_7 yj_15 rfl rfl ?_
  refine y_iload C 1 dJ5_putStringAt_47b60_10 rfl rfl ?_
  refine y_aload C 0 dJ5_putStringAt_47b60_11 rfl rfl ?_
  refine t_getJ C 0 dJ5_putStringAt_47b60_12 yj_22 rfl rfl ?_
  refine t_callK (wa := [(t0, .inr (1, [.ref t1, .int 0, .int ml, .int (Int32.ofInt (n : Int))]))]) (av := [.ref t1, .int (Int32.ofInt (n : Int)), .int 0]) C hG hi rfl dJ5_putStringAt_47b60_15 (xin_61 _ (List.mem_of_getElem? (i := 0) rfl)) (xin_61 _ (List.mem_of_getElem? (i := 2) rfl)) (xin_61 _ (List.mem_of_getElem? (i := 1) rfl)) xy_J0_getBytes_840e7 (by omega) (by omega) rfl (Nat.le_of_ble_eq_true rfl) (k_getBytes (t1 := t1) (cap := cap) (n := n) (f := f) hi hn hc) (by omega) (by omega) rfl (fun rv w9 hw9 => ?_)
  obtain ⟨rfl, rfl⟩ := hw9
  exact t_ret hR dJ5_putStringAt_47b60_18 (by omega) (by omega) ⟨rfl, rfl⟩
theorem dJ5_append_cf1ce_0 : decode cJ5_append_cf1ce 0 = .ok (.aload_n 1, 1) := by decide +kernel
theorem dJ5_append_cf1ce_1 : decode cJ5_append_cf1ce 1 = .ok (.ifnonnull 8, 3) := by decide +kernel
theorem dJ5_append_cf1ce_4 : decode cJ5_append_cf1ce 4 = .ok (.aload_n 0, 1) := by decide +kernel
theorem dJ5_append_cf1ce_5 : decode cJ5_append_cf1ce 5 = .ok (.invokevirtual 204, 3) := by decide +kernel
theorem dJ5_append_cf1ce_8 : decode cJ5_append_cf1ce 8 = .ok (.areturn, 1) := by decide +kernel
theorem dJ5_append_cf1ce_9 : decode cJ5_append_cf1ce 9 = .ok (.aload_n 1, 1) := by decide +kernel
theorem dJ5_append_cf1ce_10 : decode cJ5_append_cf1ce 10 = .ok (.invokevirtual 32, 3) := by decide +kernel
theorem dJ5_append_cf1ce_13 : decode cJ5_append_cf1ce 13 = .ok (.istore_n 2, 1) := by decide +kernel
theorem dJ5_append_cf1ce_14 : decode cJ5_append_cf1ce 14 = .ok (.aload_n 0, 1) := by decide +kernel
theorem dJ5_append_cf1ce_15 : decode cJ5_append_cf1ce 15 = .ok (.aload_n 0, 1) := by decide +kernel
theorem dJ5_append_cf1ce_16 : decode cJ5_append_cf1ce 16 = .ok (.getfield 79, 3) := by decide +kernel
theorem dJ5_append_cf1ce_19 : decode cJ5_append_cf1ce 19 = .ok (.iload_n 2, 1) := by decide +kernel
theorem dJ5_append_cf1ce_20 : decode cJ5_append_cf1ce 20 = .ok (.iadd, 1) := by decide +kernel
theorem dJ5_append_cf1ce_21 : decode cJ5_append_cf1ce 21 = .ok (.invokevirtual 100, 3) := by decide +kernel
theorem dJ5_append_cf1ce_24 : decode cJ5_append_cf1ce 24 = .ok (.aload_n 0, 1) := by decide +kernel
theorem dJ5_append_cf1ce_25 : decode cJ5_append_cf1ce 25 = .ok (.aload_n 0, 1) := by decide +kernel
theorem dJ5_append_cf1ce_26 : decode cJ5_append_cf1ce 26 = .ok (.getfield 79, 3) := by decide +kernel
theorem dJ5_append_cf1ce_29 : decode cJ5_append_cf1ce 29 = .ok (.aload_n 1, 1) := by decide +kernel
theorem dJ5_append_cf1ce_30 : decode cJ5_append_cf1ce 30 = .ok (.invokevirtual 208, 3) := by decide +kernel
theorem dJ5_append_cf1ce_33 : decode cJ5_append_cf1ce 33 = .ok (.aload_n 0, 1) := by decide +kernel
theorem dJ5_append_cf1ce_34 : decode cJ5_append_cf1ce 34 = .ok (.dup, 1) := by decide +kernel
theorem dJ5_append_cf1ce_35 : decode cJ5_append_cf1ce 35 = .ok (.getfield 79, 3) := by decide +kernel
theorem dJ5_append_cf1ce_38 : decode cJ5_append_cf1ce 38 = .ok (.iload_n 2, 1) := by decide +kernel
theorem dJ5_append_cf1ce_39 : decode cJ5_append_cf1ce 39 = .ok (.iadd, 1) := by decide +kernel
theorem dJ5_append_cf1ce_40 : decode cJ5_append_cf1ce 40 = .ok (.putfield 79, 3) := by decide +kernel
theorem dJ5_append_cf1ce_43 : decode cJ5_append_cf1ce 43 = .ok (.aload_n 0, 1) := by decide +kernel
theorem dJ5_append_cf1ce_44 : decode cJ5_append_cf1ce 44 = .ok (.areturn, 1) := by decide +kernel
theorem xy_J0_length_8abf5 : xY yJ0_length_8abf5 cJ0_length_8abf5 1 (some .int) 0 := ⟨(xin_12 _ (List.mem_of_getElem? (i := 22) rfl)), (xin_12 _ (List.mem_of_getElem? (i := 21) rfl)), by decide +kernel, by decide +kernel, by decide +kernel⟩
theorem yj_79 : yFJ RJ5 79 3 .int := ⟨by decide, (xin_56 _ (List.mem_of_getElem? (i := 5) rfl)), rfl, rfl, rfl⟩
theorem xy_J5_ensureCapacityInternal_d00df : xY yJ5_ensureCapacityInternal_d00df cJ5_ensureCapacityInternal_d00df 3 none 1 := ⟨(xin_56 _ (List.mem_of_getElem? (i := 11) rfl)), (xin_6 _ (List.mem_of_getElem? (i := 23) rfl)), by decide +kernel, by decide +kernel, by decide +kernel⟩
theorem xy_J5_putStringAt_47b60 : xY yJ5_putStringAt_47b60 cJ5_putStringAt_47b60 3 none 2 := ⟨(xin_59 _ (List.mem_of_getElem? (i := 21) rfl)), (xin_6 _ (List.mem_of_getElem? (i := 23) rfl)), by decide +kernel, by decide +kernel, by decide +kernel⟩
theorem xsby_b : ∀ i, i < 26 → ∀ j, j < (xSby.getD i []).length → ((xSby.getD i []).getD j 0).toInt8.toInt32 = (xSby.getD i []).getD j 0 := by decide +kernel
set_option maxRecDepth 100000 in
set_option maxHeartbeats 4000000 in
theorem k_appS5 {l : Launch} {dA : Nat → ClassId} {ad : Nat → Nat} {t0 t1 cap n i : Nat} {ml : Int32} {f : Nat → Int32} (hi : i < 26) (hn : n ≤ cap) (hn6 : n + (xSby.getD i []).length ≤ 60) (hc : cap ≤ 500) (hf : ∀ j, (f j).toInt8.toInt32 = f j) : tMet l yJ5_append_cf1ce cJ5_append_cf1ce 3 (some (.object "java/lang/AbstractStringBuilder")) 4 1 120 [.ref t0, .ref (ad (1000 + i))] dA ad (tB dA t0 t1 cap n ml f) (fun r w => r = some (.ref t0) ∧ ∃ (t2 c2 : Nat) (f2 : Nat → Int32), w = tB dA t0 t2 c2 (n + (xSby.getD i []).length) ml f2 ∧ n + (xSby.getD i []).length ≤ c2 ∧ c2 ≤ 500 ∧ (∀ j, (f2 j).toInt8.toInt32 = f2 j) ∧ (∀ j, j < n → f2 j = f j) ∧ ∀ j, j < (xSby.getD i []).length → f2 (n + j) = (xSby.getD i []).getD j 0) := by
  refine tMet_a (Or.inl ⟨_, rfl⟩) (Or.inl (by decide +kernel)) (Nat.le_of_ble_eq_true rfl) (fun Γ C hG hsa hda hR hl9 => ?_)
  subst hl9; subst hda; subst hsa
  have hs : (n : Int) + xsl i = ((n + (xSby.getD i []).length : Nat) : Int) := by unfold xsl; omega
  refine y_aload C 1 dJ5_append_cf1ce_0 rfl rfl ?_
  refine t_nonnull C 9 dJ5_append_cf1ce_1 (by decide) ?_
  refine y_aload C 1 dJ5_append_cf1ce_9 rfl rfl ?_
  refine t_callKx (i := i) (a := []) (m := fun _ _ => 0) C hi rfl dJ5_append_cf1ce_10 (xin_59 _ (List.mem_of_getElem? (i := 16) rfl)) (xin_12 _ (List.mem_of_getElem? (i := 20) rfl)) (xin_12 _ (List.mem_of_getElem? (i := 19) rfl)) xy_J0_length_8abf5 (by omega) (by omega) rfl (Nat.le_of_ble_eq_true rfl) (c_s6 _ [] _ i hi) (by omega) (by omega) rfl ?_
  refine y_istore C dJ5_append_cf1ce_13 rfl (by omega) rfl ?_
  refine y_aload C 1 dJ5_append_cf1ce_14 rfl rfl ?_
  refine y_aload C 1 dJ5_append_cf1ce_15 rfl rfl ?_
  refine t_getJ C 0 dJ5_append_cf1ce_16 yj_79 rfl rfl ?_
  refine y_iload C 0 dJ5_append_cf1ce_19 rfl rfl ?_
  refine tz_iadd C dJ5_append_cf1ce_20 ?_
  rw [hs]
  refine t_callU (wa := []) (av := [.int (Int32.ofInt ((n + (xSby.getD i []).length : Nat) : Int))]) C hG dJ5_append_cf1ce_21 (xin_56 _ (List.mem_of_getElem? (i := 7) rfl)) (xin_56 _ (List.mem_of_getElem? (i := 8) rfl)) (xin_56 _ (List.mem_of_getElem? (i := 9) rfl)) (xin_56 _ (List.mem_of_getElem? (i := 10) rfl)) xy_J5_ensureCapacityInternal_d00df (by omega) (by omega) 0 rfl rfl (Nat.le_of_ble_eq_true rfl) (k_ens (m9 := n + (xSby.getD i []).length) hn6 hc hf) (by omega) (by omega) rfl (fun rv w9 hw9 => ?_)
  obtain ⟨rfl, t2, c2, f2, rfl, e1, e2, e3, e4, e5⟩ := hw9
  refine y_aload C 1 dJ5_append_cf1ce_24 rfl rfl ?_
  refine y_aload C 1 dJ5_append_cf1ce_25 rfl rfl ?_
  refine t_getJ C 0 dJ5_append_cf1ce_26 yj_79 rfl rfl ?_
  refine y_aload C 2 dJ5_append_cf1ce_29 rfl rfl ?_
  refine t_callU (wa := []) (av := [.int (Int32.ofInt (n : Int)), .ref (ySA Γ (1000 + i))]) C hG dJ5_append_cf1ce_30 (xin_59 _ (List.mem_of_getElem? (i := 17) rfl)) (xin_59 _ (List.mem_of_getElem? (i := 18) rfl)) (xin_59 _ (List.mem_of_getElem? (i := 19) rfl)) (xin_59 _ (List.mem_of_getElem? (i := 20) rfl)) xy_J5_putStringAt_47b60 (by omega) (by omega) 0 rfl rfl (Nat.le_of_ble_eq_true rfl) (k_putStr (i := i) hi e1 e3) (by omega) (by omega) rfl (fun rv w9 hw9 => ?_)
  obtain ⟨rfl, rfl⟩ := hw9
  refine y_aload C 1 dJ5_append_cf1ce_33 rfl rfl ?_
  refine y_dup C dJ5_append_cf1ce_34 ?_
  refine t_getJ C 0 dJ5_append_cf1ce_35 yj_79 rfl rfl ?_
  refine y_iload C 0 dJ5_append_cf1ce_38 rfl rfl ?_
  refine tz_iadd C dJ5_append_cf1ce_39 ?_
  rw [hs]
  refine y_putJ C dJ5_append_cf1ce_40 yj_79 rfl rfl (Nat.le_of_ble_eq_true rfl) ?_
  refine y_aload C 1 dJ5_append_cf1ce_43 rfl rfl ?_
  refine t_aret hR dJ5_append_cf1ce_44 (by omega) (by omega) ⟨rfl, t2, c2, _, rfl, e1, e3, fun j => ?_, fun j hj => ?_, fun j hj => ?_⟩
  · by_cases g : n ≤ j ∧ j < n + (xSby.getD i []).length
    · rw [pk_cpy_in g.1 g.2]; exact xsby_b i hi _ (by omega)
    · rw [pk_cpy_out (by omega)]; exact e5 j
  · rw [pk_cpy_out (by omega)]; exact e4 j (by omega)
  · rw [pk_cpy_in (by omega) (by omega)]; congr 1; omega
theorem dJ4_append_15ec4_0 : decode cJ4_append_15ec4 0 = .ok (.aload_n 0, 1) := by decide +kernel
theorem dJ4_append_15ec4_1 : decode cJ4_append_15ec4 1 = .ok (.aload_n 1, 1) := by decide +kernel
theorem dJ4_append_15ec4_2 : decode cJ4_append_15ec4 2 = .ok (.invokespecial 29, 3) := by decide +kernel
theorem dJ4_append_15ec4_5 : decode cJ4_append_15ec4 5 = .ok (.pop, 1) := by decide +kernel
theorem dJ4_append_15ec4_6 : decode cJ4_append_15ec4 6 = .ok (.aload_n 0, 1) := by decide +kernel
theorem dJ4_append_15ec4_7 : decode cJ4_append_15ec4 7 = .ok (.areturn, 1) := by decide +kernel
theorem xy_J5_append_cf1ce : xY yJ5_append_cf1ce cJ5_append_cf1ce 3 (some (.object "java/lang/AbstractStringBuilder")) 1 := ⟨(xin_58 _ (List.mem_of_getElem? (i := 19) rfl)), (xin_6 _ (List.mem_of_getElem? (i := 23) rfl)), by decide +kernel, by decide +kernel, by decide +kernel⟩
set_option maxRecDepth 100000 in
set_option maxHeartbeats 4000000 in
theorem k_appS {l : Launch} {dA : Nat → ClassId} {ad : Nat → Nat} {t0 t1 cap n i : Nat} {ml : Int32} {f : Nat → Int32} (hi : i < 26) (hn : n ≤ cap) (hn6 : n + (xSby.getD i []).length ≤ 60) (hc : cap ≤ 500) (hf : ∀ j, (f j).toInt8.toInt32 = f j) : tMet l yJ4_append_15ec4 cJ4_append_15ec4 2 (some (.object "java/lang/StringBuilder")) 5 1 120 [.ref t0, .ref (ad (1000 + i))] dA ad (tB dA t0 t1 cap n ml f) (fun r w => r = some (.ref t0) ∧ ∃ (t2 c2 : Nat) (f2 : Nat → Int32), w = tB dA t0 t2 c2 (n + (xSby.getD i []).length) ml f2 ∧ n + (xSby.getD i []).length ≤ c2 ∧ c2 ≤ 500 ∧ (∀ j, (f2 j).toInt8.toInt32 = f2 j) ∧ (∀ j, j < n → f2 j = f j) ∧ ∀ j, j < (xSby.getD i []).length → f2 (n + j) = (xSby.getD i []).getD j 0) := by
  refine tMet_a (Or.inl ⟨_, rfl⟩) (Or.inl (by decide +kernel)) (Nat.le_of_ble_eq_true rfl) (fun Γ C hG hsa hda hR hl9 => ?_)
  subst hl9; subst hda; subst hsa
  refine y_aload C 0 dJ4_append_15ec4_0 rfl rfl ?_
  refine y_aload C 1 dJ4_append_15ec4_1 rfl rfl ?_
  refine t_callSU (wa := []) (av := [.ref (ySA Γ (1000 + i))]) C hG dJ4_append_15ec4_2 (xin_58 _ (List.mem_of_getElem? (i := 16) rfl)) (xin_58 _ (List.mem_of_getElem? (i := 17) rfl)) (xin_56 _ (List.mem_of_getElem? (i := 2) rfl)) (xin_58 _ (List.mem_of_getElem? (i := 18) rfl)) (xin_2 _ (List.mem_of_getElem? (i := 18) rfl)) (by decide) xy_J5_append_cf1ce (by omega) (by omega) 0 rfl rfl (Nat.le_of_ble_eq_true rfl) (k_appS5 hi hn hn6 hc hf) (by omega) (by omega) rfl (fun rv w9 hw9 => ?_)
  obtain ⟨rfl, t2, c2, f2, rfl, e1, e2, e3, e4, e5⟩ := hw9
  refine t_pop C dJ4_append_15ec4_5 rfl ?_
  refine y_aload C 0 dJ4_append_15ec4_6 rfl rfl ?_
  exact t_aret hR dJ4_append_15ec4_7 (by omega) (by omega) ⟨rfl, t2, c2, f2, rfl, e1, e2, e3, e4, e5⟩
theorem dJ1_canEncode_fc78d_0 : decode cJ1_canEncode_fc78d 0 = .ok (.iload_n 0, 1) := by decide +kernel
theorem dJ1_canEncode_fc78d_1 : decode cJ1_canEncode_fc78d 1 = .ok (.sipush 255, 3) := by decide +kernel
theorem dJ1_canEncode_fc78d_4 : decode cJ1_canEncode_fc78d 4 = .ok (.if_icmp .gt 7, 3) := by decide +kernel
theorem dJ1_canEncode_fc78d_7 : decode cJ1_canEncode_fc78d 7 = .ok (.iconst 1, 1) := by decide +kernel
theorem dJ1_canEncode_fc78d_8 : decode cJ1_canEncode_fc78d 8 = .ok (.goto 4, 3) := by decide +kernel
theorem dJ1_canEncode_fc78d_11 : decode cJ1_canEncode_fc78d 11 = .ok (.iconst 0, 1) := by decide +kernel
theorem dJ1_canEncode_fc78d_12 : decode cJ1_canEncode_fc78d 12 = .ok (.ireturn, 1) := by decide +kernel
set_option maxRecDepth 100000 in
set_option maxHeartbeats 4000000 in
theorem k_canEnc {l : Launch} {dA : Nat → ClassId} {ad : Nat → Nat} {c : Int} {w0 : va_W} (hc : 0 ≤ c ∧ c ≤ 255) : tMet l yJ1_canEncode_fc78d cJ1_canEncode_fc78d 1 (some .boolean) 0 0 0 [.int (Int32.ofInt c)] dA ad (w0) (fun r w => r = some (.int 1) ∧ w = w0) := by
  refine tMet_i .boolean ?_ (Or.inl (by decide +kernel)) (Nat.le_of_ble_eq_true rfl) (fun Γ C hG hsa hda hR hl9 => ?_)
  · intro r w hr
    rw [show r = 1 from by have := hr.1; injection this with h1; injection h1]
    rfl
  subst hl9; subst hda; subst hsa
  refine y_iload C 0 dJ1_canEncode_fc78d_0 rfl rfl ?_
  refine y_sipush (v := Int32.ofInt (255)) C dJ1_canEncode_fc78d_1 (by decide) ?_
  refine t_icmpgt C 11 dJ1_canEncode_fc78d_4 (by decide) (fun h9 => absurd h9 ?_) (fun _ => ?_)
  · rw [b_xw (by omega), b_xw (by omega)]; omega
  refine y_iconst (v := Int32.ofInt (1)) C dJ1_canEncode_fc78d_7 rfl ?_
  refine y_goto C 12 dJ1_canEncode_fc78d_8 (by decide) ?_
  exact t_iret hR dJ1_canEncode_fc78d_12 (by omega) (by omega) ⟨rfl, rfl⟩
theorem dJ5_append_3fe6f_0 : decode cJ5_append_3fe6f 0 = .ok (.aload_n 0, 1) := by decide +kernel
theorem dJ5_append_3fe6f_1 : decode cJ5_append_3fe6f 1 = .ok (.aload_n 0, 1) := by decide +kernel
theorem dJ5_append_3fe6f_2 : decode cJ5_append_3fe6f 2 = .ok (.getfield 79, 3) := by decide +kernel
theorem dJ5_append_3fe6f_5 : decode cJ5_append_3fe6f 5 = .ok (.iconst 1, 1) := by decide +kernel
theorem dJ5_append_3fe6f_6 : decode cJ5_append_3fe6f 6 = .ok (.iadd, 1) := by decide +kernel
theorem dJ5_append_3fe6f_7 : decode cJ5_append_3fe6f 7 = .ok (.invokevirtual 100, 3) := by decide +kernel
theorem dJ5_append_3fe6f_10 : decode cJ5_append_3fe6f 10 = .ok (.aload_n 0, 1) := by decide +kernel
theorem dJ5_append_3fe6f_11 : decode cJ5_append_3fe6f 11 = .ok (.invokevirtual 83, 3) := by decide +kernel
theorem dJ5_append_3fe6f_14 : decode cJ5_append_3fe6f 14 = .ok (.ifCond .eq 31, 3) := by decide +kernel
theorem dJ5_append_3fe6f_17 : decode cJ5_append_3fe6f 17 = .ok (.iload_n 1, 1) := by decide +kernel
theorem dJ5_append_3fe6f_18 : decode cJ5_append_3fe6f 18 = .ok (.invokestatic 191, 3) := by decide +kernel
theorem dJ5_append_3fe6f_21 : decode cJ5_append_3fe6f 21 = .ok (.ifCond .eq 24, 3) := by decide +kernel
theorem dJ5_append_3fe6f_24 : decode cJ5_append_3fe6f 24 = .ok (.aload_n 0, 1) := by decide +kernel
theorem dJ5_append_3fe6f_25 : decode cJ5_append_3fe6f 25 = .ok (.getfield 15, 3) := by decide +kernel
theorem dJ5_append_3fe6f_28 : decode cJ5_append_3fe6f 28 = .ok (.aload_n 0, 1) := by decide +kernel
theorem dJ5_append_3fe6f_29 : decode cJ5_append_3fe6f 29 = .ok (.dup, 1) := by decide +kernel
theorem dJ5_append_3fe6f_30 : decode cJ5_append_3fe6f 30 = .ok (.getfield 79, 3) := by decide +kernel
theorem dJ5_append_3fe6f_33 : decode cJ5_append_3fe6f 33 = .ok (.dup_x1, 1) := by decide +kernel
theorem dJ5_append_3fe6f_34 : decode cJ5_append_3fe6f 34 = .ok (.iconst 1, 1) := by decide +kernel
theorem dJ5_append_3fe6f_35 : decode cJ5_append_3fe6f 35 = .ok (.iadd, 1) := by decide +kernel
theorem dJ5_append_3fe6f_36 : decode cJ5_append_3fe6f 36 = .ok (.putfield 79, 3) := by decide +kernel
theorem dJ5_append_3fe6f_39 : decode cJ5_append_3fe6f 39 = .ok (.iload_n 1, 1) := by decide +kernel
theorem dJ5_append_3fe6f_40 : decode cJ5_append_3fe6f 40 = .ok (.i2b, 1) := by decide +kernel
theorem dJ5_append_3fe6f_41 : decode cJ5_append_3fe6f 41 = .ok (.bastore, 1) := by decide +kernel
theorem dJ5_append_3fe6f_42 : decode cJ5_append_3fe6f 42 = .ok (.goto 33, 3) := by decide +kernel
theorem dJ5_append_3fe6f_45 : decode cJ5_append_3fe6f 45 = .ok (.aload_n 0, 1) := by decide +kernel
theorem dJ5_append_3fe6f_46 : decode cJ5_append_3fe6f 46 = .ok (.invokevirtual 83, 3) := by decide +kernel
theorem dJ5_append_3fe6f_49 : decode cJ5_append_3fe6f 49 = .ok (.ifCond .eq 7, 3) := by decide +kernel
theorem dJ5_append_3fe6f_52 : decode cJ5_append_3fe6f 52 = .ok (.aload_n 0, 1) := by decide +kernel
theorem dJ5_append_3fe6f_53 : decode cJ5_append_3fe6f 53 = .ok (.invokevirtual 195, 3) := by decide +kernel
theorem dJ5_append_3fe6f_56 : decode cJ5_append_3fe6f 56 = .ok (.aload_n 0, 1) := by decide +kernel
theorem dJ5_append_3fe6f_57 : decode cJ5_append_3fe6f 57 = .ok (.getfield 15, 3) := by decide +kernel
theorem dJ5_append_3fe6f_60 : decode cJ5_append_3fe6f 60 = .ok (.aload_n 0, 1) := by decide +kernel
theorem dJ5_append_3fe6f_61 : decode cJ5_append_3fe6f 61 = .ok (.dup, 1) := by decide +kernel
theorem dJ5_append_3fe6f_62 : decode cJ5_append_3fe6f 62 = .ok (.getfield 79, 3) := by decide +kernel
theorem dJ5_append_3fe6f_65 : decode cJ5_append_3fe6f 65 = .ok (.dup_x1, 1) := by decide +kernel
theorem dJ5_append_3fe6f_66 : decode cJ5_append_3fe6f 66 = .ok (.iconst 1, 1) := by decide +kernel
theorem dJ5_append_3fe6f_67 : decode cJ5_append_3fe6f 67 = .ok (.iadd, 1) := by decide +kernel
theorem dJ5_append_3fe6f_68 : decode cJ5_append_3fe6f 68 = .ok (.putfield 79, 3) := by decide +kernel
theorem dJ5_append_3fe6f_71 : decode cJ5_append_3fe6f 71 = .ok (.iload_n 1, 1) := by decide +kernel
theorem dJ5_append_3fe6f_72 : decode cJ5_append_3fe6f 72 = .ok (.invokestatic 197, 3) := by decide +kernel
theorem dJ5_append_3fe6f_75 : decode cJ5_append_3fe6f 75 = .ok (.aload_n 0, 1) := by decide +kernel
theorem dJ5_append_3fe6f_76 : decode cJ5_append_3fe6f 76 = .ok (.areturn, 1) := by decide +kernel
theorem xy_J5_isLatin1_aae02 : xY yJ5_isLatin1_aae02 cJ5_isLatin1_aae02 1 (some .boolean) 0 := ⟨(xin_57 _ (List.mem_of_getElem? (i := 21) rfl)), (xin_6 _ (List.mem_of_getElem? (i := 23) rfl)), by decide +kernel, by decide +kernel, by decide +kernel⟩
theorem xy_J1_canEncode_fc78d : xY yJ1_canEncode_fc78d cJ1_canEncode_fc78d 1 (some .boolean) 1 := ⟨(xin_62 _ (List.mem_of_getElem? (i := 21) rfl)), (xin_13 _ (List.mem_of_getElem? (i := 16) rfl)), by decide +kernel, by decide +kernel, by decide +kernel⟩
set_option maxRecDepth 100000 in
set_option maxHeartbeats 4000000 in
theorem k_appC5 {l : Launch} {dA : Nat → ClassId} {ad : Nat → Nat} {t0 t1 cap n : Nat} {ml : Int32} {f : Nat → Int32} {c : Int} (hc9 : 0 ≤ c ∧ c ≤ 127) (hb9 : (Int32.ofInt c).toInt8.toInt32 = Int32.ofInt c) (hn : n ≤ cap) (hn6 : n + 1 ≤ 60) (hc : cap ≤ 500) (hf : ∀ j, (f j).toInt8.toInt32 = f j) : tMet l yJ5_append_3fe6f cJ5_append_3fe6f 2 (some (.object "java/lang/AbstractStringBuilder")) 4 1 120 [.ref t0, .int (Int32.ofInt c)] dA ad (tB dA t0 t1 cap n ml f) (fun r w => r = some (.ref t0) ∧ ∃ (t2 c2 : Nat) (f2 : Nat → Int32), w = tB dA t0 t2 c2 (n + 1) ml f2 ∧ n + 1 ≤ c2 ∧ c2 ≤ 500 ∧ (∀ j, (f2 j).toInt8.toInt32 = f2 j) ∧ (∀ j, j < n → f2 j = f j) ∧ f2 n = Int32.ofInt c) := by
  refine tMet_a (Or.inl ⟨_, rfl⟩) (Or.inl (by decide +kernel)) (Nat.le_of_ble_eq_true rfl) (fun Γ C hG hsa hda hR hl9 => ?_)
  subst hl9; subst hda; subst hsa
  have hs : (n : Int) + 1 = ((n + 1 : Nat) : Int) := rfl
  refine y_aload C 0 dJ5_append_3fe6f_0 rfl rfl ?_
  refine y_aload C 0 dJ5_append_3fe6f_1 rfl rfl ?_
  refine t_getJ C 0 dJ5_append_3fe6f_2 yj_79 rfl rfl ?_
  refine y_iconst (v := Int32.ofInt (1)) C dJ5_append_3fe6f_5 rfl ?_
  refine tz_iadd C dJ5_append_3fe6f_6 ?_
  rw [hs]
  refine t_callU (wa := []) (av := [.int (Int32.ofInt ((n + 1 : Nat) : Int))]) C hG dJ5_append_3fe6f_7 (xin_56 _ (List.mem_of_getElem? (i := 7) rfl)) (xin_56 _ (List.mem_of_getElem? (i := 8) rfl)) (xin_56 _ (List.mem_of_getElem? (i := 9) rfl)) (xin_56 _ (List.mem_of_getElem? (i := 10) rfl)) xy_J5_ensureCapacityInternal_d00df (by omega) (by omega) 0 rfl rfl (Nat.le_of_ble_eq_true rfl) (k_ens (m9 := n + 1) hn6 hc hf) (by omega) (by omega) rfl (fun rv w9 hw9 => ?_)
  obtain ⟨rfl, t2, c2, f2, rfl, e1, e2, e3, e4, e5⟩ := hw9
  refine y_aload C 0 dJ5_append_3fe6f_10 rfl rfl ?_
  refine t_callU (wa := []) (av := []) C hG dJ5_append_3fe6f_11 (xin_57 _ (List.mem_of_getElem? (i := 17) rfl)) (xin_57 _ (List.mem_of_getElem? (i := 18) rfl)) (xin_57 _ (List.mem_of_getElem? (i := 19) rfl)) (xin_57 _ (List.mem_of_getElem? (i := 20) rfl)) xy_J5_isLatin1_aae02 (by omega) (by omega) 0 rfl rfl (Nat.le_of_ble_eq_true rfl) k_latin (by omega) (by omega) rfl (fun rv w9 hw9 => ?_)
  obtain ⟨rfl, rfl⟩ := hw9
  refine y_ifeq1 C 45 dJ5_append_3fe6f_14 (by decide) ?_
  refine y_iload C 1 dJ5_append_3fe6f_17 rfl rfl ?_
  refine t_callS (wa := []) (av := [.int (Int32.ofInt c)]) C hG dJ5_append_3fe6f_18 (xin_62 _ (List.mem_of_getElem? (i := 19) rfl)) (xin_62 _ (List.mem_of_getElem? (i := 20) rfl)) xy_J1_canEncode_fc78d (by omega) (by omega) rfl (Nat.le_of_ble_eq_true rfl) (k_canEnc ⟨hc9.1, by omega⟩) (by omega) (by omega) rfl (fun rv w9 hw9 => ?_)
  obtain ⟨rfl, rfl⟩ := hw9
  refine y_ifeq1 C 45 dJ5_append_3fe6f_21 (by decide) ?_
  refine y_aload C 0 dJ5_append_3fe6f_24 rfl rfl ?_
  refine t_getJ C 0 dJ5_append_3fe6f_25 yj_15 rfl rfl ?_
  refine y_aload C 0 dJ5_append_3fe6f_28 rfl rfl ?_
  refine y_dup C dJ5_append_3fe6f_29 ?_
  refine t_getJ C 0 dJ5_append_3fe6f_30 yj_79 rfl rfl ?_
  refine t_dupx1 C dJ5_append_3fe6f_33 rfl rfl ?_
  refine y_iconst (v := Int32.ofInt (1)) C dJ5_append_3fe6f_34 rfl ?_
  refine tz_iadd C dJ5_append_3fe6f_35 ?_
  rw [hs]
  refine y_putJ C dJ5_append_3fe6f_36 yj_79 rfl rfl (Nat.le_of_ble_eq_true rfl) ?_
  refine y_iload C 1 dJ5_append_3fe6f_39 rfl rfl ?_
  refine tz_i2b C dJ5_append_3fe6f_40 hb9 ?_
  refine t_bastB (j := n) (w := Int32.ofInt c) C 1 dJ5_append_3fe6f_41 rfl (xib_in (b_ib (by omega))) (by show (xw (n : Int)).toNat = n; rw [b_xw (by omega)]; exact Int.toNat_natCast _) (by rw [vp_nar_byte]; exact hb9) ?_
  refine y_goto C 75 dJ5_append_3fe6f_42 (by decide) ?_
  refine y_aload C 0 dJ5_append_3fe6f_75 rfl rfl ?_
  refine t_aret hR dJ5_append_3fe6f_76 (by omega) (by omega) ⟨rfl, t2, c2, _, rfl, e1, e3, fun j => ?_, fun j hj => ?_, pk_us⟩
  · by_cases g : j = n
    · rw [g, pk_us]; exact hb9
    · rw [pk_un g]; exact e5 j
  · rw [pk_un (by omega)]; exact e4 j (by omega)
theorem dJ4_append_cf468_0 : decode cJ4_append_cf468 0 = .ok (.aload_n 0, 1) := by decide +kernel
theorem dJ4_append_cf468_1 : decode cJ4_append_cf468 1 = .ok (.iload_n 1, 1) := by decide +kernel
theorem dJ4_append_cf468_2 : decode cJ4_append_cf468 2 = .ok (.invokespecial 50, 3) := by decide +kernel
theorem dJ4_append_cf468_5 : decode cJ4_append_cf468 5 = .ok (.pop, 1) := by decide +kernel
theorem dJ4_append_cf468_6 : decode cJ4_append_cf468 6 = .ok (.aload_n 0, 1) := by decide +kernel
theorem dJ4_append_cf468_7 : decode cJ4_append_cf468 7 = .ok (.areturn, 1) := by decide +kernel
theorem xy_J5_append_3fe6f : xY yJ5_append_3fe6f cJ5_append_3fe6f 2 (some (.object "java/lang/AbstractStringBuilder")) 1 := ⟨(xin_62 _ (List.mem_of_getElem? (i := 18) rfl)), (xin_6 _ (List.mem_of_getElem? (i := 23) rfl)), by decide +kernel, by decide +kernel, by decide +kernel⟩
set_option maxRecDepth 100000 in
set_option maxHeartbeats 4000000 in
theorem k_appC {l : Launch} {dA : Nat → ClassId} {ad : Nat → Nat} {t0 t1 cap n : Nat} {ml : Int32} {f : Nat → Int32} {c : Int} (hc9 : 0 ≤ c ∧ c ≤ 127) (hb9 : (Int32.ofInt c).toInt8.toInt32 = Int32.ofInt c) (hn : n ≤ cap) (hn6 : n + 1 ≤ 60) (hc : cap ≤ 500) (hf : ∀ j, (f j).toInt8.toInt32 = f j) : tMet l yJ4_append_cf468 cJ4_append_cf468 2 (some (.object "java/lang/StringBuilder")) 5 1 120 [.ref t0, .int (Int32.ofInt c)] dA ad (tB dA t0 t1 cap n ml f) (fun r w => r = some (.ref t0) ∧ ∃ (t2 c2 : Nat) (f2 : Nat → Int32), w = tB dA t0 t2 c2 (n + 1) ml f2 ∧ n + 1 ≤ c2 ∧ c2 ≤ 500 ∧ (∀ j, (f2 j).toInt8.toInt32 = f2 j) ∧ (∀ j, j < n → f2 j = f j) ∧ f2 n = Int32.ofInt c) := by
  refine tMet_a (Or.inl ⟨_, rfl⟩) (Or.inl (by decide +kernel)) (Nat.le_of_ble_eq_true rfl) (fun Γ C hG hsa hda hR hl9 => ?_)
  subst hl9; subst hda; subst hsa
  refine y_aload C 0 dJ4_append_cf468_0 rfl rfl ?_
  refine y_iload C 1 dJ4_append_cf468_1 rfl rfl ?_
  refine t_callSU (wa := []) (av := [.int (Int32.ofInt c)]) C hG dJ4_append_cf468_2 (xin_62 _ (List.mem_of_getElem? (i := 15) rfl)) (xin_62 _ (List.mem_of_getElem? (i := 16) rfl)) (xin_56 _ (List.mem_of_getElem? (i := 2) rfl)) (xin_62 _ (List.mem_of_getElem? (i := 17) rfl)) (xin_2 _ (List.mem_of_getElem? (i := 18) rfl)) (by decide) xy_J5_append_3fe6f (by omega) (by omega) 0 rfl rfl (Nat.le_of_ble_eq_true rfl) (k_appC5 hc9 hb9 hn hn6 hc hf) (by omega) (by omega) rfl (fun rv w9 hw9 => ?_)
  obtain ⟨rfl, t2, c2, f2, rfl, e1, e2, e3, e4, e5⟩ := hw9
  refine t_pop C dJ4_append_cf468_5 rfl ?_
  refine y_aload C 0 dJ4_append_cf468_6 rfl rfl ?_
  exact t_aret hR dJ4_append_cf468_7 (by omega) (by omega) ⟨rfl, t2, c2, f2, rfl, e1, e2, e3, e4, e5⟩

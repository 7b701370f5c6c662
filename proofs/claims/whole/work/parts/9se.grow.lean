/-! ===== texts: the builder grows ===== -/
theorem dJ5_isLatin1_aae02_0 : decode cJ5_isLatin1_aae02 0 = .ok (.getstatic 18, 3) := by decide +kernel
theorem dJ5_isLatin1_aae02_3 : decode cJ5_isLatin1_aae02 3 = .ok (.ifCond .eq 14, 3) := by decide +kernel
theorem dJ5_isLatin1_aae02_6 : decode cJ5_isLatin1_aae02 6 = .ok (.aload_n 0, 1) := by decide +kernel
theorem dJ5_isLatin1_aae02_7 : decode cJ5_isLatin1_aae02 7 = .ok (.getfield 22, 3) := by decide +kernel
theorem dJ5_isLatin1_aae02_10 : decode cJ5_isLatin1_aae02 10 = .ok (.ifCond .ne 7, 3) := by decide +kernel
theorem dJ5_isLatin1_aae02_13 : decode cJ5_isLatin1_aae02 13 = .ok (.iconst 1, 1) := by decide +kernel
theorem dJ5_isLatin1_aae02_14 : decode cJ5_isLatin1_aae02 14 = .ok (.goto 4, 3) := by decide +kernel
theorem dJ5_isLatin1_aae02_17 : decode cJ5_isLatin1_aae02 17 = .ok (.iconst 0, 1) := by decide +kernel
theorem dJ5_isLatin1_aae02_18 : decode cJ5_isLatin1_aae02 18 = .ok (.ireturn, 1) := by decide +kernel
set_option maxRecDepth 100000 in
set_option maxHeartbeats 4000000 in
theorem k_latin {l : Launch} {dA : Nat → ClassId} {ad : Nat → Nat} {t0 t1 cap n : Nat} {ml : Int32} {f : Nat → Int32} : tMet l yJ5_isLatin1_aae02 cJ5_isLatin1_aae02 1 (some .boolean) 0 0 0 [.ref t0] dA ad (tB dA t0 t1 cap n ml f) (fun r w => r = some (.int 1) ∧ w = tB dA t0 t1 cap n ml f) := by
  refine tMet_i .boolean ?_ (Or.inl (by decide +kernel)) (Nat.le_of_ble_eq_true rfl) (fun Γ C hG hsa hda hR hl9 => ?_)
  · intro r w hr
    rw [show r = 1 from by have := hr.1; injection this with h1; injection h1]
    rfl
  subst hl9; subst hda; subst hsa
  refine y_compact C dJ5_isLatin1_aae02_0 (xin_7 _ (List.mem_of_getElem? (i := 2) rfl)) ?_
  refine y_ifeq1 C 17 dJ5_isLatin1_aae02_3 (by decide) ?_
  refine y_aload C 0 dJ5_isLatin1_aae02_6 rfl rfl ?_
  refine t_getJ C 0 dJ5_isLatin1_aae02_7 yj_22 rfl rfl ?_
  refine y_ifne0 C 17 dJ5_isLatin1_aae02_10 (by decide) ?_
  refine y_iconst (v := Int32.ofInt (1)) C dJ5_isLatin1_aae02_13 rfl ?_
  refine y_goto C 18 dJ5_isLatin1_aae02_14 (by decide) ?_
  exact t_iret hR dJ5_isLatin1_aae02_18 (by omega) (by omega) ⟨rfl, rfl⟩
theorem dJ8_newLength_cabcc_0 : decode cJ8_newLength_cabcc 0 = .ok (.iload_n 0, 1) := by decide +kernel
theorem dJ8_newLength_cabcc_1 : decode cJ8_newLength_cabcc 1 = .ok (.iload_n 1, 1) := by decide +kernel
theorem dJ8_newLength_cabcc_2 : decode cJ8_newLength_cabcc 2 = .ok (.iload_n 2, 1) := by decide +kernel
theorem dJ8_newLength_cabcc_3 : decode cJ8_newLength_cabcc 3 = .ok (.invokestatic 194, 3) := by decide +kernel
theorem dJ8_newLength_cabcc_6 : decode cJ8_newLength_cabcc 6 = .ok (.iadd, 1) := by decide +kernel
theorem dJ8_newLength_cabcc_7 : decode cJ8_newLength_cabcc 7 = .ok (.istore_n 3, 1) := by decide +kernel
theorem dJ8_newLength_cabcc_8 : decode cJ8_newLength_cabcc 8 = .ok (.iconst 0, 1) := by decide +kernel
theorem dJ8_newLength_cabcc_9 : decode cJ8_newLength_cabcc 9 = .ok (.iload_n 3, 1) := by decide +kernel
theorem dJ8_newLength_cabcc_10 : decode cJ8_newLength_cabcc 10 = .ok (.if_icmp .ge 11, 3) := by decide +kernel
theorem dJ8_newLength_cabcc_13 : decode cJ8_newLength_cabcc 13 = .ok (.iload_n 3, 1) := by decide +kernel
theorem dJ8_newLength_cabcc_14 : decode cJ8_newLength_cabcc 14 = .ok (.ldc 200, 2) := by decide +kernel
theorem dJ8_newLength_cabcc_16 : decode cJ8_newLength_cabcc 16 = .ok (.if_icmp .gt 5, 3) := by decide +kernel
theorem dJ8_newLength_cabcc_19 : decode cJ8_newLength_cabcc 19 = .ok (.iload_n 3, 1) := by decide +kernel
theorem dJ8_newLength_cabcc_20 : decode cJ8_newLength_cabcc 20 = .ok (.ireturn, 1) := by decide +kernel
theorem dJ8_newLength_cabcc_21 : decode cJ8_newLength_cabcc 21 = .ok (.iload_n 0, 1) := by decide +kernel
theorem dJ8_newLength_cabcc_22 : decode cJ8_newLength_cabcc 22 = .ok (.iload_n 1, 1) := by decide +kernel
theorem dJ8_newLength_cabcc_23 : decode cJ8_newLength_cabcc 23 = .ok (.invokestatic 201, 3) := by decide +kernel
theorem dJ8_newLength_cabcc_26 : decode cJ8_newLength_cabcc 26 = .ok (.ireturn, 1) := by decide +kernel
set_option maxRecDepth 100000 in
set_option maxHeartbeats 4000000 in
theorem k_newLen {l : Launch} {dA : Nat → ClassId} {ad : Nat → Nat} {q : Nat} {x y0 z : Int} {w0 : va_W} (hz : (x + if xw y0 < xw z then z else y0) = (q : Int)) (hq : 0 < (q : Int) ∧ (q : Int) ≤ 100000) : tMet l yJ8_newLength_cabcc cJ8_newLength_cabcc 4 (some .int) 1 0 0 [.int (Int32.ofInt x), .int (Int32.ofInt y0), .int (Int32.ofInt z)] dA ad (w0) (fun r w => r = some (.int (Int32.ofInt (q : Int))) ∧ w = w0) := by
  refine tMet_ii (Or.inl (by decide +kernel)) (Nat.le_of_ble_eq_true rfl) (fun Γ C hG hsa hda hR hl9 => ?_)
  subst hl9; subst hda; subst hsa
  refine y_iload C 0 dJ8_newLength_cabcc_0 rfl rfl ?_
  refine y_iload C 1 dJ8_newLength_cabcc_1 rfl rfl ?_
  refine y_iload C 2 dJ8_newLength_cabcc_2 rfl rfl ?_
  refine t_max C dJ8_newLength_cabcc_3 (xin_56 _ (List.mem_of_getElem? (i := 22) rfl)) (xin_56 _ (List.mem_of_getElem? (i := 23) rfl)) (xin_11 _ (List.mem_of_getElem? (i := 11) rfl)) (xin_57 _ (List.mem_of_getElem? (i := 0) rfl)) (by omega) (Nat.le_of_ble_eq_true rfl) (by omega) (by omega) ?_
  refine tz_iadd C dJ8_newLength_cabcc_6 ?_
  rw [hz]
  refine y_istore C dJ8_newLength_cabcc_7 rfl (by omega) rfl ?_
  refine y_iconst (v := Int32.ofInt (0)) C dJ8_newLength_cabcc_8 rfl ?_
  refine y_iload C 0 dJ8_newLength_cabcc_9 rfl rfl ?_
  refine t_icmpge (x := 0) C 21 dJ8_newLength_cabcc_10 (by decide) (fun h9 => absurd h9 ?_) (fun _ => ?_)
  · rw [b_xw (by omega), b_xw (by omega)]; omega
  refine y_iload C 0 dJ8_newLength_cabcc_13 rfl rfl ?_
  refine y_ldc (v := Int32.ofInt 2147483639) C dJ8_newLength_cabcc_14 (xin_57 _ (List.mem_of_getElem? (i := 1) rfl)) ?_
  refine t_icmpgt C 21 dJ8_newLength_cabcc_16 (by decide) (fun h9 => absurd h9 ?_) (fun _ => ?_)
  · rw [b_xw (by omega), b_xw (by omega)]; omega
  refine y_iload C 0 dJ8_newLength_cabcc_19 rfl rfl ?_
  exact t_iret hR dJ8_newLength_cabcc_20 (by omega) (by omega) ⟨rfl, rfl⟩
theorem dJ5_newCapacity_0f7a4_0 : decode cJ5_newCapacity_0f7a4 0 = .ok (.aload_n 0, 1) := by decide +kernel
theorem dJ5_newCapacity_0f7a4_1 : decode cJ5_newCapacity_0f7a4 1 = .ok (.getfield 15, 3) := by decide +kernel
theorem dJ5_newCapacity_0f7a4_4 : decode cJ5_newCapacity_0f7a4 4 = .ok (.arraylength, 1) := by decide +kernel
theorem dJ5_newCapacity_0f7a4_5 : decode cJ5_newCapacity_0f7a4 5 = .ok (.istore_n 2, 1) := by decide +kernel
theorem dJ5_newCapacity_0f7a4_6 : decode cJ5_newCapacity_0f7a4 6 = .ok (.iload_n 1, 1) := by decide +kernel
theorem dJ5_newCapacity_0f7a4_7 : decode cJ5_newCapacity_0f7a4 7 = .ok (.aload_n 0, 1) := by decide +kernel
theorem dJ5_newCapacity_0f7a4_8 : decode cJ5_newCapacity_0f7a4 8 = .ok (.getfield 22, 3) := by decide +kernel
theorem dJ5_newCapacity_0f7a4_11 : decode cJ5_newCapacity_0f7a4 11 = .ok (.ishl, 1) := by decide +kernel
theorem dJ5_newCapacity_0f7a4_12 : decode cJ5_newCapacity_0f7a4 12 = .ok (.istore_n 3, 1) := by decide +kernel
theorem dJ5_newCapacity_0f7a4_13 : decode cJ5_newCapacity_0f7a4 13 = .ok (.iload_n 3, 1) := by decide +kernel
theorem dJ5_newCapacity_0f7a4_14 : decode cJ5_newCapacity_0f7a4 14 = .ok (.iload_n 2, 1) := by decide +kernel
theorem dJ5_newCapacity_0f7a4_15 : decode cJ5_newCapacity_0f7a4 15 = .ok (.isub, 1) := by decide +kernel
theorem dJ5_newCapacity_0f7a4_16 : decode cJ5_newCapacity_0f7a4 16 = .ok (.istore 4, 2) := by decide +kernel
theorem dJ5_newCapacity_0f7a4_18 : decode cJ5_newCapacity_0f7a4 18 = .ok (.iload_n 2, 1) := by decide +kernel
theorem dJ5_newCapacity_0f7a4_19 : decode cJ5_newCapacity_0f7a4 19 = .ok (.iload 4, 2) := by decide +kernel
theorem dJ5_newCapacity_0f7a4_21 : decode cJ5_newCapacity_0f7a4 21 = .ok (.iload_n 2, 1) := by decide +kernel
theorem dJ5_newCapacity_0f7a4_22 : decode cJ5_newCapacity_0f7a4 22 = .ok (.iconst 2, 1) := by decide +kernel
theorem dJ5_newCapacity_0f7a4_23 : decode cJ5_newCapacity_0f7a4 23 = .ok (.aload_n 0, 1) := by decide +kernel
theorem dJ5_newCapacity_0f7a4_24 : decode cJ5_newCapacity_0f7a4 24 = .ok (.getfield 22, 3) := by decide +kernel
theorem dJ5_newCapacity_0f7a4_27 : decode cJ5_newCapacity_0f7a4 27 = .ok (.ishl, 1) := by decide +kernel
theorem dJ5_newCapacity_0f7a4_28 : decode cJ5_newCapacity_0f7a4 28 = .ok (.iadd, 1) := by decide +kernel
theorem dJ5_newCapacity_0f7a4_29 : decode cJ5_newCapacity_0f7a4 29 = .ok (.invokestatic 114, 3) := by decide +kernel
theorem dJ5_newCapacity_0f7a4_32 : decode cJ5_newCapacity_0f7a4 32 = .ok (.istore 5, 2) := by decide +kernel
theorem dJ5_newCapacity_0f7a4_34 : decode cJ5_newCapacity_0f7a4 34 = .ok (.iload 5, 2) := by decide +kernel
theorem dJ5_newCapacity_0f7a4_36 : decode cJ5_newCapacity_0f7a4 36 = .ok (.ldc 39, 2) := by decide +kernel
theorem dJ5_newCapacity_0f7a4_38 : decode cJ5_newCapacity_0f7a4 38 = .ok (.if_icmp .ne 13, 3) := by decide +kernel
theorem dJ5_newCapacity_0f7a4_41 : decode cJ5_newCapacity_0f7a4 41 = .ok (.new 120, 3) := by decide +kernel
theorem dJ5_newCapacity_0f7a4_44 : decode cJ5_newCapacity_0f7a4 44 = .ok (.dup, 1) := by decide +kernel
theorem dJ5_newCapacity_0f7a4_45 : decode cJ5_newCapacity_0f7a4 45 = .ok (.ldc 122, 2) := by decide +kernel
theorem dJ5_newCapacity_0f7a4_47 : decode cJ5_newCapacity_0f7a4 47 = .ok (.invokespecial 124, 3) := by decide +kernel
theorem dJ5_newCapacity_0f7a4_50 : decode cJ5_newCapacity_0f7a4 50 = .ok (.athrow, 1) := by decide +kernel
theorem dJ5_newCapacity_0f7a4_51 : decode cJ5_newCapacity_0f7a4 51 = .ok (.iload 5, 2) := by decide +kernel
theorem dJ5_newCapacity_0f7a4_53 : decode cJ5_newCapacity_0f7a4 53 = .ok (.aload_n 0, 1) := by decide +kernel
theorem dJ5_newCapacity_0f7a4_54 : decode cJ5_newCapacity_0f7a4 54 = .ok (.getfield 22, 3) := by decide +kernel
theorem dJ5_newCapacity_0f7a4_57 : decode cJ5_newCapacity_0f7a4 57 = .ok (.ishr, 1) := by decide +kernel
theorem dJ5_newCapacity_0f7a4_58 : decode cJ5_newCapacity_0f7a4 58 = .ok (.ireturn, 1) := by decide +kernel
theorem xy_J8_newLength_cabcc : xY yJ8_newLength_cabcc cJ8_newLength_cabcc 4 (some .int) 3 := ⟨(xin_56 _ (List.mem_of_getElem? (i := 21) rfl)), (xin_56 _ (List.mem_of_getElem? (i := 20) rfl)), by decide +kernel, by decide +kernel, by decide +kernel⟩
set_option maxRecDepth 100000 in
set_option maxHeartbeats 4000000 in
theorem k_newCap {l : Launch} {dA : Nat → ClassId} {ad : Nat → Nat} {t0 t1 cap n : Nat} {ml : Int32} {f : Nat → Int32} {m9 q9 : Nat} (hm : cap < m9 ∧ m9 ≤ 60) (hq : (cap : Int) + (if (m9 : Int) - (cap : Int) < (cap : Int) + 2 then (cap : Int) + 2 else (m9 : Int) - (cap : Int)) = (q9 : Int)) (hq2 : 0 < q9 ∧ q9 ≤ 1000) : tMet l yJ5_newCapacity_0f7a4 cJ5_newCapacity_0f7a4 6 (some .int) 2 0 0 [.ref t0, .int (Int32.ofInt (m9 : Int))] dA ad (tB dA t0 t1 cap n ml f) (fun r w => r = some (.int (Int32.ofInt (q9 : Int))) ∧ w = tB dA t0 t1 cap n ml f) := by
  refine tMet_ii (Or.inl (by decide +kernel)) (Nat.le_of_ble_eq_true rfl) (fun Γ C hG hsa hda hR hl9 => ?_)
  subst hl9; subst hda; subst hsa
  refine y_aload C 0 dJ5_newCapacity_0f7a4_0 rfl rfl ?_
  refine t_getJ C 0 dJ5_newCapacity_0f7a4_1 yj_15 rfl rfl ?_
  refine t_alenB C 1 dJ5_newCapacity_0f7a4_4 rfl (b_of _).symm ?_
  refine y_istore C dJ5_newCapacity_0f7a4_5 rfl (by omega) rfl ?_
  refine y_iload C 2 dJ5_newCapacity_0f7a4_6 rfl rfl ?_
  refine y_aload C 1 dJ5_newCapacity_0f7a4_7 rfl rfl ?_
  refine t_getJ C 0 dJ5_newCapacity_0f7a4_8 yj_22 rfl rfl ?_
  refine t_ishl0 C dJ5_newCapacity_0f7a4_11 ?_
  refine y_istore C dJ5_newCapacity_0f7a4_12 rfl (by omega) rfl ?_
  refine y_iload C 0 dJ5_newCapacity_0f7a4_13 rfl rfl ?_
  refine y_iload C 1 dJ5_newCapacity_0f7a4_14 rfl rfl ?_
  refine tz_isub C dJ5_newCapacity_0f7a4_15 ?_
  refine y_istorew C dJ5_newCapacity_0f7a4_16 (by omega) rfl ?_
  refine y_iload C 2 dJ5_newCapacity_0f7a4_18 rfl rfl ?_
  refine y_iloadw C 0 dJ5_newCapacity_0f7a4_19 rfl ?_
  refine y_iload C 2 dJ5_newCapacity_0f7a4_21 rfl rfl ?_
  refine y_iconst (v := Int32.ofInt (2)) C dJ5_newCapacity_0f7a4_22 rfl ?_
  refine y_aload C 3 dJ5_newCapacity_0f7a4_23 rfl rfl ?_
  refine t_getJ C 0 dJ5_newCapacity_0f7a4_24 yj_22 rfl rfl ?_
  refine t_ishl0 C dJ5_newCapacity_0f7a4_27 ?_
  refine tz_iadd C dJ5_newCapacity_0f7a4_28 ?_
  refine t_callS (wa := []) (av := [.int (Int32.ofInt (cap : Int)), .int (Int32.ofInt ((m9 : Int) - (cap : Int))), .int (Int32.ofInt ((cap : Int) + 2))]) C hG dJ5_newCapacity_0f7a4_29 (xin_56 _ (List.mem_of_getElem? (i := 18) rfl)) (xin_56 _ (List.mem_of_getElem? (i := 19) rfl)) xy_J8_newLength_cabcc (by omega) (by omega) rfl (Nat.le_of_ble_eq_true rfl) (k_newLen (q := q9) ?_ (by omega)) (by omega) (by omega) rfl (fun rv w9 hw9 => ?_)
  · rw [b_xw (by omega), b_xw (by omega)]; exact hq
  obtain ⟨rfl, rfl⟩ := hw9
  refine y_istorew C dJ5_newCapacity_0f7a4_32 (by omega) rfl ?_
  refine y_iloadw C 0 dJ5_newCapacity_0f7a4_34 rfl ?_
  refine y_ldc (v := Int32.ofInt 2147483647) C dJ5_newCapacity_0f7a4_36 (xin_56 _ (List.mem_of_getElem? (i := 17) rfl)) ?_
  refine t_icmpne C 51 dJ5_newCapacity_0f7a4_38 (by decide) (fun _ => ?_) (fun h9 => absurd h9 ?_)
  rotate_left
  · rw [b_xw (by omega), b_xw (by omega)]; omega
  refine y_iloadw C 0 dJ5_newCapacity_0f7a4_51 rfl ?_
  refine y_aload C 4 dJ5_newCapacity_0f7a4_53 rfl rfl ?_
  refine t_getJ C 0 dJ5_newCapacity_0f7a4_54 yj_22 rfl rfl ?_
  refine t_ishr0 C dJ5_newCapacity_0f7a4_57 ?_
  exact t_iret hR dJ5_newCapacity_0f7a4_58 (by omega) (by omega) ⟨rfl, rfl⟩
theorem dJ7_copyOf_9075b_0 : decode cJ7_copyOf_9075b 0 = .ok (.iload_n 1, 1) := by decide +kernel
theorem dJ7_copyOf_9075b_1 : decode cJ7_copyOf_9075b 1 = .ok (.aload_n 0, 1) := by decide +kernel
theorem dJ7_copyOf_9075b_2 : decode cJ7_copyOf_9075b 2 = .ok (.arraylength, 1) := by decide +kernel
theorem dJ7_copyOf_9075b_3 : decode cJ7_copyOf_9075b 3 = .ok (.if_icmp .ne 11, 3) := by decide +kernel
theorem dJ7_copyOf_9075b_6 : decode cJ7_copyOf_9075b 6 = .ok (.aload_n 0, 1) := by decide +kernel
theorem dJ7_copyOf_9075b_7 : decode cJ7_copyOf_9075b 7 = .ok (.invokevirtual 310, 3) := by decide +kernel
theorem dJ7_copyOf_9075b_10 : decode cJ7_copyOf_9075b 10 = .ok (.checkcast 311, 3) := by decide +kernel
theorem dJ7_copyOf_9075b_13 : decode cJ7_copyOf_9075b 13 = .ok (.areturn, 1) := by decide +kernel
theorem dJ7_copyOf_9075b_14 : decode cJ7_copyOf_9075b 14 = .ok (.iload_n 1, 1) := by decide +kernel
theorem dJ7_copyOf_9075b_15 : decode cJ7_copyOf_9075b 15 = .ok (.newarray .byte, 2) := by decide +kernel
theorem dJ7_copyOf_9075b_17 : decode cJ7_copyOf_9075b 17 = .ok (.astore_n 2, 1) := by decide +kernel
theorem dJ7_copyOf_9075b_18 : decode cJ7_copyOf_9075b 18 = .ok (.aload_n 0, 1) := by decide +kernel
theorem dJ7_copyOf_9075b_19 : decode cJ7_copyOf_9075b 19 = .ok (.iconst 0, 1) := by decide +kernel
theorem dJ7_copyOf_9075b_20 : decode cJ7_copyOf_9075b 20 = .ok (.aload_n 2, 1) := by decide +kernel
theorem dJ7_copyOf_9075b_21 : decode cJ7_copyOf_9075b 21 = .ok (.iconst 0, 1) := by decide +kernel
theorem dJ7_copyOf_9075b_22 : decode cJ7_copyOf_9075b 22 = .ok (.aload_n 0, 1) := by decide +kernel
theorem dJ7_copyOf_9075b_23 : decode cJ7_copyOf_9075b 23 = .ok (.arraylength, 1) := by decide +kernel
theorem dJ7_copyOf_9075b_24 : decode cJ7_copyOf_9075b 24 = .ok (.iload_n 1, 1) := by decide +kernel
theorem dJ7_copyOf_9075b_25 : decode cJ7_copyOf_9075b 25 = .ok (.invokestatic 304, 3) := by decide +kernel
theorem dJ7_copyOf_9075b_28 : decode cJ7_copyOf_9075b 28 = .ok (.invokestatic 150, 3) := by decide +kernel
theorem dJ7_copyOf_9075b_31 : decode cJ7_copyOf_9075b 31 = .ok (.aload_n 2, 1) := by decide +kernel
theorem dJ7_copyOf_9075b_32 : decode cJ7_copyOf_9075b 32 = .ok (.areturn, 1) := by decide +kernel
set_option maxRecDepth 100000 in
set_option maxHeartbeats 4000000 in
theorem k_copyOf {l : Launch} {dA : Nat → ClassId} {ad : Nat → Nat} {t1 cap : Nat} {f : Nat → Int32} {q : Nat} (hq : cap < q ∧ q ≤ 1000) (hf : ∀ i, fits .byte (.int (f i)) = true) : tMet l yJ7_copyOf_9075b cJ7_copyOf_9075b 3 (some (.array .byte)) 1 1 q [.ref t1, .int (Int32.ofInt (q : Int))] dA ad ([(t1, .inl (dA 4, cap, .inl f))]) (fun r w => ∃ t2 : Nat, r = some (.ref t2) ∧ w = [(t1, .inl (dA 4, cap, .inl f)), (t2, .inl (dA 4, q, .inl (va_cpy f (fun _ => 0) 0 0 cap)))]) := by
  refine tMet_a (Or.inr ⟨_, rfl⟩) (Or.inl (by decide +kernel)) (Nat.le_of_ble_eq_true rfl) (fun Γ C hG hsa hda hR hl9 => ?_)
  subst hl9; subst hda; subst hsa
  refine y_iload C 1 dJ7_copyOf_9075b_0 rfl rfl ?_
  refine y_aload C 0 dJ7_copyOf_9075b_1 rfl rfl ?_
  refine t_alenB C 0 dJ7_copyOf_9075b_2 rfl (b_of _).symm ?_
  refine t_icmpne C 14 dJ7_copyOf_9075b_3 (by decide) (fun _ => ?_) (fun h9 => absurd h9 ?_)
  rotate_left
  · rw [b_xw (by omega), b_xw (by omega)]; omega
  refine y_iload C 1 dJ7_copyOf_9075b_14 rfl rfl ?_
  refine y_newb (N' := q) C dJ7_copyOf_9075b_15 (xin_7 _ (List.mem_of_getElem? (i := 3) rfl)) ?_ ?_ (by omega) (by omega) (by omega) (fun t2 => ?_)
  · intro h9; have := xz_lt.mp h9; rw [b_xw (by omega)] at this; omega
  · show (xw (q : Int)).toNat = q; rw [b_xw (by omega)]; exact Int.toNat_natCast _
  refine y_astoren C dJ7_copyOf_9075b_17 rfl (by omega) rfl ?_
  refine y_aload C 1 dJ7_copyOf_9075b_18 rfl rfl ?_
  refine y_iconst (v := 0) C dJ7_copyOf_9075b_19 (by decide) ?_
  refine y_aload C 0 dJ7_copyOf_9075b_20 rfl rfl ?_
  refine y_iconst (v := 0) C dJ7_copyOf_9075b_21 (by decide) ?_
  refine y_aload C 1 dJ7_copyOf_9075b_22 rfl rfl ?_
  refine t_alenB C 0 dJ7_copyOf_9075b_23 rfl (b_of _).symm ?_
  refine y_iload C 2 dJ7_copyOf_9075b_24 rfl rfl ?_
  refine t_min C dJ7_copyOf_9075b_25 (xin_57 _ (List.mem_of_getElem? (i := 15) rfl)) (xin_11 _ (List.mem_of_getElem? (i := 10) rfl)) (xin_11 _ (List.mem_of_getElem? (i := 11) rfl)) (xin_11 _ (List.mem_of_getElem? (i := 12) rfl)) (by omega) (Nat.le_of_ble_eq_true rfl) (by omega) (by omega) ?_
  rw [show (if xw (q : Int) < xw (cap : Int) then (q : Int) else (cap : Int)) = (cap : Int) from if_neg (by rw [b_xw (by omega), b_xw (by omega)]; omega)]
  refine t_copy (w := cap) C 0 1 dJ7_copyOf_9075b_28 (xin_57 _ (List.mem_of_getElem? (i := 16) rfl)) (xin_18 _ (List.mem_of_getElem? (i := 9) rfl)) (xin_18 _ (List.mem_of_getElem? (i := 10) rfl)) (xin_18 _ (List.mem_of_getElem? (i := 11) rfl)) rfl rfl (Nat.le_refl _) (by omega) (by omega) hf (by omega) (Nat.le_of_ble_eq_true rfl) ?_
  refine y_aload C 0 dJ7_copyOf_9075b_31 rfl rfl ?_
  exact t_aret hR dJ7_copyOf_9075b_32 (by omega) (by omega) ⟨t2, rfl, rfl⟩
theorem dJ5_ensureCapacityInternal_d00df_0 : decode cJ5_ensureCapacityInternal_d00df 0 = .ok (.aload_n 0, 1) := by decide +kernel
theorem dJ5_ensureCapacityInternal_d00df_1 : decode cJ5_ensureCapacityInternal_d00df 1 = .ok (.getfield 15, 3) := by decide +kernel
theorem dJ5_ensureCapacityInternal_d00df_4 : decode cJ5_ensureCapacityInternal_d00df 4 = .ok (.arraylength, 1) := by decide +kernel
theorem dJ5_ensureCapacityInternal_d00df_5 : decode cJ5_ensureCapacityInternal_d00df 5 = .ok (.aload_n 0, 1) := by decide +kernel
theorem dJ5_ensureCapacityInternal_d00df_6 : decode cJ5_ensureCapacityInternal_d00df 6 = .ok (.getfield 22, 3) := by decide +kernel
theorem dJ5_ensureCapacityInternal_d00df_9 : decode cJ5_ensureCapacityInternal_d00df 9 = .ok (.ishr, 1) := by decide +kernel
theorem dJ5_ensureCapacityInternal_d00df_10 : decode cJ5_ensureCapacityInternal_d00df 10 = .ok (.istore_n 2, 1) := by decide +kernel
theorem dJ5_ensureCapacityInternal_d00df_11 : decode cJ5_ensureCapacityInternal_d00df 11 = .ok (.iload_n 1, 1) := by decide +kernel
theorem dJ5_ensureCapacityInternal_d00df_12 : decode cJ5_ensureCapacityInternal_d00df 12 = .ok (.iload_n 2, 1) := by decide +kernel
theorem dJ5_ensureCapacityInternal_d00df_13 : decode cJ5_ensureCapacityInternal_d00df 13 = .ok (.isub, 1) := by decide +kernel
theorem dJ5_ensureCapacityInternal_d00df_14 : decode cJ5_ensureCapacityInternal_d00df 14 = .ok (.ifCond .le 24, 3) := by decide +kernel
theorem dJ5_ensureCapacityInternal_d00df_17 : decode cJ5_ensureCapacityInternal_d00df 17 = .ok (.aload_n 0, 1) := by decide +kernel
theorem dJ5_ensureCapacityInternal_d00df_18 : decode cJ5_ensureCapacityInternal_d00df 18 = .ok (.aload_n 0, 1) := by decide +kernel
theorem dJ5_ensureCapacityInternal_d00df_19 : decode cJ5_ensureCapacityInternal_d00df 19 = .ok (.getfield 15, 3) := by decide +kernel
theorem dJ5_ensureCapacityInternal_d00df_22 : decode cJ5_ensureCapacityInternal_d00df 22 = .ok (.aload_n 0, 1) := by decide +kernel
theorem dJ5_ensureCapacityInternal_d00df_23 : decode cJ5_ensureCapacityInternal_d00df 23 = .ok (.iload_n 1, 1) := by decide +kernel
theorem dJ5_ensureCapacityInternal_d00df_24 : decode cJ5_ensureCapacityInternal_d00df 24 = .ok (.invokevirtual 104, 3) := by decide +kernel
theorem dJ5_ensureCapacityInternal_d00df_27 : decode cJ5_ensureCapacityInternal_d00df 27 = .ok (.aload_n 0, 1) := by decide +kernel
theorem dJ5_ensureCapacityInternal_d00df_28 : decode cJ5_ensureCapacityInternal_d00df 28 = .ok (.getfield 22, 3) := by decide +kernel
theorem dJ5_ensureCapacityInternal_d00df_31 : decode cJ5_ensureCapacityInternal_d00df 31 = .ok (.ishl, 1) := by decide +kernel
theorem dJ5_ensureCapacityInternal_d00df_32 : decode cJ5_ensureCapacityInternal_d00df 32 = .ok (.invokestatic 108, 3) := by decide +kernel
theorem dJ5_ensureCapacityInternal_d00df_35 : decode cJ5_ensureCapacityInternal_d00df 35 = .ok (.putfield 15, 3) := by decide +kernel
theorem dJ5_ensureCapacityInternal_d00df_38 : decode cJ5_ensureCapacityInternal_d00df 38 = .ok (.return_, 1) := by decide +kernel
theorem xy_J5_newCapacity_0f7a4 : xY yJ5_newCapacity_0f7a4 cJ5_newCapacity_0f7a4 6 (some .int) 1 := ⟨(xin_56 _ (List.mem_of_getElem? (i := 16) rfl)), (xin_6 _ (List.mem_of_getElem? (i := 23) rfl)), by decide +kernel, by decide +kernel, by decide +kernel⟩
theorem xy_J7_copyOf_9075b : xY yJ7_copyOf_9075b cJ7_copyOf_9075b 3 (some (.array .byte)) 2 := ⟨(xin_57 _ (List.mem_of_getElem? (i := 8) rfl)), (xin_57 _ (List.mem_of_getElem? (i := 7) rfl)), by decide +kernel, by decide +kernel, by decide +kernel⟩
set_option maxRecDepth 100000 in
set_option maxHeartbeats 4000000 in
theorem k_ens {l : Launch} {dA : Nat → ClassId} {ad : Nat → Nat} {t0 t1 cap n : Nat} {ml : Int32} {f : Nat → Int32} {m9 : Nat} (hm : m9 ≤ 60) (hc : cap ≤ 500) (hf : ∀ j, (f j).toInt8.toInt32 = f j) : tMet l yJ5_ensureCapacityInternal_d00df cJ5_ensureCapacityInternal_d00df 3 none 3 1 120 [.ref t0, .int (Int32.ofInt (m9 : Int))] dA ad (tB dA t0 t1 cap n ml f) (fun r w => r = none ∧ ∃ (t2 c2 : Nat) (f2 : Nat → Int32), w = tB dA t0 t2 c2 n ml f2 ∧ m9 ≤ c2 ∧ cap ≤ c2 ∧ c2 ≤ 500 ∧ (∀ j, j < cap → f2 j = f j) ∧ ∀ j, (f2 j).toInt8.toInt32 = f2 j) := by
  refine tMet_v (Or.inl (by decide +kernel)) (Nat.le_of_ble_eq_true rfl) (fun Γ C hG hsa hda hR hl9 => ?_)
  subst hl9; subst hda; subst hsa
  refine y_aload C 0 dJ5_ensureCapacityInternal_d00df_0 rfl rfl ?_
  refine t_getJ C 0 dJ5_ensureCapacityInternal_d00df_1 yj_15 rfl rfl ?_
  refine t_alenB C 1 dJ5_ensureCapacityInternal_d00df_4 rfl (b_of _).symm ?_
  refine y_aload C 0 dJ5_ensureCapacityInternal_d00df_5 rfl rfl ?_
  refine t_getJ C 0 dJ5_ensureCapacityInternal_d00df_6 yj_22 rfl rfl ?_
  refine t_ishr0 C dJ5_ensureCapacityInternal_d00df_9 ?_
  refine y_istore C dJ5_ensureCapacityInternal_d00df_10 rfl (by omega) rfl ?_
  refine y_iload C 2 dJ5_ensureCapacityInternal_d00df_11 rfl rfl ?_
  refine y_iload C 0 dJ5_ensureCapacityInternal_d00df_12 rfl rfl ?_
  refine tz_isub C dJ5_ensureCapacityInternal_d00df_13 ?_
  refine t_ifle C 38 dJ5_ensureCapacityInternal_d00df_14 (by decide) (fun h9 => ?_) (fun h9 => ?_)
  · have h8 : m9 ≤ cap := by rw [b_xw (by omega)] at h9; omega
    exact t_ret hR dJ5_ensureCapacityInternal_d00df_38 (by omega) (by omega) ⟨rfl, t1, cap, f, rfl, h8, Nat.le_refl _, hc, fun _ _ => rfl, hf⟩
  have h8 : cap < m9 := by rw [b_xw (by omega)] at h9; omega
  obtain ⟨q9, hq, hq1, hq2⟩ : ∃ q9 : Nat, (cap : Int) + (if (m9 : Int) - (cap : Int) < (cap : Int) + 2 then (cap : Int) + 2 else (m9 : Int) - (cap : Int)) = (q9 : Int) ∧ m9 ≤ q9 ∧ q9 ≤ 120 := by
    by_cases g : (m9 : Int) - (cap : Int) < (cap : Int) + 2
    · exact ⟨cap + cap + 2, by rw [if_pos g]; omega, by omega, by omega⟩
    · exact ⟨m9, by rw [if_neg g]; omega, by omega, by omega⟩
  refine y_aload C 1 dJ5_ensureCapacityInternal_d00df_17 rfl rfl ?_
  refine y_aload C 1 dJ5_ensureCapacityInternal_d00df_18 rfl rfl ?_
  refine t_getJ C 0 dJ5_ensureCapacityInternal_d00df_19 yj_15 rfl rfl ?_
  refine y_aload C 1 dJ5_ensureCapacityInternal_d00df_22 rfl rfl ?_
  refine y_iload C 2 dJ5_ensureCapacityInternal_d00df_23 rfl rfl ?_
  refine t_callU (wa := []) (av := [.int (Int32.ofInt (m9 : Int))]) C hG dJ5_ensureCapacityInternal_d00df_24 (xin_56 _ (List.mem_of_getElem? (i := 12) rfl)) (xin_56 _ (List.mem_of_getElem? (i := 13) rfl)) (xin_56 _ (List.mem_of_getElem? (i := 14) rfl)) (xin_56 _ (List.mem_of_getElem? (i := 15) rfl)) xy_J5_newCapacity_0f7a4 (by omega) (by omega) 0 rfl rfl (Nat.le_of_ble_eq_true rfl) (k_newCap (m9 := m9) (q9 := q9) ⟨h8, hm⟩ hq ⟨by omega, by omega⟩) (by omega) (by omega) rfl (fun rv w9 hw9 => ?_)
  obtain ⟨rfl, rfl⟩ := hw9
  refine y_aload C 1 dJ5_ensureCapacityInternal_d00df_27 rfl rfl ?_
  refine t_getJ C 0 dJ5_ensureCapacityInternal_d00df_28 yj_22 rfl rfl ?_
  refine t_ishl0 C dJ5_ensureCapacityInternal_d00df_31 ?_
  refine t_callS (wa := [(t0, .inr (1, [.ref t1, .int 0, .int ml, .int (Int32.ofInt (n : Int))]))]) (av := [.ref t1, .int (Int32.ofInt (q9 : Int))]) C hG dJ5_ensureCapacityInternal_d00df_32 (xin_57 _ (List.mem_of_getElem? (i := 5) rfl)) (xin_57 _ (List.mem_of_getElem? (i := 6) rfl)) xy_J7_copyOf_9075b (by omega) (by omega) rfl (Nat.le_of_ble_eq_true rfl) (k_copyOf (t1 := t1) (cap := cap) (q := q9) (f := f) ⟨by omega, by omega⟩ (fun i => t_fit (hf i))) (by omega) (by omega) rfl (fun rv w9 hw9 => ?_)
  obtain ⟨t2, rfl, rfl⟩ := hw9
  refine y_putJ C dJ5_ensureCapacityInternal_d00df_35 yj_15 rfl rfl (Nat.le_of_ble_eq_true rfl) ?_
  refine t_pick (ws' := tB (yDA Γ) t0 t2 q9 n ml (va_cpy f (fun _ => 0) 0 0 cap)) [0, 2] rfl (by decide) ?_
  refine t_ret hR dJ5_ensureCapacityInternal_d00df_38 (by omega) (by omega) ⟨rfl, t2, q9, _, rfl, hq1, by omega, by omega, fun j hj => ?_, fun j => ?_⟩
  · rw [pk_cpy_in (Nat.zero_le _) (by omega)]; congr 1; omega
  · by_cases g : j < cap
    · rw [pk_cpy_in (Nat.zero_le _) (by omega)]; exact hf _
    · rw [pk_cpy_out (Or.inr (by omega))]; decide

/-! ===== format, by the class ===== -/
theorem dX10_format_0 : decode cX10_format 0 = .ok (.aload_n 0, 1) := by decide +kernel
theorem dX10_format_1 : decode cX10_format 1 = .ok (.getfield 83, 3) := by decide +kernel
theorem dX10_format_4 : decode cX10_format 4 = .ok (.iconst 0, 1) := by decide +kernel
theorem dX10_format_5 : decode cX10_format 5 = .ok (.invokevirtual 331, 3) := by decide +kernel
theorem dX10_format_8 : decode cX10_format 8 = .ok (.aload_n 0, 1) := by decide +kernel
theorem dX10_format_9 : decode cX10_format 9 = .ok (.getfield 27, 3) := by decide +kernel
theorem dX10_format_12 : decode cX10_format 12 = .ok (.getfield 136, 3) := by decide +kernel
theorem dX10_format_15 : decode cX10_format 15 = .ok (.tableswitch 87 1 3 #[25, 49, 73], 25) := by decide +kernel
theorem dX10_format_40 : decode cX10_format 40 = .ok (.aload_n 0, 1) := by decide +kernel
theorem dX10_format_41 : decode cX10_format 41 = .ok (.getfield 83, 3) := by decide +kernel
theorem dX10_format_44 : decode cX10_format 44 = .ok (.ldc_w 334, 3) := by decide +kernel
theorem dX10_format_47 : decode cX10_format 47 = .ok (.invokevirtual 336, 3) := by decide +kernel
theorem dX10_format_50 : decode cX10_format 50 = .ok (.aload_n 0, 1) := by decide +kernel
theorem dX10_format_51 : decode cX10_format 51 = .ok (.getfield 27, 3) := by decide +kernel
theorem dX10_format_54 : decode cX10_format 54 = .ok (.getfield 148, 3) := by decide +kernel
theorem dX10_format_57 : decode cX10_format 57 = .ok (.invokevirtual 339, 3) := by decide +kernel
theorem dX10_format_60 : decode cX10_format 60 = .ok (.pop, 1) := by decide +kernel
theorem dX10_format_61 : decode cX10_format 61 = .ok (.goto 52, 3) := by decide +kernel
theorem dX10_format_64 : decode cX10_format 64 = .ok (.aload_n 0, 1) := by decide +kernel
theorem dX10_format_65 : decode cX10_format 65 = .ok (.getfield 83, 3) := by decide +kernel
theorem dX10_format_68 : decode cX10_format 68 = .ok (.ldc_w 342, 3) := by decide +kernel
theorem dX10_format_71 : decode cX10_format 71 = .ok (.invokevirtual 336, 3) := by decide +kernel
theorem dX10_format_74 : decode cX10_format 74 = .ok (.aload_n 0, 1) := by decide +kernel
theorem dX10_format_75 : decode cX10_format 75 = .ok (.getfield 27, 3) := by decide +kernel
theorem dX10_format_78 : decode cX10_format 78 = .ok (.getfield 145, 3) := by decide +kernel
theorem dX10_format_81 : decode cX10_format 81 = .ok (.invokevirtual 339, 3) := by decide +kernel
theorem dX10_format_84 : decode cX10_format 84 = .ok (.pop, 1) := by decide +kernel
theorem dX10_format_85 : decode cX10_format 85 = .ok (.goto 28, 3) := by decide +kernel
theorem dX10_format_88 : decode cX10_format 88 = .ok (.aload_n 0, 1) := by decide +kernel
theorem dX10_format_89 : decode cX10_format 89 = .ok (.getfield 83, 3) := by decide +kernel
theorem dX10_format_92 : decode cX10_format 92 = .ok (.ldc_w 344, 3) := by decide +kernel
theorem dX10_format_95 : decode cX10_format 95 = .ok (.invokevirtual 336, 3) := by decide +kernel
theorem dX10_format_98 : decode cX10_format 98 = .ok (.pop, 1) := by decide +kernel
theorem dX10_format_99 : decode cX10_format 99 = .ok (.goto 14, 3) := by decide +kernel
theorem dX10_format_102 : decode cX10_format 102 = .ok (.aload_n 0, 1) := by decide +kernel
theorem dX10_format_103 : decode cX10_format 103 = .ok (.getfield 83, 3) := by decide +kernel
theorem dX10_format_106 : decode cX10_format 106 = .ok (.ldc_w 346, 3) := by decide +kernel
theorem dX10_format_109 : decode cX10_format 109 = .ok (.invokevirtual 336, 3) := by decide +kernel
theorem dX10_format_112 : decode cX10_format 112 = .ok (.pop, 1) := by decide +kernel
theorem dX10_format_113 : decode cX10_format 113 = .ok (.aload_n 0, 1) := by decide +kernel
theorem dX10_format_114 : decode cX10_format 114 = .ok (.aload_n 0, 1) := by decide +kernel
theorem dX10_format_115 : decode cX10_format 115 = .ok (.getfield 27, 3) := by decide +kernel
theorem dX10_format_118 : decode cX10_format 118 = .ok (.iconst 0, 1) := by decide +kernel
theorem dX10_format_119 : decode cX10_format 119 = .ok (.invokevirtual 184, 3) := by decide +kernel
theorem dX10_format_122 : decode cX10_format 122 = .ok (.invokevirtual 348, 3) := by decide +kernel
theorem dX10_format_125 : decode cX10_format 125 = .ok (.aload_n 0, 1) := by decide +kernel
theorem dX10_format_126 : decode cX10_format 126 = .ok (.aload_n 0, 1) := by decide +kernel
theorem dX10_format_127 : decode cX10_format 127 = .ok (.getfield 27, 3) := by decide +kernel
theorem dX10_format_130 : decode cX10_format 130 = .ok (.iconst 1, 1) := by decide +kernel
theorem dX10_format_131 : decode cX10_format 131 = .ok (.invokevirtual 184, 3) := by decide +kernel
theorem dX10_format_134 : decode cX10_format 134 = .ok (.invokevirtual 348, 3) := by decide +kernel
theorem dX10_format_137 : decode cX10_format 137 = .ok (.aload_n 0, 1) := by decide +kernel
theorem dX10_format_138 : decode cX10_format 138 = .ok (.getfield 83, 3) := by decide +kernel
theorem dX10_format_141 : decode cX10_format 141 = .ok (.invokevirtual 352, 3) := by decide +kernel
theorem dX10_format_144 : decode cX10_format 144 = .ok (.ireturn, 1) := by decide +kernel
theorem xy_J4_setLength_d00df : xY yJ4_setLength_d00df cJ4_setLength_d00df 2 none 1 := ⟨(xin_55 _ (List.mem_of_getElem? (i := 23) rfl)), (xin_2 _ (List.mem_of_getElem? (i := 19) rfl)), by decide +kernel, by decide +kernel, by decide +kernel⟩
theorem xy_J4_append_15ec4 : xY yJ4_append_15ec4 cJ4_append_15ec4 2 (some (.object "java/lang/StringBuilder")) 1 := ⟨(xin_58 _ (List.mem_of_getElem? (i := 15) rfl)), (xin_2 _ (List.mem_of_getElem? (i := 19) rfl)), by decide +kernel, by decide +kernel, by decide +kernel⟩
theorem xy_X10_appendEnd : xY yX10_appendEnd cX10_appendEnd 2 none 1 := ⟨(xin_62 _ (List.mem_of_getElem? (i := 10) rfl)), (xin_1 _ (List.mem_of_getElem? (i := 2) rfl)), by decide +kernel, by decide +kernel, by decide +kernel⟩
set_option maxRecDepth 100000 in
set_option maxHeartbeats 4000000 in
theorem k_format0 {l : Launch} {dA : Nat → ClassId} {ad aX : Nat → Nat} {m : xM} {t1 cap n : Nat} {ml : Int32} {f : Nat → Int32} {G : Nat → Int} {q1 fr1 rc1 cq1 cf1 cr1 q2 fr2 rc2 cq2 cf2 cr2 : Nat} (hp : m 11 8 = 0) (hq1 : m 12 5 = q1) (hf1 : m 15 4 = fr1) (hr1 : m 12 6 = rc1) (hq2 : m 23 5 = q2) (hf2 : m 26 4 = fr2) (hr2 : m 23 6 = rc2) (Hq1 : q1 ≤ 1000000000 ∧ isL q1 cq1) (Hf1 : fr1 ≤ 1000000000 ∧ isL fr1 cf1) (Hr1 : rc1 ≤ 1000000000 ∧ isL rc1 cr1) (Hq2 : q2 ≤ 1000000000 ∧ isL q2 cq2) (Hf2 : fr2 ≤ 1000000000 ∧ isL fr2 cf2) (Hr2 : rc2 ≤ 1000000000 ∧ isL rc2 cr2) (h60 : (0 + (xSby.getD 20 []).length + 1 + cq1 + 1 + cf1 + 1 + cr1 + 1 + cq2 + 1 + cf2 + 1 + cr2) ≤ 60) (hn6 : n ≤ 60) (hc : cap ≤ 500) (hf : ∀ j, (f j).toInt8.toInt32 = f j) (hw : ∀ j, j < (xSby.getD 20 []).length → G (0 + j) = xsc 20 j) (ga1 : G (0 + (xSby.getD 20 []).length) = 32) (gb1 : ∀ j, j < cq1 → G (0 + (xSby.getD 20 []).length + 1 + j) = dgt q1 (cq1 - 1 - j)) (gc1 : G (0 + (xSby.getD 20 []).length + 1 + cq1) = 47) (gd1 : ∀ j, j < cf1 → G (0 + (xSby.getD 20 []).length + 1 + cq1 + 1 + j) = dgt fr1 (cf1 - 1 - j)) (ge1 : G (0 + (xSby.getD 20 []).length + 1 + cq1 + 1 + cf1) = 47) (gf1 : ∀ j, j < cr1 → G (0 + (xSby.getD 20 []).length + 1 + cq1 + 1 + cf1 + 1 + j) = dgt rc1 (cr1 - 1 - j)) (ga2 : G ((0 + (xSby.getD 20 []).length + 1 + cq1 + 1 + cf1 + 1 + cr1)) = 32) (gb2 : ∀ j, j < cq2 → G ((0 + (xSby.getD 20 []).length + 1 + cq1 + 1 + cf1 + 1 + cr1) + 1 + j) = dgt q2 (cq2 - 1 - j)) (gc2 : G ((0 + (xSby.getD 20 []).length + 1 + cq1 + 1 + cf1 + 1 + cr1) + 1 + cq2) = 47) (gd2 : ∀ j, j < cf2 → G ((0 + (xSby.getD 20 []).length + 1 + cq1 + 1 + cf1 + 1 + cr1) + 1 + cq2 + 1 + j) = dgt fr2 (cf2 - 1 - j)) (ge2 : G ((0 + (xSby.getD 20 []).length + 1 + cq1 + 1 + cf1 + 1 + cr1) + 1 + cq2 + 1 + cf2) = 47) (gf2 : ∀ j, j < cr2 → G ((0 + (xSby.getD 20 []).length + 1 + cq1 + 1 + cf1 + 1 + cr1) + 1 + cq2 + 1 + cf2 + 1 + j) = dgt rc2 (cr2 - 1 - j)) : tMet l yX10_format cX10_format 1 (some .int) 7 15 1800 [.ref (aX 0)] dA ad (xwld aX dA m 0 lay_X ++ tB dA (aX 445) t1 cap n ml f) (fun r w => r = some (.int (Int32.ofInt (((0 + (xSby.getD 20 []).length + 1 + cq1 + 1 + cf1 + 1 + cr1 + 1 + cq2 + 1 + cf2 + 1 + cr2) : Nat) : Int))) ∧ ∃ (t2 c2 : Nat) (m2 : Int32) (f2 : Nat → Int32), w = xwld aX dA m 0 lay_X ++ tB dA (aX 445) t2 c2 (0 + (xSby.getD 20 []).length + 1 + cq1 + 1 + cf1 + 1 + cr1 + 1 + cq2 + 1 + cf2 + 1 + cr2) m2 f2 ∧ (0 + (xSby.getD 20 []).length + 1 + cq1 + 1 + cf1 + 1 + cr1 + 1 + cq2 + 1 + cf2 + 1 + cr2) ≤ c2 ∧ c2 ≤ 500 ∧ (∀ j, (f2 j).toInt8.toInt32 = f2 j) ∧ tS f2 (0 + (xSby.getD 20 []).length + 1 + cq1 + 1 + cf1 + 1 + cr1 + 1 + cq2 + 1 + cf2 + 1 + cr2) G) := by
  refine tMet_ii (Or.inl (by decide +kernel)) (Nat.le_of_ble_eq_true rfl) (fun Γ C hG hsa hda hR hl9 => ?_)
  subst hl9; subst hda; subst hsa
  refine y_aload C 0 dX10_format_0 rfl rfl ?_
  refine y_get (v := .ref (aX 445)) C 0 dX10_format_1 fF_X10_83 (t_cell (s := .inl (12, [some 1, some 6, some 11, some 44, some 77, none, some 440, none, none, some 441, none, none, some 442, some 443, some 444, some 445])) rfl) rfl ?_
  refine y_iconst (v := Int32.ofInt (0)) C dX10_format_4 rfl ?_
  refine t_callV (wa := xwld aX (yDA Γ) m 0 lay_X) (av := [.int (Int32.ofInt 0)]) C hG dX10_format_5 (xin_55 _ (List.mem_of_getElem? (i := 20) rfl)) (xin_55 _ (List.mem_of_getElem? (i := 22) rfl)) (xin_55 _ (List.mem_of_getElem? (i := 21) rfl)) xy_J4_setLength_d00df (by omega) (by omega) 0 rfl ⟨TJ4, 4, rfl⟩ rfl (Nat.le_of_ble_eq_true rfl) (k_setLen hn6 hc hf) (by omega) (by omega) rfl (fun rv w9 hw9 => ?_)
  obtain ⟨rfl, t1, c1, m1, f1, rfl, y1, z1⟩ := hw9
  have s1 : tS f1 0 G := fun j hj => absurd hj (Nat.not_lt_zero j)
  refine y_aload C 0 dX10_format_8 rfl rfl ?_
  refine y_get (v := .ref (aX 11)) C 0 dX10_format_9 fF_X10_27 (t_cell (s := .inl (12, [some 1, some 6, some 11, some 44, some 77, none, some 440, none, none, some 441, none, none, some 442, some 443, some 444, some 445])) rfl) rfl ?_
  refine y_get (v := .int (Int32.ofInt (m 11 8))) C 11 dX10_format_12 fF_X10_136 (t_cell (s := .inl (5, [some 1, some 12, some 23, some 34, some 39, some 41, some 42, none, none, none, none, none, none, none, none, none, none])) rfl) rfl ?_
  rw [hp]
  refine y_tableOut C 102 dX10_format_15 (Or.inl (by decide)) (by decide) ?_
  refine y_aload C 0 dX10_format_102 rfl rfl ?_
  refine y_get (v := .ref (aX 445)) C 0 dX10_format_103 fF_X10_83 (t_cell (s := .inl (12, [some 1, some 6, some 11, some 44, some 77, none, some 440, none, none, some 441, none, none, some 442, some 443, some 444, some 445])) rfl) rfl ?_
  refine y_ldcSW C "idle" 20 dX10_format_106 (List.mem_of_getElem? (i := 3) rfl) ?_
  refine t_callV (wa := xwld aX (yDA Γ) m 0 lay_X) (av := [.ref (ySA Γ (1000 + 20))]) C hG dX10_format_109 (xin_58 _ (List.mem_of_getElem? (i := 12) rfl)) (xin_58 _ (List.mem_of_getElem? (i := 14) rfl)) (xin_58 _ (List.mem_of_getElem? (i := 13) rfl)) xy_J4_append_15ec4 (by omega) (by omega) 0 rfl ⟨TJ4, 4, rfl⟩ rfl (Nat.le_of_ble_eq_true rfl) (k_appS (i := 20) (by decide) (Nat.zero_le _) (by omega) y1 z1) (by omega) (by omega) rfl (fun rv w9 hw9 => ?_)
  obtain ⟨rfl, t2, c2, f2, rfl, x2, y2, z2, u2, v2⟩ := hw9
  have s2 := tS.w (i := 20) (by decide) s1 u2 v2 hw
  refine t_pop C dX10_format_112 rfl ?_
  refine y_aload C 0 dX10_format_113 rfl rfl ?_
  refine y_aload C 0 dX10_format_114 rfl rfl ?_
  refine y_get (v := .ref (aX 11)) C 0 dX10_format_115 fF_X10_27 (t_cell (s := .inl (12, [some 1, some 6, some 11, some 44, some 77, none, some 440, none, none, some 441, none, none, some 442, some 443, some 444, some 445])) rfl) rfl ?_
  refine y_iconst (v := 0) C dX10_format_118 (by decide) ?_
  refine t_callV (wa := []) (av := [.int 0]) C hG dX10_format_119 (xin_27 _ (List.mem_of_getElem? (i := 3) rfl)) (xin_27 _ (List.mem_of_getElem? (i := 5) rfl)) (xin_27 _ (List.mem_of_getElem? (i := 4) rfl)) xy_X3_endOf (by omega) (by omega) 11 (t_cell (s := .inl (5, [some 1, some 12, some 23, some 34, some 39, some 41, some 42, none, none, none, none, none, none, none, none, none, none])) rfl) ⟨TX3, 17, rfl⟩ rfl (Nat.le_of_ble_eq_true rfl) k_endOf0 (by omega) (by omega) rfl (fun rv w9 hw9 => ?_)
  obtain ⟨rfl, rfl⟩ := hw9
  refine y_eqw (List.nil_append _) ?_
  refine t_callV (wa := []) (av := [.ref (aX 12)]) C hG dX10_format_122 (xin_62 _ (List.mem_of_getElem? (i := 7) rfl)) (xin_62 _ (List.mem_of_getElem? (i := 9) rfl)) (xin_62 _ (List.mem_of_getElem? (i := 8) rfl)) xy_X10_appendEnd (by omega) (by omega) 0 (t_cell (s := .inl (12, [some 1, some 6, some 11, some 44, some 77, none, some 440, none, none, some 441, none, none, some 442, some 443, some 444, some 445])) rfl) ⟨TX10, 16, rfl⟩ rfl (Nat.le_of_ble_eq_true rfl) (k_appEnd12 hq1 hf1 hr1 Hq1 Hf1 Hr1 x2 (by omega) y2 z2 s2 ga1 gb1 gc1 gd1 ge1 gf1) (by omega) (by omega) rfl (fun rv w9 hw9 => ?_)
  obtain ⟨rfl, t4, c4, f4, rfl, x4, y4, z4, s4⟩ := hw9
  refine y_eqw (List.nil_append _) ?_
  refine y_aload C 0 dX10_format_125 rfl rfl ?_
  refine y_aload C 0 dX10_format_126 rfl rfl ?_
  refine y_get (v := .ref (aX 11)) C 0 dX10_format_127 fF_X10_27 (t_cell (s := .inl (12, [some 1, some 6, some 11, some 44, some 77, none, some 440, none, none, some 441, none, none, some 442, some 443, some 444, some 445])) rfl) rfl ?_
  refine y_iconst (v := Int32.ofInt (1)) C dX10_format_130 rfl ?_
  refine t_callV (wa := []) (av := [.int (Int32.ofInt 1)]) C hG dX10_format_131 (xin_27 _ (List.mem_of_getElem? (i := 3) rfl)) (xin_27 _ (List.mem_of_getElem? (i := 5) rfl)) (xin_27 _ (List.mem_of_getElem? (i := 4) rfl)) xy_X3_endOf (by omega) (by omega) 11 (t_cell (s := .inl (5, [some 1, some 12, some 23, some 34, some 39, some 41, some 42, none, none, none, none, none, none, none, none, none, none])) rfl) ⟨TX3, 17, rfl⟩ rfl (Nat.le_of_ble_eq_true rfl) k_endOf1 (by omega) (by omega) rfl (fun rv w9 hw9 => ?_)
  obtain ⟨rfl, rfl⟩ := hw9
  refine y_eqw (List.nil_append _) ?_
  refine t_callV (wa := []) (av := [.ref (aX 23)]) C hG dX10_format_134 (xin_62 _ (List.mem_of_getElem? (i := 7) rfl)) (xin_62 _ (List.mem_of_getElem? (i := 9) rfl)) (xin_62 _ (List.mem_of_getElem? (i := 8) rfl)) xy_X10_appendEnd (by omega) (by omega) 0 (t_cell (s := .inl (12, [some 1, some 6, some 11, some 44, some 77, none, some 440, none, none, some 441, none, none, some 442, some 443, some 444, some 445])) rfl) ⟨TX10, 16, rfl⟩ rfl (Nat.le_of_ble_eq_true rfl) (k_appEnd23 hq2 hf2 hr2 Hq2 Hf2 Hr2 x4 (by omega) y4 z4 s4 ga2 gb2 gc2 gd2 ge2 gf2) (by omega) (by omega) rfl (fun rv w9 hw9 => ?_)
  obtain ⟨rfl, t5, c5, f5, rfl, x5, y5, z5, s5⟩ := hw9
  refine y_eqw (List.nil_append _) ?_
  refine y_aload C 0 dX10_format_137 rfl rfl ?_
  refine y_get (v := .ref (aX 445)) C 0 dX10_format_138 fF_X10_83 (t_cell (s := .inl (12, [some 1, some 6, some 11, some 44, some 77, none, some 440, none, none, some 441, none, none, some 442, some 443, some 444, some 445])) rfl) rfl ?_
  refine t_callV (wa := xwld aX (yDA Γ) m 0 lay_X) (av := []) C hG dX10_format_141 (xin_63 _ (List.mem_of_getElem? (i := 1) rfl)) (xin_63 _ (List.mem_of_getElem? (i := 3) rfl)) (xin_63 _ (List.mem_of_getElem? (i := 2) rfl)) xy_J4_length_8abf5 (by omega) (by omega) 0 rfl ⟨TJ4, 4, rfl⟩ rfl (Nat.le_of_ble_eq_true rfl) k_len (by omega) (by omega) rfl (fun rv w9 hw9 => ?_)
  obtain ⟨rfl, rfl⟩ := hw9
  exact t_iret hR dX10_format_144 (by omega) (by omega) ⟨rfl, t5, c5, m1, f5, rfl, x5, y5, z5, s5⟩
set_option maxRecDepth 100000 in
set_option maxHeartbeats 4000000 in
theorem k_format1 {l : Launch} {dA : Nat → ClassId} {ad aX : Nat → Nat} {m : xM} {t1 cap n : Nat} {ml : Int32} {f : Nat → Int32} {G : Nat → Int} {q1 fr1 rc1 cq1 cf1 cr1 q2 fr2 rc2 cq2 cf2 cr2 st cs : Nat} (hp : m 11 8 = 1) (hq1 : m 12 5 = q1) (hf1 : m 15 4 = fr1) (hr1 : m 12 6 = rc1) (hq2 : m 23 5 = q2) (hf2 : m 26 4 = fr2) (hr2 : m 23 6 = rc2) (Hq1 : q1 ≤ 1000000000 ∧ isL q1 cq1) (Hf1 : fr1 ≤ 1000000000 ∧ isL fr1 cf1) (Hr1 : rc1 ≤ 1000000000 ∧ isL rc1 cr1) (Hq2 : q2 ≤ 1000000000 ∧ isL q2 cq2) (Hf2 : fr2 ≤ 1000000000 ∧ isL fr2 cf2) (Hr2 : rc2 ≤ 1000000000 ∧ isL rc2 cr2) (hst : m 11 11 = st) (Hs : st ≤ 1000000000 ∧ isL st cs) (h60 : (0 + (xSby.getD 25 []).length + cs + 1 + cq1 + 1 + cf1 + 1 + cr1 + 1 + cq2 + 1 + cf2 + 1 + cr2) ≤ 60) (hn6 : n ≤ 60) (hc : cap ≤ 500) (hf : ∀ j, (f j).toInt8.toInt32 = f j) (hw : ∀ j, j < (xSby.getD 25 []).length → G (0 + j) = xsc 25 j) (hs : ∀ j, j < cs → G (0 + (xSby.getD 25 []).length + j) = dgt st (cs - 1 - j)) (ga1 : G (0 + (xSby.getD 25 []).length + cs) = 32) (gb1 : ∀ j, j < cq1 → G (0 + (xSby.getD 25 []).length + cs + 1 + j) = dgt q1 (cq1 - 1 - j)) (gc1 : G (0 + (xSby.getD 25 []).length + cs + 1 + cq1) = 47) (gd1 : ∀ j, j < cf1 → G (0 + (xSby.getD 25 []).length + cs + 1 + cq1 + 1 + j) = dgt fr1 (cf1 - 1 - j)) (ge1 : G (0 + (xSby.getD 25 []).length + cs + 1 + cq1 + 1 + cf1) = 47) (gf1 : ∀ j, j < cr1 → G (0 + (xSby.getD 25 []).length + cs + 1 + cq1 + 1 + cf1 + 1 + j) = dgt rc1 (cr1 - 1 - j)) (ga2 : G ((0 + (xSby.getD 25 []).length + cs + 1 + cq1 + 1 + cf1 + 1 + cr1)) = 32) (gb2 : ∀ j, j < cq2 → G ((0 + (xSby.getD 25 []).length + cs + 1 + cq1 + 1 + cf1 + 1 + cr1) + 1 + j) = dgt q2 (cq2 - 1 - j)) (gc2 : G ((0 + (xSby.getD 25 []).length + cs + 1 + cq1 + 1 + cf1 + 1 + cr1) + 1 + cq2) = 47) (gd2 : ∀ j, j < cf2 → G ((0 + (xSby.getD 25 []).length + cs + 1 + cq1 + 1 + cf1 + 1 + cr1) + 1 + cq2 + 1 + j) = dgt fr2 (cf2 - 1 - j)) (ge2 : G ((0 + (xSby.getD 25 []).length + cs + 1 + cq1 + 1 + cf1 + 1 + cr1) + 1 + cq2 + 1 + cf2) = 47) (gf2 : ∀ j, j < cr2 → G ((0 + (xSby.getD 25 []).length + cs + 1 + cq1 + 1 + cf1 + 1 + cr1) + 1 + cq2 + 1 + cf2 + 1 + j) = dgt rc2 (cr2 - 1 - j)) : tMet l yX10_format cX10_format 1 (some .int) 7 15 1800 [.ref (aX 0)] dA ad (xwld aX dA m 0 lay_X ++ tB dA (aX 445) t1 cap n ml f) (fun r w => r = some (.int (Int32.ofInt (((0 + (xSby.getD 25 []).length + cs + 1 + cq1 + 1 + cf1 + 1 + cr1 + 1 + cq2 + 1 + cf2 + 1 + cr2) : Nat) : Int))) ∧ ∃ (t2 c2 : Nat) (m2 : Int32) (f2 : Nat → Int32), w = xwld aX dA m 0 lay_X ++ tB dA (aX 445) t2 c2 (0 + (xSby.getD 25 []).length + cs + 1 + cq1 + 1 + cf1 + 1 + cr1 + 1 + cq2 + 1 + cf2 + 1 + cr2) m2 f2 ∧ (0 + (xSby.getD 25 []).length + cs + 1 + cq1 + 1 + cf1 + 1 + cr1 + 1 + cq2 + 1 + cf2 + 1 + cr2) ≤ c2 ∧ c2 ≤ 500 ∧ (∀ j, (f2 j).toInt8.toInt32 = f2 j) ∧ tS f2 (0 + (xSby.getD 25 []).length + cs + 1 + cq1 + 1 + cf1 + 1 + cr1 + 1 + cq2 + 1 + cf2 + 1 + cr2) G) := by
  refine tMet_ii (Or.inl (by decide +kernel)) (Nat.le_of_ble_eq_true rfl) (fun Γ C hG hsa hda hR hl9 => ?_)
  subst hl9; subst hda; subst hsa
  refine y_aload C 0 dX10_format_0 rfl rfl ?_
  refine y_get (v := .ref (aX 445)) C 0 dX10_format_1 fF_X10_83 (t_cell (s := .inl (12, [some 1, some 6, some 11, some 44, some 77, none, some 440, none, none, some 441, none, none, some 442, some 443, some 444, some 445])) rfl) rfl ?_
  refine y_iconst (v := Int32.ofInt (0)) C dX10_format_4 rfl ?_
  refine t_callV (wa := xwld aX (yDA Γ) m 0 lay_X) (av := [.int (Int32.ofInt 0)]) C hG dX10_format_5 (xin_55 _ (List.mem_of_getElem? (i := 20) rfl)) (xin_55 _ (List.mem_of_getElem? (i := 22) rfl)) (xin_55 _ (List.mem_of_getElem? (i := 21) rfl)) xy_J4_setLength_d00df (by omega) (by omega) 0 rfl ⟨TJ4, 4, rfl⟩ rfl (Nat.le_of_ble_eq_true rfl) (k_setLen hn6 hc hf) (by omega) (by omega) rfl (fun rv w9 hw9 => ?_)
  obtain ⟨rfl, t1, c1, m1, f1, rfl, y1, z1⟩ := hw9
  have s1 : tS f1 0 G := fun j hj => absurd hj (Nat.not_lt_zero j)
  refine y_aload C 0 dX10_format_8 rfl rfl ?_
  refine y_get (v := .ref (aX 11)) C 0 dX10_format_9 fF_X10_27 (t_cell (s := .inl (12, [some 1, some 6, some 11, some 44, some 77, none, some 440, none, none, some 441, none, none, some 442, some 443, some 444, some 445])) rfl) rfl ?_
  refine y_get (v := .int (Int32.ofInt (m 11 8))) C 11 dX10_format_12 fF_X10_136 (t_cell (s := .inl (5, [some 1, some 12, some 23, some 34, some 39, some 41, some 42, none, none, none, none, none, none, none, none, none, none])) rfl) rfl ?_
  rw [hp]
  refine y_table C 40 1 dX10_format_15 (by decide) (by decide) (by decide) rfl (by decide) ?_
  refine y_aload C 0 dX10_format_40 rfl rfl ?_
  refine y_get (v := .ref (aX 445)) C 0 dX10_format_41 fF_X10_83 (t_cell (s := .inl (12, [some 1, some 6, some 11, some 44, some 77, none, some 440, none, none, some 441, none, none, some 442, some 443, some 444, some 445])) rfl) rfl ?_
  refine y_ldcSW C "training " 25 dX10_format_44 (List.mem_of_getElem? (i := 0) rfl) ?_
  refine t_callV (wa := xwld aX (yDA Γ) m 0 lay_X) (av := [.ref (ySA Γ (1000 + 25))]) C hG dX10_format_47 (xin_58 _ (List.mem_of_getElem? (i := 12) rfl)) (xin_58 _ (List.mem_of_getElem? (i := 14) rfl)) (xin_58 _ (List.mem_of_getElem? (i := 13) rfl)) xy_J4_append_15ec4 (by omega) (by omega) 0 rfl ⟨TJ4, 4, rfl⟩ rfl (Nat.le_of_ble_eq_true rfl) (k_appS (i := 25) (by decide) (Nat.zero_le _) (by omega) y1 z1) (by omega) (by omega) rfl (fun rv w9 hw9 => ?_)
  obtain ⟨rfl, t2, c2, f2, rfl, x2, y2, z2, u2, v2⟩ := hw9
  have s2 := tS.w (i := 25) (by decide) s1 u2 v2 hw
  refine y_aload C 0 dX10_format_50 rfl rfl ?_
  refine y_get (v := .ref (aX 11)) C 0 dX10_format_51 fF_X10_27 (t_cell (s := .inl (12, [some 1, some 6, some 11, some 44, some 77, none, some 440, none, none, some 441, none, none, some 442, some 443, some 444, some 445])) rfl) rfl ?_
  refine y_get (v := .int (Int32.ofInt (m 11 11))) C 11 dX10_format_54 fF_X10_148 (t_cell (s := .inl (5, [some 1, some 12, some 23, some 34, some 39, some 41, some 42, none, none, none, none, none, none, none, none, none, none])) rfl) rfl ?_
  rw [hst]
  refine t_callV (wa := xwld aX (yDA Γ) m 0 lay_X) (av := [.int (Int32.ofInt (st : Int))]) C hG dX10_format_57 (xin_61 _ (List.mem_of_getElem? (i := 6) rfl)) (xin_61 _ (List.mem_of_getElem? (i := 8) rfl)) (xin_61 _ (List.mem_of_getElem? (i := 7) rfl)) xy_J4_append_bf812 (by omega) (by omega) 0 rfl ⟨TJ4, 4, rfl⟩ rfl (Nat.le_of_ble_eq_true rfl) (k_appI Hs.1 Hs.2 x2 (by omega) y2 z2) (by omega) (by omega) rfl (fun rv w9 hw9 => ?_)
  obtain ⟨rfl, t3, c3, f3, rfl, x3, y3, z3, u3, v3⟩ := hw9
  have s3 := tS.d s2 u3 v3 hs
  refine t_pop C dX10_format_60 rfl ?_
  refine y_goto C 113 dX10_format_61 (by decide) ?_
  refine y_aload C 0 dX10_format_113 rfl rfl ?_
  refine y_aload C 0 dX10_format_114 rfl rfl ?_
  refine y_get (v := .ref (aX 11)) C 0 dX10_format_115 fF_X10_27 (t_cell (s := .inl (12, [some 1, some 6, some 11, some 44, some 77, none, some 440, none, none, some 441, none, none, some 442, some 443, some 444, some 445])) rfl) rfl ?_
  refine y_iconst (v := 0) C dX10_format_118 (by decide) ?_
  refine t_callV (wa := []) (av := [.int 0]) C hG dX10_format_119 (xin_27 _ (List.mem_of_getElem? (i := 3) rfl)) (xin_27 _ (List.mem_of_getElem? (i := 5) rfl)) (xin_27 _ (List.mem_of_getElem? (i := 4) rfl)) xy_X3_endOf (by omega) (by omega) 11 (t_cell (s := .inl (5, [some 1, some 12, some 23, some 34, some 39, some 41, some 42, none, none, none, none, none, none, none, none, none, none])) rfl) ⟨TX3, 17, rfl⟩ rfl (Nat.le_of_ble_eq_true rfl) k_endOf0 (by omega) (by omega) rfl (fun rv w9 hw9 => ?_)
  obtain ⟨rfl, rfl⟩ := hw9
  refine y_eqw (List.nil_append _) ?_
  refine t_callV (wa := []) (av := [.ref (aX 12)]) C hG dX10_format_122 (xin_62 _ (List.mem_of_getElem? (i := 7) rfl)) (xin_62 _ (List.mem_of_getElem? (i := 9) rfl)) (xin_62 _ (List.mem_of_getElem? (i := 8) rfl)) xy_X10_appendEnd (by omega) (by omega) 0 (t_cell (s := .inl (12, [some 1, some 6, some 11, some 44, some 77, none, some 440, none, none, some 441, none, none, some 442, some 443, some 444, some 445])) rfl) ⟨TX10, 16, rfl⟩ rfl (Nat.le_of_ble_eq_true rfl) (k_appEnd12 hq1 hf1 hr1 Hq1 Hf1 Hr1 x3 (by omega) y3 z3 s3 ga1 gb1 gc1 gd1 ge1 gf1) (by omega) (by omega) rfl (fun rv w9 hw9 => ?_)
  obtain ⟨rfl, t4, c4, f4, rfl, x4, y4, z4, s4⟩ := hw9
  refine y_eqw (List.nil_append _) ?_
  refine y_aload C 0 dX10_format_125 rfl rfl ?_
  refine y_aload C 0 dX10_format_126 rfl rfl ?_
  refine y_get (v := .ref (aX 11)) C 0 dX10_format_127 fF_X10_27 (t_cell (s := .inl (12, [some 1, some 6, some 11, some 44, some 77, none, some 440, none, none, some 441, none, none, some 442, some 443, some 444, some 445])) rfl) rfl ?_
  refine y_iconst (v := Int32.ofInt (1)) C dX10_format_130 rfl ?_
  refine t_callV (wa := []) (av := [.int (Int32.ofInt 1)]) C hG dX10_format_131 (xin_27 _ (List.mem_of_getElem? (i := 3) rfl)) (xin_27 _ (List.mem_of_getElem? (i := 5) rfl)) (xin_27 _ (List.mem_of_getElem? (i := 4) rfl)) xy_X3_endOf (by omega) (by omega) 11 (t_cell (s := .inl (5, [some 1, some 12, some 23, some 34, some 39, some 41, some 42, none, none, none, none, none, none, none, none, none, none])) rfl) ⟨TX3, 17, rfl⟩ rfl (Nat.le_of_ble_eq_true rfl) k_endOf1 (by omega) (by omega) rfl (fun rv w9 hw9 => ?_)
  obtain ⟨rfl, rfl⟩ := hw9
  refine y_eqw (List.nil_append _) ?_
  refine t_callV (wa := []) (av := [.ref (aX 23)]) C hG dX10_format_134 (xin_62 _ (List.mem_of_getElem? (i := 7) rfl)) (xin_62 _ (List.mem_of_getElem? (i := 9) rfl)) (xin_62 _ (List.mem_of_getElem? (i := 8) rfl)) xy_X10_appendEnd (by omega) (by omega) 0 (t_cell (s := .inl (12, [some 1, some 6, some 11, some 44, some 77, none, some 440, none, none, some 441, none, none, some 442, some 443, some 444, some 445])) rfl) ⟨TX10, 16, rfl⟩ rfl (Nat.le_of_ble_eq_true rfl) (k_appEnd23 hq2 hf2 hr2 Hq2 Hf2 Hr2 x4 (by omega) y4 z4 s4 ga2 gb2 gc2 gd2 ge2 gf2) (by omega) (by omega) rfl (fun rv w9 hw9 => ?_)
  obtain ⟨rfl, t5, c5, f5, rfl, x5, y5, z5, s5⟩ := hw9
  refine y_eqw (List.nil_append _) ?_
  refine y_aload C 0 dX10_format_137 rfl rfl ?_
  refine y_get (v := .ref (aX 445)) C 0 dX10_format_138 fF_X10_83 (t_cell (s := .inl (12, [some 1, some 6, some 11, some 44, some 77, none, some 440, none, none, some 441, none, none, some 442, some 443, some 444, some 445])) rfl) rfl ?_
  refine t_callV (wa := xwld aX (yDA Γ) m 0 lay_X) (av := []) C hG dX10_format_141 (xin_63 _ (List.mem_of_getElem? (i := 1) rfl)) (xin_63 _ (List.mem_of_getElem? (i := 3) rfl)) (xin_63 _ (List.mem_of_getElem? (i := 2) rfl)) xy_J4_length_8abf5 (by omega) (by omega) 0 rfl ⟨TJ4, 4, rfl⟩ rfl (Nat.le_of_ble_eq_true rfl) k_len (by omega) (by omega) rfl (fun rv w9 hw9 => ?_)
  obtain ⟨rfl, rfl⟩ := hw9
  exact t_iret hR dX10_format_144 (by omega) (by omega) ⟨rfl, t5, c5, m1, f5, rfl, x5, y5, z5, s5⟩
set_option maxRecDepth 100000 in
set_option maxHeartbeats 4000000 in
theorem k_format2 {l : Launch} {dA : Nat → ClassId} {ad aX : Nat → Nat} {m : xM} {t1 cap n : Nat} {ml : Int32} {f : Nat → Int32} {G : Nat → Int} {q1 fr1 rc1 cq1 cf1 cr1 q2 fr2 rc2 cq2 cf2 cr2 st cs : Nat} (hp : m 11 8 = 2) (hq1 : m 12 5 = q1) (hf1 : m 15 4 = fr1) (hr1 : m 12 6 = rc1) (hq2 : m 23 5 = q2) (hf2 : m 26 4 = fr2) (hr2 : m 23 6 = rc2) (Hq1 : q1 ≤ 1000000000 ∧ isL q1 cq1) (Hf1 : fr1 ≤ 1000000000 ∧ isL fr1 cf1) (Hr1 : rc1 ≤ 1000000000 ∧ isL rc1 cr1) (Hq2 : q2 ≤ 1000000000 ∧ isL q2 cq2) (Hf2 : fr2 ≤ 1000000000 ∧ isL fr2 cf2) (Hr2 : rc2 ≤ 1000000000 ∧ isL rc2 cr2) (hst : m 11 10 = st) (Hs : st ≤ 1000000000 ∧ isL st cs) (h60 : (0 + (xSby.getD 24 []).length + cs + 1 + cq1 + 1 + cf1 + 1 + cr1 + 1 + cq2 + 1 + cf2 + 1 + cr2) ≤ 60) (hn6 : n ≤ 60) (hc : cap ≤ 500) (hf : ∀ j, (f j).toInt8.toInt32 = f j) (hw : ∀ j, j < (xSby.getD 24 []).length → G (0 + j) = xsc 24 j) (hs : ∀ j, j < cs → G (0 + (xSby.getD 24 []).length + j) = dgt st (cs - 1 - j)) (ga1 : G (0 + (xSby.getD 24 []).length + cs) = 32) (gb1 : ∀ j, j < cq1 → G (0 + (xSby.getD 24 []).length + cs + 1 + j) = dgt q1 (cq1 - 1 - j)) (gc1 : G (0 + (xSby.getD 24 []).length + cs + 1 + cq1) = 47) (gd1 : ∀ j, j < cf1 → G (0 + (xSby.getD 24 []).length + cs + 1 + cq1 + 1 + j) = dgt fr1 (cf1 - 1 - j)) (ge1 : G (0 + (xSby.getD 24 []).length + cs + 1 + cq1 + 1 + cf1) = 47) (gf1 : ∀ j, j < cr1 → G (0 + (xSby.getD 24 []).length + cs + 1 + cq1 + 1 + cf1 + 1 + j) = dgt rc1 (cr1 - 1 - j)) (ga2 : G ((0 + (xSby.getD 24 []).length + cs + 1 + cq1 + 1 + cf1 + 1 + cr1)) = 32) (gb2 : ∀ j, j < cq2 → G ((0 + (xSby.getD 24 []).length + cs + 1 + cq1 + 1 + cf1 + 1 + cr1) + 1 + j) = dgt q2 (cq2 - 1 - j)) (gc2 : G ((0 + (xSby.getD 24 []).length + cs + 1 + cq1 + 1 + cf1 + 1 + cr1) + 1 + cq2) = 47) (gd2 : ∀ j, j < cf2 → G ((0 + (xSby.getD 24 []).length + cs + 1 + cq1 + 1 + cf1 + 1 + cr1) + 1 + cq2 + 1 + j) = dgt fr2 (cf2 - 1 - j)) (ge2 : G ((0 + (xSby.getD 24 []).length + cs + 1 + cq1 + 1 + cf1 + 1 + cr1) + 1 + cq2 + 1 + cf2) = 47) (gf2 : ∀ j, j < cr2 → G ((0 + (xSby.getD 24 []).length + cs + 1 + cq1 + 1 + cf1 + 1 + cr1) + 1 + cq2 + 1 + cf2 + 1 + j) = dgt rc2 (cr2 - 1 - j)) : tMet l yX10_format cX10_format 1 (some .int) 7 15 1800 [.ref (aX 0)] dA ad (xwld aX dA m 0 lay_X ++ tB dA (aX 445) t1 cap n ml f) (fun r w => r = some (.int (Int32.ofInt (((0 + (xSby.getD 24 []).length + cs + 1 + cq1 + 1 + cf1 + 1 + cr1 + 1 + cq2 + 1 + cf2 + 1 + cr2) : Nat) : Int))) ∧ ∃ (t2 c2 : Nat) (m2 : Int32) (f2 : Nat → Int32), w = xwld aX dA m 0 lay_X ++ tB dA (aX 445) t2 c2 (0 + (xSby.getD 24 []).length + cs + 1 + cq1 + 1 + cf1 + 1 + cr1 + 1 + cq2 + 1 + cf2 + 1 + cr2) m2 f2 ∧ (0 + (xSby.getD 24 []).length + cs + 1 + cq1 + 1 + cf1 + 1 + cr1 + 1 + cq2 + 1 + cf2 + 1 + cr2) ≤ c2 ∧ c2 ≤ 500 ∧ (∀ j, (f2 j).toInt8.toInt32 = f2 j) ∧ tS f2 (0 + (xSby.getD 24 []).length + cs + 1 + cq1 + 1 + cf1 + 1 + cr1 + 1 + cq2 + 1 + cf2 + 1 + cr2) G) := by
  refine tMet_ii (Or.inl (by decide +kernel)) (Nat.le_of_ble_eq_true rfl) (fun Γ C hG hsa hda hR hl9 => ?_)
  subst hl9; subst hda; subst hsa
  refine y_aload C 0 dX10_format_0 rfl rfl ?_
  refine y_get (v := .ref (aX 445)) C 0 dX10_format_1 fF_X10_83 (t_cell (s := .inl (12, [some 1, some 6, some 11, some 44, some 77, none, some 440, none, none, some 441, none, none, some 442, some 443, some 444, some 445])) rfl) rfl ?_
  refine y_iconst (v := Int32.ofInt (0)) C dX10_format_4 rfl ?_
  refine t_callV (wa := xwld aX (yDA Γ) m 0 lay_X) (av := [.int (Int32.ofInt 0)]) C hG dX10_format_5 (xin_55 _ (List.mem_of_getElem? (i := 20) rfl)) (xin_55 _ (List.mem_of_getElem? (i := 22) rfl)) (xin_55 _ (List.mem_of_getElem? (i := 21) rfl)) xy_J4_setLength_d00df (by omega) (by omega) 0 rfl ⟨TJ4, 4, rfl⟩ rfl (Nat.le_of_ble_eq_true rfl) (k_setLen hn6 hc hf) (by omega) (by omega) rfl (fun rv w9 hw9 => ?_)
  obtain ⟨rfl, t1, c1, m1, f1, rfl, y1, z1⟩ := hw9
  have s1 : tS f1 0 G := fun j hj => absurd hj (Nat.not_lt_zero j)
  refine y_aload C 0 dX10_format_8 rfl rfl ?_
  refine y_get (v := .ref (aX 11)) C 0 dX10_format_9 fF_X10_27 (t_cell (s := .inl (12, [some 1, some 6, some 11, some 44, some 77, none, some 440, none, none, some 441, none, none, some 442, some 443, some 444, some 445])) rfl) rfl ?_
  refine y_get (v := .int (Int32.ofInt (m 11 8))) C 11 dX10_format_12 fF_X10_136 (t_cell (s := .inl (5, [some 1, some 12, some 23, some 34, some 39, some 41, some 42, none, none, none, none, none, none, none, none, none, none])) rfl) rfl ?_
  rw [hp]
  refine y_table C 64 2 dX10_format_15 (by decide) (by decide) (by decide) rfl (by decide) ?_
  refine y_aload C 0 dX10_format_64 rfl rfl ?_
  refine y_get (v := .ref (aX 445)) C 0 dX10_format_65 fF_X10_83 (t_cell (s := .inl (12, [some 1, some 6, some 11, some 44, some 77, none, some 440, none, none, some 441, none, none, some 442, some 443, some 444, some 445])) rfl) rfl ?_
  refine y_ldcSW C "online " 24 dX10_format_68 (List.mem_of_getElem? (i := 1) rfl) ?_
  refine t_callV (wa := xwld aX (yDA Γ) m 0 lay_X) (av := [.ref (ySA Γ (1000 + 24))]) C hG dX10_format_71 (xin_58 _ (List.mem_of_getElem? (i := 12) rfl)) (xin_58 _ (List.mem_of_getElem? (i := 14) rfl)) (xin_58 _ (List.mem_of_getElem? (i := 13) rfl)) xy_J4_append_15ec4 (by omega) (by omega) 0 rfl ⟨TJ4, 4, rfl⟩ rfl (Nat.le_of_ble_eq_true rfl) (k_appS (i := 24) (by decide) (Nat.zero_le _) (by omega) y1 z1) (by omega) (by omega) rfl (fun rv w9 hw9 => ?_)
  obtain ⟨rfl, t2, c2, f2, rfl, x2, y2, z2, u2, v2⟩ := hw9
  have s2 := tS.w (i := 24) (by decide) s1 u2 v2 hw
  refine y_aload C 0 dX10_format_74 rfl rfl ?_
  refine y_get (v := .ref (aX 11)) C 0 dX10_format_75 fF_X10_27 (t_cell (s := .inl (12, [some 1, some 6, some 11, some 44, some 77, none, some 440, none, none, some 441, none, none, some 442, some 443, some 444, some 445])) rfl) rfl ?_
  refine y_get (v := .int (Int32.ofInt (m 11 10))) C 11 dX10_format_78 fF_X10_145 (t_cell (s := .inl (5, [some 1, some 12, some 23, some 34, some 39, some 41, some 42, none, none, none, none, none, none, none, none, none, none])) rfl) rfl ?_
  rw [hst]
  refine t_callV (wa := xwld aX (yDA Γ) m 0 lay_X) (av := [.int (Int32.ofInt (st : Int))]) C hG dX10_format_81 (xin_61 _ (List.mem_of_getElem? (i := 6) rfl)) (xin_61 _ (List.mem_of_getElem? (i := 8) rfl)) (xin_61 _ (List.mem_of_getElem? (i := 7) rfl)) xy_J4_append_bf812 (by omega) (by omega) 0 rfl ⟨TJ4, 4, rfl⟩ rfl (Nat.le_of_ble_eq_true rfl) (k_appI Hs.1 Hs.2 x2 (by omega) y2 z2) (by omega) (by omega) rfl (fun rv w9 hw9 => ?_)
  obtain ⟨rfl, t3, c3, f3, rfl, x3, y3, z3, u3, v3⟩ := hw9
  have s3 := tS.d s2 u3 v3 hs
  refine t_pop C dX10_format_84 rfl ?_
  refine y_goto C 113 dX10_format_85 (by decide) ?_
  refine y_aload C 0 dX10_format_113 rfl rfl ?_
  refine y_aload C 0 dX10_format_114 rfl rfl ?_
  refine y_get (v := .ref (aX 11)) C 0 dX10_format_115 fF_X10_27 (t_cell (s := .inl (12, [some 1, some 6, some 11, some 44, some 77, none, some 440, none, none, some 441, none, none, some 442, some 443, some 444, some 445])) rfl) rfl ?_
  refine y_iconst (v := 0) C dX10_format_118 (by decide) ?_
  refine t_callV (wa := []) (av := [.int 0]) C hG dX10_format_119 (xin_27 _ (List.mem_of_getElem? (i := 3) rfl)) (xin_27 _ (List.mem_of_getElem? (i := 5) rfl)) (xin_27 _ (List.mem_of_getElem? (i := 4) rfl)) xy_X3_endOf (by omega) (by omega) 11 (t_cell (s := .inl (5, [some 1, some 12, some 23, some 34, some 39, some 41, some 42, none, none, none, none, none, none, none, none, none, none])) rfl) ⟨TX3, 17, rfl⟩ rfl (Nat.le_of_ble_eq_true rfl) k_endOf0 (by omega) (by omega) rfl (fun rv w9 hw9 => ?_)
  obtain ⟨rfl, rfl⟩ := hw9
  refine y_eqw (List.nil_append _) ?_
  refine t_callV (wa := []) (av := [.ref (aX 12)]) C hG dX10_format_122 (xin_62 _ (List.mem_of_getElem? (i := 7) rfl)) (xin_62 _ (List.mem_of_getElem? (i := 9) rfl)) (xin_62 _ (List.mem_of_getElem? (i := 8) rfl)) xy_X10_appendEnd (by omega) (by omega) 0 (t_cell (s := .inl (12, [some 1, some 6, some 11, some 44, some 77, none, some 440, none, none, some 441, none, none, some 442, some 443, some 444, some 445])) rfl) ⟨TX10, 16, rfl⟩ rfl (Nat.le_of_ble_eq_true rfl) (k_appEnd12 hq1 hf1 hr1 Hq1 Hf1 Hr1 x3 (by omega) y3 z3 s3 ga1 gb1 gc1 gd1 ge1 gf1) (by omega) (by omega) rfl (fun rv w9 hw9 => ?_)
  obtain ⟨rfl, t4, c4, f4, rfl, x4, y4, z4, s4⟩ := hw9
  refine y_eqw (List.nil_append _) ?_
  refine y_aload C 0 dX10_format_125 rfl rfl ?_
  refine y_aload C 0 dX10_format_126 rfl rfl ?_
  refine y_get (v := .ref (aX 11)) C 0 dX10_format_127 fF_X10_27 (t_cell (s := .inl (12, [some 1, some 6, some 11, some 44, some 77, none, some 440, none, none, some 441, none, none, some 442, some 443, some 444, some 445])) rfl) rfl ?_
  refine y_iconst (v := Int32.ofInt (1)) C dX10_format_130 rfl ?_
  refine t_callV (wa := []) (av := [.int (Int32.ofInt 1)]) C hG dX10_format_131 (xin_27 _ (List.mem_of_getElem? (i := 3) rfl)) (xin_27 _ (List.mem_of_getElem? (i := 5) rfl)) (xin_27 _ (List.mem_of_getElem? (i := 4) rfl)) xy_X3_endOf (by omega) (by omega) 11 (t_cell (s := .inl (5, [some 1, some 12, some 23, some 34, some 39, some 41, some 42, none, none, none, none, none, none, none, none, none, none])) rfl) ⟨TX3, 17, rfl⟩ rfl (Nat.le_of_ble_eq_true rfl) k_endOf1 (by omega) (by omega) rfl (fun rv w9 hw9 => ?_)
  obtain ⟨rfl, rfl⟩ := hw9
  refine y_eqw (List.nil_append _) ?_
  refine t_callV (wa := []) (av := [.ref (aX 23)]) C hG dX10_format_134 (xin_62 _ (List.mem_of_getElem? (i := 7) rfl)) (xin_62 _ (List.mem_of_getElem? (i := 9) rfl)) (xin_62 _ (List.mem_of_getElem? (i := 8) rfl)) xy_X10_appendEnd (by omega) (by omega) 0 (t_cell (s := .inl (12, [some 1, some 6, some 11, some 44, some 77, none, some 440, none, none, some 441, none, none, some 442, some 443, some 444, some 445])) rfl) ⟨TX10, 16, rfl⟩ rfl (Nat.le_of_ble_eq_true rfl) (k_appEnd23 hq2 hf2 hr2 Hq2 Hf2 Hr2 x4 (by omega) y4 z4 s4 ga2 gb2 gc2 gd2 ge2 gf2) (by omega) (by omega) rfl (fun rv w9 hw9 => ?_)
  obtain ⟨rfl, t5, c5, f5, rfl, x5, y5, z5, s5⟩ := hw9
  refine y_eqw (List.nil_append _) ?_
  refine y_aload C 0 dX10_format_137 rfl rfl ?_
  refine y_get (v := .ref (aX 445)) C 0 dX10_format_138 fF_X10_83 (t_cell (s := .inl (12, [some 1, some 6, some 11, some 44, some 77, none, some 440, none, none, some 441, none, none, some 442, some 443, some 444, some 445])) rfl) rfl ?_
  refine t_callV (wa := xwld aX (yDA Γ) m 0 lay_X) (av := []) C hG dX10_format_141 (xin_63 _ (List.mem_of_getElem? (i := 1) rfl)) (xin_63 _ (List.mem_of_getElem? (i := 3) rfl)) (xin_63 _ (List.mem_of_getElem? (i := 2) rfl)) xy_J4_length_8abf5 (by omega) (by omega) 0 rfl ⟨TJ4, 4, rfl⟩ rfl (Nat.le_of_ble_eq_true rfl) k_len (by omega) (by omega) rfl (fun rv w9 hw9 => ?_)
  obtain ⟨rfl, rfl⟩ := hw9
  exact t_iret hR dX10_format_144 (by omega) (by omega) ⟨rfl, t5, c5, m1, f5, rfl, x5, y5, z5, s5⟩
set_option maxRecDepth 100000 in
set_option maxHeartbeats 4000000 in
theorem k_format3 {l : Launch} {dA : Nat → ClassId} {ad aX : Nat → Nat} {m : xM} {t1 cap n : Nat} {ml : Int32} {f : Nat → Int32} {G : Nat → Int} {q1 fr1 rc1 cq1 cf1 cr1 q2 fr2 rc2 cq2 cf2 cr2 : Nat} (hp : m 11 8 = 3) (hq1 : m 12 5 = q1) (hf1 : m 15 4 = fr1) (hr1 : m 12 6 = rc1) (hq2 : m 23 5 = q2) (hf2 : m 26 4 = fr2) (hr2 : m 23 6 = rc2) (Hq1 : q1 ≤ 1000000000 ∧ isL q1 cq1) (Hf1 : fr1 ≤ 1000000000 ∧ isL fr1 cf1) (Hr1 : rc1 ≤ 1000000000 ∧ isL rc1 cr1) (Hq2 : q2 ≤ 1000000000 ∧ isL q2 cq2) (Hf2 : fr2 ≤ 1000000000 ∧ isL fr2 cf2) (Hr2 : rc2 ≤ 1000000000 ∧ isL rc2 cr2) (h60 : (0 + (xSby.getD 23 []).length + 1 + cq1 + 1 + cf1 + 1 + cr1 + 1 + cq2 + 1 + cf2 + 1 + cr2) ≤ 60) (hn6 : n ≤ 60) (hc : cap ≤ 500) (hf : ∀ j, (f j).toInt8.toInt32 = f j) (hw : ∀ j, j < (xSby.getD 23 []).length → G (0 + j) = xsc 23 j) (ga1 : G (0 + (xSby.getD 23 []).length) = 32) (gb1 : ∀ j, j < cq1 → G (0 + (xSby.getD 23 []).length + 1 + j) = dgt q1 (cq1 - 1 - j)) (gc1 : G (0 + (xSby.getD 23 []).length + 1 + cq1) = 47) (gd1 : ∀ j, j < cf1 → G (0 + (xSby.getD 23 []).length + 1 + cq1 + 1 + j) = dgt fr1 (cf1 - 1 - j)) (ge1 : G (0 + (xSby.getD 23 []).length + 1 + cq1 + 1 + cf1) = 47) (gf1 : ∀ j, j < cr1 → G (0 + (xSby.getD 23 []).length + 1 + cq1 + 1 + cf1 + 1 + j) = dgt rc1 (cr1 - 1 - j)) (ga2 : G ((0 + (xSby.getD 23 []).length + 1 + cq1 + 1 + cf1 + 1 + cr1)) = 32) (gb2 : ∀ j, j < cq2 → G ((0 + (xSby.getD 23 []).length + 1 + cq1 + 1 + cf1 + 1 + cr1) + 1 + j) = dgt q2 (cq2 - 1 - j)) (gc2 : G ((0 + (xSby.getD 23 []).length + 1 + cq1 + 1 + cf1 + 1 + cr1) + 1 + cq2) = 47) (gd2 : ∀ j, j < cf2 → G ((0 + (xSby.getD 23 []).length + 1 + cq1 + 1 + cf1 + 1 + cr1) + 1 + cq2 + 1 + j) = dgt fr2 (cf2 - 1 - j)) (ge2 : G ((0 + (xSby.getD 23 []).length + 1 + cq1 + 1 + cf1 + 1 + cr1) + 1 + cq2 + 1 + cf2) = 47) (gf2 : ∀ j, j < cr2 → G ((0 + (xSby.getD 23 []).length + 1 + cq1 + 1 + cf1 + 1 + cr1) + 1 + cq2 + 1 + cf2 + 1 + j) = dgt rc2 (cr2 - 1 - j)) : tMet l yX10_format cX10_format 1 (some .int) 7 15 1800 [.ref (aX 0)] dA ad (xwld aX dA m 0 lay_X ++ tB dA (aX 445) t1 cap n ml f) (fun r w => r = some (.int (Int32.ofInt (((0 + (xSby.getD 23 []).length + 1 + cq1 + 1 + cf1 + 1 + cr1 + 1 + cq2 + 1 + cf2 + 1 + cr2) : Nat) : Int))) ∧ ∃ (t2 c2 : Nat) (m2 : Int32) (f2 : Nat → Int32), w = xwld aX dA m 0 lay_X ++ tB dA (aX 445) t2 c2 (0 + (xSby.getD 23 []).length + 1 + cq1 + 1 + cf1 + 1 + cr1 + 1 + cq2 + 1 + cf2 + 1 + cr2) m2 f2 ∧ (0 + (xSby.getD 23 []).length + 1 + cq1 + 1 + cf1 + 1 + cr1 + 1 + cq2 + 1 + cf2 + 1 + cr2) ≤ c2 ∧ c2 ≤ 500 ∧ (∀ j, (f2 j).toInt8.toInt32 = f2 j) ∧ tS f2 (0 + (xSby.getD 23 []).length + 1 + cq1 + 1 + cf1 + 1 + cr1 + 1 + cq2 + 1 + cf2 + 1 + cr2) G) := by
  refine tMet_ii (Or.inl (by decide +kernel)) (Nat.le_of_ble_eq_true rfl) (fun Γ C hG hsa hda hR hl9 => ?_)
  subst hl9; subst hda; subst hsa
  refine y_aload C 0 dX10_format_0 rfl rfl ?_
  refine y_get (v := .ref (aX 445)) C 0 dX10_format_1 fF_X10_83 (t_cell (s := .inl (12, [some 1, some 6, some 11, some 44, some 77, none, some 440, none, none, some 441, none, none, some 442, some 443, some 444, some 445])) rfl) rfl ?_
  refine y_iconst (v := Int32.ofInt (0)) C dX10_format_4 rfl ?_
  refine t_callV (wa := xwld aX (yDA Γ) m 0 lay_X) (av := [.int (Int32.ofInt 0)]) C hG dX10_format_5 (xin_55 _ (List.mem_of_getElem? (i := 20) rfl)) (xin_55 _ (List.mem_of_getElem? (i := 22) rfl)) (xin_55 _ (List.mem_of_getElem? (i := 21) rfl)) xy_J4_setLength_d00df (by omega) (by omega) 0 rfl ⟨TJ4, 4, rfl⟩ rfl (Nat.le_of_ble_eq_true rfl) (k_setLen hn6 hc hf) (by omega) (by omega) rfl (fun rv w9 hw9 => ?_)
  obtain ⟨rfl, t1, c1, m1, f1, rfl, y1, z1⟩ := hw9
  have s1 : tS f1 0 G := fun j hj => absurd hj (Nat.not_lt_zero j)
  refine y_aload C 0 dX10_format_8 rfl rfl ?_
  refine y_get (v := .ref (aX 11)) C 0 dX10_format_9 fF_X10_27 (t_cell (s := .inl (12, [some 1, some 6, some 11, some 44, some 77, none, some 440, none, none, some 441, none, none, some 442, some 443, some 444, some 445])) rfl) rfl ?_
  refine y_get (v := .int (Int32.ofInt (m 11 8))) C 11 dX10_format_12 fF_X10_136 (t_cell (s := .inl (5, [some 1, some 12, some 23, some 34, some 39, some 41, some 42, none, none, none, none, none, none, none, none, none, none])) rfl) rfl ?_
  rw [hp]
  refine y_table C 88 3 dX10_format_15 (by decide) (by decide) (by decide) rfl (by decide) ?_
  refine y_aload C 0 dX10_format_88 rfl rfl ?_
  refine y_get (v := .ref (aX 445)) C 0 dX10_format_89 fF_X10_83 (t_cell (s := .inl (12, [some 1, some 6, some 11, some 44, some 77, none, some 440, none, none, some 441, none, none, some 442, some 443, some 444, some 445])) rfl) rfl ?_
  refine y_ldcSW C "lost" 23 dX10_format_92 (List.mem_of_getElem? (i := 2) rfl) ?_
  refine t_callV (wa := xwld aX (yDA Γ) m 0 lay_X) (av := [.ref (ySA Γ (1000 + 23))]) C hG dX10_format_95 (xin_58 _ (List.mem_of_getElem? (i := 12) rfl)) (xin_58 _ (List.mem_of_getElem? (i := 14) rfl)) (xin_58 _ (List.mem_of_getElem? (i := 13) rfl)) xy_J4_append_15ec4 (by omega) (by omega) 0 rfl ⟨TJ4, 4, rfl⟩ rfl (Nat.le_of_ble_eq_true rfl) (k_appS (i := 23) (by decide) (Nat.zero_le _) (by omega) y1 z1) (by omega) (by omega) rfl (fun rv w9 hw9 => ?_)
  obtain ⟨rfl, t2, c2, f2, rfl, x2, y2, z2, u2, v2⟩ := hw9
  have s2 := tS.w (i := 23) (by decide) s1 u2 v2 hw
  refine t_pop C dX10_format_98 rfl ?_
  refine y_goto C 113 dX10_format_99 (by decide) ?_
  refine y_aload C 0 dX10_format_113 rfl rfl ?_
  refine y_aload C 0 dX10_format_114 rfl rfl ?_
  refine y_get (v := .ref (aX 11)) C 0 dX10_format_115 fF_X10_27 (t_cell (s := .inl (12, [some 1, some 6, some 11, some 44, some 77, none, some 440, none, none, some 441, none, none, some 442, some 443, some 444, some 445])) rfl) rfl ?_
  refine y_iconst (v := 0) C dX10_format_118 (by decide) ?_
  refine t_callV (wa := []) (av := [.int 0]) C hG dX10_format_119 (xin_27 _ (List.mem_of_getElem? (i := 3) rfl)) (xin_27 _ (List.mem_of_getElem? (i := 5) rfl)) (xin_27 _ (List.mem_of_getElem? (i := 4) rfl)) xy_X3_endOf (by omega) (by omega) 11 (t_cell (s := .inl (5, [some 1, some 12, some 23, some 34, some 39, some 41, some 42, none, none, none, none, none, none, none, none, none, none])) rfl) ⟨TX3, 17, rfl⟩ rfl (Nat.le_of_ble_eq_true rfl) k_endOf0 (by omega) (by omega) rfl (fun rv w9 hw9 => ?_)
  obtain ⟨rfl, rfl⟩ := hw9
  refine y_eqw (List.nil_append _) ?_
  refine t_callV (wa := []) (av := [.ref (aX 12)]) C hG dX10_format_122 (xin_62 _ (List.mem_of_getElem? (i := 7) rfl)) (xin_62 _ (List.mem_of_getElem? (i := 9) rfl)) (xin_62 _ (List.mem_of_getElem? (i := 8) rfl)) xy_X10_appendEnd (by omega) (by omega) 0 (t_cell (s := .inl (12, [some 1, some 6, some 11, some 44, some 77, none, some 440, none, none, some 441, none, none, some 442, some 443, some 444, some 445])) rfl) ⟨TX10, 16, rfl⟩ rfl (Nat.le_of_ble_eq_true rfl) (k_appEnd12 hq1 hf1 hr1 Hq1 Hf1 Hr1 x2 (by omega) y2 z2 s2 ga1 gb1 gc1 gd1 ge1 gf1) (by omega) (by omega) rfl (fun rv w9 hw9 => ?_)
  obtain ⟨rfl, t4, c4, f4, rfl, x4, y4, z4, s4⟩ := hw9
  refine y_eqw (List.nil_append _) ?_
  refine y_aload C 0 dX10_format_125 rfl rfl ?_
  refine y_aload C 0 dX10_format_126 rfl rfl ?_
  refine y_get (v := .ref (aX 11)) C 0 dX10_format_127 fF_X10_27 (t_cell (s := .inl (12, [some 1, some 6, some 11, some 44, some 77, none, some 440, none, none, some 441, none, none, some 442, some 443, some 444, some 445])) rfl) rfl ?_
  refine y_iconst (v := Int32.ofInt (1)) C dX10_format_130 rfl ?_
  refine t_callV (wa := []) (av := [.int (Int32.ofInt 1)]) C hG dX10_format_131 (xin_27 _ (List.mem_of_getElem? (i := 3) rfl)) (xin_27 _ (List.mem_of_getElem? (i := 5) rfl)) (xin_27 _ (List.mem_of_getElem? (i := 4) rfl)) xy_X3_endOf (by omega) (by omega) 11 (t_cell (s := .inl (5, [some 1, some 12, some 23, some 34, some 39, some 41, some 42, none, none, none, none, none, none, none, none, none, none])) rfl) ⟨TX3, 17, rfl⟩ rfl (Nat.le_of_ble_eq_true rfl) k_endOf1 (by omega) (by omega) rfl (fun rv w9 hw9 => ?_)
  obtain ⟨rfl, rfl⟩ := hw9
  refine y_eqw (List.nil_append _) ?_
  refine t_callV (wa := []) (av := [.ref (aX 23)]) C hG dX10_format_134 (xin_62 _ (List.mem_of_getElem? (i := 7) rfl)) (xin_62 _ (List.mem_of_getElem? (i := 9) rfl)) (xin_62 _ (List.mem_of_getElem? (i := 8) rfl)) xy_X10_appendEnd (by omega) (by omega) 0 (t_cell (s := .inl (12, [some 1, some 6, some 11, some 44, some 77, none, some 440, none, none, some 441, none, none, some 442, some 443, some 444, some 445])) rfl) ⟨TX10, 16, rfl⟩ rfl (Nat.le_of_ble_eq_true rfl) (k_appEnd23 hq2 hf2 hr2 Hq2 Hf2 Hr2 x4 (by omega) y4 z4 s4 ga2 gb2 gc2 gd2 ge2 gf2) (by omega) (by omega) rfl (fun rv w9 hw9 => ?_)
  obtain ⟨rfl, t5, c5, f5, rfl, x5, y5, z5, s5⟩ := hw9
  refine y_eqw (List.nil_append _) ?_
  refine y_aload C 0 dX10_format_137 rfl rfl ?_
  refine y_get (v := .ref (aX 445)) C 0 dX10_format_138 fF_X10_83 (t_cell (s := .inl (12, [some 1, some 6, some 11, some 44, some 77, none, some 440, none, none, some 441, none, none, some 442, some 443, some 444, some 445])) rfl) rfl ?_
  refine t_callV (wa := xwld aX (yDA Γ) m 0 lay_X) (av := []) C hG dX10_format_141 (xin_63 _ (List.mem_of_getElem? (i := 1) rfl)) (xin_63 _ (List.mem_of_getElem? (i := 3) rfl)) (xin_63 _ (List.mem_of_getElem? (i := 2) rfl)) xy_J4_length_8abf5 (by omega) (by omega) 0 rfl ⟨TJ4, 4, rfl⟩ rfl (Nat.le_of_ble_eq_true rfl) k_len (by omega) (by omega) rfl (fun rv w9 hw9 => ?_)
  obtain ⟨rfl, rfl⟩ := hw9
  exact t_iret hR dX10_format_144 (by omega) (by omega) ⟨rfl, t5, c5, m1, f5, rfl, x5, y5, z5, s5⟩

/-! ===== a new builder of texts ===== -/
theorem dJ5_init_d00df_0 : decode cJ5_init_d00df 0 = .ok (.aload_n 0, 1) := by decide +kernel
theorem dJ5_init_d00df_1 : decode cJ5_init_d00df 1 = .ok (.invokespecial 3, 3) := by decide +kernel
theorem dJ5_init_d00df_4 : decode cJ5_init_d00df 4 = .ok (.getstatic 18, 3) := by decide +kernel
theorem dJ5_init_d00df_7 : decode cJ5_init_d00df 7 = .ok (.ifCond .eq 18, 3) := by decide +kernel
theorem dJ5_init_d00df_10 : decode cJ5_init_d00df 10 = .ok (.aload_n 0, 1) := by decide +kernel
theorem dJ5_init_d00df_11 : decode cJ5_init_d00df 11 = .ok (.iload_n 1, 1) := by decide +kernel
theorem dJ5_init_d00df_12 : decode cJ5_init_d00df 12 = .ok (.newarray .byte, 2) := by decide +kernel
theorem dJ5_init_d00df_14 : decode cJ5_init_d00df 14 = .ok (.putfield 15, 3) := by decide +kernel
theorem dJ5_init_d00df_17 : decode cJ5_init_d00df 17 = .ok (.aload_n 0, 1) := by decide +kernel
theorem dJ5_init_d00df_18 : decode cJ5_init_d00df 18 = .ok (.iconst 0, 1) := by decide +kernel
theorem dJ5_init_d00df_19 : decode cJ5_init_d00df 19 = .ok (.putfield 22, 3) := by decide +kernel
theorem dJ5_init_d00df_22 : decode cJ5_init_d00df 22 = .ok (.goto 16, 3) := by decide +kernel
theorem dJ5_init_d00df_25 : decode cJ5_init_d00df 25 = .ok (.aload_n 0, 1) := by decide +kernel
theorem dJ5_init_d00df_26 : decode cJ5_init_d00df 26 = .ok (.iload_n 1, 1) := by decide +kernel
theorem dJ5_init_d00df_27 : decode cJ5_init_d00df 27 = .ok (.invokestatic 26, 3) := by decide +kernel
theorem dJ5_init_d00df_30 : decode cJ5_init_d00df 30 = .ok (.putfield 15, 3) := by decide +kernel
theorem dJ5_init_d00df_33 : decode cJ5_init_d00df 33 = .ok (.aload_n 0, 1) := by decide +kernel
theorem dJ5_init_d00df_34 : decode cJ5_init_d00df 34 = .ok (.iconst 1, 1) := by decide +kernel
theorem dJ5_init_d00df_35 : decode cJ5_init_d00df 35 = .ok (.putfield 22, 3) := by decide +kernel
theorem dJ5_init_d00df_38 : decode cJ5_init_d00df 38 = .ok (.return_, 1) := by decide +kernel
theorem dJ4_init_da8c8_0 : decode cJ4_init_da8c8 0 = .ok (.aload_n 0, 1) := by decide +kernel
theorem dJ4_init_da8c8_1 : decode cJ4_init_da8c8 1 = .ok (.bipush 16, 2) := by decide +kernel
theorem dJ4_init_da8c8_3 : decode cJ4_init_da8c8 3 = .ok (.invokespecial 1, 3) := by decide +kernel
theorem dJ4_init_da8c8_6 : decode cJ4_init_da8c8 6 = .ok (.return_, 1) := by decide +kernel
theorem yj_15 : yFJ RJ5 15 0 (.array .byte) := ⟨by decide, (xin_7 _ (List.mem_of_getElem? (i := 1) rfl)), rfl, rfl, rfl⟩
theorem yj_22 : yFJ RJ5 22 1 .byte := ⟨by decide, (xin_7 _ (List.mem_of_getElem? (i := 2) rfl)), rfl, rfl, rfl⟩
theorem xy_J5_init : xY yJ5_init_d00df cJ5_init_d00df 2 none 1 := ⟨(xin_6 _ (List.mem_of_getElem? (i := 21) rfl)), (xin_6 _ (List.mem_of_getElem? (i := 20) rfl)), by decide +kernel, by decide +kernel, by decide +kernel⟩
theorem xy_J4_init : xY yJ4_init_da8c8 cJ4_init_da8c8 1 none 0 := ⟨(xin_6 _ (List.mem_of_getElem? (i := 17) rfl)), (xin_2 _ (List.mem_of_getElem? (i := 16) rfl)), by decide +kernel, by decide +kernel, by decide +kernel⟩
/-- the cells of a new builder -/
def yWt (dA : Nat → ClassId) (ad : Nat → Nat) : va_W := [(ad 0, .inr (0, [.ref (ad 1), .int 0, .int 0, .int 0])), (ad 1, .inl (dA 6, 16, .inl (fun _ => 0)))]
theorem k_J5_init (l : Launch) : yMet l yJ5_init_d00df cJ5_init_d00df 2 2 1 16 (.inr (0, [.null, .int 0, .int 0, .int 0])) (fun _ => [.int 16]) 2 yWt := by
  refine yMet_of (by decide +kernel) rfl (fun _ => Nat.le_of_ble_eq_true rfl) (fun Γ ad0 C hI hsa hR hl9 => ?_)
  refine y_aload C 0 dJ5_init_d00df_0 rfl rfl ?_
  refine y_obj C dJ5_init_d00df_1 (xin_6 _ (List.mem_of_getElem? (i := 22) rfl)) (xin_1 _ (List.mem_of_getElem? (i := 9) rfl)) (xin_1 _ (List.mem_of_getElem? (i := 10) rfl)) (by omega) ?_
  refine y_compact C dJ5_init_d00df_4 (xin_6 _ (List.mem_of_getElem? (i := 23) rfl)) ?_
  refine y_ifeq1 C 25 dJ5_init_d00df_7 (by decide) ?_
  refine y_aload C 0 dJ5_init_d00df_10 rfl rfl ?_
  refine y_iload C 1 dJ5_init_d00df_11 rfl rfl ?_
  refine y_newb (N' := 16) C dJ5_init_d00df_12 (xin_7 _ (List.mem_of_getElem? (i := 0) rfl)) (by decide) (by decide) (by decide) (by omega) (by omega) (fun q12 => ?_)
  refine y_putJ C dJ5_init_d00df_14 yj_15 rfl rfl (Nat.le_of_ble_eq_true rfl) ?_
  refine y_aload C 0 dJ5_init_d00df_17 rfl rfl ?_
  refine y_iconst (v := 0) C dJ5_init_d00df_18 (by decide) ?_
  refine y_putJ C dJ5_init_d00df_19 yj_22 rfl rfl (Nat.le_of_ble_eq_true rfl) ?_
  refine y_goto C 38 dJ5_init_d00df_22 (by decide) ?_
  exact y_ret hR (yad ad0 [q12]) dJ5_init_d00df_38 (by omega) (by omega) (fun i hi => yad_out _ _ hi) rfl
theorem k_J4_init (l : Launch) : yMet l yJ4_init_da8c8 cJ4_init_da8c8 1 3 1 16 (.inr (0, [.null, .int 0, .int 0, .int 0])) (fun _ => []) 2 yWt := by
  refine yMet_of (by decide +kernel) rfl (fun _ => Nat.le_of_ble_eq_true rfl) (fun Γ ad0 C hI hsa hR hl9 => ?_)
  subst hl9
  refine y_aload C 0 dJ4_init_da8c8_0 rfl rfl ?_
  refine y_bipush (v := 16) C dJ4_init_da8c8_1 (by decide) ?_
  refine y_ctor (ws := []) (st := []) C (yon (fun _ => ad0 0) (ySA Γ)) dJ4_init_da8c8_3 (xin_6 _ (List.mem_of_getElem? (i := 18) rfl)) xy_J5_init (xin_6 _ (List.mem_of_getElem? (i := 19) rfl)) rfl (k_J5_init _) (by omega) (by omega) rfl (Nat.le_of_ble_eq_true rfl) (by omega) (by omega) rfl (yon_hi _ _) rfl (fun a ha => ?_)
  have h0 : a 0 = ad0 0 := ha 0 (Or.inl rfl)
  refine y_ret hR (yad ad0 [a 1]) dJ4_init_da8c8_6 (by omega) (by omega) (fun i hi => yad_out _ _ hi) ?_
  show [(a 0, _), _] = _
  rw [h0]
  rfl

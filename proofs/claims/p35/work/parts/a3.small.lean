/-! ===== the small constructors ===== -/
def yad (ad0 : Nat → Nat) (qs : List Nat) : Nat → Nat
  | 0 => ad0 0
  | j + 1 => (qs[j]?).getD (ad0 (j + 1))
theorem yad_out (ad0 : Nat → Nat) (qs : List Nat) {i : Nat} (h : i = 0 ∨ qs.length + 1 ≤ i) : yad ad0 qs i = ad0 i := by
  cases i with
  | zero => rfl
  | succ j =>
    show (qs[j]?).getD (ad0 (j + 1)) = _
    rw [List.getElem?_eq_none (by omega)]
    rfl
/-! ===== the constructor of ModemLink$Dictionary ===== -/
theorem dX0_init_0 : decode cX0_init 0 = .ok (.aload_n 0, 1) := by decide +kernel
theorem dX0_init_1 : decode cX0_init 1 = .ok (.invokespecial 3, 3) := by decide +kernel
theorem dX0_init_4 : decode cX0_init 4 = .ok (.aload_n 0, 1) := by decide +kernel
theorem dX0_init_5 : decode cX0_init 5 = .ok (.bipush 8, 2) := by decide +kernel
theorem dX0_init_7 : decode cX0_init 7 = .ok (.newarray .int, 2) := by decide +kernel
theorem dX0_init_9 : decode cX0_init 9 = .ok (.putfield 9, 3) := by decide +kernel
theorem dX0_init_12 : decode cX0_init 12 = .ok (.return_, 1) := by decide +kernel
def ly_X0 : List xS := [.inl (1, [some 1, none]), .inr (0, 8, [])]
set_option maxRecDepth 1000000 in
set_option maxHeartbeats 4000000 in
theorem k_X0_init (l : Launch) : yMet l yX0_init cX0_init 1 2 1 8 (.inr (1, [.null, .int 0])) (fun ad0 => []) 2 (fun dA ad => xwld ad dA (fun _ _ => 0) 0 ly_X0) := by
  refine yMet_of (Or.inl (by decide +kernel)) rfl (fun _ => Nat.le_of_ble_eq_true rfl) (fun Γ ad0 C hI hsa hR hl9 => ?_)
  subst hl9
  refine y_aload C 0 dX0_init_0 rfl rfl ?_
  refine y_obj C dX0_init_1 (xin_5 _ (List.mem_of_getElem? (i := 10) rfl)) (xin_1 _ (List.mem_of_getElem? (i := 9) rfl)) (xin_1 _ (List.mem_of_getElem? (i := 10) rfl)) (by omega) ?_
  refine y_aload C 0 dX0_init_4 rfl rfl ?_
  refine y_bipush (v := 8) C dX0_init_5 (by decide) ?_
  refine y_newa (N' := 8) C dX0_init_7 (xin_1 _ (List.mem_of_getElem? (i := 3) rfl)) (by decide) (by decide) (by decide) (by omega) (by omega) (fun q7 => ?_)
  refine y_putF C hI dX0_init_9 fF_X0_9 ⟨_, _, rfl⟩ rfl rfl (Nat.le_of_ble_eq_true rfl) ?_
  exact y_ret hR (yad ad0 [q7]) dX0_init_12 (by omega) (by omega) (fun i hi => yad_out _ _ hi) rfl
/-! ===== the constructor of ModemLink$Frames ===== -/
theorem dX2_init_0 : decode cX2_init 0 = .ok (.aload_n 0, 1) := by decide +kernel
theorem dX2_init_1 : decode cX2_init 1 = .ok (.invokespecial 3, 3) := by decide +kernel
theorem dX2_init_4 : decode cX2_init 4 = .ok (.aload_n 0, 1) := by decide +kernel
theorem dX2_init_5 : decode cX2_init 5 = .ok (.bipush 56, 2) := by decide +kernel
theorem dX2_init_7 : decode cX2_init 7 = .ok (.newarray .int, 2) := by decide +kernel
theorem dX2_init_9 : decode cX2_init 9 = .ok (.putfield 9, 3) := by decide +kernel
theorem dX2_init_12 : decode cX2_init 12 = .ok (.aload_n 0, 1) := by decide +kernel
theorem dX2_init_13 : decode cX2_init 13 = .ok (.bipush 7, 2) := by decide +kernel
theorem dX2_init_15 : decode cX2_init 15 = .ok (.newarray .int, 2) := by decide +kernel
theorem dX2_init_17 : decode cX2_init 17 = .ok (.putfield 15, 3) := by decide +kernel
theorem dX2_init_20 : decode cX2_init 20 = .ok (.aload_n 0, 1) := by decide +kernel
theorem dX2_init_21 : decode cX2_init 21 = .ok (.bipush 7, 2) := by decide +kernel
theorem dX2_init_23 : decode cX2_init 23 = .ok (.newarray .int, 2) := by decide +kernel
theorem dX2_init_25 : decode cX2_init 25 = .ok (.putfield 18, 3) := by decide +kernel
theorem dX2_init_28 : decode cX2_init 28 = .ok (.return_, 1) := by decide +kernel
def ly_X2 : List xS := [.inl (3, [some 1, some 2, some 3, none, none, none]), .inr (0, 56, []), .inr (0, 7, []), .inr (0, 7, [])]
set_option maxRecDepth 1000000 in
set_option maxHeartbeats 4000000 in
theorem k_X2_init (l : Launch) : yMet l yX2_init cX2_init 1 2 3 70 (.inr (3, [.null, .null, .null, .int 0, .int 0, .int 0])) (fun ad0 => []) 4 (fun dA ad => xwld ad dA (fun _ _ => 0) 0 ly_X2) := by
  refine yMet_of (Or.inl (by decide +kernel)) rfl (fun _ => Nat.le_of_ble_eq_true rfl) (fun Γ ad0 C hI hsa hR hl9 => ?_)
  subst hl9
  refine y_aload C 0 dX2_init_0 rfl rfl ?_
  refine y_obj C dX2_init_1 (xin_5 _ (List.mem_of_getElem? (i := 4) rfl)) (xin_1 _ (List.mem_of_getElem? (i := 9) rfl)) (xin_1 _ (List.mem_of_getElem? (i := 10) rfl)) (by omega) ?_
  refine y_aload C 0 dX2_init_4 rfl rfl ?_
  refine y_bipush (v := 56) C dX2_init_5 (by decide) ?_
  refine y_newa (N' := 56) C dX2_init_7 (xin_1 _ (List.mem_of_getElem? (i := 3) rfl)) (by decide) (by decide) (by decide) (by omega) (by omega) (fun q7 => ?_)
  refine y_putF C hI dX2_init_9 fF_X2_9 ⟨_, _, rfl⟩ rfl rfl (Nat.le_of_ble_eq_true rfl) ?_
  refine y_aload C 0 dX2_init_12 rfl rfl ?_
  refine y_bipush (v := 7) C dX2_init_13 (by decide) ?_
  refine y_newa (N' := 7) C dX2_init_15 (xin_1 _ (List.mem_of_getElem? (i := 3) rfl)) (by decide) (by decide) (by decide) (by omega) (by omega) (fun q15 => ?_)
  refine y_putF C hI dX2_init_17 fF_X2_15 ⟨_, _, rfl⟩ rfl rfl (Nat.le_of_ble_eq_true rfl) ?_
  refine y_aload C 0 dX2_init_20 rfl rfl ?_
  refine y_bipush (v := 7) C dX2_init_21 (by decide) ?_
  refine y_newa (N' := 7) C dX2_init_23 (xin_1 _ (List.mem_of_getElem? (i := 3) rfl)) (by decide) (by decide) (by decide) (by omega) (by omega) (fun q23 => ?_)
  refine y_putF C hI dX2_init_25 fF_X2_18 ⟨_, _, rfl⟩ rfl rfl (Nat.le_of_ble_eq_true rfl) ?_
  exact y_ret hR (yad ad0 [q7, q15, q23]) dX2_init_28 (by omega) (by omega) (fun i hi => yad_out _ _ hi) rfl
/-! ===== the constructor of ModemLink$End ===== -/
theorem dX1_init_0 : decode cX1_init 0 = .ok (.aload_n 0, 1) := by decide +kernel
theorem dX1_init_1 : decode cX1_init 1 = .ok (.invokespecial 3, 3) := by decide +kernel
theorem dX1_init_4 : decode cX1_init 4 = .ok (.aload_n 0, 1) := by decide +kernel
theorem dX1_init_5 : decode cX1_init 5 = .ok (.sipush 200, 3) := by decide +kernel
theorem dX1_init_8 : decode cX1_init 8 = .ok (.newarray .int, 2) := by decide +kernel
theorem dX1_init_10 : decode cX1_init 10 = .ok (.putfield 9, 3) := by decide +kernel
theorem dX1_init_13 : decode cX1_init 13 = .ok (.aload_n 0, 1) := by decide +kernel
theorem dX1_init_14 : decode cX1_init 14 = .ok (.sipush 400, 3) := by decide +kernel
theorem dX1_init_17 : decode cX1_init 17 = .ok (.newarray .int, 2) := by decide +kernel
theorem dX1_init_19 : decode cX1_init 19 = .ok (.putfield 15, 3) := by decide +kernel
theorem dX1_init_22 : decode cX1_init 22 = .ok (.aload_n 0, 1) := by decide +kernel
theorem dX1_init_23 : decode cX1_init 23 = .ok (.new 18, 3) := by decide +kernel
theorem dX1_init_26 : decode cX1_init 26 = .ok (.dup, 1) := by decide +kernel
theorem dX1_init_27 : decode cX1_init 27 = .ok (.invokespecial 20, 3) := by decide +kernel
theorem dX1_init_30 : decode cX1_init 30 = .ok (.putfield 21, 3) := by decide +kernel
theorem dX1_init_33 : decode cX1_init 33 = .ok (.aload_n 0, 1) := by decide +kernel
theorem dX1_init_34 : decode cX1_init 34 = .ok (.new 25, 3) := by decide +kernel
theorem dX1_init_37 : decode cX1_init 37 = .ok (.dup, 1) := by decide +kernel
theorem dX1_init_38 : decode cX1_init 38 = .ok (.invokespecial 27, 3) := by decide +kernel
theorem dX1_init_41 : decode cX1_init 41 = .ok (.putfield 28, 3) := by decide +kernel
theorem dX1_init_44 : decode cX1_init 44 = .ok (.aload_n 0, 1) := by decide +kernel
theorem dX1_init_45 : decode cX1_init 45 = .ok (.new 25, 3) := by decide +kernel
theorem dX1_init_48 : decode cX1_init 48 = .ok (.dup, 1) := by decide +kernel
theorem dX1_init_49 : decode cX1_init 49 = .ok (.invokespecial 27, 3) := by decide +kernel
theorem dX1_init_52 : decode cX1_init 52 = .ok (.putfield 32, 3) := by decide +kernel
theorem dX1_init_55 : decode cX1_init 55 = .ok (.return_, 1) := by decide +kernel
def ly_X1 : List xS := [.inl (2, [some 1, some 2, some 3, some 7, some 9, none, none, none, none, none, none]), .inr (0, 200, []), .inr (0, 400, []), .inl (3, [some 4, some 5, some 6, none, none, none]), .inr (0, 56, []), .inr (0, 7, []), .inr (0, 7, []), .inl (1, [some 8, none]), .inr (0, 8, []), .inl (1, [some 10, none]), .inr (0, 8, [])]
theorem yc_X1_18 : yCl RX1 18 3 6 [.null, .null, .null, .int 0, .int 0, .int 0] := ⟨RX2, TX2, tyX2, rfl, inlX2, tyX2_ok, (xin_4 _ (List.mem_of_getElem? (i := 19) rfl)), (xin_4 _ (List.mem_of_getElem? (i := 20) rfl)), (xin_4 _ (List.mem_of_getElem? (i := 21) rfl)), fun j hj => by rcases (show j = 0 ∨ j = 1 ∨ j = 2 ∨ j = 3 ∨ j = 4 ∨ j = 5 by omega) with rfl | rfl | rfl | rfl | rfl | rfl <;> rfl⟩
theorem xy_X2_init : xY yX2_init cX2_init 1 none 0 := ⟨(xin_5 _ (List.mem_of_getElem? (i := 3) rfl)), (xin_4 _ (List.mem_of_getElem? (i := 21) rfl)), by decide +kernel, by decide +kernel, by decide +kernel⟩
theorem yc_X1_25 : yCl RX1 25 1 2 [.null, .int 0] := ⟨RX0, TX0, tyX0, rfl, inlX0, tyX0_ok, (xin_4 _ (List.mem_of_getElem? (i := 23) rfl)), (xin_4 _ (List.mem_of_getElem? (i := 10) rfl)), (xin_4 _ (List.mem_of_getElem? (i := 11) rfl)), fun j hj => by rcases (show j = 0 ∨ j = 1 by omega) with rfl | rfl <;> rfl⟩
theorem xy_X0_init : xY yX0_init cX0_init 1 none 0 := ⟨(xin_5 _ (List.mem_of_getElem? (i := 9) rfl)), (xin_4 _ (List.mem_of_getElem? (i := 11) rfl)), by decide +kernel, by decide +kernel, by decide +kernel⟩
set_option maxRecDepth 1000000 in
set_option maxHeartbeats 4000000 in
theorem k_X1_init (l : Launch) : yMet l yX1_init cX1_init 1 3 10 696 (.inr (2, [.null, .null, .null, .null, .null, .int 0, .int 0, .int 0, .int 0, .int 0, .int 0])) (fun ad0 => []) 11 (fun dA ad => xwld ad dA (fun _ _ => 0) 0 ly_X1) := by
  refine yMet_of (Or.inl (by decide +kernel)) rfl (fun _ => Nat.le_of_ble_eq_true rfl) (fun Γ ad0 C hI hsa hR hl9 => ?_)
  subst hl9
  refine y_aload C 0 dX1_init_0 rfl rfl ?_
  refine y_obj C dX1_init_1 (xin_4 _ (List.mem_of_getElem? (i := 16) rfl)) (xin_1 _ (List.mem_of_getElem? (i := 9) rfl)) (xin_1 _ (List.mem_of_getElem? (i := 10) rfl)) (by omega) ?_
  refine y_aload C 0 dX1_init_4 rfl rfl ?_
  refine y_sipush (v := 200) C dX1_init_5 (by decide) ?_
  refine y_newa (N' := 200) C dX1_init_8 (xin_1 _ (List.mem_of_getElem? (i := 3) rfl)) (by decide) (by decide) (by decide) (by omega) (by omega) (fun q8 => ?_)
  refine y_putF C hI dX1_init_10 fF_X1_9 ⟨_, _, rfl⟩ rfl rfl (Nat.le_of_ble_eq_true rfl) ?_
  refine y_aload C 0 dX1_init_13 rfl rfl ?_
  refine y_sipush (v := 400) C dX1_init_14 (by decide) ?_
  refine y_newa (N' := 400) C dX1_init_17 (xin_1 _ (List.mem_of_getElem? (i := 3) rfl)) (by decide) (by decide) (by decide) (by omega) (by omega) (fun q17 => ?_)
  refine y_putF C hI dX1_init_19 fF_X1_15 ⟨_, _, rfl⟩ rfl rfl (Nat.le_of_ble_eq_true rfl) ?_
  refine y_aload C 0 dX1_init_22 rfl rfl ?_
  refine y_new C dX1_init_23 yc_X1_18 (by omega) (by omega) (fun q23 => ?_)
  refine y_dup C dX1_init_26 ?_
  refine y_ctorN (st := [.ref q23, .ref (ad0 0)]) C (yon (fun _ => q23) (ySA Γ)) dX1_init_27 (List.mem_of_getElem? (i := 2) rfl) xy_X2_init (xin_5 _ (List.mem_of_getElem? (i := 2) rfl)) rfl (k_X2_init _) (by omega) (by omega) rfl (Nat.le_of_ble_eq_true rfl) (by omega) (by omega) rfl (yon_hi _ _) rfl (fun a27 ha27 => ?_)
  obtain rfl : q23 = a27 0 := (ha27 0 (Or.inl rfl)).symm
  refine y_putF C hI dX1_init_30 fF_X1_21 ⟨_, _, rfl⟩ rfl rfl (Nat.le_of_ble_eq_true rfl) ?_
  refine y_aload C 0 dX1_init_33 rfl rfl ?_
  refine y_new C dX1_init_34 yc_X1_25 (by omega) (by omega) (fun q34 => ?_)
  refine y_dup C dX1_init_37 ?_
  refine y_ctorN (st := [.ref q34, .ref (ad0 0)]) C (yon (fun _ => q34) (ySA Γ)) dX1_init_38 (List.mem_of_getElem? (i := 3) rfl) xy_X0_init (xin_5 _ (List.mem_of_getElem? (i := 8) rfl)) rfl (k_X0_init _) (by omega) (by omega) rfl (Nat.le_of_ble_eq_true rfl) (by omega) (by omega) rfl (yon_hi _ _) rfl (fun a38 ha38 => ?_)
  obtain rfl : q34 = a38 0 := (ha38 0 (Or.inl rfl)).symm
  refine y_putF C hI dX1_init_41 fF_X1_28 ⟨_, _, rfl⟩ rfl rfl (Nat.le_of_ble_eq_true rfl) ?_
  refine y_aload C 0 dX1_init_44 rfl rfl ?_
  refine y_new C dX1_init_45 yc_X1_25 (by omega) (by omega) (fun q45 => ?_)
  refine y_dup C dX1_init_48 ?_
  refine y_ctorN (st := [.ref q45, .ref (ad0 0)]) C (yon (fun _ => q45) (ySA Γ)) dX1_init_49 (List.mem_of_getElem? (i := 3) rfl) xy_X0_init (xin_5 _ (List.mem_of_getElem? (i := 8) rfl)) rfl (k_X0_init _) (by omega) (by omega) rfl (Nat.le_of_ble_eq_true rfl) (by omega) (by omega) rfl (yon_hi _ _) rfl (fun a49 ha49 => ?_)
  obtain rfl : q45 = a49 0 := (ha49 0 (Or.inl rfl)).symm
  refine y_putF C hI dX1_init_52 fF_X1_32 ⟨_, _, rfl⟩ rfl rfl (Nat.le_of_ble_eq_true rfl) ?_
  exact y_ret hR (yad ad0 [q8, q17, a27 0, a27 1, a27 2, a27 3, a38 0, a38 1, a49 0, a49 1]) dX1_init_55 (by omega) (by omega) (fun i hi => yad_out _ _ hi) rfl
/-! ===== the constructor of ModemLink$Wire ===== -/
theorem dX9_init_0 : decode cX9_init 0 = .ok (.aload_n 0, 1) := by decide +kernel
theorem dX9_init_1 : decode cX9_init 1 = .ok (.invokespecial 3, 3) := by decide +kernel
theorem dX9_init_4 : decode cX9_init 4 = .ok (.aload_n 0, 1) := by decide +kernel
theorem dX9_init_5 : decode cX9_init 5 = .ok (.bipush 64, 2) := by decide +kernel
theorem dX9_init_7 : decode cX9_init 7 = .ok (.newarray .int, 2) := by decide +kernel
theorem dX9_init_9 : decode cX9_init 9 = .ok (.putfield 9, 3) := by decide +kernel
theorem dX9_init_12 : decode cX9_init 12 = .ok (.aload_n 0, 1) := by decide +kernel
theorem dX9_init_13 : decode cX9_init 13 = .ok (.bipush 64, 2) := by decide +kernel
theorem dX9_init_15 : decode cX9_init 15 = .ok (.newarray .int, 2) := by decide +kernel
theorem dX9_init_17 : decode cX9_init 17 = .ok (.putfield 15, 3) := by decide +kernel
theorem dX9_init_20 : decode cX9_init 20 = .ok (.aload_n 0, 1) := by decide +kernel
theorem dX9_init_21 : decode cX9_init 21 = .ok (.bipush 64, 2) := by decide +kernel
theorem dX9_init_23 : decode cX9_init 23 = .ok (.newarray .int, 2) := by decide +kernel
theorem dX9_init_25 : decode cX9_init 25 = .ok (.putfield 18, 3) := by decide +kernel
theorem dX9_init_28 : decode cX9_init 28 = .ok (.aload_n 0, 1) := by decide +kernel
theorem dX9_init_29 : decode cX9_init 29 = .ok (.bipush 64, 2) := by decide +kernel
theorem dX9_init_31 : decode cX9_init 31 = .ok (.newarray .int, 2) := by decide +kernel
theorem dX9_init_33 : decode cX9_init 33 = .ok (.putfield 21, 3) := by decide +kernel
theorem dX9_init_36 : decode cX9_init 36 = .ok (.return_, 1) := by decide +kernel
def ly_X9 : List xS := [.inl (10, [some 1, some 2, some 3, some 4, none, none]), .inr (0, 64, []), .inr (0, 64, []), .inr (0, 64, []), .inr (0, 64, [])]
set_option maxRecDepth 1000000 in
set_option maxHeartbeats 4000000 in
theorem k_X9_init (l : Launch) : yMet l yX9_init cX9_init 1 2 4 256 (.inr (10, [.null, .null, .null, .null, .int 0, .int 0])) (fun ad0 => []) 5 (fun dA ad => xwld ad dA (fun _ _ => 0) 0 ly_X9) := by
  refine yMet_of (Or.inl (by decide +kernel)) rfl (fun _ => Nat.le_of_ble_eq_true rfl) (fun Γ ad0 C hI hsa hR hl9 => ?_)
  subst hl9
  refine y_aload C 0 dX9_init_0 rfl rfl ?_
  refine y_obj C dX9_init_1 (xin_5 _ (List.mem_of_getElem? (i := 14) rfl)) (xin_1 _ (List.mem_of_getElem? (i := 9) rfl)) (xin_1 _ (List.mem_of_getElem? (i := 10) rfl)) (by omega) ?_
  refine y_aload C 0 dX9_init_4 rfl rfl ?_
  refine y_bipush (v := 64) C dX9_init_5 (by decide) ?_
  refine y_newa (N' := 64) C dX9_init_7 (xin_1 _ (List.mem_of_getElem? (i := 3) rfl)) (by decide) (by decide) (by decide) (by omega) (by omega) (fun q7 => ?_)
  refine y_putF C hI dX9_init_9 fF_X9_9 ⟨_, _, rfl⟩ rfl rfl (Nat.le_of_ble_eq_true rfl) ?_
  refine y_aload C 0 dX9_init_12 rfl rfl ?_
  refine y_bipush (v := 64) C dX9_init_13 (by decide) ?_
  refine y_newa (N' := 64) C dX9_init_15 (xin_1 _ (List.mem_of_getElem? (i := 3) rfl)) (by decide) (by decide) (by decide) (by omega) (by omega) (fun q15 => ?_)
  refine y_putF C hI dX9_init_17 fF_X9_15 ⟨_, _, rfl⟩ rfl rfl (Nat.le_of_ble_eq_true rfl) ?_
  refine y_aload C 0 dX9_init_20 rfl rfl ?_
  refine y_bipush (v := 64) C dX9_init_21 (by decide) ?_
  refine y_newa (N' := 64) C dX9_init_23 (xin_1 _ (List.mem_of_getElem? (i := 3) rfl)) (by decide) (by decide) (by decide) (by omega) (by omega) (fun q23 => ?_)
  refine y_putF C hI dX9_init_25 fF_X9_18 ⟨_, _, rfl⟩ rfl rfl (Nat.le_of_ble_eq_true rfl) ?_
  refine y_aload C 0 dX9_init_28 rfl rfl ?_
  refine y_bipush (v := 64) C dX9_init_29 (by decide) ?_
  refine y_newa (N' := 64) C dX9_init_31 (xin_1 _ (List.mem_of_getElem? (i := 3) rfl)) (by decide) (by decide) (by decide) (by omega) (by omega) (fun q31 => ?_)
  refine y_putF C hI dX9_init_33 fF_X9_21 ⟨_, _, rfl⟩ rfl rfl (Nat.le_of_ble_eq_true rfl) ?_
  exact y_ret hR (yad ad0 [q7, q15, q23, q31]) dX9_init_36 (by omega) (by omega) (fun i hi => yad_out _ _ hi) rfl
/-! ===== the constructor of ModemLink$Log ===== -/
theorem dX4_init_0 : decode cX4_init 0 = .ok (.aload_n 0, 1) := by decide +kernel
theorem dX4_init_1 : decode cX4_init 1 = .ok (.invokespecial 3, 3) := by decide +kernel
theorem dX4_init_4 : decode cX4_init 4 = .ok (.aload_n 0, 1) := by decide +kernel
theorem dX4_init_5 : decode cX4_init 5 = .ok (.sipush 240, 3) := by decide +kernel
theorem dX4_init_8 : decode cX4_init 8 = .ok (.newarray .int, 2) := by decide +kernel
theorem dX4_init_10 : decode cX4_init 10 = .ok (.putfield 11, 3) := by decide +kernel
theorem dX4_init_13 : decode cX4_init 13 = .ok (.return_, 1) := by decide +kernel
def ly_X4 : List xS := [.inl (5, [some 1, none, none]), .inr (0, 240, [])]
set_option maxRecDepth 1000000 in
set_option maxHeartbeats 4000000 in
theorem k_X4_init (l : Launch) : yMet l yX4_init cX4_init 1 2 1 240 (.inr (5, [.null, .int 0, .int 0])) (fun ad0 => []) 2 (fun dA ad => xwld ad dA (fun _ _ => 0) 0 ly_X4) := by
  refine yMet_of (Or.inl (by decide +kernel)) rfl (fun _ => Nat.le_of_ble_eq_true rfl) (fun Γ ad0 C hI hsa hR hl9 => ?_)
  subst hl9
  refine y_aload C 0 dX4_init_0 rfl rfl ?_
  refine y_obj C dX4_init_1 (xin_5 _ (List.mem_of_getElem? (i := 21) rfl)) (xin_1 _ (List.mem_of_getElem? (i := 9) rfl)) (xin_1 _ (List.mem_of_getElem? (i := 10) rfl)) (by omega) ?_
  refine y_aload C 0 dX4_init_4 rfl rfl ?_
  refine y_sipush (v := 240) C dX4_init_5 (by decide) ?_
  refine y_newa (N' := 240) C dX4_init_8 (xin_1 _ (List.mem_of_getElem? (i := 3) rfl)) (by decide) (by decide) (by decide) (by omega) (by omega) (fun q8 => ?_)
  refine y_putF C hI dX4_init_10 fF_X4_11 ⟨_, _, rfl⟩ rfl rfl (Nat.le_of_ble_eq_true rfl) ?_
  exact y_ret hR (yad ad0 [q8]) dX4_init_13 (by omega) (by omega) (fun i hi => yad_out _ _ hi) rfl
/-! ===== the constructor of ModemLink$Setup ===== -/
theorem dX6_init_0 : decode cX6_init 0 = .ok (.aload_n 0, 1) := by decide +kernel
theorem dX6_init_1 : decode cX6_init 1 = .ok (.invokespecial 3, 3) := by decide +kernel
theorem dX6_init_4 : decode cX6_init 4 = .ok (.aload_n 0, 1) := by decide +kernel
theorem dX6_init_5 : decode cX6_init 5 = .ok (.iconst 5, 1) := by decide +kernel
theorem dX6_init_6 : decode cX6_init 6 = .ok (.newarray .int, 2) := by decide +kernel
theorem dX6_init_8 : decode cX6_init 8 = .ok (.putfield 9, 3) := by decide +kernel
theorem dX6_init_11 : decode cX6_init 11 = .ok (.aload_n 0, 1) := by decide +kernel
theorem dX6_init_12 : decode cX6_init 12 = .ok (.iconst 5, 1) := by decide +kernel
theorem dX6_init_13 : decode cX6_init 13 = .ok (.newarray .int, 2) := by decide +kernel
theorem dX6_init_15 : decode cX6_init 15 = .ok (.putfield 15, 3) := by decide +kernel
theorem dX6_init_18 : decode cX6_init 18 = .ok (.aload_n 0, 1) := by decide +kernel
theorem dX6_init_19 : decode cX6_init 19 = .ok (.iconst 4, 1) := by decide +kernel
theorem dX6_init_20 : decode cX6_init 20 = .ok (.newarray .int, 2) := by decide +kernel
theorem dX6_init_22 : decode cX6_init 22 = .ok (.putfield 18, 3) := by decide +kernel
theorem dX6_init_25 : decode cX6_init 25 = .ok (.aload_n 0, 1) := by decide +kernel
theorem dX6_init_26 : decode cX6_init 26 = .ok (.bipush 10, 2) := by decide +kernel
theorem dX6_init_28 : decode cX6_init 28 = .ok (.newarray .int, 2) := by decide +kernel
theorem dX6_init_30 : decode cX6_init 30 = .ok (.putfield 21, 3) := by decide +kernel
theorem dX6_init_33 : decode cX6_init 33 = .ok (.return_, 1) := by decide +kernel
def ly_X6 : List xS := [.inl (7, [some 1, some 2, some 3, some 4, none, none, none, none, none, none, none, none, none, none]), .inr (0, 5, []), .inr (0, 5, []), .inr (0, 4, []), .inr (0, 10, [])]
set_option maxRecDepth 1000000 in
set_option maxHeartbeats 4000000 in
theorem k_X6_init (l : Launch) : yMet l yX6_init cX6_init 1 2 4 24 (.inr (7, [.null, .null, .null, .null, .int 0, .int 0, .int 0, .int 0, .int 0, .int 0, .int 0, .int 0, .int 0, .int 0])) (fun ad0 => []) 5 (fun dA ad => xwld ad dA (fun _ _ => 0) 0 ly_X6) := by
  refine yMet_of (Or.inl (by decide +kernel)) rfl (fun _ => Nat.le_of_ble_eq_true rfl) (fun Γ ad0 C hI hsa hR hl9 => ?_)
  subst hl9
  refine y_aload C 0 dX6_init_0 rfl rfl ?_
  refine y_obj C dX6_init_1 (xin_2 _ (List.mem_of_getElem? (i := 20) rfl)) (xin_1 _ (List.mem_of_getElem? (i := 9) rfl)) (xin_1 _ (List.mem_of_getElem? (i := 10) rfl)) (by omega) ?_
  refine y_aload C 0 dX6_init_4 rfl rfl ?_
  refine y_iconst (v := 5) C dX6_init_5 (by decide) ?_
  refine y_newa (N' := 5) C dX6_init_6 (xin_1 _ (List.mem_of_getElem? (i := 3) rfl)) (by decide) (by decide) (by decide) (by omega) (by omega) (fun q6 => ?_)
  refine y_putF C hI dX6_init_8 fF_X6_9 ⟨_, _, rfl⟩ rfl rfl (Nat.le_of_ble_eq_true rfl) ?_
  refine y_aload C 0 dX6_init_11 rfl rfl ?_
  refine y_iconst (v := 5) C dX6_init_12 (by decide) ?_
  refine y_newa (N' := 5) C dX6_init_13 (xin_1 _ (List.mem_of_getElem? (i := 3) rfl)) (by decide) (by decide) (by decide) (by omega) (by omega) (fun q13 => ?_)
  refine y_putF C hI dX6_init_15 fF_X6_15 ⟨_, _, rfl⟩ rfl rfl (Nat.le_of_ble_eq_true rfl) ?_
  refine y_aload C 0 dX6_init_18 rfl rfl ?_
  refine y_iconst (v := 4) C dX6_init_19 (by decide) ?_
  refine y_newa (N' := 4) C dX6_init_20 (xin_1 _ (List.mem_of_getElem? (i := 3) rfl)) (by decide) (by decide) (by decide) (by omega) (by omega) (fun q20 => ?_)
  refine y_putF C hI dX6_init_22 fF_X6_18 ⟨_, _, rfl⟩ rfl rfl (Nat.le_of_ble_eq_true rfl) ?_
  refine y_aload C 0 dX6_init_25 rfl rfl ?_
  refine y_bipush (v := 10) C dX6_init_26 (by decide) ?_
  refine y_newa (N' := 10) C dX6_init_28 (xin_1 _ (List.mem_of_getElem? (i := 3) rfl)) (by decide) (by decide) (by decide) (by omega) (by omega) (fun q28 => ?_)
  refine y_putF C hI dX6_init_30 fF_X6_21 ⟨_, _, rfl⟩ rfl rfl (Nat.le_of_ble_eq_true rfl) ?_
  exact y_ret hR (yad ad0 [q6, q13, q20, q28]) dX6_init_33 (by omega) (by omega) (fun i hi => yad_out _ _ hi) rfl
/-! ===== the constructor of ModemLink$SetupReader ===== -/
theorem dX7_init_0 : decode cX7_init 0 = .ok (.aload_n 0, 1) := by decide +kernel
theorem dX7_init_1 : decode cX7_init 1 = .ok (.invokespecial 3, 3) := by decide +kernel
theorem dX7_init_4 : decode cX7_init 4 = .ok (.aload_n 0, 1) := by decide +kernel
theorem dX7_init_5 : decode cX7_init 5 = .ok (.aload_n 1, 1) := by decide +kernel
theorem dX7_init_6 : decode cX7_init 6 = .ok (.putfield 9, 3) := by decide +kernel
theorem dX7_init_9 : decode cX7_init 9 = .ok (.return_, 1) := by decide +kernel
def ly_X7 : List xS := [.inl (8, [some 1])]
set_option maxRecDepth 1000000 in
set_option maxHeartbeats 4000000 in
theorem k_X7_init (l : Launch) : yMet l yX7_init cX7_init 2 2 0 0 (.inr (8, [.null])) (fun ad0 => [.ref (ad0 1)]) 1 (fun dA ad => xwld ad dA (fun _ _ => 0) 0 ly_X7) := by
  refine yMet_of (Or.inl (by decide +kernel)) rfl (fun _ => Nat.le_of_ble_eq_true rfl) (fun Γ ad0 C hI hsa hR hl9 => ?_)
  subst hl9
  refine y_aload C 0 dX7_init_0 rfl rfl ?_
  refine y_obj C dX7_init_1 (xin_6 _ (List.mem_of_getElem? (i := 7) rfl)) (xin_1 _ (List.mem_of_getElem? (i := 9) rfl)) (xin_1 _ (List.mem_of_getElem? (i := 10) rfl)) (by omega) ?_
  refine y_aload C 0 dX7_init_4 rfl rfl ?_
  refine y_aload C 1 dX7_init_5 rfl rfl ?_
  refine y_putF C hI dX7_init_6 fF_X7_9 ⟨_, _, rfl⟩ rfl rfl (Nat.le_of_ble_eq_true rfl) ?_
  exact y_ret hR (yad ad0 []) dX7_init_9 (by omega) (by omega) (fun i hi => yad_out _ _ hi) rfl
/-! ===== the constructor of ModemLink$Tokens ===== -/
theorem dX8_init_0 : decode cX8_init 0 = .ok (.aload_n 0, 1) := by decide +kernel
theorem dX8_init_1 : decode cX8_init 1 = .ok (.invokespecial 3, 3) := by decide +kernel
theorem dX8_init_4 : decode cX8_init 4 = .ok (.aload_n 0, 1) := by decide +kernel
theorem dX8_init_5 : decode cX8_init 5 = .ok (.aload_n 1, 1) := by decide +kernel
theorem dX8_init_6 : decode cX8_init 6 = .ok (.putfield 9, 3) := by decide +kernel
theorem dX8_init_9 : decode cX8_init 9 = .ok (.return_, 1) := by decide +kernel
def ly_X8 : List xS := [.inl (9, [some 1, none, none, none, none, none, none])]
set_option maxRecDepth 1000000 in
set_option maxHeartbeats 4000000 in
theorem k_X8_init (l : Launch) : yMet l yX8_init cX8_init 2 2 0 0 (.inr (9, [.null, .int 0, .int 0, .int 0, .int 0, .int 0, .int 0])) (fun ad0 => [.ref (ad0 1)]) 1 (fun dA ad => xwld ad dA (fun _ _ => 0) 0 ly_X8) := by
  refine yMet_of (Or.inl (by decide +kernel)) rfl (fun _ => Nat.le_of_ble_eq_true rfl) (fun Γ ad0 C hI hsa hR hl9 => ?_)
  subst hl9
  refine y_aload C 0 dX8_init_0 rfl rfl ?_
  refine y_obj C dX8_init_1 (xin_6 _ (List.mem_of_getElem? (i := 2) rfl)) (xin_1 _ (List.mem_of_getElem? (i := 9) rfl)) (xin_1 _ (List.mem_of_getElem? (i := 10) rfl)) (by omega) ?_
  refine y_aload C 0 dX8_init_4 rfl rfl ?_
  refine y_aload C 1 dX8_init_5 rfl rfl ?_
  refine y_putF C hI dX8_init_6 fF_X8_9 ⟨_, _, rfl⟩ rfl rfl (Nat.le_of_ble_eq_true rfl) ?_
  exact y_ret hR (yad ad0 []) dX8_init_9 (by omega) (by omega) (fun i hi => yad_out _ _ hi) rfl
/-! ===== the constructor of ModemLink$QueryReader ===== -/
theorem dX5_init_0 : decode cX5_init 0 = .ok (.aload_n 0, 1) := by decide +kernel
theorem dX5_init_1 : decode cX5_init 1 = .ok (.invokespecial 3, 3) := by decide +kernel
theorem dX5_init_4 : decode cX5_init 4 = .ok (.aload_n 0, 1) := by decide +kernel
theorem dX5_init_5 : decode cX5_init 5 = .ok (.aload_n 1, 1) := by decide +kernel
theorem dX5_init_6 : decode cX5_init 6 = .ok (.putfield 9, 3) := by decide +kernel
theorem dX5_init_9 : decode cX5_init 9 = .ok (.aload_n 0, 1) := by decide +kernel
theorem dX5_init_10 : decode cX5_init 10 = .ok (.aload_n 2, 1) := by decide +kernel
theorem dX5_init_11 : decode cX5_init 11 = .ok (.putfield 15, 3) := by decide +kernel
theorem dX5_init_14 : decode cX5_init 14 = .ok (.return_, 1) := by decide +kernel
def ly_X5 : List xS := [.inl (6, [some 1, some 2])]
theorem fF_X5_9 : xF RX5 9 6 0 (.object "ModemLink$Tokens") true := ⟨RX5, TX5, 2, tyX5, rfl, by decide, (xin_6 _ (List.mem_of_getElem? (i := 13) rfl)), rfl, inlX5, tyX5_ok, nmX5, rfl, rfl⟩
theorem fF_X5_15 : xF RX5 15 6 1 (.object "ModemLink$Log") true := ⟨RX5, TX5, 2, tyX5, rfl, by decide, (xin_6 _ (List.mem_of_getElem? (i := 14) rfl)), rfl, inlX5, tyX5_ok, nmX5, rfl, rfl⟩
set_option maxRecDepth 1000000 in
set_option maxHeartbeats 4000000 in
theorem k_X5_init (l : Launch) : yMet l yX5_init cX5_init 3 2 0 0 (.inr (6, [.null, .null])) (fun ad0 => [.ref (ad0 1), .ref (ad0 2)]) 1 (fun dA ad => xwld ad dA (fun _ _ => 0) 0 ly_X5) := by
  refine yMet_of (Or.inl (by decide +kernel)) rfl (fun _ => Nat.le_of_ble_eq_true rfl) (fun Γ ad0 C hI hsa hR hl9 => ?_)
  subst hl9
  refine y_aload C 0 dX5_init_0 rfl rfl ?_
  refine y_obj C dX5_init_1 (xin_6 _ (List.mem_of_getElem? (i := 12) rfl)) (xin_1 _ (List.mem_of_getElem? (i := 9) rfl)) (xin_1 _ (List.mem_of_getElem? (i := 10) rfl)) (by omega) ?_
  refine y_aload C 0 dX5_init_4 rfl rfl ?_
  refine y_aload C 1 dX5_init_5 rfl rfl ?_
  refine y_putF C hI dX5_init_6 fF_X5_9 ⟨_, _, rfl⟩ rfl rfl (Nat.le_of_ble_eq_true rfl) ?_
  refine y_aload C 0 dX5_init_9 rfl rfl ?_
  refine y_aload C 2 dX5_init_10 rfl rfl ?_
  refine y_putF C hI dX5_init_11 fF_X5_15 ⟨_, _, rfl⟩ rfl rfl (Nat.le_of_ble_eq_true rfl) ?_
  exact y_ret hR (yad ad0 []) dX5_init_14 (by omega) (by omega) (fun i hi => yad_out _ _ hi) rfl
/-! ===== the constructor of ModemLink$Line ===== -/
theorem dX3_init_0 : decode cX3_init 0 = .ok (.aload_n 0, 1) := by decide +kernel
theorem dX3_init_1 : decode cX3_init 1 = .ok (.invokespecial 3, 3) := by decide +kernel
theorem dX3_init_4 : decode cX3_init 4 = .ok (.aload_n 0, 1) := by decide +kernel
theorem dX3_init_5 : decode cX3_init 5 = .ok (.new 9, 3) := by decide +kernel
theorem dX3_init_8 : decode cX3_init 8 = .ok (.dup, 1) := by decide +kernel
theorem dX3_init_9 : decode cX3_init 9 = .ok (.invokespecial 11, 3) := by decide +kernel
theorem dX3_init_12 : decode cX3_init 12 = .ok (.putfield 12, 3) := by decide +kernel
theorem dX3_init_15 : decode cX3_init 15 = .ok (.aload_n 0, 1) := by decide +kernel
theorem dX3_init_16 : decode cX3_init 16 = .ok (.new 9, 3) := by decide +kernel
theorem dX3_init_19 : decode cX3_init 19 = .ok (.dup, 1) := by decide +kernel
theorem dX3_init_20 : decode cX3_init 20 = .ok (.invokespecial 11, 3) := by decide +kernel
theorem dX3_init_23 : decode cX3_init 23 = .ok (.putfield 18, 3) := by decide +kernel
theorem dX3_init_26 : decode cX3_init 26 = .ok (.aload_n 0, 1) := by decide +kernel
theorem dX3_init_27 : decode cX3_init 27 = .ok (.new 21, 3) := by decide +kernel
theorem dX3_init_30 : decode cX3_init 30 = .ok (.dup, 1) := by decide +kernel
theorem dX3_init_31 : decode cX3_init 31 = .ok (.invokespecial 23, 3) := by decide +kernel
theorem dX3_init_34 : decode cX3_init 34 = .ok (.putfield 24, 3) := by decide +kernel
theorem dX3_init_37 : decode cX3_init 37 = .ok (.aload_n 0, 1) := by decide +kernel
theorem dX3_init_38 : decode cX3_init 38 = .ok (.new 28, 3) := by decide +kernel
theorem dX3_init_41 : decode cX3_init 41 = .ok (.dup, 1) := by decide +kernel
theorem dX3_init_42 : decode cX3_init 42 = .ok (.invokespecial 30, 3) := by decide +kernel
theorem dX3_init_45 : decode cX3_init 45 = .ok (.putfield 31, 3) := by decide +kernel
theorem dX3_init_48 : decode cX3_init 48 = .ok (.aload_n 0, 1) := by decide +kernel
theorem dX3_init_49 : decode cX3_init 49 = .ok (.bipush 11, 2) := by decide +kernel
theorem dX3_init_51 : decode cX3_init 51 = .ok (.newarray .int, 2) := by decide +kernel
theorem dX3_init_53 : decode cX3_init 53 = .ok (.putfield 35, 3) := by decide +kernel
theorem dX3_init_56 : decode cX3_init 56 = .ok (.aload_n 0, 1) := by decide +kernel
theorem dX3_init_57 : decode cX3_init 57 = .ok (.new 39, 3) := by decide +kernel
theorem dX3_init_60 : decode cX3_init 60 = .ok (.dup, 1) := by decide +kernel
theorem dX3_init_61 : decode cX3_init 61 = .ok (.invokespecial 41, 3) := by decide +kernel
theorem dX3_init_64 : decode cX3_init 64 = .ok (.putfield 42, 3) := by decide +kernel
theorem dX3_init_67 : decode cX3_init 67 = .ok (.aload_n 0, 1) := by decide +kernel
theorem dX3_init_68 : decode cX3_init 68 = .ok (.aload_n 1, 1) := by decide +kernel
theorem dX3_init_69 : decode cX3_init 69 = .ok (.putfield 46, 3) := by decide +kernel
theorem dX3_init_72 : decode cX3_init 72 = .ok (.return_, 1) := by decide +kernel
def ly_X3 : List xS := [.inl (4, [some 33, some 1, some 12, some 23, some 28, some 30, some 31, none, none, none, none, none, none, none, none, none, none]), .inl (2, [some 2, some 3, some 4, some 8, some 10, none, none, none, none, none, none]), .inr (0, 200, []), .inr (0, 400, []), .inl (3, [some 5, some 6, some 7, none, none, none]), .inr (0, 56, []), .inr (0, 7, []), .inr (0, 7, []), .inl (1, [some 9, none]), .inr (0, 8, []), .inl (1, [some 11, none]), .inr (0, 8, []), .inl (2, [some 13, some 14, some 15, some 19, some 21, none, none, none, none, none, none]), .inr (0, 200, []), .inr (0, 400, []), .inl (3, [some 16, some 17, some 18, none, none, none]), .inr (0, 56, []), .inr (0, 7, []), .inr (0, 7, []), .inl (1, [some 20, none]), .inr (0, 8, []), .inl (1, [some 22, none]), .inr (0, 8, []), .inl (10, [some 24, some 25, some 26, some 27, none, none]), .inr (0, 64, []), .inr (0, 64, []), .inr (0, 64, []), .inr (0, 64, []), .inl (5, [some 29, none, none]), .inr (0, 240, []), .inr (0, 11, []), .inl (1, [some 32, none]), .inr (0, 8, [])]
theorem yc_X3_9 : yCl RX3 9 2 11 [.null, .null, .null, .null, .null, .int 0, .int 0, .int 0, .int 0, .int 0, .int 0] := ⟨RX1, TX1, tyX1, rfl, inlX1, tyX1_ok, (xin_3 _ (List.mem_of_getElem? (i := 19) rfl)), (xin_3 _ (List.mem_of_getElem? (i := 20) rfl)), (xin_3 _ (List.mem_of_getElem? (i := 21) rfl)), fun j hj => by rcases (show j = 0 ∨ j = 1 ∨ j = 2 ∨ j = 3 ∨ j = 4 ∨ j = 5 ∨ j = 6 ∨ j = 7 ∨ j = 8 ∨ j = 9 ∨ j = 10 by omega) with rfl | rfl | rfl | rfl | rfl | rfl | rfl | rfl | rfl | rfl | rfl <;> rfl⟩
theorem xy_X1_init : xY yX1_init cX1_init 1 none 0 := ⟨(xin_4 _ (List.mem_of_getElem? (i := 15) rfl)), (xin_3 _ (List.mem_of_getElem? (i := 21) rfl)), by decide +kernel, by decide +kernel, by decide +kernel⟩
theorem yc_X3_21 : yCl RX3 21 10 6 [.null, .null, .null, .null, .int 0, .int 0] := ⟨RX9, TX9, tyX9, rfl, inlX9, tyX9_ok, (xin_4 _ (List.mem_of_getElem? (i := 0) rfl)), (xin_4 _ (List.mem_of_getElem? (i := 1) rfl)), (xin_4 _ (List.mem_of_getElem? (i := 2) rfl)), fun j hj => by rcases (show j = 0 ∨ j = 1 ∨ j = 2 ∨ j = 3 ∨ j = 4 ∨ j = 5 by omega) with rfl | rfl | rfl | rfl | rfl | rfl <;> rfl⟩
theorem xy_X9_init : xY yX9_init cX9_init 1 none 0 := ⟨(xin_5 _ (List.mem_of_getElem? (i := 13) rfl)), (xin_4 _ (List.mem_of_getElem? (i := 2) rfl)), by decide +kernel, by decide +kernel, by decide +kernel⟩
theorem yc_X3_28 : yCl RX3 28 5 3 [.null, .int 0, .int 0] := ⟨RX4, TX4, tyX4, rfl, inlX4, tyX4_ok, (xin_4 _ (List.mem_of_getElem? (i := 4) rfl)), (xin_4 _ (List.mem_of_getElem? (i := 5) rfl)), (xin_4 _ (List.mem_of_getElem? (i := 6) rfl)), fun j hj => by rcases (show j = 0 ∨ j = 1 ∨ j = 2 by omega) with rfl | rfl | rfl <;> rfl⟩
theorem xy_X4_init : xY yX4_init cX4_init 1 none 0 := ⟨(xin_5 _ (List.mem_of_getElem? (i := 20) rfl)), (xin_4 _ (List.mem_of_getElem? (i := 6) rfl)), by decide +kernel, by decide +kernel, by decide +kernel⟩
theorem yc_X3_39 : yCl RX3 39 1 2 [.null, .int 0] := ⟨RX0, TX0, tyX0, rfl, inlX0, tyX0_ok, (xin_4 _ (List.mem_of_getElem? (i := 9) rfl)), (xin_4 _ (List.mem_of_getElem? (i := 10) rfl)), (xin_4 _ (List.mem_of_getElem? (i := 11) rfl)), fun j hj => by rcases (show j = 0 ∨ j = 1 by omega) with rfl | rfl <;> rfl⟩
set_option maxRecDepth 1000000 in
set_option maxHeartbeats 4000000 in
theorem k_X3_init (l : Launch) : yMet l yX3_init cX3_init 2 4 32 1940 (.inr (4, [.null, .null, .null, .null, .null, .null, .null, .int 0, .int 0, .int 0, .int 0, .int 0, .int 0, .int 0, .int 0, .int 0, .int 0])) (fun ad0 => [.ref (ad0 33)]) 33 (fun dA ad => xwld ad dA (fun _ _ => 0) 0 ly_X3) := by
  refine yMet_of (Or.inl (by decide +kernel)) rfl (fun _ => Nat.le_of_ble_eq_true rfl) (fun Γ ad0 C hI hsa hR hl9 => ?_)
  subst hl9
  refine y_aload C 0 dX3_init_0 rfl rfl ?_
  refine y_obj C dX3_init_1 (xin_3 _ (List.mem_of_getElem? (i := 18) rfl)) (xin_1 _ (List.mem_of_getElem? (i := 9) rfl)) (xin_1 _ (List.mem_of_getElem? (i := 10) rfl)) (by omega) ?_
  refine y_aload C 0 dX3_init_4 rfl rfl ?_
  refine y_new C dX3_init_5 yc_X3_9 (by omega) (by omega) (fun q5 => ?_)
  refine y_dup C dX3_init_8 ?_
  refine y_ctorN (st := [.ref q5, .ref (ad0 0)]) C (yon (fun _ => q5) (ySA Γ)) dX3_init_9 (List.mem_of_getElem? (i := 1) rfl) xy_X1_init (xin_4 _ (List.mem_of_getElem? (i := 14) rfl)) rfl (k_X1_init _) (by omega) (by omega) rfl (Nat.le_of_ble_eq_true rfl) (by omega) (by omega) rfl (yon_hi _ _) rfl (fun a9 ha9 => ?_)
  obtain rfl : q5 = a9 0 := (ha9 0 (Or.inl rfl)).symm
  refine y_putF C hI dX3_init_12 fF_X3_12 ⟨_, _, rfl⟩ rfl rfl (Nat.le_of_ble_eq_true rfl) ?_
  refine y_aload C 0 dX3_init_15 rfl rfl ?_
  refine y_new C dX3_init_16 yc_X3_9 (by omega) (by omega) (fun q16 => ?_)
  refine y_dup C dX3_init_19 ?_
  refine y_ctorN (st := [.ref q16, .ref (ad0 0)]) C (yon (fun _ => q16) (ySA Γ)) dX3_init_20 (List.mem_of_getElem? (i := 1) rfl) xy_X1_init (xin_4 _ (List.mem_of_getElem? (i := 14) rfl)) rfl (k_X1_init _) (by omega) (by omega) rfl (Nat.le_of_ble_eq_true rfl) (by omega) (by omega) rfl (yon_hi _ _) rfl (fun a20 ha20 => ?_)
  obtain rfl : q16 = a20 0 := (ha20 0 (Or.inl rfl)).symm
  refine y_putF C hI dX3_init_23 fF_X3_18 ⟨_, _, rfl⟩ rfl rfl (Nat.le_of_ble_eq_true rfl) ?_
  refine y_aload C 0 dX3_init_26 rfl rfl ?_
  refine y_new C dX3_init_27 yc_X3_21 (by omega) (by omega) (fun q27 => ?_)
  refine y_dup C dX3_init_30 ?_
  refine y_ctorN (st := [.ref q27, .ref (ad0 0)]) C (yon (fun _ => q27) (ySA Γ)) dX3_init_31 (List.mem_of_getElem? (i := 4) rfl) xy_X9_init (xin_5 _ (List.mem_of_getElem? (i := 12) rfl)) rfl (k_X9_init _) (by omega) (by omega) rfl (Nat.le_of_ble_eq_true rfl) (by omega) (by omega) rfl (yon_hi _ _) rfl (fun a31 ha31 => ?_)
  obtain rfl : q27 = a31 0 := (ha31 0 (Or.inl rfl)).symm
  refine y_putF C hI dX3_init_34 fF_X3_24 ⟨_, _, rfl⟩ rfl rfl (Nat.le_of_ble_eq_true rfl) ?_
  refine y_aload C 0 dX3_init_37 rfl rfl ?_
  refine y_new C dX3_init_38 yc_X3_28 (by omega) (by omega) (fun q38 => ?_)
  refine y_dup C dX3_init_41 ?_
  refine y_ctorN (st := [.ref q38, .ref (ad0 0)]) C (yon (fun _ => q38) (ySA Γ)) dX3_init_42 (List.mem_of_getElem? (i := 5) rfl) xy_X4_init (xin_5 _ (List.mem_of_getElem? (i := 19) rfl)) rfl (k_X4_init _) (by omega) (by omega) rfl (Nat.le_of_ble_eq_true rfl) (by omega) (by omega) rfl (yon_hi _ _) rfl (fun a42 ha42 => ?_)
  obtain rfl : q38 = a42 0 := (ha42 0 (Or.inl rfl)).symm
  refine y_putF C hI dX3_init_45 fF_X3_31 ⟨_, _, rfl⟩ rfl rfl (Nat.le_of_ble_eq_true rfl) ?_
  refine y_aload C 0 dX3_init_48 rfl rfl ?_
  refine y_bipush (v := 11) C dX3_init_49 (by decide) ?_
  refine y_newa (N' := 11) C dX3_init_51 (xin_1 _ (List.mem_of_getElem? (i := 3) rfl)) (by decide) (by decide) (by decide) (by omega) (by omega) (fun q51 => ?_)
  refine y_putF C hI dX3_init_53 fF_X3_35 ⟨_, _, rfl⟩ rfl rfl (Nat.le_of_ble_eq_true rfl) ?_
  refine y_aload C 0 dX3_init_56 rfl rfl ?_
  refine y_new C dX3_init_57 yc_X3_39 (by omega) (by omega) (fun q57 => ?_)
  refine y_dup C dX3_init_60 ?_
  refine y_ctorN (st := [.ref q57, .ref (ad0 0)]) C (yon (fun _ => q57) (ySA Γ)) dX3_init_61 (List.mem_of_getElem? (i := 6) rfl) xy_X0_init (xin_5 _ (List.mem_of_getElem? (i := 8) rfl)) rfl (k_X0_init _) (by omega) (by omega) rfl (Nat.le_of_ble_eq_true rfl) (by omega) (by omega) rfl (yon_hi _ _) rfl (fun a61 ha61 => ?_)
  obtain rfl : q57 = a61 0 := (ha61 0 (Or.inl rfl)).symm
  refine y_putF C hI dX3_init_64 fF_X3_42 ⟨_, _, rfl⟩ rfl rfl (Nat.le_of_ble_eq_true rfl) ?_
  refine y_aload C 0 dX3_init_67 rfl rfl ?_
  refine y_aload C 1 dX3_init_68 rfl rfl ?_
  refine y_putF C hI dX3_init_69 fF_X3_46 ⟨_, _, rfl⟩ rfl rfl (Nat.le_of_ble_eq_true rfl) ?_
  exact y_ret hR (yad ad0 [a9 0, a9 1, a9 2, a9 3, a9 4, a9 5, a9 6, a9 7, a9 8, a9 9, a9 10, a20 0, a20 1, a20 2, a20 3, a20 4, a20 5, a20 6, a20 7, a20 8, a20 9, a20 10, a31 0, a31 1, a31 2, a31 3, a31 4, a42 0, a42 1, q51, a61 0, a61 1]) dX3_init_72 (by omega) (by omega) (fun i hi => yad_out _ _ hi) rfl

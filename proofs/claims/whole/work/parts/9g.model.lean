/-! ===== the constructor of the reference ===== -/
theorem dX11_init_0 : decode cX11_init 0 = .ok (.aload_n 0, 1) := by decide +kernel
theorem dX11_init_1 : decode cX11_init 1 = .ok (.invokespecial 1, 3) := by decide +kernel
theorem dX11_init_4 : decode cX11_init 4 = .ok (.aload_n 0, 1) := by decide +kernel
theorem dX11_init_5 : decode cX11_init 5 = .ok (.sipush 3530, 3) := by decide +kernel
theorem dX11_init_8 : decode cX11_init 8 = .ok (.newarray .int, 2) := by decide +kernel
theorem dX11_init_10 : decode cX11_init 10 = .ok (.putfield 9, 3) := by decide +kernel
theorem dX11_init_13 : decode cX11_init 13 = .ok (.aload_n 0, 1) := by decide +kernel
theorem dX11_init_14 : decode cX11_init 14 = .ok (.sipush 3530, 3) := by decide +kernel
theorem dX11_init_17 : decode cX11_init 17 = .ok (.newarray .int, 2) := by decide +kernel
theorem dX11_init_19 : decode cX11_init 19 = .ok (.putfield 13, 3) := by decide +kernel
theorem dX11_init_22 : decode cX11_init 22 = .ok (.aload_n 0, 1) := by decide +kernel
theorem dX11_init_23 : decode cX11_init 23 = .ok (.sipush 3530, 3) := by decide +kernel
theorem dX11_init_26 : decode cX11_init 26 = .ok (.newarray .int, 2) := by decide +kernel
theorem dX11_init_28 : decode cX11_init 28 = .ok (.putfield 16, 3) := by decide +kernel
theorem dX11_init_31 : decode cX11_init 31 = .ok (.aload_n 0, 1) := by decide +kernel
theorem dX11_init_32 : decode cX11_init 32 = .ok (.sipush 3530, 3) := by decide +kernel
theorem dX11_init_35 : decode cX11_init 35 = .ok (.newarray .int, 2) := by decide +kernel
theorem dX11_init_37 : decode cX11_init 37 = .ok (.putfield 19, 3) := by decide +kernel
theorem dX11_init_40 : decode cX11_init 40 = .ok (.aload_n 0, 1) := by decide +kernel
theorem dX11_init_41 : decode cX11_init 41 = .ok (.ldc 22, 2) := by decide +kernel
theorem dX11_init_43 : decode cX11_init 43 = .ok (.newarray .int, 2) := by decide +kernel
theorem dX11_init_45 : decode cX11_init 45 = .ok (.putfield 23, 3) := by decide +kernel
theorem dX11_init_48 : decode cX11_init 48 = .ok (.aload_n 0, 1) := by decide +kernel
theorem dX11_init_49 : decode cX11_init 49 = .ok (.bipush 8, 2) := by decide +kernel
theorem dX11_init_51 : decode cX11_init 51 = .ok (.newarray .int, 2) := by decide +kernel
theorem dX11_init_53 : decode cX11_init 53 = .ok (.putfield 26, 3) := by decide +kernel
theorem dX11_init_56 : decode cX11_init 56 = .ok (.aload_n 0, 1) := by decide +kernel
theorem dX11_init_57 : decode cX11_init 57 = .ok (.bipush 60, 2) := by decide +kernel
theorem dX11_init_59 : decode cX11_init 59 = .ok (.newarray .int, 2) := by decide +kernel
theorem dX11_init_61 : decode cX11_init 61 = .ok (.putfield 29, 3) := by decide +kernel
theorem dX11_init_64 : decode cX11_init 64 = .ok (.aload_n 0, 1) := by decide +kernel
theorem dX11_init_65 : decode cX11_init 65 = .ok (.sipush 600, 3) := by decide +kernel
theorem dX11_init_68 : decode cX11_init 68 = .ok (.newarray .int, 2) := by decide +kernel
theorem dX11_init_70 : decode cX11_init 70 = .ok (.putfield 32, 3) := by decide +kernel
theorem dX11_init_73 : decode cX11_init 73 = .ok (.aload_n 0, 1) := by decide +kernel
theorem dX11_init_74 : decode cX11_init 74 = .ok (.iconst (-1), 1) := by decide +kernel
theorem dX11_init_75 : decode cX11_init 75 = .ok (.putfield 35, 3) := by decide +kernel
theorem dX11_init_78 : decode cX11_init 78 = .ok (.aload_n 0, 1) := by decide +kernel
theorem dX11_init_79 : decode cX11_init 79 = .ok (.iconst 5, 1) := by decide +kernel
theorem dX11_init_80 : decode cX11_init 80 = .ok (.anewarray 39, 3) := by decide +kernel
theorem dX11_init_83 : decode cX11_init 83 = .ok (.dup, 1) := by decide +kernel
theorem dX11_init_84 : decode cX11_init 84 = .ok (.iconst 0, 1) := by decide +kernel
theorem dX11_init_85 : decode cX11_init 85 = .ok (.ldc 41, 2) := by decide +kernel
theorem dX11_init_87 : decode cX11_init 87 = .ok (.aastore, 1) := by decide +kernel
theorem dX11_init_88 : decode cX11_init 88 = .ok (.dup, 1) := by decide +kernel
theorem dX11_init_89 : decode cX11_init 89 = .ok (.iconst 1, 1) := by decide +kernel
theorem dX11_init_90 : decode cX11_init 90 = .ok (.ldc 43, 2) := by decide +kernel
theorem dX11_init_92 : decode cX11_init 92 = .ok (.aastore, 1) := by decide +kernel
theorem dX11_init_93 : decode cX11_init 93 = .ok (.dup, 1) := by decide +kernel
theorem dX11_init_94 : decode cX11_init 94 = .ok (.iconst 2, 1) := by decide +kernel
theorem dX11_init_95 : decode cX11_init 95 = .ok (.ldc 45, 2) := by decide +kernel
theorem dX11_init_97 : decode cX11_init 97 = .ok (.aastore, 1) := by decide +kernel
theorem dX11_init_98 : decode cX11_init 98 = .ok (.dup, 1) := by decide +kernel
theorem dX11_init_99 : decode cX11_init 99 = .ok (.iconst 3, 1) := by decide +kernel
theorem dX11_init_100 : decode cX11_init 100 = .ok (.ldc 47, 2) := by decide +kernel
theorem dX11_init_102 : decode cX11_init 102 = .ok (.aastore, 1) := by decide +kernel
theorem dX11_init_103 : decode cX11_init 103 = .ok (.dup, 1) := by decide +kernel
theorem dX11_init_104 : decode cX11_init 104 = .ok (.iconst 4, 1) := by decide +kernel
theorem dX11_init_105 : decode cX11_init 105 = .ok (.ldc 49, 2) := by decide +kernel
theorem dX11_init_107 : decode cX11_init 107 = .ok (.aastore, 1) := by decide +kernel
theorem dX11_init_108 : decode cX11_init 108 = .ok (.putfield 51, 3) := by decide +kernel
theorem dX11_init_111 : decode cX11_init 111 = .ok (.aload_n 0, 1) := by decide +kernel
theorem dX11_init_112 : decode cX11_init 112 = .ok (.sipush 200, 3) := by decide +kernel
theorem dX11_init_115 : decode cX11_init 115 = .ok (.newarray .int, 2) := by decide +kernel
theorem dX11_init_117 : decode cX11_init 117 = .ok (.putfield 55, 3) := by decide +kernel
theorem dX11_init_120 : decode cX11_init 120 = .ok (.aload_n 0, 1) := by decide +kernel
theorem dX11_init_121 : decode cX11_init 121 = .ok (.sipush 200, 3) := by decide +kernel
theorem dX11_init_124 : decode cX11_init 124 = .ok (.newarray .long, 2) := by decide +kernel
theorem dX11_init_126 : decode cX11_init 126 = .ok (.putfield 58, 3) := by decide +kernel
theorem dX11_init_129 : decode cX11_init 129 = .ok (.aload_n 0, 1) := by decide +kernel
theorem dX11_init_130 : decode cX11_init 130 = .ok (.getfield 9, 3) := by decide +kernel
theorem dX11_init_133 : decode cX11_init 133 = .ok (.invokestatic 62, 3) := by decide +kernel
theorem dX11_init_136 : decode cX11_init 136 = .ok (.aload_n 0, 1) := by decide +kernel
theorem dX11_init_137 : decode cX11_init 137 = .ok (.getfield 9, 3) := by decide +kernel
theorem dX11_init_140 : decode cX11_init 140 = .ok (.iconst 2, 1) := by decide +kernel
theorem dX11_init_141 : decode cX11_init 141 = .ok (.bipush 9, 2) := by decide +kernel
theorem dX11_init_143 : decode cX11_init 143 = .ok (.iastore, 1) := by decide +kernel
theorem dX11_init_144 : decode cX11_init 144 = .ok (.aload_n 0, 1) := by decide +kernel
theorem dX11_init_145 : decode cX11_init 145 = .ok (.getfield 9, 3) := by decide +kernel
theorem dX11_init_148 : decode cX11_init 148 = .ok (.bipush 11, 2) := by decide +kernel
theorem dX11_init_150 : decode cX11_init 150 = .ok (.iconst 1, 1) := by decide +kernel
theorem dX11_init_151 : decode cX11_init 151 = .ok (.iastore, 1) := by decide +kernel
theorem dX11_init_152 : decode cX11_init 152 = .ok (.aload_n 0, 1) := by decide +kernel
theorem dX11_init_153 : decode cX11_init 153 = .ok (.getfield 9, 3) := by decide +kernel
theorem dX11_init_156 : decode cX11_init 156 = .ok (.bipush 35, 2) := by decide +kernel
theorem dX11_init_158 : decode cX11_init 158 = .ok (.bipush 8, 2) := by decide +kernel
theorem dX11_init_160 : decode cX11_init 160 = .ok (.iastore, 1) := by decide +kernel
theorem dX11_init_161 : decode cX11_init 161 = .ok (.aload_n 0, 1) := by decide +kernel
theorem dX11_init_162 : decode cX11_init 162 = .ok (.getfield 9, 3) := by decide +kernel
theorem dX11_init_165 : decode cX11_init 165 = .ok (.bipush 40, 2) := by decide +kernel
theorem dX11_init_167 : decode cX11_init 167 = .ok (.iconst 1, 1) := by decide +kernel
theorem dX11_init_168 : decode cX11_init 168 = .ok (.iastore, 1) := by decide +kernel
theorem dX11_init_169 : decode cX11_init 169 = .ok (.return_, 1) := by decide +kernel
theorem yon_out (ad0 sa : Nat → Nat) (qs : List Nat) (hsa : sa = ad0) {i : Nat} (h : i = 0 ∨ qs.length + 1 ≤ i) : yon (yad ad0 qs) sa i = ad0 i := by
  unfold yon
  by_cases h1 : i < 1000
  · rw [if_pos h1]; exact yad_out _ _ h
  · rw [if_neg h1, hsa]
theorem y_names (sa : Nat → Nat) (f : Nat → Nat) : va_up (va_up (va_up (va_up (va_up (fun _ => none) 0 (some (sa (1000 + 0)))) 1 (some (sa (1000 + 1)))) 2 (some (sa (1000 + 2)))) 3 (some (sa (1000 + 3)))) 4 (some (sa (1000 + 4))) = fun j => ([1000, 1001, 1002, 1003, 1004][j]?).map (yon f sa) := by
  funext j
  rcases j with _ | _ | _ | _ | _ | j
  · rfl
  · rfl
  · rfl
  · rfl
  · rfl
  · show va_up (va_up (va_up (va_up (va_up (fun _ => none) 0 _) 1 _) 2 _) 3 _) 4 _ (j + 5) = none
    unfold va_up
    rw [if_neg (by omega), if_neg (by omega), if_neg (by omega), if_neg (by omega), if_neg (by omega)]
/-- the memory of a new reference -/
def mM0 : xM := xu (fun _ _ => 0) 0 20 (-1)
def mMq : xM := (f_m_clear (xvw [1] mM0)).getD mM0
theorem mMq_eq : f_m_clear (xvw [1] mM0) = some mMq := by
  obtain ⟨q, h, -⟩ := m_clear_sp (xvw [1] mM0)
  unfold mMq
  rw [h]; rfl
def mM9 : xM := xu (xu (xu (xu (xmg [1] 1 mM0 mMq) 1 2 9) 1 11 1) 1 35 8) 1 40 1
theorem xview_M1 : xview lay_M lay_row [1] := xview_of (by decide +kernel)
set_option maxRecDepth 1000000 in
set_option maxHeartbeats 4000000 in
theorem k_X11_init (l : Launch) : yMet l yX11_init cX11_init 1 4 11 50493 (.inr (13, [.null, .null, .null, .null, .null, .int 0, .int 0, .int 0, .null, .int 0, .null, .int 0, .null, .int 0, .int 0, .int 0, .int 0, .int 0, .int 0, .int 0, .int 0, .int 0, .null, .null, .null, .int 0])) (fun _ => []) 12 (fun dA ad => xwld ad dA mM9 0 lay_M) := by
  refine yMet_of (Or.inl (by decide +kernel)) rfl (fun _ => Nat.le_of_ble_eq_true rfl) (fun Γ ad0 C hI hsa hR hl9 => ?_)
  subst hl9
  refine y_aload C 0 dX11_init_0 rfl rfl ?_
  refine y_obj C dX11_init_1 (xin_9 _ (List.mem_of_getElem? (i := 1) rfl)) (xin_1 _ (List.mem_of_getElem? (i := 11) rfl)) (xin_1 _ (List.mem_of_getElem? (i := 12) rfl)) (by omega) ?_
  refine y_aload C 0 dX11_init_4 rfl rfl ?_
  refine y_sipush (v := 3530) C dX11_init_5 (by decide) ?_
  refine y_newa (N' := 3530) C dX11_init_8 (xin_2 _ (List.mem_of_getElem? (i := 1) rfl)) (by decide) (by decide) (by decide) (by omega) (by omega) (fun q8 => ?_)
  refine y_putF C hI dX11_init_10 fF_X11_9 ⟨_, _, rfl⟩ rfl rfl (Nat.le_of_ble_eq_true rfl) ?_
  refine y_aload C 0 dX11_init_13 rfl rfl ?_
  refine y_sipush (v := 3530) C dX11_init_14 (by decide) ?_
  refine y_newa (N' := 3530) C dX11_init_17 (xin_2 _ (List.mem_of_getElem? (i := 1) rfl)) (by decide) (by decide) (by decide) (by omega) (by omega) (fun q17 => ?_)
  refine y_putF C hI dX11_init_19 fF_X11_13 ⟨_, _, rfl⟩ rfl rfl (Nat.le_of_ble_eq_true rfl) ?_
  refine y_aload C 0 dX11_init_22 rfl rfl ?_
  refine y_sipush (v := 3530) C dX11_init_23 (by decide) ?_
  refine y_newa (N' := 3530) C dX11_init_26 (xin_2 _ (List.mem_of_getElem? (i := 1) rfl)) (by decide) (by decide) (by decide) (by omega) (by omega) (fun q26 => ?_)
  refine y_putF C hI dX11_init_28 fF_X11_16 ⟨_, _, rfl⟩ rfl rfl (Nat.le_of_ble_eq_true rfl) ?_
  refine y_aload C 0 dX11_init_31 rfl rfl ?_
  refine y_sipush (v := 3530) C dX11_init_32 (by decide) ?_
  refine y_newa (N' := 3530) C dX11_init_35 (xin_2 _ (List.mem_of_getElem? (i := 1) rfl)) (by decide) (by decide) (by decide) (by omega) (by omega) (fun q35 => ?_)
  refine y_putF C hI dX11_init_37 fF_X11_19 ⟨_, _, rfl⟩ rfl rfl (Nat.le_of_ble_eq_true rfl) ?_
  refine y_aload C 0 dX11_init_40 rfl rfl ?_
  refine y_ldc (v := 35300) C dX11_init_41 (xin_9 _ (List.mem_of_getElem? (i := 6) rfl)) ?_
  refine y_newa (N' := 35300) C dX11_init_43 (xin_2 _ (List.mem_of_getElem? (i := 1) rfl)) (by decide) (by decide) (by decide) (by omega) (by omega) (fun q43 => ?_)
  refine y_putF C hI dX11_init_45 fF_X11_23 ⟨_, _, rfl⟩ rfl rfl (Nat.le_of_ble_eq_true rfl) ?_
  refine y_aload C 0 dX11_init_48 rfl rfl ?_
  refine y_bipush (v := 8) C dX11_init_49 (by decide) ?_
  refine y_newa (N' := 8) C dX11_init_51 (xin_2 _ (List.mem_of_getElem? (i := 1) rfl)) (by decide) (by decide) (by decide) (by omega) (by omega) (fun q51 => ?_)
  refine y_putF C hI dX11_init_53 fF_X11_26 ⟨_, _, rfl⟩ rfl rfl (Nat.le_of_ble_eq_true rfl) ?_
  refine y_aload C 0 dX11_init_56 rfl rfl ?_
  refine y_bipush (v := 60) C dX11_init_57 (by decide) ?_
  refine y_newa (N' := 60) C dX11_init_59 (xin_2 _ (List.mem_of_getElem? (i := 1) rfl)) (by decide) (by decide) (by decide) (by omega) (by omega) (fun q59 => ?_)
  refine y_putF C hI dX11_init_61 fF_X11_29 ⟨_, _, rfl⟩ rfl rfl (Nat.le_of_ble_eq_true rfl) ?_
  refine y_aload C 0 dX11_init_64 rfl rfl ?_
  refine y_sipush (v := 600) C dX11_init_65 (by decide) ?_
  refine y_newa (N' := 600) C dX11_init_68 (xin_2 _ (List.mem_of_getElem? (i := 1) rfl)) (by decide) (by decide) (by decide) (by omega) (by omega) (fun q68 => ?_)
  refine y_putF C hI dX11_init_70 fF_X11_32 ⟨_, _, rfl⟩ rfl rfl (Nat.le_of_ble_eq_true rfl) ?_
  refine y_aload C 0 dX11_init_73 rfl rfl ?_
  refine y_iconst (v := (Int32.ofInt (-1))) C dX11_init_74 (by decide) ?_
  refine y_put C dX11_init_75 fF_X11_35 rfl rfl (Nat.le_of_ble_eq_true rfl) ?_
  refine y_aload C 0 dX11_init_78 rfl rfl ?_
  refine y_iconst (v := 5) C dX11_init_79 (by decide) ?_
  refine y_anewS (N' := 5) C dX11_init_80 (xin_9 _ (List.mem_of_getElem? (i := 12) rfl)) (by decide) (by decide) (by decide) (by omega) (by omega) (fun q80 => ?_)
  refine y_dup C dX11_init_83 ?_
  refine y_iconst (v := 0) C dX11_init_84 (by decide) ?_
  refine y_ldcS C "event" 0 dX11_init_85 (List.mem_of_getElem? (i := 24) rfl) ?_
  refine y_astS (i9 := 0) (i := 0) (iN := 0) C 9 dX11_init_87 rfl (by decide) (by unfold vp_in; decide) (by decide) ?_
  refine y_dup C dX11_init_88 ?_
  refine y_iconst (v := 1) C dX11_init_89 (by decide) ?_
  refine y_ldcS C "tick" 1 dX11_init_90 (List.mem_of_getElem? (i := 25) rfl) ?_
  refine y_astS (i9 := 1) (i := 1) (iN := 1) C 9 dX11_init_92 rfl (by decide) (by unfold vp_in; decide) (by decide) ?_
  refine y_dup C dX11_init_93 ?_
  refine y_iconst (v := 2) C dX11_init_94 (by decide) ?_
  refine y_ldcS C "kind" 2 dX11_init_95 (List.mem_of_getElem? (i := 26) rfl) ?_
  refine y_astS (i9 := 2) (i := 2) (iN := 2) C 9 dX11_init_97 rfl (by decide) (by unfold vp_in; decide) (by decide) ?_
  refine y_dup C dX11_init_98 ?_
  refine y_iconst (v := 3) C dX11_init_99 (by decide) ?_
  refine y_ldcS C "end" 3 dX11_init_100 (List.mem_of_getElem? (i := 27) rfl) ?_
  refine y_astS (i9 := 3) (i := 3) (iN := 3) C 9 dX11_init_102 rfl (by decide) (by unfold vp_in; decide) (by decide) ?_
  refine y_dup C dX11_init_103 ?_
  refine y_iconst (v := 4) C dX11_init_104 (by decide) ?_
  refine y_ldcS C "rate" 4 dX11_init_105 (List.mem_of_getElem? (i := 28) rfl) ?_
  refine y_astS (i9 := 4) (i := 4) (iN := 4) C 9 dX11_init_107 rfl (by decide) (by unfold vp_in; decide) (by decide) ?_
  refine y_putF C hI dX11_init_108 fF_X11_51 ⟨_, _, rfl⟩ rfl rfl (Nat.le_of_ble_eq_true rfl) ?_
  refine y_aload C 0 dX11_init_111 rfl rfl ?_
  refine y_sipush (v := 200) C dX11_init_112 (by decide) ?_
  refine y_newa (N' := 200) C dX11_init_115 (xin_2 _ (List.mem_of_getElem? (i := 1) rfl)) (by decide) (by decide) (by decide) (by omega) (by omega) (fun q115 => ?_)
  refine y_putF C hI dX11_init_117 fF_X11_55 ⟨_, _, rfl⟩ rfl rfl (Nat.le_of_ble_eq_true rfl) ?_
  refine y_aload C 0 dX11_init_120 rfl rfl ?_
  refine y_sipush (v := 200) C dX11_init_121 (by decide) ?_
  refine y_newl (N' := 200) C dX11_init_124 (xin_1 _ (List.mem_of_getElem? (i := 6) rfl)) (by decide) (by decide) (by decide) (by omega) (by omega) (fun q124 => ?_)
  refine y_putF C hI dX11_init_126 fF_X11_58 ⟨_, _, rfl⟩ rfl rfl (Nat.le_of_ble_eq_true rfl) ?_
  refine y_to_x C (by omega) (by omega) (yon (yad ad0 [q8, q17, q26, q35, q43, q51, q59, q68, q80, q115, q124]) (ySA Γ)) mM0 lay_M ?_ (yon_hi _ _) [(0, .inr (.inr (some 0)))] [] rfl rfl (fun C' hD => ?_)
  · rw [y_names (ySA Γ) (yad ad0 [q8, q17, q26, q35, q43, q51, q59, q68, q80, q115, q124])]
    rfl
  · refine x_aload_n C' dX11_init_129 rfl ?_
    refine x_getR C' dX11_init_130 fF_X11_9 rfl rfl ?_
    refine x_callS C' dX11_init_133 (xin_9 _ (List.mem_of_getElem? (i := 16) rfl)) xy_X11_clear xt_X11_clear [1] xview_M1 (by omega) (by decide) (av := [.inr (.inr (some 0))]) rfl (Nat.le_of_ble_eq_true rfl) (c_m_clear _ _ _ mMq_eq) rfl ?_
    refine x_aload_n C' dX11_init_136 rfl ?_
    refine x_getR C' dX11_init_137 fF_X11_9 rfl rfl ?_
    refine x_iconst C' dX11_init_140 ?_
    refine x_bipush C' dX11_init_141 (by decide) ?_
    refine x_iastore C' dX11_init_143 rfl (a := some ()) (r := ()) (if_pos (by decide +kernel)) (fun _ => ?_)
    refine x_aload_n C' dX11_init_144 rfl ?_
    refine x_getR C' dX11_init_145 fF_X11_9 rfl rfl ?_
    refine x_bipush C' dX11_init_148 (by decide) ?_
    refine x_iconst C' dX11_init_150 ?_
    refine x_iastore C' dX11_init_151 rfl (a := some ()) (r := ()) (if_pos (by decide +kernel)) (fun _ => ?_)
    refine x_aload_n C' dX11_init_152 rfl ?_
    refine x_getR C' dX11_init_153 fF_X11_9 rfl rfl ?_
    refine x_bipush C' dX11_init_156 (by decide) ?_
    refine x_bipush C' dX11_init_158 (by decide) ?_
    refine x_iastore C' dX11_init_160 rfl (a := some ()) (r := ()) (if_pos (by decide +kernel)) (fun _ => ?_)
    refine x_aload_n C' dX11_init_161 rfl ?_
    refine x_getR C' dX11_init_162 fF_X11_9 rfl rfl ?_
    refine x_bipush C' dX11_init_165 (by decide) ?_
    refine x_iconst C' dX11_init_167 ?_
    refine x_iastore C' dX11_init_168 rfl (a := some ()) (r := ()) (if_pos (by decide +kernel)) (fun _ => ?_)
    exact x_return (x := 0) (x' := 0) (y_xRv hR (by omega) (by omega) (yon (yad ad0 [q8, q17, q26, q35, q43, q51, q59, q68, q80, q115, q124]) (ySA Γ)) (fun i hi => yon_out ad0 _ [q8, q17, q26, q35, q43, q51, q59, q68, q80, q115, q124] hsa hi) mM9 lay_M rfl (hD _)) dX11_init_169 rfl

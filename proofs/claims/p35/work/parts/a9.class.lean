/-! ===== the class's constructor ===== -/
theorem y_cnt {α : Type} (X S D' L1 L2 L3 P Y Z : List α) : ((X ++ ((S ++ (D' ++ (L1 ++ (L2 ++ L3)))) ++ (P ++ Y))) ++ Z).Perm ((X ++ (D' ++ (L2 ++ (L3 ++ (Y ++ (P ++ Z)))))) ++ (L1 ++ S)) := by
  classical
  refine List.perm_iff_count.mpr (fun a => ?_)
  simp only [List.count_append]
  omega
theorem y_cnt2 {α : Type} (X S D' L1 L2 L3 Y P Z W : List α) : ((X ++ (D' ++ (L2 ++ (L3 ++ (Y ++ (P ++ (Z ++ W))))))) ++ (L1 ++ S)).Perm ((X ++ (S ++ (D' ++ (L1 ++ (L2 ++ (L3 ++ (Y ++ (P ++ Z)))))))) ++ W) := by
  classical
  refine List.perm_iff_count.mpr (fun a => ?_)
  simp only [List.count_append]
  omega
theorem yS_33 : lay_L0 = ly_X3.map (xsh (fun r => 0 + r)) ++ lay_S.map (xsh (fun r => 33 + r)) := by decide +kernel
/-- the line with its setup, as one part of the world -/
theorem yL0_sp (dA : Nat → ClassId) (ad l1 aS : Nat → Nat) (m m1 m2 : xM) (h1 : ∀ t, t < 33 → ad t = l1 t ∧ m t = m1 t) (h33 : l1 33 = aS 0) (h2 : ∀ t, t < 5 → ad (33 + t) = aS t ∧ m (33 + t) = m2 t) : xwld ad dA m 0 lay_L0 = xwld l1 dA m1 0 ly_X3 ++ xwld aS dA m2 0 lay_S := by
  rw [yS_33, xw_split _ _ _ _ _ 0 33 rfl, yS_sp ad dA m 33 aS m2 h2]
  have := xwld_sh (ad := ad) (a' := l1) (f := fun r => 0 + r) (dA := dA) (m := m) (m' := m1) (b := 0) ly_X3 0 (fun i _ hi => by rw [Nat.zero_add]; exact h1 i (by have : ly_X3.length = 33 := rfl; omega)) (fun s hs r hr => by
    have hr33 := yX3_33 s hs r hr
    rw [Nat.zero_add]
    by_cases e : r = 33
    · rw [e, h33]; exact (h2 0 (by omega)).1
    · exact (h1 r (by omega)).1)
  rw [Nat.add_zero] at this
  rw [this]
def yWt2 (dA : Nat → ClassId) (ad : Nat → Nat) : va_W := [(ad 445, .inr (0, [.ref (ad 446), .int 0, .int 0, .int 0])), (ad 446, .inl (dA 6, 16, .inl (fun _ => 0)))]
set_option maxRecDepth 1000000 in
set_option maxHeartbeats 8000000 in
theorem k_X10_init (l : Launch) : yMet l yX10_init cX10_init 2 6 446 26157 (.inr (11, [.null, .null, .null, .null, .null, .int 0, .null, .int 0, .int 0, .null, .int 0, .int 0, .null, .null, .null, .null])) (fun _ => []) 447 (fun dA ad => xwld ad dA mX9 0 lay_X ++ yWt2 dA ad) := by
  refine yMet_of (Or.inl (by decide +kernel)) rfl (fun _ => Nat.le_of_ble_eq_true rfl) (fun Γ ad0 C hI hsa hR hl9 => ?_)
  subst hl9
  refine y_aload C 0 dX10_init_0 rfl rfl ?_
  refine y_obj C dX10_init_1 (xin_1 _ (List.mem_of_getElem? (i := 8) rfl)) (xin_1 _ (List.mem_of_getElem? (i := 9) rfl)) (xin_1 _ (List.mem_of_getElem? (i := 10) rfl)) (by omega) ?_
  refine y_aload C 0 dX10_init_4 rfl rfl ?_
  refine y_new C dX10_init_5 yc_X10_7 (by omega) (by omega) (fun q5 => ?_)
  refine y_dup C dX10_init_8 ?_
  refine y_ctorN (st := [.ref q5, .ref (ad0 0)]) C (yon (fun _ => q5) (ySA Γ)) dX10_init_9 (List.mem_of_getElem? (i := 0) rfl) xy_X6_init (xin_2 _ (List.mem_of_getElem? (i := 18) rfl)) rfl (k_X6_init _) (by omega) (by omega) rfl (Nat.le_of_ble_eq_true rfl) (by omega) (by omega) rfl (yon_hi _ _) rfl (fun a9 h9 => ?_)
  obtain rfl : q5 = a9 0 := (h9 0 (Or.inl rfl)).symm
  refine y_putF C hI dX10_init_12 fF_X10_10 ⟨_, _, rfl⟩ rfl rfl (Nat.le_of_ble_eq_true rfl) ?_
  refine y_aload C 0 dX10_init_15 rfl rfl ?_
  refine y_get C 0 dX10_init_16 fF_X10_10 rfl rfl ?_
  have s9 : ∀ i : Nat, a9 (1000 + i) = ySA Γ (1000 + i) := fun i => (h9 (1000 + i) (Or.inr (by omega))).trans (yon_hi _ _ i)
  refine y_callX (wa := [_]) (st := []) (av := []) (b := 0) (layY := lay_S) (m := fun _ _ => 0) C a9 dX10_init_19 (xin_3 _ (List.mem_of_getElem? (i := 1) rfl)) xy_X6_setDefaults xi_X6_setDefaults xs_X6_setDefaults (by omega) (by decide) rfl ⟨_, _, rfl⟩ rfl (Nat.le_of_ble_eq_true rfl) (c_S_def _ _ _ mS9_eq) (by omega) (by omega) s9 rfl ?_
  refine y_aload C 0 dX10_init_22 rfl rfl ?_
  refine y_new C dX10_init_23 yc_X10_7 (by omega) (by omega) (fun q23 => ?_)
  refine y_dup C dX10_init_26 ?_
  refine y_ctorN (st := [.ref q23, .ref (ad0 0)]) C (yon (fun _ => q23) (ySA Γ)) dX10_init_27 (List.mem_of_getElem? (i := 0) rfl) xy_X6_init (xin_2 _ (List.mem_of_getElem? (i := 18) rfl)) rfl (k_X6_init _) (by omega) (by omega) rfl (Nat.le_of_ble_eq_true rfl) (by omega) (by omega) rfl (yon_hi _ _) rfl (fun a27 h27 => ?_)
  obtain rfl : q23 = a27 0 := (h27 0 (Or.inl rfl)).symm
  refine y_putF C hI dX10_init_30 fF_X10_19 ⟨_, _, rfl⟩ rfl rfl (Nat.le_of_ble_eq_true rfl) ?_
  refine y_aload C 0 dX10_init_33 rfl rfl ?_
  refine y_new C dX10_init_34 yc_X10_22 (by omega) (by omega) (fun q34 => ?_)
  refine y_dup C dX10_init_37 ?_
  refine y_aload C 0 dX10_init_38 rfl rfl ?_
  refine y_get C 0 dX10_init_39 fF_X10_10 rfl rfl ?_
  refine y_ctor (st := [.ref q34, .ref (ad0 0)]) C (yon (fun i => if i = 0 then q34 else a9 0) (ySA Γ)) dX10_init_42 (xin_3 _ (List.mem_of_getElem? (i := 15) rfl)) xy_X3_init (xin_3 _ (List.mem_of_getElem? (i := 16) rfl)) rfl (k_X3_init _) (by omega) (by omega) rfl (Nat.le_of_ble_eq_true rfl) (by omega) (by omega) rfl (yon_hi _ _) rfl (fun a42 h42 => ?_)
  obtain rfl : q34 = a42 0 := (h42 0 (Or.inl rfl)).symm
  have h423 : a42 33 = a9 0 := h42 33 (Or.inr (Nat.le_refl _))
  refine y_putF C hI dX10_init_45 fF_X10_27 ⟨_, _, rfl⟩ rfl rfl (Nat.le_of_ble_eq_true rfl) ?_
  refine y_aload C 0 dX10_init_48 rfl rfl ?_
  refine y_new C dX10_init_49 yc_X10_22 (by omega) (by omega) (fun q49 => ?_)
  refine y_dup C dX10_init_52 ?_
  refine y_aload C 0 dX10_init_53 rfl rfl ?_
  refine y_get C 0 dX10_init_54 fF_X10_10 rfl rfl ?_
  refine y_ctor (st := [.ref q49, .ref (ad0 0)]) C (yon (fun i => if i = 0 then q49 else a9 0) (ySA Γ)) dX10_init_57 (xin_3 _ (List.mem_of_getElem? (i := 15) rfl)) xy_X3_init (xin_3 _ (List.mem_of_getElem? (i := 16) rfl)) rfl (k_X3_init _) (by omega) (by omega) rfl (Nat.le_of_ble_eq_true rfl) (by omega) (by omega) rfl (yon_hi _ _) rfl (fun a57 h57 => ?_)
  obtain rfl : q49 = a57 0 := (h57 0 (Or.inl rfl)).symm
  have h573 : a57 33 = a9 0 := h57 33 (Or.inr (Nat.le_refl _))
  refine y_putF C hI dX10_init_60 fF_X10_31 ⟨_, _, rfl⟩ rfl rfl (Nat.le_of_ble_eq_true rfl) ?_
  refine y_aload C 0 dX10_init_63 rfl rfl ?_
  refine y_new C dX10_init_64 yc_X10_22 (by omega) (by omega) (fun q64 => ?_)
  refine y_dup C dX10_init_67 ?_
  refine y_aload C 0 dX10_init_68 rfl rfl ?_
  refine y_get C 0 dX10_init_69 fF_X10_10 rfl rfl ?_
  refine y_ctor (st := [.ref q64, .ref (ad0 0)]) C (yon (fun i => if i = 0 then q64 else a9 0) (ySA Γ)) dX10_init_72 (xin_3 _ (List.mem_of_getElem? (i := 15) rfl)) xy_X3_init (xin_3 _ (List.mem_of_getElem? (i := 16) rfl)) rfl (k_X3_init _) (by omega) (by omega) rfl (Nat.le_of_ble_eq_true rfl) (by omega) (by omega) rfl (yon_hi _ _) rfl (fun a72 h72 => ?_)
  obtain rfl : q64 = a72 0 := (h72 0 (Or.inl rfl)).symm
  have h723 : a72 33 = a9 0 := h72 33 (Or.inr (Nat.le_refl _))
  refine y_putF C hI dX10_init_75 fF_X10_34 ⟨_, _, rfl⟩ rfl rfl (Nat.le_of_ble_eq_true rfl) ?_
  refine y_aload C 0 dX10_init_78 rfl rfl ?_
  refine y_bipush (v := 10) C dX10_init_79 (by decide) ?_
  refine y_anewL (N' := 10) C dX10_init_81 (xin_1 _ (List.mem_of_getElem? (i := 16) rfl)) (by decide) (by decide) (by decide) (by omega) (by omega) (fun pa => ?_)
  refine y_putF C hI dX10_init_84 fF_X10_37 ⟨_, _, rfl⟩ rfl rfl (Nat.le_of_ble_eq_true rfl) ?_
  refine y_iconst (v := Int32.ofInt (0 : Nat)) C dX10_init_87 (by decide) ?_
  refine y_istore C dX10_init_88 rfl (by omega) rfl ?_
  obtain ⟨T0, hT0⟩ : ∃ T0, T0 = xwld a9 (yDA Γ) mS9 0 lay_S ++ (xwld a27 (yDA Γ) (fun _ _ => 0) 0 lay_S ++ (xwld a42 (yDA Γ) (fun _ _ => 0) 0 ly_X3 ++ (xwld a57 (yDA Γ) (fun _ _ => 0) 0 ly_X3 ++ xwld a72 (yDA Γ) (fun _ _ => 0) 0 ly_X3))) := ⟨_, rfl⟩
  obtain ⟨fs, hfs⟩ : ∃ fs : List Value, fs = [.ref (a9 0), .ref (a27 0), .ref (a42 0), .ref (a57 0), .ref (a72 0), .int 0, .ref pa, .int 0, .int 0, .null, .int 0, .int 0, .null, .null, .null, .null] := ⟨_, rfl⟩
  refine y_eqw (ws' := (ad0 0, .inr (11, fs)) :: (T0 ++ (pa, yarr (yDA Γ) (fun _ => a9) 0) :: yls (yDA Γ) (fun _ => a9) 0)) ?_ ?_
  · have e1 : (fun _ : Nat => (none : Option Nat)) = (fun j : Nat => if j < 0 then some (a9 0) else none) := by
      funext j; rw [if_neg (by omega)]
    rw [e1, hT0, hfs]
    rfl
  refine X10_loop C (ad0 0) pa (a9 0) fs T0 (by rw [hT0]; rfl) (by rw [hfs]; rfl) (by rw [hfs]; rfl) 110 5957 (by omega) (by omega) (fun AD hAD => ?_) 10 0 (fun _ => a9) rfl (fun i hi => by omega)
  refine y_aload C 1 dX10_init_121 rfl rfl ?_
  refine y_sipush (v := 600) C dX10_init_122 (by decide) ?_
  refine y_newa (N' := 600) C dX10_init_125 (xin_1 _ (List.mem_of_getElem? (i := 3) rfl)) (by decide) (by decide) (by decide) (by omega) (by omega) (fun bu => ?_)
  refine y_putF C hI dX10_init_127 fF_X10_41 ⟨_, _, rfl⟩ rfl rfl (by rw [hfs]; exact Nat.le_of_ble_eq_true rfl) ?_
  refine y_aload C 1 dX10_init_130 rfl rfl ?_
  refine y_iconst (v := Int32.ofInt (-1)) C dX10_init_131 rfl ?_
  refine y_put C dX10_init_132 fF_X10_45 rfl rfl (by rw [hfs]; exact Nat.le_of_ble_eq_true rfl) ?_
  refine y_aload C 1 dX10_init_135 rfl rfl ?_
  refine y_new C dX10_init_136 yc_X10_49 (by omega) (by omega) (fun q136 => ?_)
  refine y_dup C dX10_init_139 ?_
  refine y_aload C 1 dX10_init_140 rfl rfl ?_
  refine y_get (v := .ref bu) C 0 dX10_init_141 fF_X10_41 rfl (by rw [hfs]; rfl) ?_
  refine y_ctor (st := [.ref q136, .ref (ad0 0)]) C (yon (fun i => if i = 0 then q136 else bu) (ySA Γ)) dX10_init_144 (xin_5 _ (List.mem_of_getElem? (i := 23) rfl)) xy_X8_init (xin_6 _ (List.mem_of_getElem? (i := 0) rfl)) rfl (k_X8_init _) (by omega) (by omega) rfl (Nat.le_of_ble_eq_true rfl) (by omega) (by omega) rfl (yon_hi _ _) rfl (fun aT hT => ?_)
  obtain rfl : q136 = aT 0 := (hT 0 (Or.inl rfl)).symm
  have hT1 : aT 1 = bu := hT 1 (Or.inr (Nat.le_refl _))
  refine y_putF C hI dX10_init_147 fF_X10_54 ⟨_, _, rfl⟩ rfl rfl (by rw [hfs]; exact Nat.le_of_ble_eq_true rfl) ?_
  refine y_aload C 1 dX10_init_150 rfl rfl ?_
  refine y_new C dX10_init_151 yc_X10_58 (by omega) (by omega) (fun q151 => ?_)
  refine y_dup C dX10_init_154 ?_
  refine y_aload C 1 dX10_init_155 rfl rfl ?_
  refine y_get (v := .ref (aT 0)) C 0 dX10_init_156 fF_X10_54 rfl (by rw [hfs]; rfl) ?_
  refine y_ctor (st := [.ref q151, .ref (ad0 0)]) C (yon (fun i => if i = 0 then q151 else aT 0) (ySA Γ)) dX10_init_159 (xin_6 _ (List.mem_of_getElem? (i := 4) rfl)) xy_X7_init (xin_6 _ (List.mem_of_getElem? (i := 5) rfl)) rfl (k_X7_init _) (by omega) (by omega) rfl (Nat.le_of_ble_eq_true rfl) (by omega) (by omega) rfl (yon_hi _ _) rfl (fun aR hR9 => ?_)
  obtain rfl : q151 = aR 0 := (hR9 0 (Or.inl rfl)).symm
  have hR1 : aR 1 = aT 0 := hR9 1 (Or.inr (Nat.le_refl _))
  refine y_putF C hI dX10_init_162 fF_X10_63 ⟨_, _, rfl⟩ rfl rfl (by rw [hfs]; exact Nat.le_of_ble_eq_true rfl) ?_
  refine y_aload C 1 dX10_init_165 rfl rfl ?_
  refine y_new C dX10_init_166 yc_X10_67 (by omega) (by omega) (fun q166 => ?_)
  refine y_dup C dX10_init_169 ?_
  refine y_aload C 1 dX10_init_170 rfl rfl ?_
  refine y_get (v := .ref (aT 0)) C 0 dX10_init_171 fF_X10_54 rfl (by rw [hfs]; rfl) ?_
  refine y_aload C 1 dX10_init_174 rfl rfl ?_
  refine y_get (v := .ref (a42 0)) C 0 dX10_init_175 fF_X10_27 rfl (by rw [hfs]; rfl) ?_
  refine y_get (v := .ref (a42 28)) C 11 dX10_init_178 fF_X10_69 (by rw [hT0]; rfl) rfl ?_
  refine y_ctor (st := [.ref q166, .ref (ad0 0)]) C (yon (fun i => if i = 0 then q166 else if i = 1 then aT 0 else a42 28) (ySA Γ)) dX10_init_181 (xin_6 _ (List.mem_of_getElem? (i := 9) rfl)) xy_X5_init (xin_6 _ (List.mem_of_getElem? (i := 10) rfl)) rfl (k_X5_init _) (by omega) (by omega) rfl (Nat.le_of_ble_eq_true rfl) (by omega) (by omega) rfl (yon_hi _ _) rfl (fun aQ hQ => ?_)
  obtain rfl : q166 = aQ 0 := (hQ 0 (Or.inl rfl)).symm
  have hQ1 : aQ 1 = aT 0 := hQ 1 (Or.inr (Nat.le_refl _))
  have hQ2 : aQ 2 = a42 28 := hQ 2 (Or.inr (by omega))
  refine y_putF C hI dX10_init_184 fF_X10_76 ⟨_, _, rfl⟩ rfl rfl (by rw [hfs]; exact Nat.le_of_ble_eq_true rfl) ?_
  refine y_aload C 1 dX10_init_187 rfl rfl ?_
  refine y_new C dX10_init_188 yc_X10_80 (by omega) (by omega) (fun q188 => ?_)
  refine y_dup C dX10_init_191 ?_
  refine y_ctor (st := [.ref q188, .ref (ad0 0)]) C (yon (fun _ => q188) (ySA Γ)) dX10_init_192 (xin_6 _ (List.mem_of_getElem? (i := 15) rfl)) xy_J4_init (xin_6 _ (List.mem_of_getElem? (i := 16) rfl)) rfl (k_J4_init _) (by omega) (by omega) rfl (Nat.le_of_ble_eq_true rfl) (by omega) (by omega) rfl (yon_hi _ _) rfl (fun aW hW => ?_)
  obtain rfl : q188 = aW 0 := (hW 0 (Or.inl rfl)).symm
  refine y_putF C hI dX10_init_195 fF_X10_83 ⟨_, _, rfl⟩ rfl rfl (by rw [hfs]; exact Nat.le_of_ble_eq_true rfl) ?_
  refine y_aload C 1 dX10_init_198 rfl rfl ?_
  refine y_get (v := .ref (a42 0)) C 0 dX10_init_199 fF_X10_27 rfl (by rw [hfs]; rfl) ?_
  obtain ⟨Z, hZ⟩ : ∃ Z : va_W, Z = (bu, .inl (yDA Γ 0, 600, .inl (fun _ => 0))) :: (xwld aT (yDA Γ) (fun _ _ => 0) 0 ly_X8 ++ (xwld aR (yDA Γ) (fun _ _ => 0) 0 ly_X7 ++ xwld aQ (yDA Γ) (fun _ _ => 0) 0 ly_X5)) := ⟨_, rfl⟩
  obtain ⟨X0, hX0⟩ : ∃ X0 : va_W, X0 = [(ad0 0, .inr (11, [.ref (a9 0), .ref (a27 0), .ref (a42 0), .ref (a57 0), .ref (a72 0), .int 0, .ref pa, .int 0, .int 0, .ref bu, .int 0, .int (Int32.ofInt (-1)), .ref (aT 0), .ref (aR 0), .ref (aQ 0), .ref (aW 0)]))] := ⟨_, rfl⟩
  refine y_eqw (ws' := (X0 ++ ((xwld a9 (yDA Γ) mS9 0 lay_S ++ (xwld a27 (yDA Γ) (fun _ _ => 0) 0 lay_S ++ (xwld a42 (yDA Γ) (fun _ _ => 0) 0 ly_X3 ++ (xwld a57 (yDA Γ) (fun _ _ => 0) 0 ly_X3 ++ xwld a72 (yDA Γ) (fun _ _ => 0) 0 ly_X3)))) ++ ([(pa, yarr (yDA Γ) AD 10)] ++ yls (yDA Γ) AD 10))) ++ (Z ++ yWt (yDA Γ) aW)) ?_ ?_
  · rw [hX0, hZ, hT0, hfs]
    simp only [List.append_assoc, List.cons_append, List.nil_append, List.set_cons_zero, List.set_cons_succ, yWt]
    rfl
  refine y_perm (y_cnt X0 _ _ _ _ _ _ _ _) ?_
  obtain ⟨ad', had'⟩ : ∃ ad' : Nat → Nat, ad' = yon (fun i => if i < 33 then a42 i else a9 (i - 33)) (ySA Γ) := ⟨_, rfl⟩
  have g1 : ∀ t, t < 33 → ad' t = a42 t := fun t ht => by rw [had']; unfold yon; rw [if_pos (by omega)]; exact if_pos ht
  have g2 : ∀ t, t < 5 → ad' (33 + t) = a9 t := fun t ht => by rw [had']; unfold yon; rw [if_pos (by omega)]; refine (if_neg (by omega)).trans ?_; congr 1; omega
  rw [← yL0_sp (yDA Γ) ad' a42 a9 mL0 (fun _ _ => 0) mS9 (fun t ht => ⟨g1 t ht, by unfold mL0; rw [if_pos ht]⟩) h423 (fun t ht => ⟨g2 t ht, by unfold mL0; rw [if_neg (by omega)]; congr 1; omega⟩)]
  refine y_callX (st := []) (av := []) (b := 0) (layY := lay_L0) (m := mL0) C ad' dX10_init_202 (xin_7 _ (List.mem_of_getElem? (i := 11) rfl)) xy_X3_begin xi_X3_begin xs_X3_begin (by omega) (by decide) rfl ⟨_, _, rfl⟩ rfl (Nat.le_of_ble_eq_true rfl) (c_L_begin _ _ _ mL9_eq) (by omega) (by omega) (fun i => by rw [had']; exact yon_hi _ _ i) (by rw [g1 0 (by omega)]; rfl) ?_
  rw [yL0_sp (yDA Γ) ad' a42 a9 mL9 mL9 mS9 (fun t ht => ⟨g1 t ht, rfl⟩) h423 (fun t ht => ⟨g2 t ht, by rw [mL9_hi _ (by omega)]; congr 1; omega⟩)]
  refine y_perm (y_cnt2 X0 _ _ _ _ _ _ _ _ _) ?_
  refine y_ret hR (yadX (ad0 0) a9 a27 a42 a57 a72 AD pa bu aT aR aQ aW ad0) dX10_init_205 (by omega) (by omega) (fun i hi => ?_) ?_
  · unfold yadX
    rcases hi with hi | hi
    · rw [if_pos hi, hi]
    · rw [if_neg (by omega), if_neg (by omega), if_neg (by omega), if_neg (by omega), if_neg (by omega), if_neg (by omega), if_neg (by omega), if_neg (by omega), if_neg (by omega), if_neg (by omega), if_neg (by omega), if_neg (by omega), if_neg (by omega), if_neg (by omega)]
  · show _ = xwld (yadX (ad0 0) a9 a27 a42 a57 a72 AD pa bu aT aR aQ aW ad0) (yDA Γ) mX9 0 lay_X ++ yWt2 (yDA Γ) (yadX (ad0 0) a9 a27 a42 a57 a72 AD pa bu aT aR aQ aW ad0)
    rw [X10_world (yDA Γ) (ad0 0) a9 a27 a42 a57 a72 AD pa bu aT aR aQ aW ad0 h423 h573 h723 hAD hT1 hR1 hQ1 hQ2, hX0, hZ]
    rfl

/-! ===== the class's constructor ===== -/
theorem dX10_init_0 : decode cX10_init 0 = .ok (.aload_n 0, 1) := by decide +kernel
theorem dX10_init_1 : decode cX10_init 1 = .ok (.invokespecial 1, 3) := by decide +kernel
theorem dX10_init_4 : decode cX10_init 4 = .ok (.aload_n 0, 1) := by decide +kernel
theorem dX10_init_5 : decode cX10_init 5 = .ok (.new 7, 3) := by decide +kernel
theorem dX10_init_8 : decode cX10_init 8 = .ok (.dup, 1) := by decide +kernel
theorem dX10_init_9 : decode cX10_init 9 = .ok (.invokespecial 9, 3) := by decide +kernel
theorem dX10_init_12 : decode cX10_init 12 = .ok (.putfield 10, 3) := by decide +kernel
theorem dX10_init_15 : decode cX10_init 15 = .ok (.aload_n 0, 1) := by decide +kernel
theorem dX10_init_16 : decode cX10_init 16 = .ok (.getfield 10, 3) := by decide +kernel
theorem dX10_init_19 : decode cX10_init 19 = .ok (.invokevirtual 16, 3) := by decide +kernel
theorem dX10_init_22 : decode cX10_init 22 = .ok (.aload_n 0, 1) := by decide +kernel
theorem dX10_init_23 : decode cX10_init 23 = .ok (.new 7, 3) := by decide +kernel
theorem dX10_init_26 : decode cX10_init 26 = .ok (.dup, 1) := by decide +kernel
theorem dX10_init_27 : decode cX10_init 27 = .ok (.invokespecial 9, 3) := by decide +kernel
theorem dX10_init_30 : decode cX10_init 30 = .ok (.putfield 19, 3) := by decide +kernel
theorem dX10_init_33 : decode cX10_init 33 = .ok (.aload_n 0, 1) := by decide +kernel
theorem dX10_init_34 : decode cX10_init 34 = .ok (.new 22, 3) := by decide +kernel
theorem dX10_init_37 : decode cX10_init 37 = .ok (.dup, 1) := by decide +kernel
theorem dX10_init_38 : decode cX10_init 38 = .ok (.aload_n 0, 1) := by decide +kernel
theorem dX10_init_39 : decode cX10_init 39 = .ok (.getfield 10, 3) := by decide +kernel
theorem dX10_init_42 : decode cX10_init 42 = .ok (.invokespecial 24, 3) := by decide +kernel
theorem dX10_init_45 : decode cX10_init 45 = .ok (.putfield 27, 3) := by decide +kernel
theorem dX10_init_48 : decode cX10_init 48 = .ok (.aload_n 0, 1) := by decide +kernel
theorem dX10_init_49 : decode cX10_init 49 = .ok (.new 22, 3) := by decide +kernel
theorem dX10_init_52 : decode cX10_init 52 = .ok (.dup, 1) := by decide +kernel
theorem dX10_init_53 : decode cX10_init 53 = .ok (.aload_n 0, 1) := by decide +kernel
theorem dX10_init_54 : decode cX10_init 54 = .ok (.getfield 10, 3) := by decide +kernel
theorem dX10_init_57 : decode cX10_init 57 = .ok (.invokespecial 24, 3) := by decide +kernel
theorem dX10_init_60 : decode cX10_init 60 = .ok (.putfield 31, 3) := by decide +kernel
theorem dX10_init_63 : decode cX10_init 63 = .ok (.aload_n 0, 1) := by decide +kernel
theorem dX10_init_64 : decode cX10_init 64 = .ok (.new 22, 3) := by decide +kernel
theorem dX10_init_67 : decode cX10_init 67 = .ok (.dup, 1) := by decide +kernel
theorem dX10_init_68 : decode cX10_init 68 = .ok (.aload_n 0, 1) := by decide +kernel
theorem dX10_init_69 : decode cX10_init 69 = .ok (.getfield 10, 3) := by decide +kernel
theorem dX10_init_72 : decode cX10_init 72 = .ok (.invokespecial 24, 3) := by decide +kernel
theorem dX10_init_75 : decode cX10_init 75 = .ok (.putfield 34, 3) := by decide +kernel
theorem dX10_init_78 : decode cX10_init 78 = .ok (.aload_n 0, 1) := by decide +kernel
theorem dX10_init_79 : decode cX10_init 79 = .ok (.bipush 10, 2) := by decide +kernel
theorem dX10_init_81 : decode cX10_init 81 = .ok (.anewarray 22, 3) := by decide +kernel
theorem dX10_init_84 : decode cX10_init 84 = .ok (.putfield 37, 3) := by decide +kernel
theorem dX10_init_87 : decode cX10_init 87 = .ok (.iconst 0, 1) := by decide +kernel
theorem dX10_init_88 : decode cX10_init 88 = .ok (.istore_n 1, 1) := by decide +kernel
theorem dX10_init_89 : decode cX10_init 89 = .ok (.iload_n 1, 1) := by decide +kernel
theorem dX10_init_90 : decode cX10_init 90 = .ok (.aload_n 0, 1) := by decide +kernel
theorem dX10_init_91 : decode cX10_init 91 = .ok (.getfield 37, 3) := by decide +kernel
theorem dX10_init_94 : decode cX10_init 94 = .ok (.arraylength, 1) := by decide +kernel
theorem dX10_init_95 : decode cX10_init 95 = .ok (.if_icmp .ge 26, 3) := by decide +kernel
theorem dX10_init_98 : decode cX10_init 98 = .ok (.aload_n 0, 1) := by decide +kernel
theorem dX10_init_99 : decode cX10_init 99 = .ok (.getfield 37, 3) := by decide +kernel
theorem dX10_init_102 : decode cX10_init 102 = .ok (.iload_n 1, 1) := by decide +kernel
theorem dX10_init_103 : decode cX10_init 103 = .ok (.new 22, 3) := by decide +kernel
theorem dX10_init_106 : decode cX10_init 106 = .ok (.dup, 1) := by decide +kernel
theorem dX10_init_107 : decode cX10_init 107 = .ok (.aload_n 0, 1) := by decide +kernel
theorem dX10_init_108 : decode cX10_init 108 = .ok (.getfield 10, 3) := by decide +kernel
theorem dX10_init_111 : decode cX10_init 111 = .ok (.invokespecial 24, 3) := by decide +kernel
theorem dX10_init_114 : decode cX10_init 114 = .ok (.aastore, 1) := by decide +kernel
theorem dX10_init_115 : decode cX10_init 115 = .ok (.iinc 1 1, 3) := by decide +kernel
theorem dX10_init_118 : decode cX10_init 118 = .ok (.goto (-29), 3) := by decide +kernel
theorem dX10_init_121 : decode cX10_init 121 = .ok (.aload_n 0, 1) := by decide +kernel
theorem dX10_init_122 : decode cX10_init 122 = .ok (.sipush 600, 3) := by decide +kernel
theorem dX10_init_125 : decode cX10_init 125 = .ok (.newarray .int, 2) := by decide +kernel
theorem dX10_init_127 : decode cX10_init 127 = .ok (.putfield 41, 3) := by decide +kernel
theorem dX10_init_130 : decode cX10_init 130 = .ok (.aload_n 0, 1) := by decide +kernel
theorem dX10_init_131 : decode cX10_init 131 = .ok (.iconst (-1), 1) := by decide +kernel
theorem dX10_init_132 : decode cX10_init 132 = .ok (.putfield 45, 3) := by decide +kernel
theorem dX10_init_135 : decode cX10_init 135 = .ok (.aload_n 0, 1) := by decide +kernel
theorem dX10_init_136 : decode cX10_init 136 = .ok (.new 49, 3) := by decide +kernel
theorem dX10_init_139 : decode cX10_init 139 = .ok (.dup, 1) := by decide +kernel
theorem dX10_init_140 : decode cX10_init 140 = .ok (.aload_n 0, 1) := by decide +kernel
theorem dX10_init_141 : decode cX10_init 141 = .ok (.getfield 41, 3) := by decide +kernel
theorem dX10_init_144 : decode cX10_init 144 = .ok (.invokespecial 51, 3) := by decide +kernel
theorem dX10_init_147 : decode cX10_init 147 = .ok (.putfield 54, 3) := by decide +kernel
theorem dX10_init_150 : decode cX10_init 150 = .ok (.aload_n 0, 1) := by decide +kernel
theorem dX10_init_151 : decode cX10_init 151 = .ok (.new 58, 3) := by decide +kernel
theorem dX10_init_154 : decode cX10_init 154 = .ok (.dup, 1) := by decide +kernel
theorem dX10_init_155 : decode cX10_init 155 = .ok (.aload_n 0, 1) := by decide +kernel
theorem dX10_init_156 : decode cX10_init 156 = .ok (.getfield 54, 3) := by decide +kernel
theorem dX10_init_159 : decode cX10_init 159 = .ok (.invokespecial 60, 3) := by decide +kernel
theorem dX10_init_162 : decode cX10_init 162 = .ok (.putfield 63, 3) := by decide +kernel
theorem dX10_init_165 : decode cX10_init 165 = .ok (.aload_n 0, 1) := by decide +kernel
theorem dX10_init_166 : decode cX10_init 166 = .ok (.new 67, 3) := by decide +kernel
theorem dX10_init_169 : decode cX10_init 169 = .ok (.dup, 1) := by decide +kernel
theorem dX10_init_170 : decode cX10_init 170 = .ok (.aload_n 0, 1) := by decide +kernel
theorem dX10_init_171 : decode cX10_init 171 = .ok (.getfield 54, 3) := by decide +kernel
theorem dX10_init_174 : decode cX10_init 174 = .ok (.aload_n 0, 1) := by decide +kernel
theorem dX10_init_175 : decode cX10_init 175 = .ok (.getfield 27, 3) := by decide +kernel
theorem dX10_init_178 : decode cX10_init 178 = .ok (.getfield 69, 3) := by decide +kernel
theorem dX10_init_181 : decode cX10_init 181 = .ok (.invokespecial 73, 3) := by decide +kernel
theorem dX10_init_184 : decode cX10_init 184 = .ok (.putfield 76, 3) := by decide +kernel
theorem dX10_init_187 : decode cX10_init 187 = .ok (.aload_n 0, 1) := by decide +kernel
theorem dX10_init_188 : decode cX10_init 188 = .ok (.new 80, 3) := by decide +kernel
theorem dX10_init_191 : decode cX10_init 191 = .ok (.dup, 1) := by decide +kernel
theorem dX10_init_192 : decode cX10_init 192 = .ok (.invokespecial 82, 3) := by decide +kernel
theorem dX10_init_195 : decode cX10_init 195 = .ok (.putfield 83, 3) := by decide +kernel
theorem dX10_init_198 : decode cX10_init 198 = .ok (.aload_n 0, 1) := by decide +kernel
theorem dX10_init_199 : decode cX10_init 199 = .ok (.getfield 27, 3) := by decide +kernel
theorem dX10_init_202 : decode cX10_init 202 = .ok (.invokevirtual 87, 3) := by decide +kernel
theorem dX10_init_205 : decode cX10_init 205 = .ok (.return_, 1) := by decide +kernel
theorem fF_X10_76 : xF RX10 76 11 14 (.object "ModemLink$QueryReader") true := ⟨RX10, TX10, 16, tyX10, rfl, by decide, (xin_2 _ (List.mem_of_getElem? (i := 13) rfl)), rfl, inlX10, tyX10_ok, nmX10, rfl, rfl⟩
theorem fF_X10_83 : xF RX10 83 11 15 (.object "java/lang/StringBuilder") true := ⟨RX10, TX10, 16, tyX10, rfl, by decide, (xin_2 _ (List.mem_of_getElem? (i := 17) rfl)), rfl, inlX10, tyX10_ok, nmX10, rfl, rfl⟩
theorem yc_X10_7 : yCl RX10 7 7 14 [.null, .null, .null, .null, .int 0, .int 0, .int 0, .int 0, .int 0, .int 0, .int 0, .int 0, .int 0, .int 0] := ⟨RX6, TX6, tyX6, rfl, inlX6, tyX6_ok, (xin_1 _ (List.mem_of_getElem? (i := 11) rfl)), (xin_1 _ (List.mem_of_getElem? (i := 12) rfl)), (xin_1 _ (List.mem_of_getElem? (i := 13) rfl)), fun j hj => by rcases (show j = 0 ∨ j = 1 ∨ j = 2 ∨ j = 3 ∨ j = 4 ∨ j = 5 ∨ j = 6 ∨ j = 7 ∨ j = 8 ∨ j = 9 ∨ j = 10 ∨ j = 11 ∨ j = 12 ∨ j = 13 by omega) with rfl | rfl | rfl | rfl | rfl | rfl | rfl | rfl | rfl | rfl | rfl | rfl | rfl | rfl <;> rfl⟩
theorem yc_X10_22 : yCl RX10 22 4 17 [.null, .null, .null, .null, .null, .null, .null, .int 0, .int 0, .int 0, .int 0, .int 0, .int 0, .int 0, .int 0, .int 0, .int 0] := ⟨RX3, TX3, tyX3, rfl, inlX3, tyX3_ok, (xin_1 _ (List.mem_of_getElem? (i := 16) rfl)), (xin_1 _ (List.mem_of_getElem? (i := 17) rfl)), (xin_1 _ (List.mem_of_getElem? (i := 18) rfl)), fun j hj => by rcases (show j = 0 ∨ j = 1 ∨ j = 2 ∨ j = 3 ∨ j = 4 ∨ j = 5 ∨ j = 6 ∨ j = 7 ∨ j = 8 ∨ j = 9 ∨ j = 10 ∨ j = 11 ∨ j = 12 ∨ j = 13 ∨ j = 14 ∨ j = 15 ∨ j = 16 by omega) with rfl | rfl | rfl | rfl | rfl | rfl | rfl | rfl | rfl | rfl | rfl | rfl | rfl | rfl | rfl | rfl | rfl <;> rfl⟩
theorem yc_X10_49 : yCl RX10 49 9 7 [.null, .int 0, .int 0, .int 0, .int 0, .int 0, .int 0] := ⟨RX8, TX8, tyX8, rfl, inlX8, tyX8_ok, (xin_2 _ (List.mem_of_getElem? (i := 1) rfl)), (xin_2 _ (List.mem_of_getElem? (i := 2) rfl)), (xin_2 _ (List.mem_of_getElem? (i := 3) rfl)), fun j hj => by rcases (show j = 0 ∨ j = 1 ∨ j = 2 ∨ j = 3 ∨ j = 4 ∨ j = 5 ∨ j = 6 by omega) with rfl | rfl | rfl | rfl | rfl | rfl | rfl <;> rfl⟩
theorem yc_X10_58 : yCl RX10 58 8 1 [.null] := ⟨RX7, TX7, tyX7, rfl, inlX7, tyX7_ok, (xin_2 _ (List.mem_of_getElem? (i := 5) rfl)), (xin_2 _ (List.mem_of_getElem? (i := 6) rfl)), (xin_2 _ (List.mem_of_getElem? (i := 7) rfl)), fun j hj => by rcases (show j = 0 by omega) with rfl <;> rfl⟩
theorem yc_X10_67 : yCl RX10 67 6 2 [.null, .null] := ⟨RX5, TX5, tyX5, rfl, inlX5, tyX5_ok, (xin_2 _ (List.mem_of_getElem? (i := 9) rfl)), (xin_2 _ (List.mem_of_getElem? (i := 10) rfl)), (xin_2 _ (List.mem_of_getElem? (i := 11) rfl)), fun j hj => by rcases (show j = 0 ∨ j = 1 by omega) with rfl | rfl <;> rfl⟩
theorem yc_X10_80 : yCl RX10 80 0 4 [.null, .int 0, .int 0, .int 0] := ⟨RJ4, TJ4, tyJ4, rfl, inlJ4, tyJ4_ok, (xin_2 _ (List.mem_of_getElem? (i := 14) rfl)), (xin_2 _ (List.mem_of_getElem? (i := 15) rfl)), (xin_2 _ (List.mem_of_getElem? (i := 16) rfl)), fun j hj => by rcases (show j = 0 ∨ j = 1 ∨ j = 2 ∨ j = 3 by omega) with rfl | rfl | rfl | rfl <;> rfl⟩
theorem xy_X6_init : xY yX6_init cX6_init 1 none 0 := ⟨(xin_2 _ (List.mem_of_getElem? (i := 19) rfl)), (xin_1 _ (List.mem_of_getElem? (i := 13) rfl)), by decide +kernel, by decide +kernel, by decide +kernel⟩
theorem xy_X3_init : xY yX3_init cX3_init 2 none 1 := ⟨(xin_3 _ (List.mem_of_getElem? (i := 17) rfl)), (xin_1 _ (List.mem_of_getElem? (i := 18) rfl)), by decide +kernel, by decide +kernel, by decide +kernel⟩
theorem xy_X8_init : xY yX8_init cX8_init 2 none 1 := ⟨(xin_6 _ (List.mem_of_getElem? (i := 1) rfl)), (xin_2 _ (List.mem_of_getElem? (i := 3) rfl)), by decide +kernel, by decide +kernel, by decide +kernel⟩
theorem xy_X7_init : xY yX7_init cX7_init 2 none 1 := ⟨(xin_6 _ (List.mem_of_getElem? (i := 6) rfl)), (xin_2 _ (List.mem_of_getElem? (i := 7) rfl)), by decide +kernel, by decide +kernel, by decide +kernel⟩
theorem xy_X5_init : xY yX5_init cX5_init 3 none 2 := ⟨(xin_6 _ (List.mem_of_getElem? (i := 11) rfl)), (xin_2 _ (List.mem_of_getElem? (i := 11) rfl)), by decide +kernel, by decide +kernel, by decide +kernel⟩
def mS9 : xM := (f_S_def (fun _ _ => 0)).getD (fun _ _ => 0)
theorem mS9_eq : f_S_def (fun _ _ => 0) = some mS9 := by
  obtain ⟨q, h, -⟩ := S_def_sp (fun _ _ => 0)
  unfold mS9
  rw [h]; rfl
def mL0 : xM := fun k => if k < 33 then fun _ => 0 else mS9 (k - 33)
def mL9 : xM := (f_L_begin mL0).getD mL0
theorem mL9_eq : f_L_begin mL0 = some mL9 := by
  obtain ⟨q, h, -⟩ := L_begin_sp mL0
  unfold mL9
  rw [h]; rfl
theorem mL9_hi : ∀ k, 33 ≤ k → mL9 k = mS9 (k - 33) := fun k hk => by
  obtain ⟨q, h, -, -, -, -, -, -, -, h9⟩ := L_begin_sp mL0
  have e : mL9 = q := by unfold mL9; rw [h]; rfl
  rw [e, h9 k hk]
  unfold mL0
  rw [if_neg (by omega)]
/-- the memory of a new object of the class -/
def mX9 : xM := fun k => if k = 0 then (fun j => if j = 11 then -1 else 0) else if k < 6 then mS9 (k - 1) else if k < 11 then (fun _ => 0) else if k < 44 then mL9 (k - 11) else fun _ => 0
/-- the lines of the history, as they are made -/
def yls (dA : Nat → ClassId) (AD : Nat → Nat → Nat) : Nat → va_W
  | 0 => []
  | k + 1 => yls dA AD k ++ xwld (AD k) dA (fun _ _ => 0) 0 ly_X3
theorem yls_cg (dA : Nat → ClassId) {AD AD' : Nat → Nat → Nat} : ∀ k, (∀ i, i < k → AD i = AD' i) → yls dA AD k = yls dA AD' k
  | 0, _ => rfl
  | k + 1, h => by
    show yls dA AD k ++ xwld (AD k) dA (fun _ _ => 0) 0 ly_X3 = yls dA AD' k ++ xwld (AD' k) dA (fun _ _ => 0) 0 ly_X3
    rw [yls_cg dA k (fun i hi => h i (by omega)), h k (by omega)]
abbrev yarr (dA : Nat → ClassId) (AD : Nat → Nat → Nat) (k : Nat) : va_E := .inl (dA 2, 10, .inr (.inr (.inr (.inr (fun j => if j < k then some (AD j 0) else none)))))
theorem y_mid {α : Type} (pre : List α) (x : α) (tl : List α) : (pre ++ x :: tl)[pre.length]? = some x := by
  rw [List.getElem?_append_right (Nat.le_refl _), Nat.sub_self]; rfl
theorem y_midset {α : Type} (pre : List α) (x y : α) (tl : List α) : (pre ++ x :: tl).set pre.length y = pre ++ y :: tl := by
  induction pre with
  | nil => rfl
  | cons a pre ih => show a :: (pre ++ x :: tl).set pre.length y = _; rw [ih]; rfl
set_option maxRecDepth 1000000 in
set_option maxHeartbeats 4000000 in
theorem X10_loop {Γ : yG} {K N : Nat} (C : yC Γ RX10 cX10_init 2 6 K N) (h0 pa s1 : Nat) (fs : List Value) (T0 : va_W) (hT : T0.length = 109) (hf0 : fs[0]? = some (.ref s1)) (hf6 : fs[6]? = some (.ref pa)) (k0 n0 : Nat) (hk : k0 + 330 ≤ K) (hn : n0 + 19570 ≤ N)
    (cont : ∀ AD : Nat → Nat → Nat, (∀ i, i < 10 → AD i 33 = s1) → yW Γ 2 121 [(1, .int (Int32.ofInt (10 : Nat))), (0, .ref h0)] [] ((h0, .inr (11, fs)) :: (T0 ++ (pa, yarr (yDA Γ) AD 10) :: yls (yDA Γ) AD 10)) (k0 + 330) (n0 + 19570)) :
    ∀ (r k : Nat) (AD : Nat → Nat → Nat), k + r = 10 → (∀ i, i < k → AD i 33 = s1) → yW Γ 2 89 [(1, .int (Int32.ofInt (k : Nat))), (0, .ref h0)] [] ((h0, .inr (11, fs)) :: (T0 ++ (pa, yarr (yDA Γ) AD k) :: yls (yDA Γ) AD k)) (k0 + 33 * k) (n0 + 1957 * k) := by
  have hat : ∀ (AD : Nat → Nat → Nat) (k : Nat) (tl : va_W), (((h0, (Sum.inr (11, fs) : va_E)) :: (T0 ++ (pa, yarr (yDA Γ) AD k) :: tl)))[110]? = some (pa, yarr (yDA Γ) AD k) := fun AD k tl => by
    have := y_mid ((h0, (Sum.inr (11, fs) : va_E)) :: T0) (pa, yarr (yDA Γ) AD k) tl
    rw [List.length_cons, hT] at this
    exact this
  have hcmp : ∀ k : Nat, k ≤ 10 → ((Int32.ofNat 10 ≤ Int32.ofInt (k : Nat)) ↔ 10 ≤ k) := fun k hk => by
    rw [Int32.le_iff_toInt_le]
    have e1 : (Int32.ofInt ((k : Nat) : Int)).toInt = k := xw_id (by omega) (by omega)
    have e2 : (Int32.ofNat 10).toInt = 10 := by decide
    rw [e1, e2]; omega
  intro r
  induction r with
  | zero =>
    intro k AD hkr hAD
    obtain rfl : k = 10 := by omega
    refine y_iload C 0 dX10_init_89 rfl rfl ?_
    refine y_aload C 1 dX10_init_90 rfl rfl ?_
    refine y_get C 0 dX10_init_91 fF_X10_37 rfl hf6 ?_
    refine y_alenL (v := Int32.ofNat 10) C 110 dX10_init_94 (hat _ _ _) rfl ?_
    refine y_icmpge C 121 dX10_init_95 (by decide) (fun _ => cont AD hAD) (fun h => absurd ((hcmp 10 (by omega)).mpr (by omega)) h)
  | succ r ih =>
    intro k AD hkr hAD
    refine y_iload C 0 dX10_init_89 rfl rfl ?_
    refine y_aload C 1 dX10_init_90 rfl rfl ?_
    refine y_get C 0 dX10_init_91 fF_X10_37 rfl hf6 ?_
    refine y_alenL (v := Int32.ofNat 10) C 110 dX10_init_94 (hat _ _ _) rfl ?_
    refine y_icmpge C 121 dX10_init_95 (by decide) (fun h => absurd ((hcmp k (by omega)).mp h) (by omega)) (fun _ => ?_)
    refine y_aload C 1 dX10_init_98 rfl rfl ?_
    refine y_get C 0 dX10_init_99 fF_X10_37 rfl hf6 ?_
    refine y_iload C 0 dX10_init_102 rfl rfl ?_
    refine y_new C dX10_init_103 yc_X10_22 (by omega) (by omega) (fun q => ?_)
    refine y_dup C dX10_init_106 ?_
    refine y_aload C 1 dX10_init_107 rfl rfl ?_
    refine y_get C 0 dX10_init_108 fF_X10_10 rfl hf0 ?_
    refine y_ctor (st := [.ref q, .int (Int32.ofInt (k : Nat)), .ref pa]) C (yon (fun i => if i = 0 then q else s1) (ySA Γ)) dX10_init_111 (xin_3 _ (List.mem_of_getElem? (i := 15) rfl)) xy_X3_init (xin_3 _ (List.mem_of_getElem? (i := 16) rfl)) rfl (k_X3_init _) (by omega) (by omega) rfl (Nat.le_of_ble_eq_true rfl) (by omega) (by omega) rfl (yon_hi _ _) rfl (fun a ha => ?_)
    obtain rfl : q = a 0 := (ha 0 (Or.inl rfl)).symm
    have ha33 : a 33 = s1 := ha 33 (Or.inr (Nat.le_refl _))
    have hik : (Int32.ofInt ((k : Nat) : Int)).toNatClampNeg = k := by
      show (xw (k : Int)).toNat = k
      rw [b_xw (by omega)]; exact Int.toNat_natCast k
    have hlt : 110 < (((h0, (Sum.inr (11, fs) : va_E)) :: (T0 ++ (pa, yarr (yDA Γ) AD k) :: yls (yDA Γ) AD k))).length := by
      rw [List.length_cons, List.length_append, hT, List.length_cons]; omega
    refine y_astL (iN := k) C 110 (((h0, (Sum.inr (11, fs) : va_E)) :: (T0 ++ (pa, yarr (yDA Γ) AD k) :: yls (yDA Γ) AD k))).length dX10_init_114 (by
      rw [List.getElem?_append_left hlt]; exact hat _ _ _) (by
      rw [List.getElem?_append_right (Nat.le_refl _), Nat.sub_self]; rfl) (xib_in ⟨by rw [b_xw (by omega)]; omega, by rw [b_xw (by omega)]; omega⟩) hik ?_
    refine y_eqw (ws' := ((h0, .inr (11, fs)) :: (T0 ++ (pa, yarr (yDA Γ) (fun i => if i = k then a else AD i) (k + 1)) :: yls (yDA Γ) (fun i => if i = k then a else AD i) (k + 1)))) ?_ ?_
    · have e1 : (va_up (fun j => if j < k then some (AD j 0) else none) k (some (a 0))) = (fun j => if j < k + 1 then some ((fun i => if i = k then a else AD i) j 0) else none) := by
        funext j
        unfold va_up
        by_cases hj : j = k
        · rw [if_pos hj, if_pos (by omega)]
          show _ = some ((if j = k then a else AD j) 0)
          rw [if_pos hj]
        · rw [if_neg hj]
          dsimp only
          by_cases hj2 : j < k
          · rw [if_pos hj2, if_pos (by omega)]
            rw [if_neg hj]
          · rw [if_neg hj2, if_neg (by omega)]
      have e2 : yls (yDA Γ) (fun i => if i = k then a else AD i) (k + 1) = yls (yDA Γ) AD k ++ xwld a (yDA Γ) (fun _ _ => 0) 0 ly_X3 := by
        show yls (yDA Γ) (fun i => if i = k then a else AD i) k ++ xwld (if k = k then a else AD k) (yDA Γ) (fun _ _ => 0) 0 ly_X3 = _
        rw [if_pos rfl, yls_cg (yDA Γ) (AD' := AD) k (fun i hi => if_neg (by omega))]
      rw [e1, e2]
      have e3 := y_midset ((h0, (Sum.inr (11, fs) : va_E)) :: T0) (pa, yarr (yDA Γ) AD k) (pa, yarr (yDA Γ) (fun i => if i = k then a else AD i) (k + 1)) (yls (yDA Γ) AD k ++ xwld a (yDA Γ) (fun _ _ => 0) 0 ly_X3)
      rw [List.length_cons, hT] at e3
      rw [← List.cons_append] at e3 ⊢
      rw [List.append_assoc, List.cons_append] at *
      exact e3
    · refine y_iinc (v := Int32.ofInt ((k + 1 : Nat) : Int)) C 0 dX10_init_115 rfl (by rw [← Int32.ofInt_add]; rfl) (by omega) rfl ?_
      refine y_goto C 89 dX10_init_118 (by decide) ?_
      have e1 : k0 + 33 * k + 1 + 32 = k0 + 33 * (k + 1) := by omega
      have e2 : n0 + 1957 * k + 17 + 1940 = n0 + 1957 * (k + 1) := by omega
      rw [e1, e2]
      refine ih (k + 1) _ (by omega) (fun i hi => ?_)
      by_cases h1 : i = k
      · show (if i = k then a else AD i) 33 = s1
        rw [if_pos h1]; exact ha33
      · show (if i = k then a else AD i) 33 = s1
        rw [if_neg h1]; exact hAD i (by omega)

/-! ===== yX11_init ===== -/
theorem dX11_init_0 : decode cX11_init 0 = .ok (.aload_n 0, 1) := by decide +kernel
theorem dX11_init_1 : decode cX11_init 1 = .ok (.invokespecial 1, 3) := by decide +kernel
theorem dX11_init_4 : decode cX11_init 4 = .ok (.aload_n 0, 1) := by decide +kernel
theorem dX11_init_5 : decode cX11_init 5 = .ok (.bipush 9, 2) := by decide +kernel
theorem dX11_init_7 : decode cX11_init 7 = .ok (.putfield 7, 3) := by decide +kernel
theorem dX11_init_10 : decode cX11_init 10 = .ok (.aload_n 0, 1) := by decide +kernel
theorem dX11_init_11 : decode cX11_init 11 = .ok (.iconst 1, 1) := by decide +kernel
theorem dX11_init_12 : decode cX11_init 12 = .ok (.newarray .int, 2) := by decide +kernel
theorem dX11_init_14 : decode cX11_init 14 = .ok (.dup, 1) := by decide +kernel
theorem dX11_init_15 : decode cX11_init 15 = .ok (.iconst 0, 1) := by decide +kernel
theorem dX11_init_16 : decode cX11_init 16 = .ok (.bipush 8, 2) := by decide +kernel
theorem dX11_init_18 : decode cX11_init 18 = .ok (.iastore, 1) := by decide +kernel
theorem dX11_init_19 : decode cX11_init 19 = .ok (.putfield 13, 3) := by decide +kernel
theorem dX11_init_22 : decode cX11_init 22 = .ok (.aload_n 0, 1) := by decide +kernel
theorem dX11_init_23 : decode cX11_init 23 = .ok (.iconst 1, 1) := by decide +kernel
theorem dX11_init_24 : decode cX11_init 24 = .ok (.newarray .int, 2) := by decide +kernel
theorem dX11_init_26 : decode cX11_init 26 = .ok (.dup, 1) := by decide +kernel
theorem dX11_init_27 : decode cX11_init 27 = .ok (.iconst 0, 1) := by decide +kernel
theorem dX11_init_28 : decode cX11_init 28 = .ok (.iconst 1, 1) := by decide +kernel
theorem dX11_init_29 : decode cX11_init 29 = .ok (.iastore, 1) := by decide +kernel
theorem dX11_init_30 : decode cX11_init 30 = .ok (.putfield 17, 3) := by decide +kernel
theorem dX11_init_33 : decode cX11_init 33 = .ok (.aload_n 0, 1) := by decide +kernel
theorem dX11_init_34 : decode cX11_init 34 = .ok (.iconst 4, 1) := by decide +kernel
theorem dX11_init_35 : decode cX11_init 35 = .ok (.newarray .int, 2) := by decide +kernel
theorem dX11_init_37 : decode cX11_init 37 = .ok (.dup, 1) := by decide +kernel
theorem dX11_init_38 : decode cX11_init 38 = .ok (.iconst 0, 1) := by decide +kernel
theorem dX11_init_39 : decode cX11_init 39 = .ok (.iconst 2, 1) := by decide +kernel
theorem dX11_init_40 : decode cX11_init 40 = .ok (.iastore, 1) := by decide +kernel
theorem dX11_init_41 : decode cX11_init 41 = .ok (.dup, 1) := by decide +kernel
theorem dX11_init_42 : decode cX11_init 42 = .ok (.iconst 1, 1) := by decide +kernel
theorem dX11_init_43 : decode cX11_init 43 = .ok (.iconst 2, 1) := by decide +kernel
theorem dX11_init_44 : decode cX11_init 44 = .ok (.iastore, 1) := by decide +kernel
theorem dX11_init_45 : decode cX11_init 45 = .ok (.dup, 1) := by decide +kernel
theorem dX11_init_46 : decode cX11_init 46 = .ok (.iconst 2, 1) := by decide +kernel
theorem dX11_init_47 : decode cX11_init 47 = .ok (.iconst 2, 1) := by decide +kernel
theorem dX11_init_48 : decode cX11_init 48 = .ok (.iastore, 1) := by decide +kernel
theorem dX11_init_49 : decode cX11_init 49 = .ok (.dup, 1) := by decide +kernel
theorem dX11_init_50 : decode cX11_init 50 = .ok (.iconst 3, 1) := by decide +kernel
theorem dX11_init_51 : decode cX11_init 51 = .ok (.iconst 2, 1) := by decide +kernel
theorem dX11_init_52 : decode cX11_init 52 = .ok (.iastore, 1) := by decide +kernel
theorem dX11_init_53 : decode cX11_init 53 = .ok (.putfield 20, 3) := by decide +kernel
theorem dX11_init_56 : decode cX11_init 56 = .ok (.aload_n 0, 1) := by decide +kernel
theorem dX11_init_57 : decode cX11_init 57 = .ok (.iconst 1, 1) := by decide +kernel
theorem dX11_init_58 : decode cX11_init 58 = .ok (.newarray .int, 2) := by decide +kernel
theorem dX11_init_60 : decode cX11_init 60 = .ok (.dup, 1) := by decide +kernel
theorem dX11_init_61 : decode cX11_init 61 = .ok (.iconst 0, 1) := by decide +kernel
theorem dX11_init_62 : decode cX11_init 62 = .ok (.iconst 0, 1) := by decide +kernel
theorem dX11_init_63 : decode cX11_init 63 = .ok (.iastore, 1) := by decide +kernel
theorem dX11_init_64 : decode cX11_init 64 = .ok (.putfield 23, 3) := by decide +kernel
theorem dX11_init_67 : decode cX11_init 67 = .ok (.aload_n 0, 1) := by decide +kernel
theorem dX11_init_68 : decode cX11_init 68 = .ok (.bipush 7, 2) := by decide +kernel
theorem dX11_init_70 : decode cX11_init 70 = .ok (.newarray .int, 2) := by decide +kernel
theorem dX11_init_72 : decode cX11_init 72 = .ok (.dup, 1) := by decide +kernel
theorem dX11_init_73 : decode cX11_init 73 = .ok (.iconst 0, 1) := by decide +kernel
theorem dX11_init_74 : decode cX11_init 74 = .ok (.iconst 2, 1) := by decide +kernel
theorem dX11_init_75 : decode cX11_init 75 = .ok (.iastore, 1) := by decide +kernel
theorem dX11_init_76 : decode cX11_init 76 = .ok (.dup, 1) := by decide +kernel
theorem dX11_init_77 : decode cX11_init 77 = .ok (.iconst 1, 1) := by decide +kernel
theorem dX11_init_78 : decode cX11_init 78 = .ok (.iconst 5, 1) := by decide +kernel
theorem dX11_init_79 : decode cX11_init 79 = .ok (.iastore, 1) := by decide +kernel
theorem dX11_init_80 : decode cX11_init 80 = .ok (.dup, 1) := by decide +kernel
theorem dX11_init_81 : decode cX11_init 81 = .ok (.iconst 2, 1) := by decide +kernel
theorem dX11_init_82 : decode cX11_init 82 = .ok (.iconst 4, 1) := by decide +kernel
theorem dX11_init_83 : decode cX11_init 83 = .ok (.iastore, 1) := by decide +kernel
theorem dX11_init_84 : decode cX11_init 84 = .ok (.dup, 1) := by decide +kernel
theorem dX11_init_85 : decode cX11_init 85 = .ok (.iconst 3, 1) := by decide +kernel
theorem dX11_init_86 : decode cX11_init 86 = .ok (.iconst 1, 1) := by decide +kernel
theorem dX11_init_87 : decode cX11_init 87 = .ok (.iastore, 1) := by decide +kernel
theorem dX11_init_88 : decode cX11_init 88 = .ok (.dup, 1) := by decide +kernel
theorem dX11_init_89 : decode cX11_init 89 = .ok (.iconst 4, 1) := by decide +kernel
theorem dX11_init_90 : decode cX11_init 90 = .ok (.iconst 3, 1) := by decide +kernel
theorem dX11_init_91 : decode cX11_init 91 = .ok (.iastore, 1) := by decide +kernel
theorem dX11_init_92 : decode cX11_init 92 = .ok (.dup, 1) := by decide +kernel
theorem dX11_init_93 : decode cX11_init 93 = .ok (.iconst 5, 1) := by decide +kernel
theorem dX11_init_94 : decode cX11_init 94 = .ok (.iconst 2, 1) := by decide +kernel
theorem dX11_init_95 : decode cX11_init 95 = .ok (.iastore, 1) := by decide +kernel
theorem dX11_init_96 : decode cX11_init 96 = .ok (.dup, 1) := by decide +kernel
theorem dX11_init_97 : decode cX11_init 97 = .ok (.bipush 6, 2) := by decide +kernel
theorem dX11_init_99 : decode cX11_init 99 = .ok (.bipush 8, 2) := by decide +kernel
theorem dX11_init_101 : decode cX11_init 101 = .ok (.iastore, 1) := by decide +kernel
theorem dX11_init_102 : decode cX11_init 102 = .ok (.putfield 26, 3) := by decide +kernel
theorem dX11_init_105 : decode cX11_init 105 = .ok (.aload_n 0, 1) := by decide +kernel
theorem dX11_init_106 : decode cX11_init 106 = .ok (.bipush 11, 2) := by decide +kernel
theorem dX11_init_108 : decode cX11_init 108 = .ok (.newarray .int, 2) := by decide +kernel
theorem dX11_init_110 : decode cX11_init 110 = .ok (.putfield 29, 3) := by decide +kernel
theorem dX11_init_113 : decode cX11_init 113 = .ok (.aload_n 0, 1) := by decide +kernel
theorem dX11_init_114 : decode cX11_init 114 = .ok (.iconst 2, 1) := by decide +kernel
theorem dX11_init_115 : decode cX11_init 115 = .ok (.iconst 0, 1) := by decide +kernel
theorem dX11_init_116 : decode cX11_init 116 = .ok (.multianewarray 32 2, 4) := by decide +kernel
theorem dX11_init_120 : decode cX11_init 120 = .ok (.putfield 34, 3) := by decide +kernel
theorem dX11_init_123 : decode cX11_init 123 = .ok (.aload_n 0, 1) := by decide +kernel
theorem dX11_init_124 : decode cX11_init 124 = .ok (.iconst 2, 1) := by decide +kernel
theorem dX11_init_125 : decode cX11_init 125 = .ok (.iconst 0, 1) := by decide +kernel
theorem dX11_init_126 : decode cX11_init 126 = .ok (.multianewarray 32 2, 4) := by decide +kernel
theorem dX11_init_130 : decode cX11_init 130 = .ok (.putfield 37, 3) := by decide +kernel
theorem dX11_init_133 : decode cX11_init 133 = .ok (.aload_n 0, 1) := by decide +kernel
theorem dX11_init_134 : decode cX11_init 134 = .ok (.iconst 2, 1) := by decide +kernel
theorem dX11_init_135 : decode cX11_init 135 = .ok (.iconst 0, 1) := by decide +kernel
theorem dX11_init_136 : decode cX11_init 136 = .ok (.multianewarray 32 2, 4) := by decide +kernel
theorem dX11_init_140 : decode cX11_init 140 = .ok (.putfield 40, 3) := by decide +kernel
theorem dX11_init_143 : decode cX11_init 143 = .ok (.aload_n 0, 1) := by decide +kernel
theorem dX11_init_144 : decode cX11_init 144 = .ok (.iconst 2, 1) := by decide +kernel
theorem dX11_init_145 : decode cX11_init 145 = .ok (.iconst 0, 1) := by decide +kernel
theorem dX11_init_146 : decode cX11_init 146 = .ok (.multianewarray 32 2, 4) := by decide +kernel
theorem dX11_init_150 : decode cX11_init 150 = .ok (.putfield 43, 3) := by decide +kernel
theorem dX11_init_153 : decode cX11_init 153 = .ok (.aload_n 0, 1) := by decide +kernel
theorem dX11_init_154 : decode cX11_init 154 = .ok (.iconst 2, 1) := by decide +kernel
theorem dX11_init_155 : decode cX11_init 155 = .ok (.newarray .int, 2) := by decide +kernel
theorem dX11_init_157 : decode cX11_init 157 = .ok (.putfield 46, 3) := by decide +kernel
theorem dX11_init_160 : decode cX11_init 160 = .ok (.aload_n 0, 1) := by decide +kernel
theorem dX11_init_161 : decode cX11_init 161 = .ok (.iconst 2, 1) := by decide +kernel
theorem dX11_init_162 : decode cX11_init 162 = .ok (.newarray .int, 2) := by decide +kernel
theorem dX11_init_164 : decode cX11_init 164 = .ok (.putfield 49, 3) := by decide +kernel
theorem dX11_init_167 : decode cX11_init 167 = .ok (.aload_n 0, 1) := by decide +kernel
theorem dX11_init_168 : decode cX11_init 168 = .ok (.iconst 2, 1) := by decide +kernel
theorem dX11_init_169 : decode cX11_init 169 = .ok (.newarray .int, 2) := by decide +kernel
theorem dX11_init_171 : decode cX11_init 171 = .ok (.putfield 52, 3) := by decide +kernel
theorem dX11_init_174 : decode cX11_init 174 = .ok (.aload_n 0, 1) := by decide +kernel
theorem dX11_init_175 : decode cX11_init 175 = .ok (.iconst 2, 1) := by decide +kernel
theorem dX11_init_176 : decode cX11_init 176 = .ok (.newarray .int, 2) := by decide +kernel
theorem dX11_init_178 : decode cX11_init 178 = .ok (.putfield 55, 3) := by decide +kernel
theorem dX11_init_181 : decode cX11_init 181 = .ok (.aload_n 0, 1) := by decide +kernel
theorem dX11_init_182 : decode cX11_init 182 = .ok (.iconst 2, 1) := by decide +kernel
theorem dX11_init_183 : decode cX11_init 183 = .ok (.newarray .boolean, 2) := by decide +kernel
theorem dX11_init_185 : decode cX11_init 185 = .ok (.putfield 58, 3) := by decide +kernel
theorem dX11_init_188 : decode cX11_init 188 = .ok (.aload_n 0, 1) := by decide +kernel
theorem dX11_init_189 : decode cX11_init 189 = .ok (.iconst 2, 1) := by decide +kernel
theorem dX11_init_190 : decode cX11_init 190 = .ok (.newarray .boolean, 2) := by decide +kernel
theorem dX11_init_192 : decode cX11_init 192 = .ok (.putfield 62, 3) := by decide +kernel
theorem dX11_init_195 : decode cX11_init 195 = .ok (.aload_n 0, 1) := by decide +kernel
theorem dX11_init_196 : decode cX11_init 196 = .ok (.iconst 2, 1) := by decide +kernel
theorem dX11_init_197 : decode cX11_init 197 = .ok (.iconst 0, 1) := by decide +kernel
theorem dX11_init_198 : decode cX11_init 198 = .ok (.multianewarray 65 2, 4) := by decide +kernel
theorem dX11_init_202 : decode cX11_init 202 = .ok (.putfield 67, 3) := by decide +kernel
theorem dX11_init_205 : decode cX11_init 205 = .ok (.aload_n 0, 1) := by decide +kernel
theorem dX11_init_206 : decode cX11_init 206 = .ok (.sipush 200, 3) := by decide +kernel
theorem dX11_init_209 : decode cX11_init 209 = .ok (.anewarray 70, 3) := by decide +kernel
theorem dX11_init_212 : decode cX11_init 212 = .ok (.putfield 71, 3) := by decide +kernel
theorem dX11_init_215 : decode cX11_init 215 = .ok (.aload_n 0, 1) := by decide +kernel
theorem dX11_init_216 : decode cX11_init 216 = .ok (.bipush 60, 2) := by decide +kernel
theorem dX11_init_218 : decode cX11_init 218 = .ok (.anewarray 70, 3) := by decide +kernel
theorem dX11_init_221 : decode cX11_init 221 = .ok (.putfield 74, 3) := by decide +kernel
theorem dX11_init_224 : decode cX11_init 224 = .ok (.return_, 1) := by decide +kernel
set_option maxRecDepth 1000000 in
set_option maxHeartbeats 4000000 in
theorem t_O_init {P : gG → Prop} {d : Nat} {m : xM} {h9 : gH} (hd9 : 1 ≤ d) (C : ∀ Γ, P Γ → gX Γ lay_X RX11 cX11_init 1 d h9) (o : Nat) (hR : ∀ Γ, P Γ → gRv Γ lay_X cX11_init m h9) (hp : gH) (h : f_O_init o hp = some h9) : gJ P lay_X 1 0 [(0, .inr (.inr (some o)))] [] m hp h9 := by
  unfold f_O_init at h
  refine g_aload_n C dX11_init_0 rfl ?_
  refine g_obj C dX11_init_1 (xin_33 _ (List.mem_of_getElem? (i := 8) rfl)) (xin_1 _ (List.mem_of_getElem? (i := 9) rfl)) (xin_1 _ (List.mem_of_getElem? (i := 10) rfl)) (by omega) ?_
  refine g_aload_n C dX11_init_4 rfl ?_
  refine g_bipush C dX11_init_5 (by decide) ?_
  obtain ⟨q0, hq0, h⟩ := x_bind h
  refine g_putI C dX11_init_7 fF_X11_7 hq0 ?_
  refine g_aload_n C dX11_init_10 rfl ?_
  refine g_iconst C dX11_init_11 ?_
  obtain ⟨q1, hq1, h⟩ := x_bind h
  refine g_newi C dX11_init_12 (xin_1 _ (List.mem_of_getElem? (i := 3) rfl)) hq1 ?_
  refine g_dup C dX11_init_14 rfl ?_
  refine g_iconst C dX11_init_15 ?_
  refine g_bipush C dX11_init_16 (by decide) ?_
  obtain ⟨q2, hq2, h⟩ := x_bind h
  refine g_iastore C dX11_init_18 hq2 ?_
  obtain ⟨q3, hq3, h⟩ := x_bind h
  refine g_putR C dX11_init_19 fF_X11_13 hq3 ?_
  refine g_aload_n C dX11_init_22 rfl ?_
  refine g_iconst C dX11_init_23 ?_
  obtain ⟨q4, hq4, h⟩ := x_bind h
  refine g_newi C dX11_init_24 (xin_1 _ (List.mem_of_getElem? (i := 3) rfl)) hq4 ?_
  refine g_dup C dX11_init_26 rfl ?_
  refine g_iconst C dX11_init_27 ?_
  refine g_iconst C dX11_init_28 ?_
  obtain ⟨q5, hq5, h⟩ := x_bind h
  refine g_iastore C dX11_init_29 hq5 ?_
  obtain ⟨q6, hq6, h⟩ := x_bind h
  refine g_putR C dX11_init_30 fF_X11_17 hq6 ?_
  refine g_aload_n C dX11_init_33 rfl ?_
  refine g_iconst C dX11_init_34 ?_
  obtain ⟨q7, hq7, h⟩ := x_bind h
  refine g_newi C dX11_init_35 (xin_1 _ (List.mem_of_getElem? (i := 3) rfl)) hq7 ?_
  refine g_dup C dX11_init_37 rfl ?_
  refine g_iconst C dX11_init_38 ?_
  refine g_iconst C dX11_init_39 ?_
  obtain ⟨q8, hq8, h⟩ := x_bind h
  refine g_iastore C dX11_init_40 hq8 ?_
  refine g_dup C dX11_init_41 rfl ?_
  refine g_iconst C dX11_init_42 ?_
  refine g_iconst C dX11_init_43 ?_
  obtain ⟨q9, hq9, h⟩ := x_bind h
  refine g_iastore C dX11_init_44 hq9 ?_
  refine g_dup C dX11_init_45 rfl ?_
  refine g_iconst C dX11_init_46 ?_
  refine g_iconst C dX11_init_47 ?_
  obtain ⟨q10, hq10, h⟩ := x_bind h
  refine g_iastore C dX11_init_48 hq10 ?_
  refine g_dup C dX11_init_49 rfl ?_
  refine g_iconst C dX11_init_50 ?_
  refine g_iconst C dX11_init_51 ?_
  obtain ⟨q11, hq11, h⟩ := x_bind h
  refine g_iastore C dX11_init_52 hq11 ?_
  obtain ⟨q12, hq12, h⟩ := x_bind h
  refine g_putR C dX11_init_53 fF_X11_20 hq12 ?_
  refine g_aload_n C dX11_init_56 rfl ?_
  refine g_iconst C dX11_init_57 ?_
  obtain ⟨q13, hq13, h⟩ := x_bind h
  refine g_newi C dX11_init_58 (xin_1 _ (List.mem_of_getElem? (i := 3) rfl)) hq13 ?_
  refine g_dup C dX11_init_60 rfl ?_
  refine g_iconst C dX11_init_61 ?_
  refine g_iconst C dX11_init_62 ?_
  obtain ⟨q14, hq14, h⟩ := x_bind h
  refine g_iastore C dX11_init_63 hq14 ?_
  obtain ⟨q15, hq15, h⟩ := x_bind h
  refine g_putR C dX11_init_64 fF_X11_23 hq15 ?_
  refine g_aload_n C dX11_init_67 rfl ?_
  refine g_bipush C dX11_init_68 (by decide) ?_
  obtain ⟨q16, hq16, h⟩ := x_bind h
  refine g_newi C dX11_init_70 (xin_1 _ (List.mem_of_getElem? (i := 3) rfl)) hq16 ?_
  refine g_dup C dX11_init_72 rfl ?_
  refine g_iconst C dX11_init_73 ?_
  refine g_iconst C dX11_init_74 ?_
  obtain ⟨q17, hq17, h⟩ := x_bind h
  refine g_iastore C dX11_init_75 hq17 ?_
  refine g_dup C dX11_init_76 rfl ?_
  refine g_iconst C dX11_init_77 ?_
  refine g_iconst C dX11_init_78 ?_
  obtain ⟨q18, hq18, h⟩ := x_bind h
  refine g_iastore C dX11_init_79 hq18 ?_
  refine g_dup C dX11_init_80 rfl ?_
  refine g_iconst C dX11_init_81 ?_
  refine g_iconst C dX11_init_82 ?_
  obtain ⟨q19, hq19, h⟩ := x_bind h
  refine g_iastore C dX11_init_83 hq19 ?_
  refine g_dup C dX11_init_84 rfl ?_
  refine g_iconst C dX11_init_85 ?_
  refine g_iconst C dX11_init_86 ?_
  obtain ⟨q20, hq20, h⟩ := x_bind h
  refine g_iastore C dX11_init_87 hq20 ?_
  refine g_dup C dX11_init_88 rfl ?_
  refine g_iconst C dX11_init_89 ?_
  refine g_iconst C dX11_init_90 ?_
  obtain ⟨q21, hq21, h⟩ := x_bind h
  refine g_iastore C dX11_init_91 hq21 ?_
  refine g_dup C dX11_init_92 rfl ?_
  refine g_iconst C dX11_init_93 ?_
  refine g_iconst C dX11_init_94 ?_
  obtain ⟨q22, hq22, h⟩ := x_bind h
  refine g_iastore C dX11_init_95 hq22 ?_
  refine g_dup C dX11_init_96 rfl ?_
  refine g_bipush C dX11_init_97 (by decide) ?_
  refine g_bipush C dX11_init_99 (by decide) ?_
  obtain ⟨q23, hq23, h⟩ := x_bind h
  refine g_iastore C dX11_init_101 hq23 ?_
  obtain ⟨q24, hq24, h⟩ := x_bind h
  refine g_putR C dX11_init_102 fF_X11_26 hq24 ?_
  refine g_aload_n C dX11_init_105 rfl ?_
  refine g_bipush C dX11_init_106 (by decide) ?_
  obtain ⟨q25, hq25, h⟩ := x_bind h
  refine g_newi C dX11_init_108 (xin_1 _ (List.mem_of_getElem? (i := 3) rfl)) hq25 ?_
  obtain ⟨q26, hq26, h⟩ := x_bind h
  refine g_putR C dX11_init_110 fF_X11_29 hq26 ?_
  refine g_aload_n C dX11_init_113 rfl ?_
  refine g_iconst C dX11_init_114 ?_
  refine g_iconst C dX11_init_115 ?_
  obtain ⟨q27, hq27, h⟩ := x_bind h
  refine g_mnIo C dX11_init_116 (xin_33 _ (List.mem_of_getElem? (i := 16) rfl)) (xin_1 _ (List.mem_of_getElem? (i := 3) rfl)) hq27 ?_
  obtain ⟨q28, hq28, h⟩ := x_bind h
  refine g_putR C dX11_init_120 fF_X11_34 hq28 ?_
  refine g_aload_n C dX11_init_123 rfl ?_
  refine g_iconst C dX11_init_124 ?_
  refine g_iconst C dX11_init_125 ?_
  obtain ⟨q29, hq29, h⟩ := x_bind h
  refine g_mnIo C dX11_init_126 (xin_33 _ (List.mem_of_getElem? (i := 16) rfl)) (xin_1 _ (List.mem_of_getElem? (i := 3) rfl)) hq29 ?_
  obtain ⟨q30, hq30, h⟩ := x_bind h
  refine g_putR C dX11_init_130 fF_X11_37 hq30 ?_
  refine g_aload_n C dX11_init_133 rfl ?_
  refine g_iconst C dX11_init_134 ?_
  refine g_iconst C dX11_init_135 ?_
  obtain ⟨q31, hq31, h⟩ := x_bind h
  refine g_mnIo C dX11_init_136 (xin_33 _ (List.mem_of_getElem? (i := 16) rfl)) (xin_1 _ (List.mem_of_getElem? (i := 3) rfl)) hq31 ?_
  obtain ⟨q32, hq32, h⟩ := x_bind h
  refine g_putR C dX11_init_140 fF_X11_40 hq32 ?_
  refine g_aload_n C dX11_init_143 rfl ?_
  refine g_iconst C dX11_init_144 ?_
  refine g_iconst C dX11_init_145 ?_
  obtain ⟨q33, hq33, h⟩ := x_bind h
  refine g_mnIo C dX11_init_146 (xin_33 _ (List.mem_of_getElem? (i := 16) rfl)) (xin_1 _ (List.mem_of_getElem? (i := 3) rfl)) hq33 ?_
  obtain ⟨q34, hq34, h⟩ := x_bind h
  refine g_putR C dX11_init_150 fF_X11_43 hq34 ?_
  refine g_aload_n C dX11_init_153 rfl ?_
  refine g_iconst C dX11_init_154 ?_
  obtain ⟨q35, hq35, h⟩ := x_bind h
  refine g_newi C dX11_init_155 (xin_1 _ (List.mem_of_getElem? (i := 3) rfl)) hq35 ?_
  obtain ⟨q36, hq36, h⟩ := x_bind h
  refine g_putR C dX11_init_157 fF_X11_46 hq36 ?_
  refine g_aload_n C dX11_init_160 rfl ?_
  refine g_iconst C dX11_init_161 ?_
  obtain ⟨q37, hq37, h⟩ := x_bind h
  refine g_newi C dX11_init_162 (xin_1 _ (List.mem_of_getElem? (i := 3) rfl)) hq37 ?_
  obtain ⟨q38, hq38, h⟩ := x_bind h
  refine g_putR C dX11_init_164 fF_X11_49 hq38 ?_
  refine g_aload_n C dX11_init_167 rfl ?_
  refine g_iconst C dX11_init_168 ?_
  obtain ⟨q39, hq39, h⟩ := x_bind h
  refine g_newi C dX11_init_169 (xin_1 _ (List.mem_of_getElem? (i := 3) rfl)) hq39 ?_
  obtain ⟨q40, hq40, h⟩ := x_bind h
  refine g_putR C dX11_init_171 fF_X11_52 hq40 ?_
  refine g_aload_n C dX11_init_174 rfl ?_
  refine g_iconst C dX11_init_175 ?_
  obtain ⟨q41, hq41, h⟩ := x_bind h
  refine g_newi C dX11_init_176 (xin_1 _ (List.mem_of_getElem? (i := 3) rfl)) hq41 ?_
  obtain ⟨q42, hq42, h⟩ := x_bind h
  refine g_putR C dX11_init_178 fF_X11_55 hq42 ?_
  refine g_aload_n C dX11_init_181 rfl ?_
  refine g_iconst C dX11_init_182 ?_
  obtain ⟨q43, hq43, h⟩ := x_bind h
  refine g_newz C dX11_init_183 (xin_34 _ (List.mem_of_getElem? (i := 1) rfl)) hq43 ?_
  obtain ⟨q44, hq44, h⟩ := x_bind h
  refine g_putR C dX11_init_185 fF_X11_58 hq44 ?_
  refine g_aload_n C dX11_init_188 rfl ?_
  refine g_iconst C dX11_init_189 ?_
  obtain ⟨q45, hq45, h⟩ := x_bind h
  refine g_newz C dX11_init_190 (xin_34 _ (List.mem_of_getElem? (i := 1) rfl)) hq45 ?_
  obtain ⟨q46, hq46, h⟩ := x_bind h
  refine g_putR C dX11_init_192 fF_X11_62 hq46 ?_
  refine g_aload_n C dX11_init_195 rfl ?_
  refine g_iconst C dX11_init_196 ?_
  refine g_iconst C dX11_init_197 ?_
  obtain ⟨q47, hq47, h⟩ := x_bind h
  refine g_mnQo C dX11_init_198 (List.mem_of_getElem? (i := 20) rfl) hq47 ?_
  obtain ⟨q48, hq48, h⟩ := x_bind h
  refine g_putR C dX11_init_202 fF_X11_67 hq48 ?_
  refine g_aload_n C dX11_init_205 rfl ?_
  refine g_sipush C dX11_init_206 (by decide) ?_
  obtain ⟨q49, hq49, h⟩ := x_bind h
  refine g_newQ C dX11_init_209 (xin_34 _ (List.mem_of_getElem? (i := 5) rfl)) hq49 ?_
  obtain ⟨q50, hq50, h⟩ := x_bind h
  refine g_putR C dX11_init_212 fF_X11_71 hq50 ?_
  refine g_aload_n C dX11_init_215 rfl ?_
  refine g_bipush C dX11_init_216 (by decide) ?_
  obtain ⟨q51, hq51, h⟩ := x_bind h
  refine g_newQ C dX11_init_218 (xin_34 _ (List.mem_of_getElem? (i := 5) rfl)) hq51 ?_
  obtain ⟨q52, hq52, h⟩ := x_bind h
  refine g_putR C dX11_init_221 fF_X11_74 hq52 ?_
  exact g_return hR dX11_init_224 (by cases h; exact ⟨rfl, rfl⟩)
theorem c_O_init {o : Nat} (m : xM) {hp h9 : gH} (h : f_O_init o hp = some h9) (l : Launch) : gMet l yX11_init cX11_init 1 none 1 lay_X [.inr (.inr (some o))] m hp none m h9 :=
  gMet_v (by decide +kernel) (Nat.le_of_ble_eq_true rfl) (fun P C hR => t_O_init (Nat.le_refl _) C _ hR hp h)
theorem le_O_init {o : Nat} {hp h9 : gH} (h : f_O_init o hp = some h9) : gle hp h9 :=
  (t_O_init (P := fun _ => False) (m := fun _ _ => 0) (Nat.le_refl _) (fun _ q => q.elim) _ (fun _ q => q.elim) hp h).1

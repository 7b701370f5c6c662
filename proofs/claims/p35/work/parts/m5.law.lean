/-! ===== the law itself ===== -/
theorem xy_X10_leastQuality : xY yX10_leastQuality cX10_leastQuality 2 (some .int) 0 := ⟨(xin_32 _ (List.mem_of_getElem? (i := 23) rfl)), (xin_1 _ (List.mem_of_getElem? (i := 2) rfl)), by decide, by decide, by decide +kernel⟩
theorem xi_X10_leastQuality : Cond.instanceMethod yX10_leastQuality ∈ wsL_law := (xin_32 _ (List.mem_of_getElem? (i := 21) rfl))
theorem xs_X10_leastQuality : Cond.selects yX10_leastQuality.cls yX10_leastQuality yX10_leastQuality ∈ wsL_law := (xin_32 _ (List.mem_of_getElem? (i := 22) rfl))
theorem xy_L_drawn : xY yL_drawn cL_drawn 9 (some (.object "ModemLinkLaw$Own")) 2 := ⟨(xin_33 _ (List.mem_of_getElem? (i := 2) rfl)), (xin_8 _ (List.mem_of_getElem? (i := 21) rfl)), by decide, by decide, by decide +kernel⟩
theorem xt_L_drawn : Cond.static yL_drawn ∈ wsL_law := (xin_33 _ (List.mem_of_getElem? (i := 1) rfl))
theorem xy_L_tell : xY yL_tell cL_tell 7 (some .int) 3 := ⟨(xin_34 _ (List.mem_of_getElem? (i := 17) rfl)), (xin_8 _ (List.mem_of_getElem? (i := 21) rfl)), by decide, by decide, by decide +kernel⟩
theorem xt_L_tell : Cond.static yL_tell ∈ wsL_law := (xin_34 _ (List.mem_of_getElem? (i := 16) rfl))
theorem xy_X10_saveSnapshot : xY yX10_saveSnapshot cX10_saveSnapshot 1 none 0 := ⟨(xin_35 _ (List.mem_of_getElem? (i := 17) rfl)), (xin_1 _ (List.mem_of_getElem? (i := 2) rfl)), by decide, by decide, by decide +kernel⟩
theorem xi_X10_saveSnapshot : Cond.instanceMethod yX10_saveSnapshot ∈ wsL_law := (xin_35 _ (List.mem_of_getElem? (i := 15) rfl))
theorem xs_X10_saveSnapshot : Cond.selects yX10_saveSnapshot.cls yX10_saveSnapshot yX10_saveSnapshot ∈ wsL_law := (xin_35 _ (List.mem_of_getElem? (i := 16) rfl))
theorem xy_L_isPassed : xY yL_isPassed cL_isPassed 9 (some .boolean) 2 := ⟨(xin_41 _ (List.mem_of_getElem? (i := 1) rfl)), (xin_8 _ (List.mem_of_getElem? (i := 21) rfl)), by decide, by decide, by decide +kernel⟩
theorem xt_L_isPassed : Cond.static yL_isPassed ∈ wsL_law := (xin_41 _ (List.mem_of_getElem? (i := 0) rfl))
theorem xy_X10_restoreSnapshot : xY yX10_restoreSnapshot cX10_restoreSnapshot 1 (some .boolean) 0 := ⟨(xin_41 _ (List.mem_of_getElem? (i := 13) rfl)), (xin_1 _ (List.mem_of_getElem? (i := 2) rfl)), by decide, by decide, by decide +kernel⟩
theorem xi_X10_restoreSnapshot : Cond.instanceMethod yX10_restoreSnapshot ∈ wsL_law := (xin_41 _ (List.mem_of_getElem? (i := 11) rfl))
theorem xs_X10_restoreSnapshot : Cond.selects yX10_restoreSnapshot.cls yX10_restoreSnapshot yX10_restoreSnapshot ∈ wsL_law := (xin_41 _ (List.mem_of_getElem? (i := 12) rfl))
theorem xy_X10_undoCount : xY yX10_undoCount cX10_undoCount 1 (some .int) 0 := ⟨(xin_40 _ (List.mem_of_getElem? (i := 22) rfl)), (xin_1 _ (List.mem_of_getElem? (i := 2) rfl)), by decide, by decide, by decide +kernel⟩
theorem xi_X10_undoCount : Cond.instanceMethod yX10_undoCount ∈ wsL_law := (xin_40 _ (List.mem_of_getElem? (i := 20) rfl))
theorem xs_X10_undoCount : Cond.selects yX10_undoCount.cls yX10_undoCount yX10_undoCount ∈ wsL_law := (xin_40 _ (List.mem_of_getElem? (i := 21) rfl))
theorem xy_L_act : xY yL_act cL_act 11 (some .int) 4 := ⟨(xin_36 _ (List.mem_of_getElem? (i := 0) rfl)), (xin_8 _ (List.mem_of_getElem? (i := 21) rfl)), by decide, by decide, by decide +kernel⟩
theorem xt_L_act : Cond.static yL_act ∈ wsL_law := (xin_35 _ (List.mem_of_getElem? (i := 23) rfl))
theorem dL_law_0 : decode cL_law 0 = .ok (.new 9, 3) := by decide +kernel
theorem dL_law_3 : decode cL_law 3 = .ok (.dup, 1) := by decide +kernel
theorem dL_law_4 : decode cL_law 4 = .ok (.invokespecial 240, 3) := by decide +kernel
theorem dL_law_7 : decode cL_law 7 = .ok (.astore_n 1, 1) := by decide +kernel
theorem dL_law_8 : decode cL_law 8 = .ok (.bipush 6, 2) := by decide +kernel
theorem dL_law_10 : decode cL_law 10 = .ok (.newarray .int, 2) := by decide +kernel
theorem dL_law_12 : decode cL_law 12 = .ok (.astore_n 2, 1) := by decide +kernel
theorem dL_law_13 : decode cL_law 13 = .ok (.aload_n 1, 1) := by decide +kernel
theorem dL_law_14 : decode cL_law 14 = .ok (.aload_n 2, 1) := by decide +kernel
theorem dL_law_15 : decode cL_law 15 = .ok (.ldc 241, 2) := by decide +kernel
theorem dL_law_17 : decode cL_law 17 = .ok (.invokestatic 61, 3) := by decide +kernel
theorem dL_law_20 : decode cL_law 20 = .ok (.aload_n 1, 1) := by decide +kernel
theorem dL_law_21 : decode cL_law 21 = .ok (.aload_n 1, 1) := by decide +kernel
theorem dL_law_22 : decode cL_law 22 = .ok (.aload_n 2, 1) := by decide +kernel
theorem dL_law_23 : decode cL_law 23 = .ok (.invokestatic 89, 3) := by decide +kernel
theorem dL_law_26 : decode cL_law 26 = .ok (.invokevirtual 93, 3) := by decide +kernel
theorem dL_law_29 : decode cL_law 29 = .ok (.iconst 2, 1) := by decide +kernel
theorem dL_law_30 : decode cL_law 30 = .ok (.if_icmp .ne 28, 3) := by decide +kernel
theorem dL_law_33 : decode cL_law 33 = .ok (.aload_n 1, 1) := by decide +kernel
theorem dL_law_34 : decode cL_law 34 = .ok (.invokevirtual 191, 3) := by decide +kernel
theorem dL_law_37 : decode cL_law 37 = .ok (.iconst 4, 1) := by decide +kernel
theorem dL_law_38 : decode cL_law 38 = .ok (.if_icmp .ne 20, 3) := by decide +kernel
theorem dL_law_41 : decode cL_law 41 = .ok (.aload_n 1, 1) := by decide +kernel
theorem dL_law_42 : decode cL_law 42 = .ok (.iconst 4, 1) := by decide +kernel
theorem dL_law_43 : decode cL_law 43 = .ok (.invokevirtual 188, 3) := by decide +kernel
theorem dL_law_46 : decode cL_law 46 = .ok (.ifCond .ne 12, 3) := by decide +kernel
theorem dL_law_49 : decode cL_law 49 = .ok (.aload_n 1, 1) := by decide +kernel
theorem dL_law_50 : decode cL_law 50 = .ok (.iconst 3, 1) := by decide +kernel
theorem dL_law_51 : decode cL_law 51 = .ok (.invokevirtual 127, 3) := by decide +kernel
theorem dL_law_54 : decode cL_law 54 = .ok (.iconst 1, 1) := by decide +kernel
theorem dL_law_55 : decode cL_law 55 = .ok (.if_icmp .eq 5, 3) := by decide +kernel
theorem dL_law_58 : decode cL_law 58 = .ok (.iconst 0, 1) := by decide +kernel
theorem dL_law_59 : decode cL_law 59 = .ok (.ireturn, 1) := by decide +kernel
theorem dL_law_60 : decode cL_law 60 = .ok (.aload_n 1, 1) := by decide +kernel
theorem dL_law_61 : decode cL_law 61 = .ok (.aload_n 2, 1) := by decide +kernel
theorem dL_law_62 : decode cL_law 62 = .ok (.ldc 243, 2) := by decide +kernel
theorem dL_law_64 : decode cL_law 64 = .ok (.invokestatic 61, 3) := by decide +kernel
theorem dL_law_67 : decode cL_law 67 = .ok (.aload_n 1, 1) := by decide +kernel
theorem dL_law_68 : decode cL_law 68 = .ok (.iconst 0, 1) := by decide +kernel
theorem dL_law_69 : decode cL_law 69 = .ok (.aload_n 1, 1) := by decide +kernel
theorem dL_law_70 : decode cL_law 70 = .ok (.aload_n 2, 1) := by decide +kernel
theorem dL_law_71 : decode cL_law 71 = .ok (.invokestatic 89, 3) := by decide +kernel
theorem dL_law_74 : decode cL_law 74 = .ok (.invokevirtual 198, 3) := by decide +kernel
theorem dL_law_77 : decode cL_law 77 = .ok (.iconst 4, 1) := by decide +kernel
theorem dL_law_78 : decode cL_law 78 = .ok (.if_icmp .ne 98, 3) := by decide +kernel
theorem dL_law_81 : decode cL_law 81 = .ok (.aload_n 1, 1) := by decide +kernel
theorem dL_law_82 : decode cL_law 82 = .ok (.iconst 0, 1) := by decide +kernel
theorem dL_law_83 : decode cL_law 83 = .ok (.invokevirtual 221, 3) := by decide +kernel
theorem dL_law_86 : decode cL_law 86 = .ok (.bipush 13, 2) := by decide +kernel
theorem dL_law_88 : decode cL_law 88 = .ok (.if_icmp .ne 88, 3) := by decide +kernel
theorem dL_law_91 : decode cL_law 91 = .ok (.aload_n 1, 1) := by decide +kernel
theorem dL_law_92 : decode cL_law 92 = .ok (.invokevirtual 230, 3) := by decide +kernel
theorem dL_law_95 : decode cL_law 95 = .ok (.iconst 3, 1) := by decide +kernel
theorem dL_law_96 : decode cL_law 96 = .ok (.if_icmp .ne 80, 3) := by decide +kernel
theorem dL_law_99 : decode cL_law 99 = .ok (.aload_n 1, 1) := by decide +kernel
theorem dL_law_100 : decode cL_law 100 = .ok (.iconst 1, 1) := by decide +kernel
theorem dL_law_101 : decode cL_law 101 = .ok (.invokevirtual 188, 3) := by decide +kernel
theorem dL_law_104 : decode cL_law 104 = .ok (.ifCond .ne 72, 3) := by decide +kernel
theorem dL_law_107 : decode cL_law 107 = .ok (.aload_n 1, 1) := by decide +kernel
theorem dL_law_108 : decode cL_law 108 = .ok (.iconst 0, 1) := by decide +kernel
theorem dL_law_109 : decode cL_law 109 = .ok (.iconst 1, 1) := by decide +kernel
theorem dL_law_110 : decode cL_law 110 = .ok (.invokevirtual 169, 3) := by decide +kernel
theorem dL_law_113 : decode cL_law 113 = .ok (.iconst 1, 1) := by decide +kernel
theorem dL_law_114 : decode cL_law 114 = .ok (.if_icmp .ne 62, 3) := by decide +kernel
theorem dL_law_117 : decode cL_law 117 = .ok (.aload_n 1, 1) := by decide +kernel
theorem dL_law_118 : decode cL_law 118 = .ok (.iconst 0, 1) := by decide +kernel
theorem dL_law_119 : decode cL_law 119 = .ok (.bipush 6, 2) := by decide +kernel
theorem dL_law_121 : decode cL_law 121 = .ok (.invokevirtual 169, 3) := by decide +kernel
theorem dL_law_124 : decode cL_law 124 = .ok (.bipush 7, 2) := by decide +kernel
theorem dL_law_126 : decode cL_law 126 = .ok (.if_icmp .ne 50, 3) := by decide +kernel
theorem dL_law_129 : decode cL_law 129 = .ok (.aload_n 1, 1) := by decide +kernel
theorem dL_law_130 : decode cL_law 130 = .ok (.iconst 1, 1) := by decide +kernel
theorem dL_law_131 : decode cL_law 131 = .ok (.invokevirtual 188, 3) := by decide +kernel
theorem dL_law_134 : decode cL_law 134 = .ok (.iconst 4, 1) := by decide +kernel
theorem dL_law_135 : decode cL_law 135 = .ok (.if_icmp .ne 41, 3) := by decide +kernel
theorem dL_law_138 : decode cL_law 138 = .ok (.aload_n 1, 1) := by decide +kernel
theorem dL_law_139 : decode cL_law 139 = .ok (.iconst 1, 1) := by decide +kernel
theorem dL_law_140 : decode cL_law 140 = .ok (.iconst 2, 1) := by decide +kernel
theorem dL_law_141 : decode cL_law 141 = .ok (.invokevirtual 177, 3) := by decide +kernel
theorem dL_law_144 : decode cL_law 144 = .ok (.bipush 98, 2) := by decide +kernel
theorem dL_law_146 : decode cL_law 146 = .ok (.if_icmp .ne 30, 3) := by decide +kernel
theorem dL_law_149 : decode cL_law 149 = .ok (.aload_n 1, 1) := by decide +kernel
theorem dL_law_150 : decode cL_law 150 = .ok (.iconst 0, 1) := by decide +kernel
theorem dL_law_151 : decode cL_law 151 = .ok (.iconst 1, 1) := by decide +kernel
theorem dL_law_152 : decode cL_law 152 = .ok (.invokevirtual 169, 3) := by decide +kernel
theorem dL_law_155 : decode cL_law 155 = .ok (.iconst 1, 1) := by decide +kernel
theorem dL_law_156 : decode cL_law 156 = .ok (.if_icmp .ne 20, 3) := by decide +kernel
theorem dL_law_159 : decode cL_law 159 = .ok (.aload_n 1, 1) := by decide +kernel
theorem dL_law_160 : decode cL_law 160 = .ok (.iconst 1, 1) := by decide +kernel
theorem dL_law_161 : decode cL_law 161 = .ok (.invokevirtual 188, 3) := by decide +kernel
theorem dL_law_164 : decode cL_law 164 = .ok (.ifCond .ne 12, 3) := by decide +kernel
theorem dL_law_167 : decode cL_law 167 = .ok (.aload_n 1, 1) := by decide +kernel
theorem dL_law_168 : decode cL_law 168 = .ok (.iconst 0, 1) := by decide +kernel
theorem dL_law_169 : decode cL_law 169 = .ok (.iconst 1, 1) := by decide +kernel
theorem dL_law_170 : decode cL_law 170 = .ok (.invokevirtual 169, 3) := by decide +kernel
theorem dL_law_173 : decode cL_law 173 = .ok (.ifCond .eq 5, 3) := by decide +kernel
theorem dL_law_176 : decode cL_law 176 = .ok (.iconst 0, 1) := by decide +kernel
theorem dL_law_177 : decode cL_law 177 = .ok (.ireturn, 1) := by decide +kernel
theorem dL_law_178 : decode cL_law 178 = .ok (.aload_n 1, 1) := by decide +kernel
theorem dL_law_179 : decode cL_law 179 = .ok (.iconst 1, 1) := by decide +kernel
theorem dL_law_180 : decode cL_law 180 = .ok (.iconst 0, 1) := by decide +kernel
theorem dL_law_181 : decode cL_law 181 = .ok (.iconst 0, 1) := by decide +kernel
theorem dL_law_182 : decode cL_law 182 = .ok (.invokevirtual 171, 3) := by decide +kernel
theorem dL_law_185 : decode cL_law 185 = .ok (.bipush 98, 2) := by decide +kernel
theorem dL_law_187 : decode cL_law 187 = .ok (.if_icmp .ne 80, 3) := by decide +kernel
theorem dL_law_190 : decode cL_law 190 = .ok (.aload_n 1, 1) := by decide +kernel
theorem dL_law_191 : decode cL_law 191 = .ok (.iconst 0, 1) := by decide +kernel
theorem dL_law_192 : decode cL_law 192 = .ok (.iconst 1, 1) := by decide +kernel
theorem dL_law_193 : decode cL_law 193 = .ok (.iconst 1, 1) := by decide +kernel
theorem dL_law_194 : decode cL_law 194 = .ok (.invokevirtual 171, 3) := by decide +kernel
theorem dL_law_197 : decode cL_law 197 = .ok (.bipush 97, 2) := by decide +kernel
theorem dL_law_199 : decode cL_law 199 = .ok (.if_icmp .ne 68, 3) := by decide +kernel
theorem dL_law_202 : decode cL_law 202 = .ok (.aload_n 1, 1) := by decide +kernel
theorem dL_law_203 : decode cL_law 203 = .ok (.iconst 1, 1) := by decide +kernel
theorem dL_law_204 : decode cL_law 204 = .ok (.iconst 1, 1) := by decide +kernel
theorem dL_law_205 : decode cL_law 205 = .ok (.invokevirtual 180, 3) := by decide +kernel
theorem dL_law_208 : decode cL_law 208 = .ok (.bipush 7, 2) := by decide +kernel
theorem dL_law_210 : decode cL_law 210 = .ok (.if_icmp .ne 57, 3) := by decide +kernel
theorem dL_law_213 : decode cL_law 213 = .ok (.aload_n 1, 1) := by decide +kernel
theorem dL_law_214 : decode cL_law 214 = .ok (.iconst 1, 1) := by decide +kernel
theorem dL_law_215 : decode cL_law 215 = .ok (.iconst 2, 1) := by decide +kernel
theorem dL_law_216 : decode cL_law 216 = .ok (.invokevirtual 180, 3) := by decide +kernel
theorem dL_law_219 : decode cL_law 219 = .ok (.iconst 1, 1) := by decide +kernel
theorem dL_law_220 : decode cL_law 220 = .ok (.if_icmp .ne 47, 3) := by decide +kernel
theorem dL_law_223 : decode cL_law 223 = .ok (.aload_n 1, 1) := by decide +kernel
theorem dL_law_224 : decode cL_law 224 = .ok (.iconst 0, 1) := by decide +kernel
theorem dL_law_225 : decode cL_law 225 = .ok (.invokevirtual 201, 3) := by decide +kernel
theorem dL_law_228 : decode cL_law 228 = .ok (.bipush 9, 2) := by decide +kernel
theorem dL_law_230 : decode cL_law 230 = .ok (.if_icmp .ne 37, 3) := by decide +kernel
theorem dL_law_233 : decode cL_law 233 = .ok (.aload_n 1, 1) := by decide +kernel
theorem dL_law_234 : decode cL_law 234 = .ok (.iconst 1, 1) := by decide +kernel
theorem dL_law_235 : decode cL_law 235 = .ok (.invokevirtual 188, 3) := by decide +kernel
theorem dL_law_238 : decode cL_law 238 = .ok (.ifCond .ne 29, 3) := by decide +kernel
theorem dL_law_241 : decode cL_law 241 = .ok (.aload_n 1, 1) := by decide +kernel
theorem dL_law_242 : decode cL_law 242 = .ok (.bipush 7, 2) := by decide +kernel
theorem dL_law_244 : decode cL_law 244 = .ok (.invokevirtual 127, 3) := by decide +kernel
theorem dL_law_247 : decode cL_law 247 = .ok (.iconst 1, 1) := by decide +kernel
theorem dL_law_248 : decode cL_law 248 = .ok (.if_icmp .ne 19, 3) := by decide +kernel
theorem dL_law_251 : decode cL_law 251 = .ok (.aload_n 1, 1) := by decide +kernel
theorem dL_law_252 : decode cL_law 252 = .ok (.invokevirtual 230, 3) := by decide +kernel
theorem dL_law_255 : decode cL_law 255 = .ok (.iconst (-1), 1) := by decide +kernel
theorem dL_law_256 : decode cL_law 256 = .ok (.if_icmp .ne 11, 3) := by decide +kernel
theorem dL_law_259 : decode cL_law 259 = .ok (.aload_n 1, 1) := by decide +kernel
theorem dL_law_260 : decode cL_law 260 = .ok (.invokevirtual 245, 3) := by decide +kernel
theorem dL_law_263 : decode cL_law 263 = .ok (.iconst 1, 1) := by decide +kernel
theorem dL_law_264 : decode cL_law 264 = .ok (.if_icmp .eq 5, 3) := by decide +kernel
theorem dL_law_267 : decode cL_law 267 = .ok (.iconst 0, 1) := by decide +kernel
theorem dL_law_268 : decode cL_law 268 = .ok (.ireturn, 1) := by decide +kernel
theorem dL_law_269 : decode cL_law 269 = .ok (.aload_n 0, 1) := by decide +kernel
theorem dL_law_270 : decode cL_law 270 = .ok (.iconst 0, 1) := by decide +kernel
theorem dL_law_271 : decode cL_law 271 = .ok (.invokestatic 248, 3) := by decide +kernel
theorem dL_law_274 : decode cL_law 274 = .ok (.astore_n 3, 1) := by decide +kernel
theorem dL_law_275 : decode cL_law 275 = .ok (.aload_n 1, 1) := by decide +kernel
theorem dL_law_276 : decode cL_law 276 = .ok (.aload_n 2, 1) := by decide +kernel
theorem dL_law_277 : decode cL_law 277 = .ok (.aload_n 3, 1) := by decide +kernel
theorem dL_law_278 : decode cL_law 278 = .ok (.invokestatic 252, 3) := by decide +kernel
theorem dL_law_281 : decode cL_law 281 = .ok (.aload_n 3, 1) := by decide +kernel
theorem dL_law_282 : decode cL_law 282 = .ok (.getfield 39, 3) := by decide +kernel
theorem dL_law_285 : decode cL_law 285 = .ok (.arraylength, 1) := by decide +kernel
theorem dL_law_286 : decode cL_law 286 = .ok (.if_icmp .ne 10, 3) := by decide +kernel
theorem dL_law_289 : decode cL_law 289 = .ok (.aload_n 1, 1) := by decide +kernel
theorem dL_law_290 : decode cL_law 290 = .ok (.invokestatic 233, 3) := by decide +kernel
theorem dL_law_293 : decode cL_law 293 = .ok (.ifCond .ne 5, 3) := by decide +kernel
theorem dL_law_296 : decode cL_law 296 = .ok (.iconst 0, 1) := by decide +kernel
theorem dL_law_297 : decode cL_law 297 = .ok (.ireturn, 1) := by decide +kernel
theorem dL_law_298 : decode cL_law 298 = .ok (.aload_n 1, 1) := by decide +kernel
theorem dL_law_299 : decode cL_law 299 = .ok (.invokevirtual 256, 3) := by decide +kernel
theorem dL_law_302 : decode cL_law 302 = .ok (.aload_n 1, 1) := by decide +kernel
theorem dL_law_303 : decode cL_law 303 = .ok (.invokestatic 224, 3) := by decide +kernel
theorem dL_law_306 : decode cL_law 306 = .ok (.lstore 4, 2) := by decide +kernel
theorem dL_law_308 : decode cL_law 308 = .ok (.bipush 10, 2) := by decide +kernel
theorem dL_law_310 : decode cL_law 310 = .ok (.newarray .long, 2) := by decide +kernel
theorem dL_law_312 : decode cL_law 312 = .ok (.astore 6, 2) := by decide +kernel
theorem dL_law_314 : decode cL_law 314 = .ok (.iconst 0, 1) := by decide +kernel
theorem dL_law_315 : decode cL_law 315 = .ok (.istore 7, 2) := by decide +kernel
theorem dL_law_317 : decode cL_law 317 = .ok (.iconst 0, 1) := by decide +kernel
theorem dL_law_318 : decode cL_law 318 = .ok (.istore 8, 2) := by decide +kernel
theorem dL_law_320 : decode cL_law 320 = .ok (.iload 8, 2) := by decide +kernel
theorem dL_law_322 : decode cL_law 322 = .ok (.bipush 36, 2) := by decide +kernel
theorem dL_law_324 : decode cL_law 324 = .ok (.if_icmp .ge 173, 3) := by decide +kernel
theorem dL_law_327 : decode cL_law 327 = .ok (.aload_n 0, 1) := by decide +kernel
theorem dL_law_328 : decode cL_law 328 = .ok (.iconst 2, 1) := by decide +kernel
theorem dL_law_329 : decode cL_law 329 = .ok (.iload 8, 2) := by decide +kernel
theorem dL_law_331 : decode cL_law 331 = .ok (.bipush 29, 2) := by decide +kernel
theorem dL_law_333 : decode cL_law 333 = .ok (.irem, 1) := by decide +kernel
theorem dL_law_334 : decode cL_law 334 = .ok (.iadd, 1) := by decide +kernel
theorem dL_law_335 : decode cL_law 335 = .ok (.invokestatic 23, 3) := by decide +kernel
theorem dL_law_338 : decode cL_law 338 = .ok (.iload 8, 2) := by decide +kernel
theorem dL_law_340 : decode cL_law 340 = .ok (.bipush 29, 2) := by decide +kernel
theorem dL_law_342 : decode cL_law 342 = .ok (.idiv, 1) := by decide +kernel
theorem dL_law_343 : decode cL_law 343 = .ok (.iconst 3, 1) := by decide +kernel
theorem dL_law_344 : decode cL_law 344 = .ok (.imul, 1) := by decide +kernel
theorem dL_law_345 : decode cL_law 345 = .ok (.ishr, 1) := by decide +kernel
theorem dL_law_346 : decode cL_law 346 = .ok (.istore 9, 2) := by decide +kernel
theorem dL_law_348 : decode cL_law 348 = .ok (.aload_n 1, 1) := by decide +kernel
theorem dL_law_349 : decode cL_law 349 = .ok (.invokestatic 224, 3) := by decide +kernel
theorem dL_law_352 : decode cL_law 352 = .ok (.lstore 10, 2) := by decide +kernel
theorem dL_law_354 : decode cL_law 354 = .ok (.aload_n 1, 1) := by decide +kernel
theorem dL_law_355 : decode cL_law 355 = .ok (.aload_n 2, 1) := by decide +kernel
theorem dL_law_356 : decode cL_law 356 = .ok (.aload_n 3, 1) := by decide +kernel
theorem dL_law_357 : decode cL_law 357 = .ok (.iload 9, 2) := by decide +kernel
theorem dL_law_359 : decode cL_law 359 = .ok (.invokestatic 259, 3) := by decide +kernel
theorem dL_law_362 : decode cL_law 362 = .ok (.istore 12, 2) := by decide +kernel
theorem dL_law_364 : decode cL_law 364 = .ok (.iload 12, 2) := by decide +kernel
theorem dL_law_366 : decode cL_law 366 = .ok (.ifCond .lt 18, 3) := by decide +kernel
theorem dL_law_369 : decode cL_law 369 = .ok (.iload 12, 2) := by decide +kernel
theorem dL_law_371 : decode cL_law 371 = .ok (.ifCond .ne 15, 3) := by decide +kernel
theorem dL_law_374 : decode cL_law 374 = .ok (.aload_n 1, 1) := by decide +kernel
theorem dL_law_375 : decode cL_law 375 = .ok (.invokestatic 224, 3) := by decide +kernel
theorem dL_law_378 : decode cL_law 378 = .ok (.lload 10, 2) := by decide +kernel
theorem dL_law_380 : decode cL_law 380 = .ok (.lcmp, 1) := by decide +kernel
theorem dL_law_381 : decode cL_law 381 = .ok (.ifCond .eq 5, 3) := by decide +kernel
theorem dL_law_384 : decode cL_law 384 = .ok (.iconst 0, 1) := by decide +kernel
theorem dL_law_385 : decode cL_law 385 = .ok (.ireturn, 1) := by decide +kernel
theorem dL_law_386 : decode cL_law 386 = .ok (.iload 12, 2) := by decide +kernel
theorem dL_law_388 : decode cL_law 388 = .ok (.ifCond .ne 6, 3) := by decide +kernel
theorem dL_law_391 : decode cL_law 391 = .ok (.goto 100, 3) := by decide +kernel
theorem dL_law_394 : decode cL_law 394 = .ok (.iload 7, 2) := by decide +kernel
theorem dL_law_396 : decode cL_law 396 = .ok (.bipush 10, 2) := by decide +kernel
theorem dL_law_398 : decode cL_law 398 = .ok (.if_icmp .ne 34, 3) := by decide +kernel
theorem dL_law_401 : decode cL_law 401 = .ok (.iconst 1, 1) := by decide +kernel
theorem dL_law_402 : decode cL_law 402 = .ok (.istore 13, 2) := by decide +kernel
theorem dL_law_404 : decode cL_law 404 = .ok (.iload 13, 2) := by decide +kernel
theorem dL_law_406 : decode cL_law 406 = .ok (.bipush 10, 2) := by decide +kernel
theorem dL_law_408 : decode cL_law 408 = .ok (.if_icmp .ge 21, 3) := by decide +kernel
theorem dL_law_411 : decode cL_law 411 = .ok (.aload 6, 2) := by decide +kernel
theorem dL_law_413 : decode cL_law 413 = .ok (.iload 13, 2) := by decide +kernel
theorem dL_law_415 : decode cL_law 415 = .ok (.iconst 1, 1) := by decide +kernel
theorem dL_law_416 : decode cL_law 416 = .ok (.isub, 1) := by decide +kernel
theorem dL_law_417 : decode cL_law 417 = .ok (.aload 6, 2) := by decide +kernel
theorem dL_law_419 : decode cL_law 419 = .ok (.iload 13, 2) := by decide +kernel
theorem dL_law_421 : decode cL_law 421 = .ok (.laload, 1) := by decide +kernel
theorem dL_law_422 : decode cL_law 422 = .ok (.lastore, 1) := by decide +kernel
theorem dL_law_423 : decode cL_law 423 = .ok (.iinc 13 1, 3) := by decide +kernel
theorem dL_law_426 : decode cL_law 426 = .ok (.goto (-22), 3) := by decide +kernel
theorem dL_law_429 : decode cL_law 429 = .ok (.iinc 7 (-1), 3) := by decide +kernel
theorem dL_law_432 : decode cL_law 432 = .ok (.aload 6, 2) := by decide +kernel
theorem dL_law_434 : decode cL_law 434 = .ok (.iload 7, 2) := by decide +kernel
theorem dL_law_436 : decode cL_law 436 = .ok (.iinc 7 1, 3) := by decide +kernel
theorem dL_law_439 : decode cL_law 439 = .ok (.lload 10, 2) := by decide +kernel
theorem dL_law_441 : decode cL_law 441 = .ok (.lastore, 1) := by decide +kernel
theorem dL_law_442 : decode cL_law 442 = .ok (.aload_n 1, 1) := by decide +kernel
theorem dL_law_443 : decode cL_law 443 = .ok (.invokevirtual 263, 3) := by decide +kernel
theorem dL_law_446 : decode cL_law 446 = .ok (.iload 7, 2) := by decide +kernel
theorem dL_law_448 : decode cL_law 448 = .ok (.if_icmp .ne 41, 3) := by decide +kernel
theorem dL_law_451 : decode cL_law 451 = .ok (.aload_n 1, 1) := by decide +kernel
theorem dL_law_452 : decode cL_law 452 = .ok (.invokestatic 233, 3) := by decide +kernel
theorem dL_law_455 : decode cL_law 455 = .ok (.ifCond .eq 34, 3) := by decide +kernel
theorem dL_law_458 : decode cL_law 458 = .ok (.iload 8, 2) := by decide +kernel
theorem dL_law_460 : decode cL_law 460 = .ok (.iconst 2, 1) := by decide +kernel
theorem dL_law_461 : decode cL_law 461 = .ok (.irem, 1) := by decide +kernel
theorem dL_law_462 : decode cL_law 462 = .ok (.iconst 1, 1) := by decide +kernel
theorem dL_law_463 : decode cL_law 463 = .ok (.if_icmp .ne 28, 3) := by decide +kernel
theorem dL_law_466 : decode cL_law 466 = .ok (.iload 7, 2) := by decide +kernel
theorem dL_law_468 : decode cL_law 468 = .ok (.bipush 10, 2) := by decide +kernel
theorem dL_law_470 : decode cL_law 470 = .ok (.if_icmp .ge 21, 3) := by decide +kernel
theorem dL_law_473 : decode cL_law 473 = .ok (.aload_n 1, 1) := by decide +kernel
theorem dL_law_474 : decode cL_law 474 = .ok (.iconst 1, 1) := by decide +kernel
theorem dL_law_475 : decode cL_law 475 = .ok (.iload 9, 2) := by decide +kernel
theorem dL_law_477 : decode cL_law 477 = .ok (.bipush 20, 2) := by decide +kernel
theorem dL_law_479 : decode cL_law 479 = .ok (.invokestatic 27, 3) := by decide +kernel
theorem dL_law_482 : decode cL_law 482 = .ok (.iadd, 1) := by decide +kernel
theorem dL_law_483 : decode cL_law 483 = .ok (.invokestatic 266, 3) := by decide +kernel
theorem dL_law_486 : decode cL_law 486 = .ok (.ifCond .ne 5, 3) := by decide +kernel
theorem dL_law_489 : decode cL_law 489 = .ok (.iconst 0, 1) := by decide +kernel
theorem dL_law_490 : decode cL_law 490 = .ok (.ireturn, 1) := by decide +kernel
theorem dL_law_491 : decode cL_law 491 = .ok (.iinc 8 1, 3) := by decide +kernel
theorem dL_law_494 : decode cL_law 494 = .ok (.goto (-174), 3) := by decide +kernel
theorem dL_law_497 : decode cL_law 497 = .ok (.iload 7, 2) := by decide +kernel
theorem dL_law_499 : decode cL_law 499 = .ok (.iconst 1, 1) := by decide +kernel
theorem dL_law_500 : decode cL_law 500 = .ok (.isub, 1) := by decide +kernel
theorem dL_law_501 : decode cL_law 501 = .ok (.istore 8, 2) := by decide +kernel
theorem dL_law_503 : decode cL_law 503 = .ok (.iload 8, 2) := by decide +kernel
theorem dL_law_505 : decode cL_law 505 = .ok (.ifCond .lt 33, 3) := by decide +kernel
theorem dL_law_508 : decode cL_law 508 = .ok (.aload_n 1, 1) := by decide +kernel
theorem dL_law_509 : decode cL_law 509 = .ok (.invokevirtual 237, 3) := by decide +kernel
theorem dL_law_512 : decode cL_law 512 = .ok (.iload 8, 2) := by decide +kernel
theorem dL_law_514 : decode cL_law 514 = .ok (.if_icmp .ne 16, 3) := by decide +kernel
theorem dL_law_517 : decode cL_law 517 = .ok (.aload_n 1, 1) := by decide +kernel
theorem dL_law_518 : decode cL_law 518 = .ok (.invokestatic 224, 3) := by decide +kernel
theorem dL_law_521 : decode cL_law 521 = .ok (.aload 6, 2) := by decide +kernel
theorem dL_law_523 : decode cL_law 523 = .ok (.iload 8, 2) := by decide +kernel
theorem dL_law_525 : decode cL_law 525 = .ok (.laload, 1) := by decide +kernel
theorem dL_law_526 : decode cL_law 526 = .ok (.lcmp, 1) := by decide +kernel
theorem dL_law_527 : decode cL_law 527 = .ok (.ifCond .eq 5, 3) := by decide +kernel
theorem dL_law_530 : decode cL_law 530 = .ok (.iconst 0, 1) := by decide +kernel
theorem dL_law_531 : decode cL_law 531 = .ok (.ireturn, 1) := by decide +kernel
theorem dL_law_532 : decode cL_law 532 = .ok (.iinc 8 (-1), 3) := by decide +kernel
theorem dL_law_535 : decode cL_law 535 = .ok (.goto (-32), 3) := by decide +kernel
theorem dL_law_538 : decode cL_law 538 = .ok (.aload_n 1, 1) := by decide +kernel
theorem dL_law_539 : decode cL_law 539 = .ok (.invokevirtual 237, 3) := by decide +kernel
theorem dL_law_542 : decode cL_law 542 = .ok (.iconst (-1), 1) := by decide +kernel
theorem dL_law_543 : decode cL_law 543 = .ok (.if_icmp .ne 12, 3) := by decide +kernel
theorem dL_law_546 : decode cL_law 546 = .ok (.aload_n 1, 1) := by decide +kernel
theorem dL_law_547 : decode cL_law 547 = .ok (.bipush 40, 2) := by decide +kernel
theorem dL_law_549 : decode cL_law 549 = .ok (.invokestatic 266, 3) := by decide +kernel
theorem dL_law_552 : decode cL_law 552 = .ok (.ifCond .ne 5, 3) := by decide +kernel
theorem dL_law_555 : decode cL_law 555 = .ok (.iconst 0, 1) := by decide +kernel
theorem dL_law_556 : decode cL_law 556 = .ok (.ireturn, 1) := by decide +kernel
theorem dL_law_557 : decode cL_law 557 = .ok (.aload_n 1, 1) := by decide +kernel
theorem dL_law_558 : decode cL_law 558 = .ok (.invokestatic 233, 3) := by decide +kernel
theorem dL_law_561 : decode cL_law 561 = .ok (.ifCond .eq 31, 3) := by decide +kernel
theorem dL_law_564 : decode cL_law 564 = .ok (.aload_n 1, 1) := by decide +kernel
theorem dL_law_565 : decode cL_law 565 = .ok (.invokevirtual 270, 3) := by decide +kernel
theorem dL_law_568 : decode cL_law 568 = .ok (.ifCond .eq 24, 3) := by decide +kernel
theorem dL_law_571 : decode cL_law 571 = .ok (.aload_n 1, 1) := by decide +kernel
theorem dL_law_572 : decode cL_law 572 = .ok (.invokestatic 224, 3) := by decide +kernel
theorem dL_law_575 : decode cL_law 575 = .ok (.lload 4, 2) := by decide +kernel
theorem dL_law_577 : decode cL_law 577 = .ok (.lcmp, 1) := by decide +kernel
theorem dL_law_578 : decode cL_law 578 = .ok (.ifCond .ne 14, 3) := by decide +kernel
theorem dL_law_581 : decode cL_law 581 = .ok (.aload_n 1, 1) := by decide +kernel
theorem dL_law_582 : decode cL_law 582 = .ok (.invokevirtual 263, 3) := by decide +kernel
theorem dL_law_585 : decode cL_law 585 = .ok (.ifCond .ne 7, 3) := by decide +kernel
theorem dL_law_588 : decode cL_law 588 = .ok (.iconst 1, 1) := by decide +kernel
theorem dL_law_589 : decode cL_law 589 = .ok (.goto 4, 3) := by decide +kernel
theorem dL_law_592 : decode cL_law 592 = .ok (.iconst 0, 1) := by decide +kernel
theorem dL_law_593 : decode cL_law 593 = .ok (.ireturn, 1) := by decide +kernel
set_option maxRecDepth 1000000 in
set_option maxHeartbeats 4000000 in
theorem t_L_law_538 {P : gG → Prop} {d : Nat} {r : Int} {m9 : xM} {h9 : gH} (hd9 : 10 ≤ d) (C : ∀ Γ, P Γ → gX Γ lay_X RL cL_law 14 d h9) (Ln : Nat) (xs : Nat → Int) (w : Nat) (hR : ∀ Γ, P Γ → gRz Γ lay_X cL_law r m9 h9) (hZ : ∀ Γ, P Γ → gS Γ Ln xs) (x4 : Int) (m : xM) (hp : gH) (h : f_L_law_538 Ln xs w x4 m hp = some (r, m9, h9)) : gJ P lay_X 14 538 [(1, .inr (.inr (some 0))), (4, .inr (.inl x4))] [] m hp h9 := by
  unfold f_L_law_538 at h
  refine g_aload_n C dL_law_538 rfl ?_
  obtain ⟨q36, hq36, h⟩ := x_bind h
  refine g_callX C dL_law_539 (xin_41 _ (List.mem_of_getElem? (i := 6) rfl)) xy_X10_undo xi_X10_undo xs_X10_undo (by omega) (by decide) (b := 0) (ci := 11) rfl ⟨_, _, rfl⟩ (av := []) rfl (Nat.le_of_ble_eq_true rfl) (fun l => c_X_undo l _ q36.1 q36.2 hq36) rfl ?_
  refine g_iconst C dL_law_542 ?_
  refine g_icmp_ne C 555 dL_law_543 (by decide) h (fun h => ?_) (fun h => ?_)
  · refine g_iconst C dL_law_555 ?_
    exact g_zreturn hR (by decide) dL_law_556 (by cases h; exact ⟨rfl, rfl, rfl⟩)
  · refine g_aload_n C dL_law_546 rfl ?_
    refine g_bipush C dL_law_547 (by decide) ?_
    obtain ⟨q37, hq37, h⟩ := x_bind h
    refine g_callS C dL_law_549 (xin_40 _ (List.mem_of_getElem? (i := 23) rfl)) xy_L_isPassed xt_L_isPassed (by omega) (by decide) (av := [.inr (.inr (some 0)), .inl 40]) rfl (Nat.le_of_ble_eq_true rfl) gle.rf (c_L_isPassed hq37) rfl ?_
    refine g_if_ne C 557 dL_law_552 (by decide) h (fun h => ?_) (fun h => ?_)
    · refine g_aload_n C dL_law_557 rfl ?_
      obtain ⟨q38, hq38, h⟩ := x_bind h
      refine g_callS C dL_law_558 (xin_35 _ (List.mem_of_getElem? (i := 0) rfl)) xy_L_isSound xt_L_isSound (by omega) (by decide) (av := [.inr (.inr (some 0))]) rfl (Nat.le_of_ble_eq_true rfl) gle.rf (c_L_isSound hq38) rfl ?_
      refine g_if_eq C 592 dL_law_561 (by decide) h (fun h => ?_) (fun h => ?_)
      · refine g_iconst C dL_law_592 ?_
        exact g_zreturn hR (by decide) dL_law_593 (by cases h; exact ⟨rfl, rfl, rfl⟩)
      · refine g_aload_n C dL_law_564 rfl ?_
        obtain ⟨q39, hq39, h⟩ := x_bind h
        refine g_callX C dL_law_565 (xin_41 _ (List.mem_of_getElem? (i := 10) rfl)) xy_X10_restoreSnapshot xi_X10_restoreSnapshot xs_X10_restoreSnapshot (by omega) (by decide) (b := 0) (ci := 11) rfl ⟨_, _, rfl⟩ (av := []) rfl (Nat.le_of_ble_eq_true rfl) (fun l => c_X_restoreSnapshot l _ q39.1 q39.2 hq39) rfl ?_
        refine g_if_eq C 592 dL_law_568 (by decide) h (fun h => ?_) (fun h => ?_)
        · refine g_iconst C dL_law_592 ?_
          exact g_zreturn hR (by decide) dL_law_593 (by cases h; exact ⟨rfl, rfl, rfl⟩)
        · refine g_aload_n C dL_law_571 rfl ?_
          obtain ⟨q40, hq40, h⟩ := x_bind h
          refine g_callS C dL_law_572 (xin_35 _ (List.mem_of_getElem? (i := 18) rfl)) xy_L_all xt_L_all (by omega) (by decide) (av := [.inr (.inr (some 0))]) rfl (Nat.le_of_ble_eq_true rfl) gle.rf (c_L_all _ hq40) rfl ?_
          refine g_lload C dL_law_575 rfl ?_
          refine g_lcmp C dL_law_577 ?_
          refine g_if_ne C 592 dL_law_578 (by decide) h (fun h => ?_) (fun h => ?_)
          · refine g_iconst C dL_law_592 ?_
            exact g_zreturn hR (by decide) dL_law_593 (by cases h; exact ⟨rfl, rfl, rfl⟩)
          · refine g_aload_n C dL_law_581 rfl ?_
            obtain ⟨q41, hq41, h⟩ := x_bind h
            refine g_callX C dL_law_582 (xin_40 _ (List.mem_of_getElem? (i := 19) rfl)) xy_X10_undoCount xi_X10_undoCount xs_X10_undoCount (by omega) (by decide) (b := 0) (ci := 11) rfl ⟨_, _, rfl⟩ (av := []) rfl (Nat.le_of_ble_eq_true rfl) (fun l => c_X_undoCount l _ _ hq41) rfl ?_
            refine g_if_ne C 592 dL_law_585 (by decide) h (fun h => ?_) (fun h => ?_)
            · refine g_iconst C dL_law_592 ?_
              exact g_zreturn hR (by decide) dL_law_593 (by cases h; exact ⟨rfl, rfl, rfl⟩)
            · refine g_iconst C dL_law_588 ?_
              refine g_goto C 593 dL_law_589 (by decide) ?_
              exact g_zreturn hR (by decide) dL_law_593 (by cases h; exact ⟨rfl, rfl, rfl⟩)
    · refine g_iconst C dL_law_555 ?_
      exact g_zreturn hR (by decide) dL_law_556 (by cases h; exact ⟨rfl, rfl, rfl⟩)
set_option maxRecDepth 1000000 in
set_option maxHeartbeats 4000000 in
theorem t_L_law_503 {P : gG → Prop} {d : Nat} {r : Int} {m9 : xM} {h9 : gH} (hd9 : 10 ≤ d) (C : ∀ Γ, P Γ → gX Γ lay_X RL cL_law 14 d h9) (Ln : Nat) (xs : Nat → Int) (w : Nat) (hR : ∀ Γ, P Γ → gRz Γ lay_X cL_law r m9 h9) (hZ : ∀ Γ, P Γ → gS Γ Ln xs) : ∀ (n : Nat) (x4 : Int) (x6 : Nat) (x8 : Int) (m : xM) (hp : gH), f_L_law_503 Ln xs w n x4 x6 x8 m hp = some (r, m9, h9) → gJ P lay_X 14 503 [(1, .inr (.inr (some 0))), (4, .inr (.inl x4)), (6, .inr (.inr (some x6))), (8, .inl x8)] [] m hp h9 := by
  intro n
  induction n with
  | zero => intro _ _ _ _ _ h; cases h
  | succ n ih =>
    intro x4 x6 x8 m hp h
    rw [f_L_law_503] at h
    refine g_iload C dL_law_503 rfl ?_
    refine g_if_lt C 538 dL_law_505 (by decide) h (fun h => ?_) (fun h => ?_)
    · refine g_loc [(1, .inr (.inr (some 0))), (4, .inr (.inl x4))] ⟨rfl, rfl, trivial⟩ ?_
      exact t_L_law_538 hd9 C _ _ _ hR hZ _ _ _ h
    · refine g_aload_n C dL_law_508 rfl ?_
      obtain ⟨q42, hq42, h⟩ := x_bind h
      refine g_callX C dL_law_509 (xin_41 _ (List.mem_of_getElem? (i := 6) rfl)) xy_X10_undo xi_X10_undo xs_X10_undo (by omega) (by decide) (b := 0) (ci := 11) rfl ⟨_, _, rfl⟩ (av := []) rfl (Nat.le_of_ble_eq_true rfl) (fun l => c_X_undo l _ q42.1 q42.2 hq42) rfl ?_
      refine g_iload C dL_law_512 rfl ?_
      refine g_icmp_ne C 530 dL_law_514 (by decide) h (fun h => ?_) (fun h => ?_)
      · refine g_iconst C dL_law_530 ?_
        exact g_zreturn hR (by decide) dL_law_531 (by cases h; exact ⟨rfl, rfl, rfl⟩)
      · refine g_aload_n C dL_law_517 rfl ?_
        obtain ⟨q43, hq43, h⟩ := x_bind h
        refine g_callS C dL_law_518 (xin_35 _ (List.mem_of_getElem? (i := 18) rfl)) xy_L_all xt_L_all (by omega) (by decide) (av := [.inr (.inr (some 0))]) rfl (Nat.le_of_ble_eq_true rfl) gle.rf (c_L_all _ hq43) rfl ?_
        refine g_aload C dL_law_521 rfl ?_
        refine g_iload C dL_law_523 rfl ?_
        obtain ⟨q44, hq44, h⟩ := x_bind h
        refine g_laload C dL_law_525 hq44 ?_
        refine g_lcmp C dL_law_526 ?_
        refine g_if_eq C 532 dL_law_527 (by decide) h (fun h => ?_) (fun h => ?_)
        · refine g_iinc C dL_law_532 (by decide) rfl ?_
          refine g_goto C 503 dL_law_535 (by decide) ?_
          refine g_loc [(1, .inr (.inr (some 0))), (4, .inr (.inl x4)), (6, .inr (.inr (some x6))), (8, .inl (x8 + (-1)))] ⟨rfl, rfl, rfl, rfl, trivial⟩ ?_
          exact ih _ _ _ _ _ h
        · refine g_iconst C dL_law_530 ?_
          exact g_zreturn hR (by decide) dL_law_531 (by cases h; exact ⟨rfl, rfl, rfl⟩)
set_option maxRecDepth 1000000 in
set_option maxHeartbeats 4000000 in
theorem t_L_law_497 {P : gG → Prop} {d : Nat} {r : Int} {m9 : xM} {h9 : gH} (hd9 : 10 ≤ d) (C : ∀ Γ, P Γ → gX Γ lay_X RL cL_law 14 d h9) (Ln : Nat) (xs : Nat → Int) (w : Nat) (hR : ∀ Γ, P Γ → gRz Γ lay_X cL_law r m9 h9) (hZ : ∀ Γ, P Γ → gS Γ Ln xs) (x4 : Int) (x6 : Nat) (x7 : Int) (m : xM) (hp : gH) (h : f_L_law_497 Ln xs w x4 x6 x7 m hp = some (r, m9, h9)) : gJ P lay_X 14 497 [(1, .inr (.inr (some 0))), (4, .inr (.inl x4)), (6, .inr (.inr (some x6))), (7, .inl x7)] [] m hp h9 := by
  unfold f_L_law_497 at h
  refine g_iload C dL_law_497 rfl ?_
  refine g_iconst C dL_law_499 ?_
  refine g_isub C dL_law_500 ?_
  refine g_istore C dL_law_501 (by decide) ?_
  refine g_loc [(1, .inr (.inr (some 0))), (4, .inr (.inl x4)), (6, .inr (.inr (some x6))), (8, .inl (x7 - 1))] ⟨rfl, rfl, rfl, rfl, trivial⟩ ?_
  exact t_L_law_503 hd9 C _ _ _ hR hZ fu _ _ _ _ _ h
set_option maxRecDepth 1000000 in
set_option maxHeartbeats 4000000 in
theorem t_L_law_491 {P : gG → Prop} {d : Nat} {r : Int} {m9 : xM} {h9 : gH} (hd9 : 10 ≤ d) (C : ∀ Γ, P Γ → gX Γ lay_X RL cL_law 14 d h9) (Ln : Nat) (xs : Nat → Int) (w : Nat) (hR : ∀ Γ, P Γ → gRz Γ lay_X cL_law r m9 h9) (hZ : ∀ Γ, P Γ → gS Γ Ln xs) {k320 : Nat → Int → Nat → Int → Int → xM → gH → Option (Int × xM × gH)} (hk320 : ∀ (x3 : Nat) (x4 : Int) (x6 : Nat) (x7 : Int) (x8 : Int) (m : xM) (hp : gH), k320 x3 x4 x6 x7 x8 m hp = some (r, m9, h9) → gJ P lay_X 14 320 [(0, .inr (.inr (some 1300))), (1, .inr (.inr (some 0))), (2, .inr (.inr (some w))), (3, .inr (.inr (some x3))), (4, .inr (.inl x4)), (6, .inr (.inr (some x6))), (7, .inl x7), (8, .inl x8)] [] m hp h9) (x3 : Nat) (x4 : Int) (x6 : Nat) (x7 : Int) (x8 : Int) (m : xM) (hp : gH) (h : f_L_law_491 Ln xs w k320 x3 x4 x6 x7 x8 m hp = some (r, m9, h9)) : gJ P lay_X 14 491 [(0, .inr (.inr (some 1300))), (1, .inr (.inr (some 0))), (2, .inr (.inr (some w))), (3, .inr (.inr (some x3))), (4, .inr (.inl x4)), (6, .inr (.inr (some x6))), (7, .inl x7), (8, .inl x8)] [] m hp h9 := by
  unfold f_L_law_491 at h
  refine g_iinc C dL_law_491 (by decide) rfl ?_
  refine g_goto C 320 dL_law_494 (by decide) ?_
  refine g_loc [(0, .inr (.inr (some 1300))), (1, .inr (.inr (some 0))), (2, .inr (.inr (some w))), (3, .inr (.inr (some x3))), (4, .inr (.inl x4)), (6, .inr (.inr (some x6))), (7, .inl x7), (8, .inl (x8 + 1))] ⟨rfl, rfl, rfl, rfl, rfl, rfl, rfl, rfl, trivial⟩ ?_
  exact hk320 _ _ _ _ _ _ _ h
set_option maxRecDepth 1000000 in
set_option maxHeartbeats 4000000 in
theorem t_L_law_432 {P : gG → Prop} {d : Nat} {r : Int} {m9 : xM} {h9 : gH} (hd9 : 10 ≤ d) (C : ∀ Γ, P Γ → gX Γ lay_X RL cL_law 14 d h9) (Ln : Nat) (xs : Nat → Int) (w : Nat) (hR : ∀ Γ, P Γ → gRz Γ lay_X cL_law r m9 h9) (hZ : ∀ Γ, P Γ → gS Γ Ln xs) {k320 : Nat → Int → Nat → Int → Int → xM → gH → Option (Int × xM × gH)} (hk320 : ∀ (x3 : Nat) (x4 : Int) (x6 : Nat) (x7 : Int) (x8 : Int) (m : xM) (hp : gH), k320 x3 x4 x6 x7 x8 m hp = some (r, m9, h9) → gJ P lay_X 14 320 [(0, .inr (.inr (some 1300))), (1, .inr (.inr (some 0))), (2, .inr (.inr (some w))), (3, .inr (.inr (some x3))), (4, .inr (.inl x4)), (6, .inr (.inr (some x6))), (7, .inl x7), (8, .inl x8)] [] m hp h9) (x3 : Nat) (x4 : Int) (x6 : Nat) (x7 : Int) (x8 : Int) (x9 : Int) (x10 : Int) (m : xM) (hp : gH) (h : f_L_law_432 Ln xs w k320 x3 x4 x6 x7 x8 x9 x10 m hp = some (r, m9, h9)) : gJ P lay_X 14 432 [(0, .inr (.inr (some 1300))), (1, .inr (.inr (some 0))), (2, .inr (.inr (some w))), (3, .inr (.inr (some x3))), (4, .inr (.inl x4)), (6, .inr (.inr (some x6))), (7, .inl x7), (8, .inl x8), (9, .inl x9), (10, .inr (.inl x10))] [] m hp h9 := by
  unfold f_L_law_432 at h
  refine g_aload C dL_law_432 rfl ?_
  refine g_iload C dL_law_434 rfl ?_
  refine g_iinc C dL_law_436 (by decide) rfl ?_
  refine g_lload C dL_law_439 rfl ?_
  obtain ⟨q48, hq48, h⟩ := x_bind h
  refine g_lastore C dL_law_441 hq48 ?_
  refine g_aload_n C dL_law_442 rfl ?_
  obtain ⟨q49, hq49, h⟩ := x_bind h
  refine g_callX C dL_law_443 (xin_40 _ (List.mem_of_getElem? (i := 19) rfl)) xy_X10_undoCount xi_X10_undoCount xs_X10_undoCount (by omega) (by decide) (b := 0) (ci := 11) rfl ⟨_, _, rfl⟩ (av := []) rfl (Nat.le_of_ble_eq_true rfl) (fun l => c_X_undoCount l _ _ hq49) rfl ?_
  refine g_iload C dL_law_446 rfl ?_
  refine g_icmp_ne C 489 dL_law_448 (by decide) h (fun h => ?_) (fun h => ?_)
  · refine g_iconst C dL_law_489 ?_
    exact g_zreturn hR (by decide) dL_law_490 (by cases h; exact ⟨rfl, rfl, rfl⟩)
  · refine g_aload_n C dL_law_451 rfl ?_
    obtain ⟨q50, hq50, h⟩ := x_bind h
    refine g_callS C dL_law_452 (xin_35 _ (List.mem_of_getElem? (i := 0) rfl)) xy_L_isSound xt_L_isSound (by omega) (by decide) (av := [.inr (.inr (some 0))]) rfl (Nat.le_of_ble_eq_true rfl) gle.rf (c_L_isSound hq50) rfl ?_
    refine g_if_eq C 489 dL_law_455 (by decide) h (fun h => ?_) (fun h => ?_)
    · refine g_iconst C dL_law_489 ?_
      exact g_zreturn hR (by decide) dL_law_490 (by cases h; exact ⟨rfl, rfl, rfl⟩)
    · refine g_iload C dL_law_458 rfl ?_
      refine g_iconst C dL_law_460 ?_
      refine g_irem C dL_law_461 h (fun h9 h => ?_)
      refine g_iconst C dL_law_462 ?_
      refine g_icmp_ne C 491 dL_law_463 (by decide) h (fun h => ?_) (fun h => ?_)
      · refine g_loc [(0, .inr (.inr (some 1300))), (1, .inr (.inr (some 0))), (2, .inr (.inr (some w))), (3, .inr (.inr (some x3))), (4, .inr (.inl x4)), (6, .inr (.inr (some x6))), (7, .inl (x7 + 1)), (8, .inl x8)] ⟨rfl, rfl, rfl, rfl, rfl, rfl, rfl, rfl, trivial⟩ ?_
        exact t_L_law_491 hd9 C _ _ _ hR hZ hk320 _ _ _ _ _ _ _ h
      · refine g_iload C dL_law_466 rfl ?_
        refine g_bipush C dL_law_468 (by decide) ?_
        refine g_icmp_ge C 491 dL_law_470 (by decide) h (fun h => ?_) (fun h => ?_)
        · refine g_loc [(0, .inr (.inr (some 1300))), (1, .inr (.inr (some 0))), (2, .inr (.inr (some w))), (3, .inr (.inr (some x3))), (4, .inr (.inl x4)), (6, .inr (.inr (some x6))), (7, .inl (x7 + 1)), (8, .inl x8)] ⟨rfl, rfl, rfl, rfl, rfl, rfl, rfl, rfl, trivial⟩ ?_
          exact t_L_law_491 hd9 C _ _ _ hR hZ hk320 _ _ _ _ _ _ _ h
        · refine g_aload_n C dL_law_473 rfl ?_
          refine g_iconst C dL_law_474 ?_
          refine g_iload C dL_law_475 rfl ?_
          refine g_bipush C dL_law_477 (by decide) ?_
          obtain ⟨q51, hq51, h⟩ := x_bind h
          refine g_callS C dL_law_479 (xin_34 _ (List.mem_of_getElem? (i := 11) rfl)) xy_L_most xt_L_most (by omega) (by decide) (av := [.inl x9, .inl 20]) rfl (Nat.le_of_ble_eq_true rfl) gle.rf (c_L_most _ hq51) rfl ?_
          refine g_iadd C dL_law_482 ?_
          obtain ⟨q52, hq52, h⟩ := x_bind h
          refine g_callS C dL_law_483 (xin_40 _ (List.mem_of_getElem? (i := 23) rfl)) xy_L_isPassed xt_L_isPassed (by omega) (by decide) (av := [.inr (.inr (some 0)), .inl (1 + q51)]) rfl (Nat.le_of_ble_eq_true rfl) gle.rf (c_L_isPassed hq52) rfl ?_
          refine g_if_ne C 491 dL_law_486 (by decide) h (fun h => ?_) (fun h => ?_)
          · refine g_loc [(0, .inr (.inr (some 1300))), (1, .inr (.inr (some 0))), (2, .inr (.inr (some w))), (3, .inr (.inr (some x3))), (4, .inr (.inl x4)), (6, .inr (.inr (some x6))), (7, .inl (x7 + 1)), (8, .inl x8)] ⟨rfl, rfl, rfl, rfl, rfl, rfl, rfl, rfl, trivial⟩ ?_
            exact t_L_law_491 hd9 C _ _ _ hR hZ hk320 _ _ _ _ _ _ _ h
          · refine g_iconst C dL_law_489 ?_
            exact g_zreturn hR (by decide) dL_law_490 (by cases h; exact ⟨rfl, rfl, rfl⟩)
set_option maxRecDepth 1000000 in
set_option maxHeartbeats 4000000 in
theorem t_L_law_429 {P : gG → Prop} {d : Nat} {r : Int} {m9 : xM} {h9 : gH} (hd9 : 10 ≤ d) (C : ∀ Γ, P Γ → gX Γ lay_X RL cL_law 14 d h9) (Ln : Nat) (xs : Nat → Int) (w : Nat) (hR : ∀ Γ, P Γ → gRz Γ lay_X cL_law r m9 h9) (hZ : ∀ Γ, P Γ → gS Γ Ln xs) {k320 : Nat → Int → Nat → Int → Int → xM → gH → Option (Int × xM × gH)} (hk320 : ∀ (x3 : Nat) (x4 : Int) (x6 : Nat) (x7 : Int) (x8 : Int) (m : xM) (hp : gH), k320 x3 x4 x6 x7 x8 m hp = some (r, m9, h9) → gJ P lay_X 14 320 [(0, .inr (.inr (some 1300))), (1, .inr (.inr (some 0))), (2, .inr (.inr (some w))), (3, .inr (.inr (some x3))), (4, .inr (.inl x4)), (6, .inr (.inr (some x6))), (7, .inl x7), (8, .inl x8)] [] m hp h9) (x3 : Nat) (x4 : Int) (x6 : Nat) (x7 : Int) (x8 : Int) (x9 : Int) (x10 : Int) (m : xM) (hp : gH) (h : f_L_law_429 Ln xs w k320 x3 x4 x6 x7 x8 x9 x10 m hp = some (r, m9, h9)) : gJ P lay_X 14 429 [(0, .inr (.inr (some 1300))), (1, .inr (.inr (some 0))), (2, .inr (.inr (some w))), (3, .inr (.inr (some x3))), (4, .inr (.inl x4)), (6, .inr (.inr (some x6))), (7, .inl x7), (8, .inl x8), (9, .inl x9), (10, .inr (.inl x10))] [] m hp h9 := by
  unfold f_L_law_429 at h
  refine g_iinc C dL_law_429 (by decide) rfl ?_
  refine g_loc [(0, .inr (.inr (some 1300))), (1, .inr (.inr (some 0))), (2, .inr (.inr (some w))), (3, .inr (.inr (some x3))), (4, .inr (.inl x4)), (6, .inr (.inr (some x6))), (7, .inl (x7 + (-1))), (8, .inl x8), (9, .inl x9), (10, .inr (.inl x10))] ⟨rfl, rfl, rfl, rfl, rfl, rfl, rfl, rfl, rfl, rfl, trivial⟩ ?_
  exact t_L_law_432 hd9 C _ _ _ hR hZ hk320 _ _ _ _ _ _ _ _ _ h
set_option maxRecDepth 1000000 in
set_option maxHeartbeats 4000000 in
theorem t_L_law_404 {P : gG → Prop} {d : Nat} {r : Int} {m9 : xM} {h9 : gH} (hd9 : 10 ≤ d) (C : ∀ Γ, P Γ → gX Γ lay_X RL cL_law 14 d h9) (Ln : Nat) (xs : Nat → Int) (w : Nat) (hR : ∀ Γ, P Γ → gRz Γ lay_X cL_law r m9 h9) (hZ : ∀ Γ, P Γ → gS Γ Ln xs) {k320 : Nat → Int → Nat → Int → Int → xM → gH → Option (Int × xM × gH)} (hk320 : ∀ (x3 : Nat) (x4 : Int) (x6 : Nat) (x7 : Int) (x8 : Int) (m : xM) (hp : gH), k320 x3 x4 x6 x7 x8 m hp = some (r, m9, h9) → gJ P lay_X 14 320 [(0, .inr (.inr (some 1300))), (1, .inr (.inr (some 0))), (2, .inr (.inr (some w))), (3, .inr (.inr (some x3))), (4, .inr (.inl x4)), (6, .inr (.inr (some x6))), (7, .inl x7), (8, .inl x8)] [] m hp h9) : ∀ (n : Nat) (x3 : Nat) (x4 : Int) (x6 : Nat) (x7 : Int) (x8 : Int) (x9 : Int) (x10 : Int) (x13 : Int) (m : xM) (hp : gH), f_L_law_404 Ln xs w k320 n x3 x4 x6 x7 x8 x9 x10 x13 m hp = some (r, m9, h9) → gJ P lay_X 14 404 [(0, .inr (.inr (some 1300))), (1, .inr (.inr (some 0))), (2, .inr (.inr (some w))), (3, .inr (.inr (some x3))), (4, .inr (.inl x4)), (6, .inr (.inr (some x6))), (7, .inl x7), (8, .inl x8), (9, .inl x9), (10, .inr (.inl x10)), (13, .inl x13)] [] m hp h9 := by
  intro n
  induction n with
  | zero => intro _ _ _ _ _ _ _ _ _ _ h; cases h
  | succ n ih =>
    intro x3 x4 x6 x7 x8 x9 x10 x13 m hp h
    rw [f_L_law_404] at h
    refine g_iload C dL_law_404 rfl ?_
    refine g_bipush C dL_law_406 (by decide) ?_
    refine g_icmp_ge C 429 dL_law_408 (by decide) h (fun h => ?_) (fun h => ?_)
    · refine g_loc [(0, .inr (.inr (some 1300))), (1, .inr (.inr (some 0))), (2, .inr (.inr (some w))), (3, .inr (.inr (some x3))), (4, .inr (.inl x4)), (6, .inr (.inr (some x6))), (7, .inl x7), (8, .inl x8), (9, .inl x9), (10, .inr (.inl x10))] ⟨rfl, rfl, rfl, rfl, rfl, rfl, rfl, rfl, rfl, rfl, trivial⟩ ?_
      exact t_L_law_429 hd9 C _ _ _ hR hZ hk320 _ _ _ _ _ _ _ _ _ h
    · refine g_aload C dL_law_411 rfl ?_
      refine g_iload C dL_law_413 rfl ?_
      refine g_iconst C dL_law_415 ?_
      refine g_isub C dL_law_416 ?_
      refine g_aload C dL_law_417 rfl ?_
      refine g_iload C dL_law_419 rfl ?_
      obtain ⟨q53, hq53, h⟩ := x_bind h
      refine g_laload C dL_law_421 hq53 ?_
      obtain ⟨q54, hq54, h⟩ := x_bind h
      refine g_lastore C dL_law_422 hq54 ?_
      refine g_iinc C dL_law_423 (by decide) rfl ?_
      refine g_goto C 404 dL_law_426 (by decide) ?_
      refine g_loc [(0, .inr (.inr (some 1300))), (1, .inr (.inr (some 0))), (2, .inr (.inr (some w))), (3, .inr (.inr (some x3))), (4, .inr (.inl x4)), (6, .inr (.inr (some x6))), (7, .inl x7), (8, .inl x8), (9, .inl x9), (10, .inr (.inl x10)), (13, .inl (x13 + 1))] ⟨rfl, rfl, rfl, rfl, rfl, rfl, rfl, rfl, rfl, rfl, rfl, trivial⟩ ?_
      exact ih _ _ _ _ _ _ _ _ _ _ h
set_option maxRecDepth 1000000 in
set_option maxHeartbeats 4000000 in
theorem t_L_law_386 {P : gG → Prop} {d : Nat} {r : Int} {m9 : xM} {h9 : gH} (hd9 : 10 ≤ d) (C : ∀ Γ, P Γ → gX Γ lay_X RL cL_law 14 d h9) (Ln : Nat) (xs : Nat → Int) (w : Nat) (hR : ∀ Γ, P Γ → gRz Γ lay_X cL_law r m9 h9) (hZ : ∀ Γ, P Γ → gS Γ Ln xs) {k320 : Nat → Int → Nat → Int → Int → xM → gH → Option (Int × xM × gH)} (hk320 : ∀ (x3 : Nat) (x4 : Int) (x6 : Nat) (x7 : Int) (x8 : Int) (m : xM) (hp : gH), k320 x3 x4 x6 x7 x8 m hp = some (r, m9, h9) → gJ P lay_X 14 320 [(0, .inr (.inr (some 1300))), (1, .inr (.inr (some 0))), (2, .inr (.inr (some w))), (3, .inr (.inr (some x3))), (4, .inr (.inl x4)), (6, .inr (.inr (some x6))), (7, .inl x7), (8, .inl x8)] [] m hp h9) (x3 : Nat) (x4 : Int) (x6 : Nat) (x7 : Int) (x8 : Int) (x9 : Int) (x10 : Int) (x12 : Int) (m : xM) (hp : gH) (h : f_L_law_386 Ln xs w k320 x3 x4 x6 x7 x8 x9 x10 x12 m hp = some (r, m9, h9)) : gJ P lay_X 14 386 [(0, .inr (.inr (some 1300))), (1, .inr (.inr (some 0))), (2, .inr (.inr (some w))), (3, .inr (.inr (some x3))), (4, .inr (.inl x4)), (6, .inr (.inr (some x6))), (7, .inl x7), (8, .inl x8), (9, .inl x9), (10, .inr (.inl x10)), (12, .inl x12)] [] m hp h9 := by
  unfold f_L_law_386 at h
  refine g_iload C dL_law_386 rfl ?_
  refine g_if_ne C 394 dL_law_388 (by decide) h (fun h => ?_) (fun h => ?_)
  · refine g_iload C dL_law_394 rfl ?_
    refine g_bipush C dL_law_396 (by decide) ?_
    refine g_icmp_ne C 432 dL_law_398 (by decide) h (fun h => ?_) (fun h => ?_)
    · refine g_loc [(0, .inr (.inr (some 1300))), (1, .inr (.inr (some 0))), (2, .inr (.inr (some w))), (3, .inr (.inr (some x3))), (4, .inr (.inl x4)), (6, .inr (.inr (some x6))), (7, .inl x7), (8, .inl x8), (9, .inl x9), (10, .inr (.inl x10))] ⟨rfl, rfl, rfl, rfl, rfl, rfl, rfl, rfl, rfl, rfl, trivial⟩ ?_
      exact t_L_law_432 hd9 C _ _ _ hR hZ hk320 _ _ _ _ _ _ _ _ _ h
    · refine g_iconst C dL_law_401 ?_
      refine g_istore C dL_law_402 (by decide) ?_
      refine g_loc [(0, .inr (.inr (some 1300))), (1, .inr (.inr (some 0))), (2, .inr (.inr (some w))), (3, .inr (.inr (some x3))), (4, .inr (.inl x4)), (6, .inr (.inr (some x6))), (7, .inl x7), (8, .inl x8), (9, .inl x9), (10, .inr (.inl x10)), (13, .inl 1)] ⟨rfl, rfl, rfl, rfl, rfl, rfl, rfl, rfl, rfl, rfl, rfl, trivial⟩ ?_
      exact t_L_law_404 hd9 C _ _ _ hR hZ hk320 fu _ _ _ _ _ _ _ _ _ _ h
  · refine g_goto C 491 dL_law_391 (by decide) ?_
    refine g_loc [(0, .inr (.inr (some 1300))), (1, .inr (.inr (some 0))), (2, .inr (.inr (some w))), (3, .inr (.inr (some x3))), (4, .inr (.inl x4)), (6, .inr (.inr (some x6))), (7, .inl x7), (8, .inl x8)] ⟨rfl, rfl, rfl, rfl, rfl, rfl, rfl, rfl, trivial⟩ ?_
    exact t_L_law_491 hd9 C _ _ _ hR hZ hk320 _ _ _ _ _ _ _ h
set_option maxRecDepth 1000000 in
set_option maxHeartbeats 4000000 in
theorem t_L_law_320 {P : gG → Prop} {d : Nat} {r : Int} {m9 : xM} {h9 : gH} (hd9 : 10 ≤ d) (C : ∀ Γ, P Γ → gX Γ lay_X RL cL_law 14 d h9) (Ln : Nat) (xs : Nat → Int) (w : Nat) (hR : ∀ Γ, P Γ → gRz Γ lay_X cL_law r m9 h9) (hZ : ∀ Γ, P Γ → gS Γ Ln xs) : ∀ (n : Nat) (x3 : Nat) (x4 : Int) (x6 : Nat) (x7 : Int) (x8 : Int) (m : xM) (hp : gH), f_L_law_320 Ln xs w n x3 x4 x6 x7 x8 m hp = some (r, m9, h9) → gJ P lay_X 14 320 [(0, .inr (.inr (some 1300))), (1, .inr (.inr (some 0))), (2, .inr (.inr (some w))), (3, .inr (.inr (some x3))), (4, .inr (.inl x4)), (6, .inr (.inr (some x6))), (7, .inl x7), (8, .inl x8)] [] m hp h9 := by
  intro n
  induction n with
  | zero => intro _ _ _ _ _ _ _ h; cases h
  | succ n ih =>
    intro x3 x4 x6 x7 x8 m hp h
    rw [f_L_law_320] at h
    refine g_iload C dL_law_320 rfl ?_
    refine g_bipush C dL_law_322 (by decide) ?_
    refine g_icmp_ge C 497 dL_law_324 (by decide) h (fun h => ?_) (fun h => ?_)
    · refine g_loc [(1, .inr (.inr (some 0))), (4, .inr (.inl x4)), (6, .inr (.inr (some x6))), (7, .inl x7)] ⟨rfl, rfl, rfl, rfl, trivial⟩ ?_
      exact t_L_law_497 hd9 C _ _ _ hR hZ _ _ _ _ _ h
    · refine g_aload_n C dL_law_327 rfl ?_
      refine g_iconst C dL_law_328 ?_
      refine g_iload C dL_law_329 rfl ?_
      refine g_bipush C dL_law_331 (by decide) ?_
      refine g_irem C dL_law_333 h (fun h9 h => ?_)
      refine g_iadd C dL_law_334 ?_
      obtain ⟨q45, hq45, h⟩ := x_bind h
      refine g_callSS C hZ dL_law_335 (xin_34 _ (List.mem_of_getElem? (i := 8) rfl)) xy_L_cell xt_L_cell (by omega) (by decide) (av := [.inr (.inr (some 1300)), .inl (2 + (xirem x8 29))]) rfl (Nat.le_of_ble_eq_true rfl) gle.rf (c_L_cell _ hq45) rfl ?_
      refine g_iload C dL_law_338 rfl ?_
      refine g_bipush C dL_law_340 (by decide) ?_
      refine g_idiv C dL_law_342 h (fun h9 h => ?_)
      refine g_iconst C dL_law_343 ?_
      refine g_imul C dL_law_344 ?_
      refine g_ishr C dL_law_345 ?_
      refine g_istore C dL_law_346 (by decide) ?_
      refine g_aload_n C dL_law_348 rfl ?_
      obtain ⟨q46, hq46, h⟩ := x_bind h
      refine g_callS C dL_law_349 (xin_35 _ (List.mem_of_getElem? (i := 18) rfl)) xy_L_all xt_L_all (by omega) (by decide) (av := [.inr (.inr (some 0))]) rfl (Nat.le_of_ble_eq_true rfl) gle.rf (c_L_all _ hq46) rfl ?_
      refine g_lstore C dL_law_352 (by decide) ?_
      refine g_aload_n C dL_law_354 rfl ?_
      refine g_aload_n C dL_law_355 rfl ?_
      refine g_aload_n C dL_law_356 rfl ?_
      refine g_iload C dL_law_357 rfl ?_
      obtain ⟨q47, hq47, h⟩ := x_bind h
      refine g_callS C dL_law_359 (xin_35 _ (List.mem_of_getElem? (i := 22) rfl)) xy_L_act xt_L_act (by omega) (by decide) (av := [.inr (.inr (some 0)), .inr (.inr (some w)), .inr (.inr (some x3)), .inl (xishr q45 ((xidiv x8 29) * 3))]) rfl (Nat.le_of_ble_eq_true rfl) (le_L_act hq47) (c_L_act hq47) rfl ?_
      refine g_istore C dL_law_362 (by decide) ?_
      refine g_iload C dL_law_364 rfl ?_
      refine g_if_lt C 384 dL_law_366 (by decide) h (fun h => ?_) (fun h => ?_)
      · refine g_iconst C dL_law_384 ?_
        exact g_zreturn hR (by decide) dL_law_385 (by cases h; exact ⟨rfl, rfl, rfl⟩)
      · refine g_iload C dL_law_369 rfl ?_
        refine g_if_ne C 386 dL_law_371 (by decide) h (fun h => ?_) (fun h => ?_)
        · refine g_loc [(0, .inr (.inr (some 1300))), (1, .inr (.inr (some 0))), (2, .inr (.inr (some w))), (3, .inr (.inr (some x3))), (4, .inr (.inl x4)), (6, .inr (.inr (some x6))), (7, .inl x7), (8, .inl x8), (9, .inl (xishr q45 ((xidiv x8 29) * 3))), (10, .inr (.inl q46)), (12, .inl q47.1)] ⟨rfl, rfl, rfl, rfl, rfl, rfl, rfl, rfl, rfl, rfl, rfl, trivial⟩ ?_
          exact t_L_law_386 hd9 C _ _ _ hR hZ ih _ _ _ _ _ _ _ _ _ _ h
        · refine g_aload_n C dL_law_374 rfl ?_
          obtain ⟨q55, hq55, h⟩ := x_bind h
          refine g_callS C dL_law_375 (xin_35 _ (List.mem_of_getElem? (i := 18) rfl)) xy_L_all xt_L_all (by omega) (by decide) (av := [.inr (.inr (some 0))]) rfl (Nat.le_of_ble_eq_true rfl) gle.rf (c_L_all _ hq55) rfl ?_
          refine g_lload C dL_law_378 rfl ?_
          refine g_lcmp C dL_law_380 ?_
          refine g_if_eq C 386 dL_law_381 (by decide) h (fun h => ?_) (fun h => ?_)
          · refine g_loc [(0, .inr (.inr (some 1300))), (1, .inr (.inr (some 0))), (2, .inr (.inr (some w))), (3, .inr (.inr (some x3))), (4, .inr (.inl x4)), (6, .inr (.inr (some x6))), (7, .inl x7), (8, .inl x8), (9, .inl (xishr q45 ((xidiv x8 29) * 3))), (10, .inr (.inl q46)), (12, .inl q47.1)] ⟨rfl, rfl, rfl, rfl, rfl, rfl, rfl, rfl, rfl, rfl, rfl, trivial⟩ ?_
            exact t_L_law_386 hd9 C _ _ _ hR hZ ih _ _ _ _ _ _ _ _ _ _ h
          · refine g_iconst C dL_law_384 ?_
            exact g_zreturn hR (by decide) dL_law_385 (by cases h; exact ⟨rfl, rfl, rfl⟩)
set_option maxRecDepth 1000000 in
set_option maxHeartbeats 4000000 in
theorem t_L_law {P : gG → Prop} {d : Nat} {r : Int} {m9 : xM} {h9 : gH} (hd9 : 10 ≤ d) (C : ∀ Γ, P Γ → gX Γ lay_X RL cL_law 14 d h9) (Ln : Nat) (xs : Nat → Int) (w : Nat) (hR : ∀ Γ, P Γ → gRz Γ lay_X cL_law r m9 h9) (hZ : ∀ Γ, P Γ → gS Γ Ln xs) (m : xM) (hp : gH) (h : f_L_law Ln xs w m hp = some (r, m9, h9)) : gJ P lay_X 14 13 [(0, .inr (.inr (some 1300))), (1, .inr (.inr (some 0))), (2, .inr (.inr (some w)))] [] m hp h9 := by
  unfold f_L_law at h
  refine g_aload_n C dL_law_13 rfl ?_
  refine g_aload_n C dL_law_14 rfl ?_
  refine g_ldcS C "line 9;rates 8 1,20 9;train 1 1 1 1;patience 2;" 26 dL_law_15 (List.mem_of_getElem? (i := 20) rfl) ?_
  obtain ⟨q0, hq0, h⟩ := x_bind h
  refine g_callS C dL_law_17 (xin_8 _ (List.mem_of_getElem? (i := 19) rfl)) xy_L_word xt_L_word (by omega) (by decide) (av := [.inr (.inr (some 0)), .inr (.inr (some w)), .inr (.inr (some 1026))]) rfl (Nat.le_of_ble_eq_true rfl) (le_L_word (by decide) hq0) (c_L_word (by decide) hq0) rfl ?_
  refine g_aload_n C dL_law_20 rfl ?_
  refine g_aload_n C dL_law_21 rfl ?_
  refine g_aload_n C dL_law_22 rfl ?_
  obtain ⟨q1, hq1, h⟩ := x_bind h
  refine g_callS C dL_law_23 (xin_11 _ (List.mem_of_getElem? (i := 11) rfl)) xy_L_end xt_L_end (by omega) (by decide) (av := [.inr (.inr (some 0)), .inr (.inr (some w))]) rfl (Nat.le_of_ble_eq_true rfl) (le_L_end hq1) (c_L_end hq1) rfl ?_
  obtain ⟨q2, hq2, h⟩ := x_bind h
  refine g_callX C dL_law_26 (xin_11 _ (List.mem_of_getElem? (i := 14) rfl)) xy_X10_load xi_X10_load xs_X10_load (by omega) (by decide) (b := 0) (ci := 11) rfl ⟨_, _, rfl⟩ (av := [.inl q1.1]) rfl (Nat.le_of_ble_eq_true rfl) (fun l => c_X_load l _ _ q2.1 q2.2 hq2) rfl ?_
  refine g_iconst C dL_law_29 ?_
  refine g_icmp_ne C 58 dL_law_30 (by decide) h (fun h => ?_) (fun h => ?_)
  · refine g_iconst C dL_law_58 ?_
    exact g_zreturn hR (by decide) dL_law_59 (by cases h; exact ⟨rfl, rfl, rfl⟩)
  · refine g_aload_n C dL_law_33 rfl ?_
    obtain ⟨q3, hq3, h⟩ := x_bind h
    refine g_callX C dL_law_34 (xin_17 _ (List.mem_of_getElem? (i := 13) rfl)) xy_X10_dial xi_X10_dial xs_X10_dial (by omega) (by decide) (b := 0) (ci := 11) rfl ⟨_, _, rfl⟩ (av := []) rfl (Nat.le_of_ble_eq_true rfl) (fun l => c_X_dial l _ q3.1 q3.2 hq3) rfl ?_
    refine g_iconst C dL_law_37 ?_
    refine g_icmp_ne C 58 dL_law_38 (by decide) h (fun h => ?_) (fun h => ?_)
    · refine g_iconst C dL_law_58 ?_
      exact g_zreturn hR (by decide) dL_law_59 (by cases h; exact ⟨rfl, rfl, rfl⟩)
    · refine g_aload_n C dL_law_41 rfl ?_
      refine g_iconst C dL_law_42 ?_
      obtain ⟨q4, hq4, h⟩ := x_bind h
      refine g_callX C dL_law_43 (xin_20 _ (List.mem_of_getElem? (i := 19) rfl)) xy_X10_pass xi_X10_pass xs_X10_pass (by omega) (by decide) (b := 0) (ci := 11) rfl ⟨_, _, rfl⟩ (av := [.inl 4]) rfl (Nat.le_of_ble_eq_true rfl) (fun l => c_X_pass l _ _ q4.1 q4.2 hq4) rfl ?_
      refine g_if_ne C 58 dL_law_46 (by decide) h (fun h => ?_) (fun h => ?_)
      · refine g_iconst C dL_law_58 ?_
        exact g_zreturn hR (by decide) dL_law_59 (by cases h; exact ⟨rfl, rfl, rfl⟩)
      · refine g_aload_n C dL_law_49 rfl ?_
        refine g_iconst C dL_law_50 ?_
        obtain ⟨q5, hq5, h⟩ := x_bind h
        refine g_callX C dL_law_51 (xin_29 _ (List.mem_of_getElem? (i := 1) rfl)) xy_X10_size xi_X10_size xs_X10_size (by omega) (by decide) (b := 0) (ci := 11) rfl ⟨_, _, rfl⟩ (av := [.inl 3]) rfl (Nat.le_of_ble_eq_true rfl) (fun l => c_X_size l _ _ _ hq5) rfl ?_
        refine g_iconst C dL_law_54 ?_
        refine g_icmp_eq C 60 dL_law_55 (by decide) h (fun h => ?_) (fun h => ?_)
        · refine g_aload_n C dL_law_60 rfl ?_
          refine g_aload_n C dL_law_61 rfl ?_
          refine g_ldcS C "aabb" 27 dL_law_62 (List.mem_of_getElem? (i := 21) rfl) ?_
          obtain ⟨q6, hq6, h⟩ := x_bind h
          refine g_callS C dL_law_64 (xin_8 _ (List.mem_of_getElem? (i := 19) rfl)) xy_L_word xt_L_word (by omega) (by decide) (av := [.inr (.inr (some 0)), .inr (.inr (some w)), .inr (.inr (some 1027))]) rfl (Nat.le_of_ble_eq_true rfl) (le_L_word (by decide) hq6) (c_L_word (by decide) hq6) rfl ?_
          refine g_aload_n C dL_law_67 rfl ?_
          refine g_iconst C dL_law_68 ?_
          refine g_aload_n C dL_law_69 rfl ?_
          refine g_aload_n C dL_law_70 rfl ?_
          obtain ⟨q7, hq7, h⟩ := x_bind h
          refine g_callS C dL_law_71 (xin_11 _ (List.mem_of_getElem? (i := 11) rfl)) xy_L_end xt_L_end (by omega) (by decide) (av := [.inr (.inr (some 0)), .inr (.inr (some w))]) rfl (Nat.le_of_ble_eq_true rfl) (le_L_end hq7) (c_L_end hq7) rfl ?_
          obtain ⟨q8, hq8, h⟩ := x_bind h
          refine g_callX C dL_law_74 (xin_29 _ (List.mem_of_getElem? (i := 16) rfl)) xy_X10_send xi_X10_send xs_X10_send (by omega) (by decide) (b := 0) (ci := 11) rfl ⟨_, _, rfl⟩ (av := [.inl 0, .inl q7.1]) rfl (Nat.le_of_ble_eq_true rfl) (fun l => c_X_send l _ _ _ q8.1 q8.2 hq8) rfl ?_
          refine g_iconst C dL_law_77 ?_
          refine g_icmp_ne C 176 dL_law_78 (by decide) h (fun h => ?_) (fun h => ?_)
          · refine g_iconst C dL_law_176 ?_
            exact g_zreturn hR (by decide) dL_law_177 (by cases h; exact ⟨rfl, rfl, rfl⟩)
          · refine g_aload_n C dL_law_81 rfl ?_
            refine g_iconst C dL_law_82 ?_
            obtain ⟨q9, hq9, h⟩ := x_bind h
            refine g_callX C dL_law_83 (xin_30 _ (List.mem_of_getElem? (i := 6) rfl)) xy_X10_nextCost xi_X10_nextCost xs_X10_nextCost (by omega) (by decide) (b := 0) (ci := 11) rfl ⟨_, _, rfl⟩ (av := [.inl 0]) rfl (Nat.le_of_ble_eq_true rfl) (fun l => c_X_nextCost l _ _ q9.1 q9.2 hq9) rfl ?_
            refine g_bipush C dL_law_86 (by decide) ?_
            refine g_icmp_ne C 176 dL_law_88 (by decide) h (fun h => ?_) (fun h => ?_)
            · refine g_iconst C dL_law_176 ?_
              exact g_zreturn hR (by decide) dL_law_177 (by cases h; exact ⟨rfl, rfl, rfl⟩)
            · refine g_aload_n C dL_law_91 rfl ?_
              obtain ⟨q10, hq10, h⟩ := x_bind h
              refine g_callX C dL_law_92 (xin_30 _ (List.mem_of_getElem? (i := 13) rfl)) xy_X10_ticksToFinish xi_X10_ticksToFinish xs_X10_ticksToFinish (by omega) (by decide) (b := 0) (ci := 11) rfl ⟨_, _, rfl⟩ (av := []) rfl (Nat.le_of_ble_eq_true rfl) (fun l => c_X_ticksToFinish l _ q10.1 q10.2 hq10) rfl ?_
              refine g_iconst C dL_law_95 ?_
              refine g_icmp_ne C 176 dL_law_96 (by decide) h (fun h => ?_) (fun h => ?_)
              · refine g_iconst C dL_law_176 ?_
                exact g_zreturn hR (by decide) dL_law_177 (by cases h; exact ⟨rfl, rfl, rfl⟩)
              · refine g_aload_n C dL_law_99 rfl ?_
                refine g_iconst C dL_law_100 ?_
                obtain ⟨q11, hq11, h⟩ := x_bind h
                refine g_callX C dL_law_101 (xin_20 _ (List.mem_of_getElem? (i := 19) rfl)) xy_X10_pass xi_X10_pass xs_X10_pass (by omega) (by decide) (b := 0) (ci := 11) rfl ⟨_, _, rfl⟩ (av := [.inl 1]) rfl (Nat.le_of_ble_eq_true rfl) (fun l => c_X_pass l _ _ q11.1 q11.2 hq11) rfl ?_
                refine g_if_ne C 176 dL_law_104 (by decide) h (fun h => ?_) (fun h => ?_)
                · refine g_iconst C dL_law_176 ?_
                  exact g_zreturn hR (by decide) dL_law_177 (by cases h; exact ⟨rfl, rfl, rfl⟩)
                · refine g_aload_n C dL_law_107 rfl ?_
                  refine g_iconst C dL_law_108 ?_
                  refine g_iconst C dL_law_109 ?_
                  obtain ⟨q12, hq12, h⟩ := x_bind h
                  refine g_callX C dL_law_110 (xin_31 _ (List.mem_of_getElem? (i := 1) rfl)) xy_X10_end xi_X10_end xs_X10_end (by omega) (by decide) (b := 0) (ci := 11) rfl ⟨_, _, rfl⟩ (av := [.inl 0, .inl 1]) rfl (Nat.le_of_ble_eq_true rfl) (fun l => c_X_end l _ _ _ _ hq12) rfl ?_
                  refine g_iconst C dL_law_113 ?_
                  refine g_icmp_ne C 176 dL_law_114 (by decide) h (fun h => ?_) (fun h => ?_)
                  · refine g_iconst C dL_law_176 ?_
                    exact g_zreturn hR (by decide) dL_law_177 (by cases h; exact ⟨rfl, rfl, rfl⟩)
                  · refine g_aload_n C dL_law_117 rfl ?_
                    refine g_iconst C dL_law_118 ?_
                    refine g_bipush C dL_law_119 (by decide) ?_
                    obtain ⟨q13, hq13, h⟩ := x_bind h
                    refine g_callX C dL_law_121 (xin_31 _ (List.mem_of_getElem? (i := 1) rfl)) xy_X10_end xi_X10_end xs_X10_end (by omega) (by decide) (b := 0) (ci := 11) rfl ⟨_, _, rfl⟩ (av := [.inl 0, .inl 6]) rfl (Nat.le_of_ble_eq_true rfl) (fun l => c_X_end l _ _ _ _ hq13) rfl ?_
                    refine g_bipush C dL_law_124 (by decide) ?_
                    refine g_icmp_ne C 176 dL_law_126 (by decide) h (fun h => ?_) (fun h => ?_)
                    · refine g_iconst C dL_law_176 ?_
                      exact g_zreturn hR (by decide) dL_law_177 (by cases h; exact ⟨rfl, rfl, rfl⟩)
                    · refine g_aload_n C dL_law_129 rfl ?_
                      refine g_iconst C dL_law_130 ?_
                      obtain ⟨q14, hq14, h⟩ := x_bind h
                      refine g_callX C dL_law_131 (xin_20 _ (List.mem_of_getElem? (i := 19) rfl)) xy_X10_pass xi_X10_pass xs_X10_pass (by omega) (by decide) (b := 0) (ci := 11) rfl ⟨_, _, rfl⟩ (av := [.inl 1]) rfl (Nat.le_of_ble_eq_true rfl) (fun l => c_X_pass l _ _ q14.1 q14.2 hq14) rfl ?_
                      refine g_iconst C dL_law_134 ?_
                      refine g_icmp_ne C 176 dL_law_135 (by decide) h (fun h => ?_) (fun h => ?_)
                      · refine g_iconst C dL_law_176 ?_
                        exact g_zreturn hR (by decide) dL_law_177 (by cases h; exact ⟨rfl, rfl, rfl⟩)
                      · refine g_aload_n C dL_law_138 rfl ?_
                        refine g_iconst C dL_law_139 ?_
                        refine g_iconst C dL_law_140 ?_
                        obtain ⟨q15, hq15, h⟩ := x_bind h
                        refine g_callX C dL_law_141 (xin_31 _ (List.mem_of_getElem? (i := 16) rfl)) xy_X10_received xi_X10_received xs_X10_received (by omega) (by decide) (b := 0) (ci := 11) rfl ⟨_, _, rfl⟩ (av := [.inl 1, .inl 2]) rfl (Nat.le_of_ble_eq_true rfl) (fun l => c_X_received l _ _ _ _ hq15) rfl ?_
                        refine g_bipush C dL_law_144 (by decide) ?_
                        refine g_icmp_ne C 176 dL_law_146 (by decide) h (fun h => ?_) (fun h => ?_)
                        · refine g_iconst C dL_law_176 ?_
                          exact g_zreturn hR (by decide) dL_law_177 (by cases h; exact ⟨rfl, rfl, rfl⟩)
                        · refine g_aload_n C dL_law_149 rfl ?_
                          refine g_iconst C dL_law_150 ?_
                          refine g_iconst C dL_law_151 ?_
                          obtain ⟨q16, hq16, h⟩ := x_bind h
                          refine g_callX C dL_law_152 (xin_31 _ (List.mem_of_getElem? (i := 1) rfl)) xy_X10_end xi_X10_end xs_X10_end (by omega) (by decide) (b := 0) (ci := 11) rfl ⟨_, _, rfl⟩ (av := [.inl 0, .inl 1]) rfl (Nat.le_of_ble_eq_true rfl) (fun l => c_X_end l _ _ _ _ hq16) rfl ?_
                          refine g_iconst C dL_law_155 ?_
                          refine g_icmp_ne C 176 dL_law_156 (by decide) h (fun h => ?_) (fun h => ?_)
                          · refine g_iconst C dL_law_176 ?_
                            exact g_zreturn hR (by decide) dL_law_177 (by cases h; exact ⟨rfl, rfl, rfl⟩)
                          · refine g_aload_n C dL_law_159 rfl ?_
                            refine g_iconst C dL_law_160 ?_
                            obtain ⟨q17, hq17, h⟩ := x_bind h
                            refine g_callX C dL_law_161 (xin_20 _ (List.mem_of_getElem? (i := 19) rfl)) xy_X10_pass xi_X10_pass xs_X10_pass (by omega) (by decide) (b := 0) (ci := 11) rfl ⟨_, _, rfl⟩ (av := [.inl 1]) rfl (Nat.le_of_ble_eq_true rfl) (fun l => c_X_pass l _ _ q17.1 q17.2 hq17) rfl ?_
                            refine g_if_ne C 176 dL_law_164 (by decide) h (fun h => ?_) (fun h => ?_)
                            · refine g_iconst C dL_law_176 ?_
                              exact g_zreturn hR (by decide) dL_law_177 (by cases h; exact ⟨rfl, rfl, rfl⟩)
                            · refine g_aload_n C dL_law_167 rfl ?_
                              refine g_iconst C dL_law_168 ?_
                              refine g_iconst C dL_law_169 ?_
                              obtain ⟨q18, hq18, h⟩ := x_bind h
                              refine g_callX C dL_law_170 (xin_31 _ (List.mem_of_getElem? (i := 1) rfl)) xy_X10_end xi_X10_end xs_X10_end (by omega) (by decide) (b := 0) (ci := 11) rfl ⟨_, _, rfl⟩ (av := [.inl 0, .inl 1]) rfl (Nat.le_of_ble_eq_true rfl) (fun l => c_X_end l _ _ _ _ hq18) rfl ?_
                              refine g_if_eq C 178 dL_law_173 (by decide) h (fun h => ?_) (fun h => ?_)
                              · refine g_aload_n C dL_law_178 rfl ?_
                                refine g_iconst C dL_law_179 ?_
                                refine g_iconst C dL_law_180 ?_
                                refine g_iconst C dL_law_181 ?_
                                obtain ⟨q19, hq19, h⟩ := x_bind h
                                refine g_callX C dL_law_182 (xin_31 _ (List.mem_of_getElem? (i := 22) rfl)) xy_X10_word xi_X10_word xs_X10_word (by omega) (by decide) (b := 0) (ci := 11) rfl ⟨_, _, rfl⟩ (av := [.inl 1, .inl 0, .inl 0]) rfl (Nat.le_of_ble_eq_true rfl) (fun l => c_X_word l _ _ _ _ _ hq19) rfl ?_
                                refine g_bipush C dL_law_185 (by decide) ?_
                                refine g_icmp_ne C 267 dL_law_187 (by decide) h (fun h => ?_) (fun h => ?_)
                                · refine g_iconst C dL_law_267 ?_
                                  exact g_zreturn hR (by decide) dL_law_268 (by cases h; exact ⟨rfl, rfl, rfl⟩)
                                · refine g_aload_n C dL_law_190 rfl ?_
                                  refine g_iconst C dL_law_191 ?_
                                  refine g_iconst C dL_law_192 ?_
                                  refine g_iconst C dL_law_193 ?_
                                  obtain ⟨q20, hq20, h⟩ := x_bind h
                                  refine g_callX C dL_law_194 (xin_31 _ (List.mem_of_getElem? (i := 22) rfl)) xy_X10_word xi_X10_word xs_X10_word (by omega) (by decide) (b := 0) (ci := 11) rfl ⟨_, _, rfl⟩ (av := [.inl 0, .inl 1, .inl 1]) rfl (Nat.le_of_ble_eq_true rfl) (fun l => c_X_word l _ _ _ _ _ hq20) rfl ?_
                                  refine g_bipush C dL_law_197 (by decide) ?_
                                  refine g_icmp_ne C 267 dL_law_199 (by decide) h (fun h => ?_) (fun h => ?_)
                                  · refine g_iconst C dL_law_267 ?_
                                    exact g_zreturn hR (by decide) dL_law_268 (by cases h; exact ⟨rfl, rfl, rfl⟩)
                                  · refine g_aload_n C dL_law_202 rfl ?_
                                    refine g_iconst C dL_law_203 ?_
                                    refine g_iconst C dL_law_204 ?_
                                    obtain ⟨q21, hq21, h⟩ := x_bind h
                                    refine g_callX C dL_law_205 (xin_32 _ (List.mem_of_getElem? (i := 3) rfl)) xy_X10_event xi_X10_event xs_X10_event (by omega) (by decide) (b := 0) (ci := 11) rfl ⟨_, _, rfl⟩ (av := [.inl 1, .inl 1]) rfl (Nat.le_of_ble_eq_true rfl) (fun l => c_X_event l _ _ _ _ hq21) rfl ?_
                                    refine g_bipush C dL_law_208 (by decide) ?_
                                    refine g_icmp_ne C 267 dL_law_210 (by decide) h (fun h => ?_) (fun h => ?_)
                                    · refine g_iconst C dL_law_267 ?_
                                      exact g_zreturn hR (by decide) dL_law_268 (by cases h; exact ⟨rfl, rfl, rfl⟩)
                                    · refine g_aload_n C dL_law_213 rfl ?_
                                      refine g_iconst C dL_law_214 ?_
                                      refine g_iconst C dL_law_215 ?_
                                      obtain ⟨q22, hq22, h⟩ := x_bind h
                                      refine g_callX C dL_law_216 (xin_32 _ (List.mem_of_getElem? (i := 3) rfl)) xy_X10_event xi_X10_event xs_X10_event (by omega) (by decide) (b := 0) (ci := 11) rfl ⟨_, _, rfl⟩ (av := [.inl 1, .inl 2]) rfl (Nat.le_of_ble_eq_true rfl) (fun l => c_X_event l _ _ _ _ hq22) rfl ?_
                                      refine g_iconst C dL_law_219 ?_
                                      refine g_icmp_ne C 267 dL_law_220 (by decide) h (fun h => ?_) (fun h => ?_)
                                      · refine g_iconst C dL_law_267 ?_
                                        exact g_zreturn hR (by decide) dL_law_268 (by cases h; exact ⟨rfl, rfl, rfl⟩)
                                      · refine g_aload_n C dL_law_223 rfl ?_
                                        refine g_iconst C dL_law_224 ?_
                                        obtain ⟨q23, hq23, h⟩ := x_bind h
                                        refine g_callX C dL_law_225 (xin_32 _ (List.mem_of_getElem? (i := 12) rfl)) xy_X10_setQuality xi_X10_setQuality xs_X10_setQuality (by omega) (by decide) (b := 0) (ci := 11) rfl ⟨_, _, rfl⟩ (av := [.inl 0]) rfl (Nat.le_of_ble_eq_true rfl) (fun l => c_X_setQuality l _ _ q23.1 q23.2 hq23) rfl ?_
                                        refine g_bipush C dL_law_228 (by decide) ?_
                                        refine g_icmp_ne C 267 dL_law_230 (by decide) h (fun h => ?_) (fun h => ?_)
                                        · refine g_iconst C dL_law_267 ?_
                                          exact g_zreturn hR (by decide) dL_law_268 (by cases h; exact ⟨rfl, rfl, rfl⟩)
                                        · refine g_aload_n C dL_law_233 rfl ?_
                                          refine g_iconst C dL_law_234 ?_
                                          obtain ⟨q24, hq24, h⟩ := x_bind h
                                          refine g_callX C dL_law_235 (xin_20 _ (List.mem_of_getElem? (i := 19) rfl)) xy_X10_pass xi_X10_pass xs_X10_pass (by omega) (by decide) (b := 0) (ci := 11) rfl ⟨_, _, rfl⟩ (av := [.inl 1]) rfl (Nat.le_of_ble_eq_true rfl) (fun l => c_X_pass l _ _ q24.1 q24.2 hq24) rfl ?_
                                          refine g_if_ne C 267 dL_law_238 (by decide) h (fun h => ?_) (fun h => ?_)
                                          · refine g_iconst C dL_law_267 ?_
                                            exact g_zreturn hR (by decide) dL_law_268 (by cases h; exact ⟨rfl, rfl, rfl⟩)
                                          · refine g_aload_n C dL_law_241 rfl ?_
                                            refine g_bipush C dL_law_242 (by decide) ?_
                                            obtain ⟨q25, hq25, h⟩ := x_bind h
                                            refine g_callX C dL_law_244 (xin_29 _ (List.mem_of_getElem? (i := 1) rfl)) xy_X10_size xi_X10_size xs_X10_size (by omega) (by decide) (b := 0) (ci := 11) rfl ⟨_, _, rfl⟩ (av := [.inl 7]) rfl (Nat.le_of_ble_eq_true rfl) (fun l => c_X_size l _ _ _ hq25) rfl ?_
                                            refine g_iconst C dL_law_247 ?_
                                            refine g_icmp_ne C 267 dL_law_248 (by decide) h (fun h => ?_) (fun h => ?_)
                                            · refine g_iconst C dL_law_267 ?_
                                              exact g_zreturn hR (by decide) dL_law_268 (by cases h; exact ⟨rfl, rfl, rfl⟩)
                                            · refine g_aload_n C dL_law_251 rfl ?_
                                              obtain ⟨q26, hq26, h⟩ := x_bind h
                                              refine g_callX C dL_law_252 (xin_30 _ (List.mem_of_getElem? (i := 13) rfl)) xy_X10_ticksToFinish xi_X10_ticksToFinish xs_X10_ticksToFinish (by omega) (by decide) (b := 0) (ci := 11) rfl ⟨_, _, rfl⟩ (av := []) rfl (Nat.le_of_ble_eq_true rfl) (fun l => c_X_ticksToFinish l _ q26.1 q26.2 hq26) rfl ?_
                                              refine g_iconst C dL_law_255 ?_
                                              refine g_icmp_ne C 267 dL_law_256 (by decide) h (fun h => ?_) (fun h => ?_)
                                              · refine g_iconst C dL_law_267 ?_
                                                exact g_zreturn hR (by decide) dL_law_268 (by cases h; exact ⟨rfl, rfl, rfl⟩)
                                              · refine g_aload_n C dL_law_259 rfl ?_
                                                obtain ⟨q27, hq27, h⟩ := x_bind h
                                                refine g_callX C dL_law_260 (xin_32 _ (List.mem_of_getElem? (i := 20) rfl)) xy_X10_leastQuality xi_X10_leastQuality xs_X10_leastQuality (by omega) (by decide) (b := 0) (ci := 11) rfl ⟨_, _, rfl⟩ (av := []) rfl (Nat.le_of_ble_eq_true rfl) (fun l => c_X_leastQuality l _ q27.1 q27.2 hq27) rfl ?_
                                                refine g_iconst C dL_law_263 ?_
                                                refine g_icmp_eq C 269 dL_law_264 (by decide) h (fun h => ?_) (fun h => ?_)
                                                · refine g_aload_n C dL_law_269 rfl ?_
                                                  refine g_iconst C dL_law_270 ?_
                                                  obtain ⟨q28, hq28, h⟩ := x_bind h
                                                  refine g_callSS C hZ dL_law_271 (xin_33 _ (List.mem_of_getElem? (i := 0) rfl)) xy_L_drawn xt_L_drawn (by omega) (by decide) (av := [.inr (.inr (some 1300)), .inl 0]) rfl (Nat.le_of_ble_eq_true rfl) (le_L_drawn hq28) (c_L_drawn _ hq28) rfl ?_
                                                  refine g_astore_n C dL_law_274 (by decide) ?_
                                                  refine g_aload_n C dL_law_275 rfl ?_
                                                  refine g_aload_n C dL_law_276 rfl ?_
                                                  refine g_aload_n C dL_law_277 rfl ?_
                                                  obtain ⟨q29, hq29, h⟩ := x_bind h
                                                  refine g_callS C dL_law_278 (xin_34 _ (List.mem_of_getElem? (i := 15) rfl)) xy_L_tell xt_L_tell (by omega) (by decide) (av := [.inr (.inr (some 0)), .inr (.inr (some w)), .inr (.inr (some q28.1))]) rfl (Nat.le_of_ble_eq_true rfl) (le_L_tell hq29) (c_L_tell hq29) rfl ?_
                                                  refine g_aload_n C dL_law_281 rfl ?_
                                                  obtain ⟨q30, hq30, h⟩ := x_bind h
                                                  refine g_getKN C dL_law_282 nF_39 hq30 ?_
                                                  obtain ⟨q31, hq31, h⟩ := x_bind h
                                                  refine g_lenC C dL_law_285 hq31 ?_
                                                  refine g_icmp_ne C 296 dL_law_286 (by decide) h (fun h => ?_) (fun h => ?_)
                                                  · refine g_iconst C dL_law_296 ?_
                                                    exact g_zreturn hR (by decide) dL_law_297 (by cases h; exact ⟨rfl, rfl, rfl⟩)
                                                  · refine g_aload_n C dL_law_289 rfl ?_
                                                    obtain ⟨q32, hq32, h⟩ := x_bind h
                                                    refine g_callS C dL_law_290 (xin_35 _ (List.mem_of_getElem? (i := 0) rfl)) xy_L_isSound xt_L_isSound (by omega) (by decide) (av := [.inr (.inr (some 0))]) rfl (Nat.le_of_ble_eq_true rfl) gle.rf (c_L_isSound hq32) rfl ?_
                                                    refine g_if_ne C 298 dL_law_293 (by decide) h (fun h => ?_) (fun h => ?_)
                                                    · refine g_aload_n C dL_law_298 rfl ?_
                                                      obtain ⟨q33, hq33, h⟩ := x_bind h
                                                      refine g_callX C dL_law_299 (xin_35 _ (List.mem_of_getElem? (i := 14) rfl)) xy_X10_saveSnapshot xi_X10_saveSnapshot xs_X10_saveSnapshot (by omega) (by decide) (b := 0) (ci := 11) rfl ⟨_, _, rfl⟩ (av := []) rfl (Nat.le_of_ble_eq_true rfl) (fun l => c_X_saveSnapshot l _ _ hq33) rfl ?_
                                                      refine g_aload_n C dL_law_302 rfl ?_
                                                      obtain ⟨q34, hq34, h⟩ := x_bind h
                                                      refine g_callS C dL_law_303 (xin_35 _ (List.mem_of_getElem? (i := 18) rfl)) xy_L_all xt_L_all (by omega) (by decide) (av := [.inr (.inr (some 0))]) rfl (Nat.le_of_ble_eq_true rfl) gle.rf (c_L_all _ hq34) rfl ?_
                                                      refine g_lstore C dL_law_306 (by decide) ?_
                                                      refine g_bipush C dL_law_308 (by decide) ?_
                                                      obtain ⟨q35, hq35, h⟩ := x_bind h
                                                      refine g_newl C dL_law_310 (xin_1 _ (List.mem_of_getElem? (i := 4) rfl)) hq35 ?_
                                                      refine g_astore C dL_law_312 (by decide) ?_
                                                      refine g_iconst C dL_law_314 ?_
                                                      refine g_istore C dL_law_315 (by decide) ?_
                                                      refine g_iconst C dL_law_317 ?_
                                                      refine g_istore C dL_law_318 (by decide) ?_
                                                      refine g_loc [(0, .inr (.inr (some 1300))), (1, .inr (.inr (some 0))), (2, .inr (.inr (some w))), (3, .inr (.inr (some q28.1))), (4, .inr (.inl q34)), (6, .inr (.inr (some q35.1))), (7, .inl 0), (8, .inl 0)] ⟨rfl, rfl, rfl, rfl, rfl, rfl, rfl, rfl, trivial⟩ ?_
                                                      exact t_L_law_320 hd9 C _ _ _ hR hZ fu _ _ _ _ _ _ _ h
                                                    · refine g_iconst C dL_law_296 ?_
                                                      exact g_zreturn hR (by decide) dL_law_297 (by cases h; exact ⟨rfl, rfl, rfl⟩)
                                                · refine g_iconst C dL_law_267 ?_
                                                  exact g_zreturn hR (by decide) dL_law_268 (by cases h; exact ⟨rfl, rfl, rfl⟩)
                              · refine g_iconst C dL_law_176 ?_
                                exact g_zreturn hR (by decide) dL_law_177 (by cases h; exact ⟨rfl, rfl, rfl⟩)
        · refine g_iconst C dL_law_58 ?_
          exact g_zreturn hR (by decide) dL_law_59 (by cases h; exact ⟨rfl, rfl, rfl⟩)

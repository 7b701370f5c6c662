/-! ===== yL_all ===== -/
theorem xy_X10_size : xY yX10_size cX10_size 4 (some .int) 1 := ⟨(xin_29 _ (List.mem_of_getElem? (i := 4) rfl)), (xin_1 _ (List.mem_of_getElem? (i := 2) rfl)), by decide, by decide, by decide +kernel⟩
theorem xi_X10_size : Cond.instanceMethod yX10_size ∈ wsL_law := (xin_29 _ (List.mem_of_getElem? (i := 2) rfl))
theorem xs_X10_size : Cond.selects yX10_size.cls yX10_size yX10_size ∈ wsL_law := (xin_29 _ (List.mem_of_getElem? (i := 3) rfl))
theorem xy_X10_event : xY yX10_event cX10_event 3 (some .int) 2 := ⟨(xin_32 _ (List.mem_of_getElem? (i := 6) rfl)), (xin_1 _ (List.mem_of_getElem? (i := 2) rfl)), by decide, by decide, by decide +kernel⟩
theorem xi_X10_event : Cond.instanceMethod yX10_event ∈ wsL_law := (xin_32 _ (List.mem_of_getElem? (i := 4) rfl))
theorem xs_X10_event : Cond.selects yX10_event.cls yX10_event yX10_event ∈ wsL_law := (xin_32 _ (List.mem_of_getElem? (i := 5) rfl))
theorem xy_X10_received : xY yX10_received cX10_received 4 (some .int) 2 := ⟨(xin_31 _ (List.mem_of_getElem? (i := 19) rfl)), (xin_1 _ (List.mem_of_getElem? (i := 2) rfl)), by decide, by decide, by decide +kernel⟩
theorem xi_X10_received : Cond.instanceMethod yX10_received ∈ wsL_law := (xin_31 _ (List.mem_of_getElem? (i := 17) rfl))
theorem xs_X10_received : Cond.selects yX10_received.cls yX10_received yX10_received ∈ wsL_law := (xin_31 _ (List.mem_of_getElem? (i := 18) rfl))
theorem xy_X10_end : xY yX10_end cX10_end 4 (some .int) 2 := ⟨(xin_31 _ (List.mem_of_getElem? (i := 4) rfl)), (xin_1 _ (List.mem_of_getElem? (i := 2) rfl)), by decide, by decide, by decide +kernel⟩
theorem xi_X10_end : Cond.instanceMethod yX10_end ∈ wsL_law := (xin_31 _ (List.mem_of_getElem? (i := 2) rfl))
theorem xs_X10_end : Cond.selects yX10_end.cls yX10_end yX10_end ∈ wsL_law := (xin_31 _ (List.mem_of_getElem? (i := 3) rfl))
theorem xy_X10_frame : xY yX10_frame cX10_frame 5 (some .int) 3 := ⟨(xin_35 _ (List.mem_of_getElem? (i := 6) rfl)), (xin_1 _ (List.mem_of_getElem? (i := 2) rfl)), by decide, by decide, by decide +kernel⟩
theorem xi_X10_frame : Cond.instanceMethod yX10_frame ∈ wsL_law := (xin_35 _ (List.mem_of_getElem? (i := 4) rfl))
theorem xs_X10_frame : Cond.selects yX10_frame.cls yX10_frame yX10_frame ∈ wsL_law := (xin_35 _ (List.mem_of_getElem? (i := 5) rfl))
theorem xy_X10_word : xY yX10_word cX10_word 6 (some .int) 3 := ⟨(xin_32 _ (List.mem_of_getElem? (i := 1) rfl)), (xin_1 _ (List.mem_of_getElem? (i := 2) rfl)), by decide, by decide, by decide +kernel⟩
theorem xi_X10_word : Cond.instanceMethod yX10_word ∈ wsL_law := (xin_31 _ (List.mem_of_getElem? (i := 23) rfl))
theorem xs_X10_word : Cond.selects yX10_word.cls yX10_word yX10_word ∈ wsL_law := (xin_32 _ (List.mem_of_getElem? (i := 0) rfl))
theorem xy_X10_total : xY yX10_total cX10_total 2 (some .int) 1 := ⟨(xin_35 _ (List.mem_of_getElem? (i := 13) rfl)), (xin_1 _ (List.mem_of_getElem? (i := 2) rfl)), by decide, by decide, by decide +kernel⟩
theorem xi_X10_total : Cond.instanceMethod yX10_total ∈ wsL_law := (xin_35 _ (List.mem_of_getElem? (i := 11) rfl))
theorem xs_X10_total : Cond.selects yX10_total.cls yX10_total yX10_total ∈ wsL_law := (xin_35 _ (List.mem_of_getElem? (i := 12) rfl))
theorem dL_all_0 : decode cL_all 0 = .ok (.lconst 0, 1) := by decide +kernel
theorem dL_all_1 : decode cL_all 1 = .ok (.lstore_n 1, 1) := by decide +kernel
theorem dL_all_2 : decode cL_all 2 = .ok (.iconst 0, 1) := by decide +kernel
theorem dL_all_3 : decode cL_all 3 = .ok (.istore_n 3, 1) := by decide +kernel
theorem dL_all_4 : decode cL_all 4 = .ok (.iload_n 3, 1) := by decide +kernel
theorem dL_all_5 : decode cL_all 5 = .ok (.bipush 11, 2) := by decide +kernel
theorem dL_all_7 : decode cL_all 7 = .ok (.if_icmp .ge 33, 3) := by decide +kernel
theorem dL_all_10 : decode cL_all 10 = .ok (.ldc2_w 219, 3) := by decide +kernel
theorem dL_all_13 : decode cL_all 13 = .ok (.ldc2_w 219, 3) := by decide +kernel
theorem dL_all_16 : decode cL_all 16 = .ok (.lload_n 1, 1) := by decide +kernel
theorem dL_all_17 : decode cL_all 17 = .ok (.lmul, 1) := by decide +kernel
theorem dL_all_18 : decode cL_all 18 = .ok (.aload_n 0, 1) := by decide +kernel
theorem dL_all_19 : decode cL_all 19 = .ok (.iload_n 3, 1) := by decide +kernel
theorem dL_all_20 : decode cL_all 20 = .ok (.invokevirtual 127, 3) := by decide +kernel
theorem dL_all_23 : decode cL_all 23 = .ok (.i2l, 1) := by decide +kernel
theorem dL_all_24 : decode cL_all 24 = .ok (.ladd, 1) := by decide +kernel
theorem dL_all_25 : decode cL_all 25 = .ok (.lmul, 1) := by decide +kernel
theorem dL_all_26 : decode cL_all 26 = .ok (.aload_n 0, 1) := by decide +kernel
theorem dL_all_27 : decode cL_all 27 = .ok (.iload_n 3, 1) := by decide +kernel
theorem dL_all_28 : decode cL_all 28 = .ok (.invokevirtual 130, 3) := by decide +kernel
theorem dL_all_31 : decode cL_all 31 = .ok (.i2l, 1) := by decide +kernel
theorem dL_all_32 : decode cL_all 32 = .ok (.ladd, 1) := by decide +kernel
theorem dL_all_33 : decode cL_all 33 = .ok (.lstore_n 1, 1) := by decide +kernel
theorem dL_all_34 : decode cL_all 34 = .ok (.iinc 3 1, 3) := by decide +kernel
theorem dL_all_37 : decode cL_all 37 = .ok (.goto (-33), 3) := by decide +kernel
theorem dL_all_40 : decode cL_all 40 = .ok (.iconst 0, 1) := by decide +kernel
theorem dL_all_41 : decode cL_all 41 = .ok (.istore_n 3, 1) := by decide +kernel
theorem dL_all_42 : decode cL_all 42 = .ok (.iload_n 3, 1) := by decide +kernel
theorem dL_all_43 : decode cL_all 43 = .ok (.iconst 2, 1) := by decide +kernel
theorem dL_all_44 : decode cL_all 44 = .ok (.if_icmp .ge 183, 3) := by decide +kernel
theorem dL_all_47 : decode cL_all 47 = .ok (.iconst 0, 1) := by decide +kernel
theorem dL_all_48 : decode cL_all 48 = .ok (.istore 4, 2) := by decide +kernel
theorem dL_all_50 : decode cL_all 50 = .ok (.iload 4, 2) := by decide +kernel
theorem dL_all_52 : decode cL_all 52 = .ok (.bipush 10, 2) := by decide +kernel
theorem dL_all_54 : decode cL_all 54 = .ok (.if_icmp .ge 24, 3) := by decide +kernel
theorem dL_all_57 : decode cL_all 57 = .ok (.ldc2_w 219, 3) := by decide +kernel
theorem dL_all_60 : decode cL_all 60 = .ok (.lload_n 1, 1) := by decide +kernel
theorem dL_all_61 : decode cL_all 61 = .ok (.lmul, 1) := by decide +kernel
theorem dL_all_62 : decode cL_all 62 = .ok (.aload_n 0, 1) := by decide +kernel
theorem dL_all_63 : decode cL_all 63 = .ok (.iload_n 3, 1) := by decide +kernel
theorem dL_all_64 : decode cL_all 64 = .ok (.iload 4, 2) := by decide +kernel
theorem dL_all_66 : decode cL_all 66 = .ok (.invokevirtual 169, 3) := by decide +kernel
theorem dL_all_69 : decode cL_all 69 = .ok (.i2l, 1) := by decide +kernel
theorem dL_all_70 : decode cL_all 70 = .ok (.ladd, 1) := by decide +kernel
theorem dL_all_71 : decode cL_all 71 = .ok (.lstore_n 1, 1) := by decide +kernel
theorem dL_all_72 : decode cL_all 72 = .ok (.iinc 4 1, 3) := by decide +kernel
theorem dL_all_75 : decode cL_all 75 = .ok (.goto (-25), 3) := by decide +kernel
theorem dL_all_78 : decode cL_all 78 = .ok (.iconst 0, 1) := by decide +kernel
theorem dL_all_79 : decode cL_all 79 = .ok (.istore 4, 2) := by decide +kernel
theorem dL_all_81 : decode cL_all 81 = .ok (.iload 4, 2) := by decide +kernel
theorem dL_all_83 : decode cL_all 83 = .ok (.bipush 8, 2) := by decide +kernel
theorem dL_all_85 : decode cL_all 85 = .ok (.if_icmp .ge 39, 3) := by decide +kernel
theorem dL_all_88 : decode cL_all 88 = .ok (.ldc2_w 219, 3) := by decide +kernel
theorem dL_all_91 : decode cL_all 91 = .ok (.ldc2_w 219, 3) := by decide +kernel
theorem dL_all_94 : decode cL_all 94 = .ok (.lload_n 1, 1) := by decide +kernel
theorem dL_all_95 : decode cL_all 95 = .ok (.lmul, 1) := by decide +kernel
theorem dL_all_96 : decode cL_all 96 = .ok (.aload_n 0, 1) := by decide +kernel
theorem dL_all_97 : decode cL_all 97 = .ok (.iload_n 3, 1) := by decide +kernel
theorem dL_all_98 : decode cL_all 98 = .ok (.iconst 1, 1) := by decide +kernel
theorem dL_all_99 : decode cL_all 99 = .ok (.iload 4, 2) := by decide +kernel
theorem dL_all_101 : decode cL_all 101 = .ok (.invokevirtual 171, 3) := by decide +kernel
theorem dL_all_104 : decode cL_all 104 = .ok (.i2l, 1) := by decide +kernel
theorem dL_all_105 : decode cL_all 105 = .ok (.ladd, 1) := by decide +kernel
theorem dL_all_106 : decode cL_all 106 = .ok (.lmul, 1) := by decide +kernel
theorem dL_all_107 : decode cL_all 107 = .ok (.aload_n 0, 1) := by decide +kernel
theorem dL_all_108 : decode cL_all 108 = .ok (.iload_n 3, 1) := by decide +kernel
theorem dL_all_109 : decode cL_all 109 = .ok (.iconst 0, 1) := by decide +kernel
theorem dL_all_110 : decode cL_all 110 = .ok (.iload 4, 2) := by decide +kernel
theorem dL_all_112 : decode cL_all 112 = .ok (.invokevirtual 171, 3) := by decide +kernel
theorem dL_all_115 : decode cL_all 115 = .ok (.i2l, 1) := by decide +kernel
theorem dL_all_116 : decode cL_all 116 = .ok (.ladd, 1) := by decide +kernel
theorem dL_all_117 : decode cL_all 117 = .ok (.lstore_n 1, 1) := by decide +kernel
theorem dL_all_118 : decode cL_all 118 = .ok (.iinc 4 1, 3) := by decide +kernel
theorem dL_all_121 : decode cL_all 121 = .ok (.goto (-40), 3) := by decide +kernel
theorem dL_all_124 : decode cL_all 124 = .ok (.iconst 0, 1) := by decide +kernel
theorem dL_all_125 : decode cL_all 125 = .ok (.istore 4, 2) := by decide +kernel
theorem dL_all_127 : decode cL_all 127 = .ok (.aload_n 0, 1) := by decide +kernel
theorem dL_all_128 : decode cL_all 128 = .ok (.iload_n 3, 1) := by decide +kernel
theorem dL_all_129 : decode cL_all 129 = .ok (.iload 4, 2) := by decide +kernel
theorem dL_all_131 : decode cL_all 131 = .ok (.invokevirtual 177, 3) := by decide +kernel
theorem dL_all_134 : decode cL_all 134 = .ok (.ifCond .lt 24, 3) := by decide +kernel
theorem dL_all_137 : decode cL_all 137 = .ok (.ldc2_w 219, 3) := by decide +kernel
theorem dL_all_140 : decode cL_all 140 = .ok (.lload_n 1, 1) := by decide +kernel
theorem dL_all_141 : decode cL_all 141 = .ok (.lmul, 1) := by decide +kernel
theorem dL_all_142 : decode cL_all 142 = .ok (.aload_n 0, 1) := by decide +kernel
theorem dL_all_143 : decode cL_all 143 = .ok (.iload_n 3, 1) := by decide +kernel
theorem dL_all_144 : decode cL_all 144 = .ok (.iload 4, 2) := by decide +kernel
theorem dL_all_146 : decode cL_all 146 = .ok (.invokevirtual 177, 3) := by decide +kernel
theorem dL_all_149 : decode cL_all 149 = .ok (.i2l, 1) := by decide +kernel
theorem dL_all_150 : decode cL_all 150 = .ok (.ladd, 1) := by decide +kernel
theorem dL_all_151 : decode cL_all 151 = .ok (.lstore_n 1, 1) := by decide +kernel
theorem dL_all_152 : decode cL_all 152 = .ok (.iinc 4 1, 3) := by decide +kernel
theorem dL_all_155 : decode cL_all 155 = .ok (.goto (-28), 3) := by decide +kernel
theorem dL_all_158 : decode cL_all 158 = .ok (.aload_n 0, 1) := by decide +kernel
theorem dL_all_159 : decode cL_all 159 = .ok (.iload_n 3, 1) := by decide +kernel
theorem dL_all_160 : decode cL_all 160 = .ok (.iconst 1, 1) := by decide +kernel
theorem dL_all_161 : decode cL_all 161 = .ok (.invokevirtual 169, 3) := by decide +kernel
theorem dL_all_164 : decode cL_all 164 = .ok (.aload_n 0, 1) := by decide +kernel
theorem dL_all_165 : decode cL_all 165 = .ok (.iload_n 3, 1) := by decide +kernel
theorem dL_all_166 : decode cL_all 166 = .ok (.iconst 2, 1) := by decide +kernel
theorem dL_all_167 : decode cL_all 167 = .ok (.invokevirtual 169, 3) := by decide +kernel
theorem dL_all_170 : decode cL_all 170 = .ok (.iadd, 1) := by decide +kernel
theorem dL_all_171 : decode cL_all 171 = .ok (.istore 4, 2) := by decide +kernel
theorem dL_all_173 : decode cL_all 173 = .ok (.iconst 0, 1) := by decide +kernel
theorem dL_all_174 : decode cL_all 174 = .ok (.istore 5, 2) := by decide +kernel
theorem dL_all_176 : decode cL_all 176 = .ok (.iload 5, 2) := by decide +kernel
theorem dL_all_178 : decode cL_all 178 = .ok (.iload 4, 2) := by decide +kernel
theorem dL_all_180 : decode cL_all 180 = .ok (.if_icmp .ge 41, 3) := by decide +kernel
theorem dL_all_183 : decode cL_all 183 = .ok (.iconst 0, 1) := by decide +kernel
theorem dL_all_184 : decode cL_all 184 = .ok (.istore 6, 2) := by decide +kernel
theorem dL_all_186 : decode cL_all 186 = .ok (.iload 6, 2) := by decide +kernel
theorem dL_all_188 : decode cL_all 188 = .ok (.iconst 4, 1) := by decide +kernel
theorem dL_all_189 : decode cL_all 189 = .ok (.if_icmp .ge 26, 3) := by decide +kernel
theorem dL_all_192 : decode cL_all 192 = .ok (.ldc2_w 219, 3) := by decide +kernel
theorem dL_all_195 : decode cL_all 195 = .ok (.lload_n 1, 1) := by decide +kernel
theorem dL_all_196 : decode cL_all 196 = .ok (.lmul, 1) := by decide +kernel
theorem dL_all_197 : decode cL_all 197 = .ok (.aload_n 0, 1) := by decide +kernel
theorem dL_all_198 : decode cL_all 198 = .ok (.iload_n 3, 1) := by decide +kernel
theorem dL_all_199 : decode cL_all 199 = .ok (.iload 5, 2) := by decide +kernel
theorem dL_all_201 : decode cL_all 201 = .ok (.iload 6, 2) := by decide +kernel
theorem dL_all_203 : decode cL_all 203 = .ok (.invokevirtual 139, 3) := by decide +kernel
theorem dL_all_206 : decode cL_all 206 = .ok (.i2l, 1) := by decide +kernel
theorem dL_all_207 : decode cL_all 207 = .ok (.ladd, 1) := by decide +kernel
theorem dL_all_208 : decode cL_all 208 = .ok (.lstore_n 1, 1) := by decide +kernel
theorem dL_all_209 : decode cL_all 209 = .ok (.iinc 6 1, 3) := by decide +kernel
theorem dL_all_212 : decode cL_all 212 = .ok (.goto (-26), 3) := by decide +kernel
theorem dL_all_215 : decode cL_all 215 = .ok (.iinc 5 1, 3) := by decide +kernel
theorem dL_all_218 : decode cL_all 218 = .ok (.goto (-42), 3) := by decide +kernel
theorem dL_all_221 : decode cL_all 221 = .ok (.iinc 3 1, 3) := by decide +kernel
theorem dL_all_224 : decode cL_all 224 = .ok (.goto (-182), 3) := by decide +kernel
theorem dL_all_227 : decode cL_all 227 = .ok (.iconst 0, 1) := by decide +kernel
theorem dL_all_228 : decode cL_all 228 = .ok (.istore_n 3, 1) := by decide +kernel
theorem dL_all_229 : decode cL_all 229 = .ok (.iload_n 3, 1) := by decide +kernel
theorem dL_all_230 : decode cL_all 230 = .ok (.aload_n 0, 1) := by decide +kernel
theorem dL_all_231 : decode cL_all 231 = .ok (.bipush 10, 2) := by decide +kernel
theorem dL_all_233 : decode cL_all 233 = .ok (.invokevirtual 127, 3) := by decide +kernel
theorem dL_all_236 : decode cL_all 236 = .ok (.if_icmp .ge 39, 3) := by decide +kernel
theorem dL_all_239 : decode cL_all 239 = .ok (.iconst 0, 1) := by decide +kernel
theorem dL_all_240 : decode cL_all 240 = .ok (.istore 4, 2) := by decide +kernel
theorem dL_all_242 : decode cL_all 242 = .ok (.iload 4, 2) := by decide +kernel
theorem dL_all_244 : decode cL_all 244 = .ok (.iconst 4, 1) := by decide +kernel
theorem dL_all_245 : decode cL_all 245 = .ok (.if_icmp .ge 24, 3) := by decide +kernel
theorem dL_all_248 : decode cL_all 248 = .ok (.ldc2_w 219, 3) := by decide +kernel
theorem dL_all_251 : decode cL_all 251 = .ok (.lload_n 1, 1) := by decide +kernel
theorem dL_all_252 : decode cL_all 252 = .ok (.lmul, 1) := by decide +kernel
theorem dL_all_253 : decode cL_all 253 = .ok (.aload_n 0, 1) := by decide +kernel
theorem dL_all_254 : decode cL_all 254 = .ok (.iload_n 3, 1) := by decide +kernel
theorem dL_all_255 : decode cL_all 255 = .ok (.iload 4, 2) := by decide +kernel
theorem dL_all_257 : decode cL_all 257 = .ok (.invokevirtual 180, 3) := by decide +kernel
theorem dL_all_260 : decode cL_all 260 = .ok (.i2l, 1) := by decide +kernel
theorem dL_all_261 : decode cL_all 261 = .ok (.ladd, 1) := by decide +kernel
theorem dL_all_262 : decode cL_all 262 = .ok (.lstore_n 1, 1) := by decide +kernel
theorem dL_all_263 : decode cL_all 263 = .ok (.iinc 4 1, 3) := by decide +kernel
theorem dL_all_266 : decode cL_all 266 = .ok (.goto (-24), 3) := by decide +kernel
theorem dL_all_269 : decode cL_all 269 = .ok (.iinc 3 1, 3) := by decide +kernel
theorem dL_all_272 : decode cL_all 272 = .ok (.goto (-43), 3) := by decide +kernel
theorem dL_all_275 : decode cL_all 275 = .ok (.lload_n 1, 1) := by decide +kernel
theorem dL_all_276 : decode cL_all 276 = .ok (.lreturn, 1) := by decide +kernel
def f_L_all_275 (m : xM) (hp : gH) (x1 : Int) : Option (Int) :=
     some x1
set_option maxRecDepth 1000000 in
set_option maxHeartbeats 4000000 in
theorem t_L_all_275 {P : gG → Prop} {d : Nat} {m : xM} {hp : gH} {r : Int} (hd9 : 4 ≤ d) (C : ∀ Γ, P Γ → gX Γ lay_X RL cL_all 7 d hp) (hR : ∀ Γ, P Γ → gRl Γ lay_X cL_all r m hp) (x1 : Int) (h : f_L_all_275 m hp x1 = some r) : gJ P lay_X 7 275 [(1, .inr (.inl x1))] [] m hp hp := by
  unfold f_L_all_275 at h
  refine g_lload_n C dL_all_275 rfl ?_
  exact g_lreturn hR dL_all_276 (by cases h; exact ⟨rfl, rfl, rfl⟩)
def f_L_all_269 (m : xM) (hp : gH) (k229 : Int → Int → Option (Int)) (x1 : Int) (x3 : Int) : Option (Int) :=
     k229 x1 (x3 + 1)
set_option maxRecDepth 1000000 in
set_option maxHeartbeats 4000000 in
theorem t_L_all_269 {P : gG → Prop} {d : Nat} {m : xM} {hp : gH} {r : Int} (hd9 : 4 ≤ d) (C : ∀ Γ, P Γ → gX Γ lay_X RL cL_all 7 d hp) (hR : ∀ Γ, P Γ → gRl Γ lay_X cL_all r m hp) {k229 : Int → Int → Option (Int)} (hk229 : ∀ (x1 : Int) (x3 : Int), k229 x1 x3 = some r → gJ P lay_X 7 229 [(0, .inr (.inr (some 0))), (1, .inr (.inl x1)), (3, .inl x3)] [] m hp hp) (x1 : Int) (x3 : Int) (h : f_L_all_269 m hp k229 x1 x3 = some r) : gJ P lay_X 7 269 [(0, .inr (.inr (some 0))), (1, .inr (.inl x1)), (3, .inl x3)] [] m hp hp := by
  unfold f_L_all_269 at h
  refine g_iinc C dL_all_269 (by decide) rfl ?_
  refine g_goto C 229 dL_all_272 (by decide) ?_
  refine g_loc [(0, .inr (.inr (some 0))), (1, .inr (.inl x1)), (3, .inl (x3 + 1))] ⟨rfl, rfl, rfl, trivial⟩ ?_
  exact hk229 _ _ h
def f_L_all_242 (m : xM) (hp : gH) (k229 : Int → Int → Option (Int)) : Nat → Int → Int → Int → Option (Int)
  | 0, _, _, _ => none
  | n + 1, x1, x3, x4 =>
     (if xw x4 < xw 4 then (Option.bind (f_X_event x3 x4 m) fun q1 =>
      f_L_all_242 m hp k229 n ((31 * x1) + (xw q1)) x3 (x4 + 1))
      else f_L_all_269 m hp k229 x1 x3)
set_option maxRecDepth 1000000 in
set_option maxHeartbeats 4000000 in
theorem t_L_all_242 {P : gG → Prop} {d : Nat} {m : xM} {hp : gH} {r : Int} (hd9 : 4 ≤ d) (C : ∀ Γ, P Γ → gX Γ lay_X RL cL_all 7 d hp) (hR : ∀ Γ, P Γ → gRl Γ lay_X cL_all r m hp) {k229 : Int → Int → Option (Int)} (hk229 : ∀ (x1 : Int) (x3 : Int), k229 x1 x3 = some r → gJ P lay_X 7 229 [(0, .inr (.inr (some 0))), (1, .inr (.inl x1)), (3, .inl x3)] [] m hp hp) : ∀ (n : Nat) (x1 : Int) (x3 : Int) (x4 : Int), f_L_all_242 m hp k229 n x1 x3 x4 = some r → gJ P lay_X 7 242 [(0, .inr (.inr (some 0))), (1, .inr (.inl x1)), (3, .inl x3), (4, .inl x4)] [] m hp hp := by
  intro n
  induction n with
  | zero => intro _ _ _ h; cases h
  | succ n ih =>
    intro x1 x3 x4 h
    rw [f_L_all_242] at h
    refine g_iload C dL_all_242 rfl ?_
    refine g_iconst C dL_all_244 ?_
    refine g_icmp_ge C 269 dL_all_245 (by decide) h (fun h => ?_) (fun h => ?_)
    · refine g_loc [(0, .inr (.inr (some 0))), (1, .inr (.inl x1)), (3, .inl x3)] ⟨rfl, rfl, rfl, trivial⟩ ?_
      exact t_L_all_269 hd9 C hR hk229 _ _ h
    · refine g_ldc2 C 31 dL_all_248 (xin_35 _ (List.mem_of_getElem? (i := 21) rfl)) (by decide) ?_
      refine g_lload_n C dL_all_251 rfl ?_
      refine g_lmul C dL_all_252 ?_
      refine g_aload_n C dL_all_253 rfl ?_
      refine g_iload_n C dL_all_254 rfl ?_
      refine g_iload C dL_all_255 rfl ?_
      obtain ⟨q1, hq1, h⟩ := x_bind h
      refine g_callX C dL_all_257 (xin_32 _ (List.mem_of_getElem? (i := 3) rfl)) xy_X10_event xi_X10_event xs_X10_event (by omega) (by decide) (b := 0) (ci := 11) rfl ⟨_, _, rfl⟩ (av := [.inl x3, .inl x4]) rfl (Nat.le_of_ble_eq_true rfl) (fun l => c_X_event l _ _ _ _ hq1) rfl ?_
      refine g_i2l C dL_all_260 ?_
      refine g_ladd C dL_all_261 ?_
      refine g_lstore_n C dL_all_262 (by decide) ?_
      refine g_iinc C dL_all_263 (by decide) rfl ?_
      refine g_goto C 242 dL_all_266 (by decide) ?_
      refine g_loc [(0, .inr (.inr (some 0))), (1, .inr (.inl ((31 * x1) + (xw q1)))), (3, .inl x3), (4, .inl (x4 + 1))] ⟨rfl, rfl, rfl, rfl, trivial⟩ ?_
      exact ih _ _ _ h
def f_L_all_229 (m : xM) (hp : gH) : Nat → Int → Int → Option (Int)
  | 0, _, _ => none
  | n + 1, x1, x3 =>
     (Option.bind (f_X_size 10 m) fun q0 =>
      (if xw x3 < xw q0 then f_L_all_242 m hp (f_L_all_229 m hp n) fu x1 x3 0
      else f_L_all_275 m hp x1))
set_option maxRecDepth 1000000 in
set_option maxHeartbeats 4000000 in
theorem t_L_all_229 {P : gG → Prop} {d : Nat} {m : xM} {hp : gH} {r : Int} (hd9 : 4 ≤ d) (C : ∀ Γ, P Γ → gX Γ lay_X RL cL_all 7 d hp) (hR : ∀ Γ, P Γ → gRl Γ lay_X cL_all r m hp) : ∀ (n : Nat) (x1 : Int) (x3 : Int), f_L_all_229 m hp n x1 x3 = some r → gJ P lay_X 7 229 [(0, .inr (.inr (some 0))), (1, .inr (.inl x1)), (3, .inl x3)] [] m hp hp := by
  intro n
  induction n with
  | zero => intro _ _ h; cases h
  | succ n ih =>
    intro x1 x3 h
    rw [f_L_all_229] at h
    refine g_iload_n C dL_all_229 rfl ?_
    refine g_aload_n C dL_all_230 rfl ?_
    refine g_bipush C dL_all_231 (by decide) ?_
    obtain ⟨q0, hq0, h⟩ := x_bind h
    refine g_callX C dL_all_233 (xin_29 _ (List.mem_of_getElem? (i := 1) rfl)) xy_X10_size xi_X10_size xs_X10_size (by omega) (by decide) (b := 0) (ci := 11) rfl ⟨_, _, rfl⟩ (av := [.inl 10]) rfl (Nat.le_of_ble_eq_true rfl) (fun l => c_X_size l _ _ _ hq0) rfl ?_
    refine g_icmp_ge C 275 dL_all_236 (by decide) h (fun h => ?_) (fun h => ?_)
    · refine g_loc [(1, .inr (.inl x1))] ⟨rfl, trivial⟩ ?_
      exact t_L_all_275 hd9 C hR _ h
    · refine g_iconst C dL_all_239 ?_
      refine g_istore C dL_all_240 (by decide) ?_
      refine g_loc [(0, .inr (.inr (some 0))), (1, .inr (.inl x1)), (3, .inl x3), (4, .inl 0)] ⟨rfl, rfl, rfl, rfl, trivial⟩ ?_
      exact t_L_all_242 hd9 C hR ih fu _ _ _ h
def f_L_all_227 (m : xM) (hp : gH) (x1 : Int) : Option (Int) :=
     f_L_all_229 m hp fu x1 0
set_option maxRecDepth 1000000 in
set_option maxHeartbeats 4000000 in
theorem t_L_all_227 {P : gG → Prop} {d : Nat} {m : xM} {hp : gH} {r : Int} (hd9 : 4 ≤ d) (C : ∀ Γ, P Γ → gX Γ lay_X RL cL_all 7 d hp) (hR : ∀ Γ, P Γ → gRl Γ lay_X cL_all r m hp) (x1 : Int) (h : f_L_all_227 m hp x1 = some r) : gJ P lay_X 7 227 [(0, .inr (.inr (some 0))), (1, .inr (.inl x1))] [] m hp hp := by
  unfold f_L_all_227 at h
  refine g_iconst C dL_all_227 ?_
  refine g_istore_n C dL_all_228 (by decide) ?_
  refine g_loc [(0, .inr (.inr (some 0))), (1, .inr (.inl x1)), (3, .inl 0)] ⟨rfl, rfl, rfl, trivial⟩ ?_
  exact t_L_all_229 hd9 C hR fu _ _ h
def f_L_all_221 (m : xM) (hp : gH) (k42 : Int → Int → Option (Int)) (x1 : Int) (x3 : Int) : Option (Int) :=
     k42 x1 (x3 + 1)
set_option maxRecDepth 1000000 in
set_option maxHeartbeats 4000000 in
theorem t_L_all_221 {P : gG → Prop} {d : Nat} {m : xM} {hp : gH} {r : Int} (hd9 : 4 ≤ d) (C : ∀ Γ, P Γ → gX Γ lay_X RL cL_all 7 d hp) (hR : ∀ Γ, P Γ → gRl Γ lay_X cL_all r m hp) {k42 : Int → Int → Option (Int)} (hk42 : ∀ (x1 : Int) (x3 : Int), k42 x1 x3 = some r → gJ P lay_X 7 42 [(0, .inr (.inr (some 0))), (1, .inr (.inl x1)), (3, .inl x3)] [] m hp hp) (x1 : Int) (x3 : Int) (h : f_L_all_221 m hp k42 x1 x3 = some r) : gJ P lay_X 7 221 [(0, .inr (.inr (some 0))), (1, .inr (.inl x1)), (3, .inl x3)] [] m hp hp := by
  unfold f_L_all_221 at h
  refine g_iinc C dL_all_221 (by decide) rfl ?_
  refine g_goto C 42 dL_all_224 (by decide) ?_
  refine g_loc [(0, .inr (.inr (some 0))), (1, .inr (.inl x1)), (3, .inl (x3 + 1))] ⟨rfl, rfl, rfl, trivial⟩ ?_
  exact hk42 _ _ h
def f_L_all_215 (m : xM) (hp : gH) (k42 : Int → Int → Option (Int)) (k176 : Int → Int → Int → Int → Option (Int)) (x1 : Int) (x3 : Int) (x4 : Int) (x5 : Int) : Option (Int) :=
     k176 x1 x3 x4 (x5 + 1)
set_option maxRecDepth 1000000 in
set_option maxHeartbeats 4000000 in
theorem t_L_all_215 {P : gG → Prop} {d : Nat} {m : xM} {hp : gH} {r : Int} (hd9 : 4 ≤ d) (C : ∀ Γ, P Γ → gX Γ lay_X RL cL_all 7 d hp) (hR : ∀ Γ, P Γ → gRl Γ lay_X cL_all r m hp) {k42 : Int → Int → Option (Int)} (hk42 : ∀ (x1 : Int) (x3 : Int), k42 x1 x3 = some r → gJ P lay_X 7 42 [(0, .inr (.inr (some 0))), (1, .inr (.inl x1)), (3, .inl x3)] [] m hp hp) {k176 : Int → Int → Int → Int → Option (Int)} (hk176 : ∀ (x1 : Int) (x3 : Int) (x4 : Int) (x5 : Int), k176 x1 x3 x4 x5 = some r → gJ P lay_X 7 176 [(0, .inr (.inr (some 0))), (1, .inr (.inl x1)), (3, .inl x3), (4, .inl x4), (5, .inl x5)] [] m hp hp) (x1 : Int) (x3 : Int) (x4 : Int) (x5 : Int) (h : f_L_all_215 m hp k42 k176 x1 x3 x4 x5 = some r) : gJ P lay_X 7 215 [(0, .inr (.inr (some 0))), (1, .inr (.inl x1)), (3, .inl x3), (4, .inl x4), (5, .inl x5)] [] m hp hp := by
  unfold f_L_all_215 at h
  refine g_iinc C dL_all_215 (by decide) rfl ?_
  refine g_goto C 176 dL_all_218 (by decide) ?_
  refine g_loc [(0, .inr (.inr (some 0))), (1, .inr (.inl x1)), (3, .inl x3), (4, .inl x4), (5, .inl (x5 + 1))] ⟨rfl, rfl, rfl, rfl, rfl, trivial⟩ ?_
  exact hk176 _ _ _ _ h
def f_L_all_186 (m : xM) (hp : gH) (k42 : Int → Int → Option (Int)) (k176 : Int → Int → Int → Int → Option (Int)) : Nat → Int → Int → Int → Int → Int → Option (Int)
  | 0, _, _, _, _, _ => none
  | n + 1, x1, x3, x4, x5, x6 =>
     (if xw x6 < xw 4 then (Option.bind (f_X_frame x3 x5 x6 m) fun q5 =>
      f_L_all_186 m hp k42 k176 n ((31 * x1) + (xw q5)) x3 x4 x5 (x6 + 1))
      else f_L_all_215 m hp k42 k176 x1 x3 x4 x5)
set_option maxRecDepth 1000000 in
set_option maxHeartbeats 4000000 in
theorem t_L_all_186 {P : gG → Prop} {d : Nat} {m : xM} {hp : gH} {r : Int} (hd9 : 4 ≤ d) (C : ∀ Γ, P Γ → gX Γ lay_X RL cL_all 7 d hp) (hR : ∀ Γ, P Γ → gRl Γ lay_X cL_all r m hp) {k42 : Int → Int → Option (Int)} (hk42 : ∀ (x1 : Int) (x3 : Int), k42 x1 x3 = some r → gJ P lay_X 7 42 [(0, .inr (.inr (some 0))), (1, .inr (.inl x1)), (3, .inl x3)] [] m hp hp) {k176 : Int → Int → Int → Int → Option (Int)} (hk176 : ∀ (x1 : Int) (x3 : Int) (x4 : Int) (x5 : Int), k176 x1 x3 x4 x5 = some r → gJ P lay_X 7 176 [(0, .inr (.inr (some 0))), (1, .inr (.inl x1)), (3, .inl x3), (4, .inl x4), (5, .inl x5)] [] m hp hp) : ∀ (n : Nat) (x1 : Int) (x3 : Int) (x4 : Int) (x5 : Int) (x6 : Int), f_L_all_186 m hp k42 k176 n x1 x3 x4 x5 x6 = some r → gJ P lay_X 7 186 [(0, .inr (.inr (some 0))), (1, .inr (.inl x1)), (3, .inl x3), (4, .inl x4), (5, .inl x5), (6, .inl x6)] [] m hp hp := by
  intro n
  induction n with
  | zero => intro _ _ _ _ _ h; cases h
  | succ n ih =>
    intro x1 x3 x4 x5 x6 h
    rw [f_L_all_186] at h
    refine g_iload C dL_all_186 rfl ?_
    refine g_iconst C dL_all_188 ?_
    refine g_icmp_ge C 215 dL_all_189 (by decide) h (fun h => ?_) (fun h => ?_)
    · refine g_loc [(0, .inr (.inr (some 0))), (1, .inr (.inl x1)), (3, .inl x3), (4, .inl x4), (5, .inl x5)] ⟨rfl, rfl, rfl, rfl, rfl, trivial⟩ ?_
      exact t_L_all_215 hd9 C hR hk42 hk176 _ _ _ _ h
    · refine g_ldc2 C 31 dL_all_192 (xin_35 _ (List.mem_of_getElem? (i := 21) rfl)) (by decide) ?_
      refine g_lload_n C dL_all_195 rfl ?_
      refine g_lmul C dL_all_196 ?_
      refine g_aload_n C dL_all_197 rfl ?_
      refine g_iload_n C dL_all_198 rfl ?_
      refine g_iload C dL_all_199 rfl ?_
      refine g_iload C dL_all_201 rfl ?_
      obtain ⟨q5, hq5, h⟩ := x_bind h
      refine g_callX C dL_all_203 (xin_35 _ (List.mem_of_getElem? (i := 3) rfl)) xy_X10_frame xi_X10_frame xs_X10_frame (by omega) (by decide) (b := 0) (ci := 11) rfl ⟨_, _, rfl⟩ (av := [.inl x3, .inl x5, .inl x6]) rfl (Nat.le_of_ble_eq_true rfl) (fun l => c_X_frame l _ _ _ _ _ hq5) rfl ?_
      refine g_i2l C dL_all_206 ?_
      refine g_ladd C dL_all_207 ?_
      refine g_lstore_n C dL_all_208 (by decide) ?_
      refine g_iinc C dL_all_209 (by decide) rfl ?_
      refine g_goto C 186 dL_all_212 (by decide) ?_
      refine g_loc [(0, .inr (.inr (some 0))), (1, .inr (.inl ((31 * x1) + (xw q5)))), (3, .inl x3), (4, .inl x4), (5, .inl x5), (6, .inl (x6 + 1))] ⟨rfl, rfl, rfl, rfl, rfl, rfl, trivial⟩ ?_
      exact ih _ _ _ _ _ h
def f_L_all_176 (m : xM) (hp : gH) (k42 : Int → Int → Option (Int)) : Nat → Int → Int → Int → Int → Option (Int)
  | 0, _, _, _, _ => none
  | n + 1, x1, x3, x4, x5 =>
     (if xw x5 < xw x4 then f_L_all_186 m hp k42 (f_L_all_176 m hp k42 n) fu x1 x3 x4 x5 0
      else f_L_all_221 m hp k42 x1 x3)
set_option maxRecDepth 1000000 in
set_option maxHeartbeats 4000000 in
theorem t_L_all_176 {P : gG → Prop} {d : Nat} {m : xM} {hp : gH} {r : Int} (hd9 : 4 ≤ d) (C : ∀ Γ, P Γ → gX Γ lay_X RL cL_all 7 d hp) (hR : ∀ Γ, P Γ → gRl Γ lay_X cL_all r m hp) {k42 : Int → Int → Option (Int)} (hk42 : ∀ (x1 : Int) (x3 : Int), k42 x1 x3 = some r → gJ P lay_X 7 42 [(0, .inr (.inr (some 0))), (1, .inr (.inl x1)), (3, .inl x3)] [] m hp hp) : ∀ (n : Nat) (x1 : Int) (x3 : Int) (x4 : Int) (x5 : Int), f_L_all_176 m hp k42 n x1 x3 x4 x5 = some r → gJ P lay_X 7 176 [(0, .inr (.inr (some 0))), (1, .inr (.inl x1)), (3, .inl x3), (4, .inl x4), (5, .inl x5)] [] m hp hp := by
  intro n
  induction n with
  | zero => intro _ _ _ _ h; cases h
  | succ n ih =>
    intro x1 x3 x4 x5 h
    rw [f_L_all_176] at h
    refine g_iload C dL_all_176 rfl ?_
    refine g_iload C dL_all_178 rfl ?_
    refine g_icmp_ge C 221 dL_all_180 (by decide) h (fun h => ?_) (fun h => ?_)
    · refine g_loc [(0, .inr (.inr (some 0))), (1, .inr (.inl x1)), (3, .inl x3)] ⟨rfl, rfl, rfl, trivial⟩ ?_
      exact t_L_all_221 hd9 C hR hk42 _ _ h
    · refine g_iconst C dL_all_183 ?_
      refine g_istore C dL_all_184 (by decide) ?_
      refine g_loc [(0, .inr (.inr (some 0))), (1, .inr (.inl x1)), (3, .inl x3), (4, .inl x4), (5, .inl x5), (6, .inl 0)] ⟨rfl, rfl, rfl, rfl, rfl, rfl, trivial⟩ ?_
      exact t_L_all_186 hd9 C hR hk42 ih fu _ _ _ _ _ h
def f_L_all_158 (m : xM) (hp : gH) (k42 : Int → Int → Option (Int)) (x1 : Int) (x3 : Int) : Option (Int) :=
     (Option.bind (f_X_end x3 1 m) fun q3 =>
      (Option.bind (f_X_end x3 2 m) fun q4 =>
      f_L_all_176 m hp k42 fu x1 x3 (q3 + q4) 0))
set_option maxRecDepth 1000000 in
set_option maxHeartbeats 4000000 in
theorem t_L_all_158 {P : gG → Prop} {d : Nat} {m : xM} {hp : gH} {r : Int} (hd9 : 4 ≤ d) (C : ∀ Γ, P Γ → gX Γ lay_X RL cL_all 7 d hp) (hR : ∀ Γ, P Γ → gRl Γ lay_X cL_all r m hp) {k42 : Int → Int → Option (Int)} (hk42 : ∀ (x1 : Int) (x3 : Int), k42 x1 x3 = some r → gJ P lay_X 7 42 [(0, .inr (.inr (some 0))), (1, .inr (.inl x1)), (3, .inl x3)] [] m hp hp) (x1 : Int) (x3 : Int) (h : f_L_all_158 m hp k42 x1 x3 = some r) : gJ P lay_X 7 158 [(0, .inr (.inr (some 0))), (1, .inr (.inl x1)), (3, .inl x3)] [] m hp hp := by
  unfold f_L_all_158 at h
  refine g_aload_n C dL_all_158 rfl ?_
  refine g_iload_n C dL_all_159 rfl ?_
  refine g_iconst C dL_all_160 ?_
  obtain ⟨q3, hq3, h⟩ := x_bind h
  refine g_callX C dL_all_161 (xin_31 _ (List.mem_of_getElem? (i := 1) rfl)) xy_X10_end xi_X10_end xs_X10_end (by omega) (by decide) (b := 0) (ci := 11) rfl ⟨_, _, rfl⟩ (av := [.inl x3, .inl 1]) rfl (Nat.le_of_ble_eq_true rfl) (fun l => c_X_end l _ _ _ _ hq3) rfl ?_
  refine g_aload_n C dL_all_164 rfl ?_
  refine g_iload_n C dL_all_165 rfl ?_
  refine g_iconst C dL_all_166 ?_
  obtain ⟨q4, hq4, h⟩ := x_bind h
  refine g_callX C dL_all_167 (xin_31 _ (List.mem_of_getElem? (i := 1) rfl)) xy_X10_end xi_X10_end xs_X10_end (by omega) (by decide) (b := 0) (ci := 11) rfl ⟨_, _, rfl⟩ (av := [.inl x3, .inl 2]) rfl (Nat.le_of_ble_eq_true rfl) (fun l => c_X_end l _ _ _ _ hq4) rfl ?_
  refine g_iadd C dL_all_170 ?_
  refine g_istore C dL_all_171 (by decide) ?_
  refine g_iconst C dL_all_173 ?_
  refine g_istore C dL_all_174 (by decide) ?_
  refine g_loc [(0, .inr (.inr (some 0))), (1, .inr (.inl x1)), (3, .inl x3), (4, .inl (q3 + q4)), (5, .inl 0)] ⟨rfl, rfl, rfl, rfl, rfl, trivial⟩ ?_
  exact t_L_all_176 hd9 C hR hk42 fu _ _ _ _ h
def f_L_all_127 (m : xM) (hp : gH) (k42 : Int → Int → Option (Int)) : Nat → Int → Int → Int → Option (Int)
  | 0, _, _, _ => none
  | n + 1, x1, x3, x4 =>
     (Option.bind (f_X_received x3 x4 m) fun q2 =>
      (if xw q2 < 0 then f_L_all_158 m hp k42 x1 x3
      else (Option.bind (f_X_received x3 x4 m) fun q6 =>
      f_L_all_127 m hp k42 n ((31 * x1) + (xw q6)) x3 (x4 + 1))))
set_option maxRecDepth 1000000 in
set_option maxHeartbeats 4000000 in
theorem t_L_all_127 {P : gG → Prop} {d : Nat} {m : xM} {hp : gH} {r : Int} (hd9 : 4 ≤ d) (C : ∀ Γ, P Γ → gX Γ lay_X RL cL_all 7 d hp) (hR : ∀ Γ, P Γ → gRl Γ lay_X cL_all r m hp) {k42 : Int → Int → Option (Int)} (hk42 : ∀ (x1 : Int) (x3 : Int), k42 x1 x3 = some r → gJ P lay_X 7 42 [(0, .inr (.inr (some 0))), (1, .inr (.inl x1)), (3, .inl x3)] [] m hp hp) : ∀ (n : Nat) (x1 : Int) (x3 : Int) (x4 : Int), f_L_all_127 m hp k42 n x1 x3 x4 = some r → gJ P lay_X 7 127 [(0, .inr (.inr (some 0))), (1, .inr (.inl x1)), (3, .inl x3), (4, .inl x4)] [] m hp hp := by
  intro n
  induction n with
  | zero => intro _ _ _ h; cases h
  | succ n ih =>
    intro x1 x3 x4 h
    rw [f_L_all_127] at h
    refine g_aload_n C dL_all_127 rfl ?_
    refine g_iload_n C dL_all_128 rfl ?_
    refine g_iload C dL_all_129 rfl ?_
    obtain ⟨q2, hq2, h⟩ := x_bind h
    refine g_callX C dL_all_131 (xin_31 _ (List.mem_of_getElem? (i := 16) rfl)) xy_X10_received xi_X10_received xs_X10_received (by omega) (by decide) (b := 0) (ci := 11) rfl ⟨_, _, rfl⟩ (av := [.inl x3, .inl x4]) rfl (Nat.le_of_ble_eq_true rfl) (fun l => c_X_received l _ _ _ _ hq2) rfl ?_
    refine g_if_lt C 158 dL_all_134 (by decide) h (fun h => ?_) (fun h => ?_)
    · refine g_loc [(0, .inr (.inr (some 0))), (1, .inr (.inl x1)), (3, .inl x3)] ⟨rfl, rfl, rfl, trivial⟩ ?_
      exact t_L_all_158 hd9 C hR hk42 _ _ h
    · refine g_ldc2 C 31 dL_all_137 (xin_35 _ (List.mem_of_getElem? (i := 21) rfl)) (by decide) ?_
      refine g_lload_n C dL_all_140 rfl ?_
      refine g_lmul C dL_all_141 ?_
      refine g_aload_n C dL_all_142 rfl ?_
      refine g_iload_n C dL_all_143 rfl ?_
      refine g_iload C dL_all_144 rfl ?_
      obtain ⟨q6, hq6, h⟩ := x_bind h
      refine g_callX C dL_all_146 (xin_31 _ (List.mem_of_getElem? (i := 16) rfl)) xy_X10_received xi_X10_received xs_X10_received (by omega) (by decide) (b := 0) (ci := 11) rfl ⟨_, _, rfl⟩ (av := [.inl x3, .inl x4]) rfl (Nat.le_of_ble_eq_true rfl) (fun l => c_X_received l _ _ _ _ hq6) rfl ?_
      refine g_i2l C dL_all_149 ?_
      refine g_ladd C dL_all_150 ?_
      refine g_lstore_n C dL_all_151 (by decide) ?_
      refine g_iinc C dL_all_152 (by decide) rfl ?_
      refine g_goto C 127 dL_all_155 (by decide) ?_
      refine g_loc [(0, .inr (.inr (some 0))), (1, .inr (.inl ((31 * x1) + (xw q6)))), (3, .inl x3), (4, .inl (x4 + 1))] ⟨rfl, rfl, rfl, rfl, trivial⟩ ?_
      exact ih _ _ _ h
def f_L_all_124 (m : xM) (hp : gH) (k42 : Int → Int → Option (Int)) (x1 : Int) (x3 : Int) : Option (Int) :=
     f_L_all_127 m hp k42 fu x1 x3 0
set_option maxRecDepth 1000000 in
set_option maxHeartbeats 4000000 in
theorem t_L_all_124 {P : gG → Prop} {d : Nat} {m : xM} {hp : gH} {r : Int} (hd9 : 4 ≤ d) (C : ∀ Γ, P Γ → gX Γ lay_X RL cL_all 7 d hp) (hR : ∀ Γ, P Γ → gRl Γ lay_X cL_all r m hp) {k42 : Int → Int → Option (Int)} (hk42 : ∀ (x1 : Int) (x3 : Int), k42 x1 x3 = some r → gJ P lay_X 7 42 [(0, .inr (.inr (some 0))), (1, .inr (.inl x1)), (3, .inl x3)] [] m hp hp) (x1 : Int) (x3 : Int) (h : f_L_all_124 m hp k42 x1 x3 = some r) : gJ P lay_X 7 124 [(0, .inr (.inr (some 0))), (1, .inr (.inl x1)), (3, .inl x3)] [] m hp hp := by
  unfold f_L_all_124 at h
  refine g_iconst C dL_all_124 ?_
  refine g_istore C dL_all_125 (by decide) ?_
  refine g_loc [(0, .inr (.inr (some 0))), (1, .inr (.inl x1)), (3, .inl x3), (4, .inl 0)] ⟨rfl, rfl, rfl, rfl, trivial⟩ ?_
  exact t_L_all_127 hd9 C hR hk42 fu _ _ _ h
def f_L_all_81 (m : xM) (hp : gH) (k42 : Int → Int → Option (Int)) : Nat → Int → Int → Int → Option (Int)
  | 0, _, _, _ => none
  | n + 1, x1, x3, x4 =>
     (if xw x4 < xw 8 then (Option.bind (f_X_word x3 1 x4 m) fun q7 =>
      (Option.bind (f_X_word x3 0 x4 m) fun q8 =>
      f_L_all_81 m hp k42 n ((31 * ((31 * x1) + (xw q7))) + (xw q8)) x3 (x4 + 1)))
      else f_L_all_124 m hp k42 x1 x3)
set_option maxRecDepth 1000000 in
set_option maxHeartbeats 4000000 in
theorem t_L_all_81 {P : gG → Prop} {d : Nat} {m : xM} {hp : gH} {r : Int} (hd9 : 4 ≤ d) (C : ∀ Γ, P Γ → gX Γ lay_X RL cL_all 7 d hp) (hR : ∀ Γ, P Γ → gRl Γ lay_X cL_all r m hp) {k42 : Int → Int → Option (Int)} (hk42 : ∀ (x1 : Int) (x3 : Int), k42 x1 x3 = some r → gJ P lay_X 7 42 [(0, .inr (.inr (some 0))), (1, .inr (.inl x1)), (3, .inl x3)] [] m hp hp) : ∀ (n : Nat) (x1 : Int) (x3 : Int) (x4 : Int), f_L_all_81 m hp k42 n x1 x3 x4 = some r → gJ P lay_X 7 81 [(0, .inr (.inr (some 0))), (1, .inr (.inl x1)), (3, .inl x3), (4, .inl x4)] [] m hp hp := by
  intro n
  induction n with
  | zero => intro _ _ _ h; cases h
  | succ n ih =>
    intro x1 x3 x4 h
    rw [f_L_all_81] at h
    refine g_iload C dL_all_81 rfl ?_
    refine g_bipush C dL_all_83 (by decide) ?_
    refine g_icmp_ge C 124 dL_all_85 (by decide) h (fun h => ?_) (fun h => ?_)
    · refine g_loc [(0, .inr (.inr (some 0))), (1, .inr (.inl x1)), (3, .inl x3)] ⟨rfl, rfl, rfl, trivial⟩ ?_
      exact t_L_all_124 hd9 C hR hk42 _ _ h
    · refine g_ldc2 C 31 dL_all_88 (xin_35 _ (List.mem_of_getElem? (i := 21) rfl)) (by decide) ?_
      refine g_ldc2 C 31 dL_all_91 (xin_35 _ (List.mem_of_getElem? (i := 21) rfl)) (by decide) ?_
      refine g_lload_n C dL_all_94 rfl ?_
      refine g_lmul C dL_all_95 ?_
      refine g_aload_n C dL_all_96 rfl ?_
      refine g_iload_n C dL_all_97 rfl ?_
      refine g_iconst C dL_all_98 ?_
      refine g_iload C dL_all_99 rfl ?_
      obtain ⟨q7, hq7, h⟩ := x_bind h
      refine g_callX C dL_all_101 (xin_31 _ (List.mem_of_getElem? (i := 22) rfl)) xy_X10_word xi_X10_word xs_X10_word (by omega) (by decide) (b := 0) (ci := 11) rfl ⟨_, _, rfl⟩ (av := [.inl x3, .inl 1, .inl x4]) rfl (Nat.le_of_ble_eq_true rfl) (fun l => c_X_word l _ _ _ _ _ hq7) rfl ?_
      refine g_i2l C dL_all_104 ?_
      refine g_ladd C dL_all_105 ?_
      refine g_lmul C dL_all_106 ?_
      refine g_aload_n C dL_all_107 rfl ?_
      refine g_iload_n C dL_all_108 rfl ?_
      refine g_iconst C dL_all_109 ?_
      refine g_iload C dL_all_110 rfl ?_
      obtain ⟨q8, hq8, h⟩ := x_bind h
      refine g_callX C dL_all_112 (xin_31 _ (List.mem_of_getElem? (i := 22) rfl)) xy_X10_word xi_X10_word xs_X10_word (by omega) (by decide) (b := 0) (ci := 11) rfl ⟨_, _, rfl⟩ (av := [.inl x3, .inl 0, .inl x4]) rfl (Nat.le_of_ble_eq_true rfl) (fun l => c_X_word l _ _ _ _ _ hq8) rfl ?_
      refine g_i2l C dL_all_115 ?_
      refine g_ladd C dL_all_116 ?_
      refine g_lstore_n C dL_all_117 (by decide) ?_
      refine g_iinc C dL_all_118 (by decide) rfl ?_
      refine g_goto C 81 dL_all_121 (by decide) ?_
      refine g_loc [(0, .inr (.inr (some 0))), (1, .inr (.inl ((31 * ((31 * x1) + (xw q7))) + (xw q8)))), (3, .inl x3), (4, .inl (x4 + 1))] ⟨rfl, rfl, rfl, rfl, trivial⟩ ?_
      exact ih _ _ _ h
def f_L_all_78 (m : xM) (hp : gH) (k42 : Int → Int → Option (Int)) (x1 : Int) (x3 : Int) : Option (Int) :=
     f_L_all_81 m hp k42 fu x1 x3 0
set_option maxRecDepth 1000000 in
set_option maxHeartbeats 4000000 in
theorem t_L_all_78 {P : gG → Prop} {d : Nat} {m : xM} {hp : gH} {r : Int} (hd9 : 4 ≤ d) (C : ∀ Γ, P Γ → gX Γ lay_X RL cL_all 7 d hp) (hR : ∀ Γ, P Γ → gRl Γ lay_X cL_all r m hp) {k42 : Int → Int → Option (Int)} (hk42 : ∀ (x1 : Int) (x3 : Int), k42 x1 x3 = some r → gJ P lay_X 7 42 [(0, .inr (.inr (some 0))), (1, .inr (.inl x1)), (3, .inl x3)] [] m hp hp) (x1 : Int) (x3 : Int) (h : f_L_all_78 m hp k42 x1 x3 = some r) : gJ P lay_X 7 78 [(0, .inr (.inr (some 0))), (1, .inr (.inl x1)), (3, .inl x3)] [] m hp hp := by
  unfold f_L_all_78 at h
  refine g_iconst C dL_all_78 ?_
  refine g_istore C dL_all_79 (by decide) ?_
  refine g_loc [(0, .inr (.inr (some 0))), (1, .inr (.inl x1)), (3, .inl x3), (4, .inl 0)] ⟨rfl, rfl, rfl, rfl, trivial⟩ ?_
  exact t_L_all_81 hd9 C hR hk42 fu _ _ _ h
def f_L_all_50 (m : xM) (hp : gH) (k42 : Int → Int → Option (Int)) : Nat → Int → Int → Int → Option (Int)
  | 0, _, _, _ => none
  | n + 1, x1, x3, x4 =>
     (if xw x4 < xw 10 then (Option.bind (f_X_end x3 x4 m) fun q9 =>
      f_L_all_50 m hp k42 n ((31 * x1) + (xw q9)) x3 (x4 + 1))
      else f_L_all_78 m hp k42 x1 x3)
set_option maxRecDepth 1000000 in
set_option maxHeartbeats 4000000 in
theorem t_L_all_50 {P : gG → Prop} {d : Nat} {m : xM} {hp : gH} {r : Int} (hd9 : 4 ≤ d) (C : ∀ Γ, P Γ → gX Γ lay_X RL cL_all 7 d hp) (hR : ∀ Γ, P Γ → gRl Γ lay_X cL_all r m hp) {k42 : Int → Int → Option (Int)} (hk42 : ∀ (x1 : Int) (x3 : Int), k42 x1 x3 = some r → gJ P lay_X 7 42 [(0, .inr (.inr (some 0))), (1, .inr (.inl x1)), (3, .inl x3)] [] m hp hp) : ∀ (n : Nat) (x1 : Int) (x3 : Int) (x4 : Int), f_L_all_50 m hp k42 n x1 x3 x4 = some r → gJ P lay_X 7 50 [(0, .inr (.inr (some 0))), (1, .inr (.inl x1)), (3, .inl x3), (4, .inl x4)] [] m hp hp := by
  intro n
  induction n with
  | zero => intro _ _ _ h; cases h
  | succ n ih =>
    intro x1 x3 x4 h
    rw [f_L_all_50] at h
    refine g_iload C dL_all_50 rfl ?_
    refine g_bipush C dL_all_52 (by decide) ?_
    refine g_icmp_ge C 78 dL_all_54 (by decide) h (fun h => ?_) (fun h => ?_)
    · refine g_loc [(0, .inr (.inr (some 0))), (1, .inr (.inl x1)), (3, .inl x3)] ⟨rfl, rfl, rfl, trivial⟩ ?_
      exact t_L_all_78 hd9 C hR hk42 _ _ h
    · refine g_ldc2 C 31 dL_all_57 (xin_35 _ (List.mem_of_getElem? (i := 21) rfl)) (by decide) ?_
      refine g_lload_n C dL_all_60 rfl ?_
      refine g_lmul C dL_all_61 ?_
      refine g_aload_n C dL_all_62 rfl ?_
      refine g_iload_n C dL_all_63 rfl ?_
      refine g_iload C dL_all_64 rfl ?_
      obtain ⟨q9, hq9, h⟩ := x_bind h
      refine g_callX C dL_all_66 (xin_31 _ (List.mem_of_getElem? (i := 1) rfl)) xy_X10_end xi_X10_end xs_X10_end (by omega) (by decide) (b := 0) (ci := 11) rfl ⟨_, _, rfl⟩ (av := [.inl x3, .inl x4]) rfl (Nat.le_of_ble_eq_true rfl) (fun l => c_X_end l _ _ _ _ hq9) rfl ?_
      refine g_i2l C dL_all_69 ?_
      refine g_ladd C dL_all_70 ?_
      refine g_lstore_n C dL_all_71 (by decide) ?_
      refine g_iinc C dL_all_72 (by decide) rfl ?_
      refine g_goto C 50 dL_all_75 (by decide) ?_
      refine g_loc [(0, .inr (.inr (some 0))), (1, .inr (.inl ((31 * x1) + (xw q9)))), (3, .inl x3), (4, .inl (x4 + 1))] ⟨rfl, rfl, rfl, rfl, trivial⟩ ?_
      exact ih _ _ _ h
def f_L_all_42 (m : xM) (hp : gH) : Nat → Int → Int → Option (Int)
  | 0, _, _ => none
  | n + 1, x1, x3 =>
     (if xw x3 < xw 2 then f_L_all_50 m hp (f_L_all_42 m hp n) fu x1 x3 0
      else f_L_all_227 m hp x1)
set_option maxRecDepth 1000000 in
set_option maxHeartbeats 4000000 in
theorem t_L_all_42 {P : gG → Prop} {d : Nat} {m : xM} {hp : gH} {r : Int} (hd9 : 4 ≤ d) (C : ∀ Γ, P Γ → gX Γ lay_X RL cL_all 7 d hp) (hR : ∀ Γ, P Γ → gRl Γ lay_X cL_all r m hp) : ∀ (n : Nat) (x1 : Int) (x3 : Int), f_L_all_42 m hp n x1 x3 = some r → gJ P lay_X 7 42 [(0, .inr (.inr (some 0))), (1, .inr (.inl x1)), (3, .inl x3)] [] m hp hp := by
  intro n
  induction n with
  | zero => intro _ _ h; cases h
  | succ n ih =>
    intro x1 x3 h
    rw [f_L_all_42] at h
    refine g_iload_n C dL_all_42 rfl ?_
    refine g_iconst C dL_all_43 ?_
    refine g_icmp_ge C 227 dL_all_44 (by decide) h (fun h => ?_) (fun h => ?_)
    · refine g_loc [(0, .inr (.inr (some 0))), (1, .inr (.inl x1))] ⟨rfl, rfl, trivial⟩ ?_
      exact t_L_all_227 hd9 C hR _ h
    · refine g_iconst C dL_all_47 ?_
      refine g_istore C dL_all_48 (by decide) ?_
      refine g_loc [(0, .inr (.inr (some 0))), (1, .inr (.inl x1)), (3, .inl x3), (4, .inl 0)] ⟨rfl, rfl, rfl, rfl, trivial⟩ ?_
      exact t_L_all_50 hd9 C hR ih fu _ _ _ h
def f_L_all_40 (m : xM) (hp : gH) (x1 : Int) : Option (Int) :=
     f_L_all_42 m hp fu x1 0
set_option maxRecDepth 1000000 in
set_option maxHeartbeats 4000000 in
theorem t_L_all_40 {P : gG → Prop} {d : Nat} {m : xM} {hp : gH} {r : Int} (hd9 : 4 ≤ d) (C : ∀ Γ, P Γ → gX Γ lay_X RL cL_all 7 d hp) (hR : ∀ Γ, P Γ → gRl Γ lay_X cL_all r m hp) (x1 : Int) (h : f_L_all_40 m hp x1 = some r) : gJ P lay_X 7 40 [(0, .inr (.inr (some 0))), (1, .inr (.inl x1))] [] m hp hp := by
  unfold f_L_all_40 at h
  refine g_iconst C dL_all_40 ?_
  refine g_istore_n C dL_all_41 (by decide) ?_
  refine g_loc [(0, .inr (.inr (some 0))), (1, .inr (.inl x1)), (3, .inl 0)] ⟨rfl, rfl, rfl, trivial⟩ ?_
  exact t_L_all_42 hd9 C hR fu _ _ h
def f_L_all_4 (m : xM) (hp : gH) : Nat → Int → Int → Option (Int)
  | 0, _, _ => none
  | n + 1, x1, x3 =>
     (if xw x3 < xw 11 then (Option.bind (f_X_size x3 m) fun q10 =>
      (Option.bind (f_X_total x3 m) fun q11 =>
      f_L_all_4 m hp n ((31 * ((31 * x1) + (xw q10))) + (xw q11)) (x3 + 1)))
      else f_L_all_40 m hp x1)
set_option maxRecDepth 1000000 in
set_option maxHeartbeats 4000000 in
theorem t_L_all_4 {P : gG → Prop} {d : Nat} {m : xM} {hp : gH} {r : Int} (hd9 : 4 ≤ d) (C : ∀ Γ, P Γ → gX Γ lay_X RL cL_all 7 d hp) (hR : ∀ Γ, P Γ → gRl Γ lay_X cL_all r m hp) : ∀ (n : Nat) (x1 : Int) (x3 : Int), f_L_all_4 m hp n x1 x3 = some r → gJ P lay_X 7 4 [(0, .inr (.inr (some 0))), (1, .inr (.inl x1)), (3, .inl x3)] [] m hp hp := by
  intro n
  induction n with
  | zero => intro _ _ h; cases h
  | succ n ih =>
    intro x1 x3 h
    rw [f_L_all_4] at h
    refine g_iload_n C dL_all_4 rfl ?_
    refine g_bipush C dL_all_5 (by decide) ?_
    refine g_icmp_ge C 40 dL_all_7 (by decide) h (fun h => ?_) (fun h => ?_)
    · refine g_loc [(0, .inr (.inr (some 0))), (1, .inr (.inl x1))] ⟨rfl, rfl, trivial⟩ ?_
      exact t_L_all_40 hd9 C hR _ h
    · refine g_ldc2 C 31 dL_all_10 (xin_35 _ (List.mem_of_getElem? (i := 21) rfl)) (by decide) ?_
      refine g_ldc2 C 31 dL_all_13 (xin_35 _ (List.mem_of_getElem? (i := 21) rfl)) (by decide) ?_
      refine g_lload_n C dL_all_16 rfl ?_
      refine g_lmul C dL_all_17 ?_
      refine g_aload_n C dL_all_18 rfl ?_
      refine g_iload_n C dL_all_19 rfl ?_
      obtain ⟨q10, hq10, h⟩ := x_bind h
      refine g_callX C dL_all_20 (xin_29 _ (List.mem_of_getElem? (i := 1) rfl)) xy_X10_size xi_X10_size xs_X10_size (by omega) (by decide) (b := 0) (ci := 11) rfl ⟨_, _, rfl⟩ (av := [.inl x3]) rfl (Nat.le_of_ble_eq_true rfl) (fun l => c_X_size l _ _ _ hq10) rfl ?_
      refine g_i2l C dL_all_23 ?_
      refine g_ladd C dL_all_24 ?_
      refine g_lmul C dL_all_25 ?_
      refine g_aload_n C dL_all_26 rfl ?_
      refine g_iload_n C dL_all_27 rfl ?_
      obtain ⟨q11, hq11, h⟩ := x_bind h
      refine g_callX C dL_all_28 (xin_35 _ (List.mem_of_getElem? (i := 10) rfl)) xy_X10_total xi_X10_total xs_X10_total (by omega) (by decide) (b := 0) (ci := 11) rfl ⟨_, _, rfl⟩ (av := [.inl x3]) rfl (Nat.le_of_ble_eq_true rfl) (fun l => c_X_total l _ _ _ hq11) rfl ?_
      refine g_i2l C dL_all_31 ?_
      refine g_ladd C dL_all_32 ?_
      refine g_lstore_n C dL_all_33 (by decide) ?_
      refine g_iinc C dL_all_34 (by decide) rfl ?_
      refine g_goto C 4 dL_all_37 (by decide) ?_
      refine g_loc [(0, .inr (.inr (some 0))), (1, .inr (.inl ((31 * ((31 * x1) + (xw q10))) + (xw q11)))), (3, .inl (x3 + 1))] ⟨rfl, rfl, rfl, trivial⟩ ?_
      exact ih _ _ h
def f_L_all (m : xM) (hp : gH) : Option (Int) :=
     f_L_all_4 m hp fu 0 0
set_option maxRecDepth 1000000 in
set_option maxHeartbeats 4000000 in
theorem t_L_all {P : gG → Prop} {d : Nat} {m : xM} {hp : gH} {r : Int} (hd9 : 4 ≤ d) (C : ∀ Γ, P Γ → gX Γ lay_X RL cL_all 7 d hp) (hR : ∀ Γ, P Γ → gRl Γ lay_X cL_all r m hp) (h : f_L_all m hp = some r) : gJ P lay_X 7 0 [(0, .inr (.inr (some 0)))] [] m hp hp := by
  unfold f_L_all at h
  refine g_lconst C dL_all_0 ?_
  refine g_lstore_n C dL_all_1 (by decide) ?_
  refine g_iconst C dL_all_2 ?_
  refine g_istore_n C dL_all_3 (by decide) ?_
  refine g_loc [(0, .inr (.inr (some 0))), (1, .inr (.inl 0)), (3, .inl 0)] ⟨rfl, rfl, rfl, trivial⟩ ?_
  exact t_L_all_4 hd9 C hR fu _ _ h
theorem c_L_all (m : xM) {r : Int} {hp : gH} (h : f_L_all m hp = some r) (l : Launch) : gMet l yL_all cL_all 7 (some .long) 4 lay_X [.inr (.inr (some 0))] m hp (some (.inr (.inl r))) m hp :=
  gMet_l (by decide +kernel) (Nat.le_of_ble_eq_true rfl) (fun P C hR => t_L_all (Nat.le_refl _) C hR h)
/-! ===== yL_isSound ===== -/
theorem xy_X10_nextCost : xY yX10_nextCost cX10_nextCost 3 (some .int) 1 := ⟨(xin_30 _ (List.mem_of_getElem? (i := 9) rfl)), (xin_1 _ (List.mem_of_getElem? (i := 2) rfl)), by decide, by decide, by decide +kernel⟩
theorem xi_X10_nextCost : Cond.instanceMethod yX10_nextCost ∈ wsL_law := (xin_30 _ (List.mem_of_getElem? (i := 7) rfl))
theorem xs_X10_nextCost : Cond.selects yX10_nextCost.cls yX10_nextCost yX10_nextCost ∈ wsL_law := (xin_30 _ (List.mem_of_getElem? (i := 8) rfl))
theorem dL_isSound_0 : decode cL_isSound 0 = .ok (.iconst 0, 1) := by decide +kernel
theorem dL_isSound_1 : decode cL_isSound 1 = .ok (.istore_n 1, 1) := by decide +kernel
theorem dL_isSound_2 : decode cL_isSound 2 = .ok (.iconst 0, 1) := by decide +kernel
theorem dL_isSound_3 : decode cL_isSound 3 = .ok (.istore_n 2, 1) := by decide +kernel
theorem dL_isSound_4 : decode cL_isSound 4 = .ok (.iload_n 2, 1) := by decide +kernel
theorem dL_isSound_5 : decode cL_isSound 5 = .ok (.iconst 2, 1) := by decide +kernel
theorem dL_isSound_6 : decode cL_isSound 6 = .ok (.if_icmp .ge 291, 3) := by decide +kernel
theorem dL_isSound_9 : decode cL_isSound 9 = .ok (.aload_n 0, 1) := by decide +kernel
theorem dL_isSound_10 : decode cL_isSound 10 = .ok (.iload_n 2, 1) := by decide +kernel
theorem dL_isSound_11 : decode cL_isSound 11 = .ok (.iconst 1, 1) := by decide +kernel
theorem dL_isSound_12 : decode cL_isSound 12 = .ok (.invokevirtual 169, 3) := by decide +kernel
theorem dL_isSound_15 : decode cL_isSound 15 = .ok (.aload_n 0, 1) := by decide +kernel
theorem dL_isSound_16 : decode cL_isSound 16 = .ok (.iload_n 2, 1) := by decide +kernel
theorem dL_isSound_17 : decode cL_isSound 17 = .ok (.iconst 2, 1) := by decide +kernel
theorem dL_isSound_18 : decode cL_isSound 18 = .ok (.invokevirtual 169, 3) := by decide +kernel
theorem dL_isSound_21 : decode cL_isSound 21 = .ok (.iadd, 1) := by decide +kernel
theorem dL_isSound_22 : decode cL_isSound 22 = .ok (.istore_n 3, 1) := by decide +kernel
theorem dL_isSound_23 : decode cL_isSound 23 = .ok (.aload_n 0, 1) := by decide +kernel
theorem dL_isSound_24 : decode cL_isSound 24 = .ok (.iconst 1, 1) := by decide +kernel
theorem dL_isSound_25 : decode cL_isSound 25 = .ok (.iload_n 2, 1) := by decide +kernel
theorem dL_isSound_26 : decode cL_isSound 26 = .ok (.isub, 1) := by decide +kernel
theorem dL_isSound_27 : decode cL_isSound 27 = .ok (.iconst 4, 1) := by decide +kernel
theorem dL_isSound_28 : decode cL_isSound 28 = .ok (.invokevirtual 169, 3) := by decide +kernel
theorem dL_isSound_31 : decode cL_isSound 31 = .ok (.istore 4, 2) := by decide +kernel
theorem dL_isSound_33 : decode cL_isSound 33 = .ok (.iconst 0, 1) := by decide +kernel
theorem dL_isSound_34 : decode cL_isSound 34 = .ok (.istore 5, 2) := by decide +kernel
theorem dL_isSound_36 : decode cL_isSound 36 = .ok (.iload 5, 2) := by decide +kernel
theorem dL_isSound_38 : decode cL_isSound 38 = .ok (.iload_n 3, 1) := by decide +kernel
theorem dL_isSound_39 : decode cL_isSound 39 = .ok (.if_icmp .ge 74, 3) := by decide +kernel
theorem dL_isSound_42 : decode cL_isSound 42 = .ok (.aload_n 0, 1) := by decide +kernel
theorem dL_isSound_43 : decode cL_isSound 43 = .ok (.iload_n 2, 1) := by decide +kernel
theorem dL_isSound_44 : decode cL_isSound 44 = .ok (.iload 5, 2) := by decide +kernel
theorem dL_isSound_46 : decode cL_isSound 46 = .ok (.iconst 0, 1) := by decide +kernel
theorem dL_isSound_47 : decode cL_isSound 47 = .ok (.invokevirtual 139, 3) := by decide +kernel
theorem dL_isSound_50 : decode cL_isSound 50 = .ok (.aload_n 0, 1) := by decide +kernel
theorem dL_isSound_51 : decode cL_isSound 51 = .ok (.iload_n 2, 1) := by decide +kernel
theorem dL_isSound_52 : decode cL_isSound 52 = .ok (.iconst 3, 1) := by decide +kernel
theorem dL_isSound_53 : decode cL_isSound 53 = .ok (.invokevirtual 169, 3) := by decide +kernel
theorem dL_isSound_56 : decode cL_isSound 56 = .ok (.iload_n 3, 1) := by decide +kernel
theorem dL_isSound_57 : decode cL_isSound 57 = .ok (.isub, 1) := by decide +kernel
theorem dL_isSound_58 : decode cL_isSound 58 = .ok (.iload 5, 2) := by decide +kernel
theorem dL_isSound_60 : decode cL_isSound 60 = .ok (.iadd, 1) := by decide +kernel
theorem dL_isSound_61 : decode cL_isSound 61 = .ok (.if_icmp .ne 44, 3) := by decide +kernel
theorem dL_isSound_64 : decode cL_isSound 64 = .ok (.aload_n 0, 1) := by decide +kernel
theorem dL_isSound_65 : decode cL_isSound 65 = .ok (.iload_n 2, 1) := by decide +kernel
theorem dL_isSound_66 : decode cL_isSound 66 = .ok (.iload 5, 2) := by decide +kernel
theorem dL_isSound_68 : decode cL_isSound 68 = .ok (.iconst 1, 1) := by decide +kernel
theorem dL_isSound_69 : decode cL_isSound 69 = .ok (.invokevirtual 139, 3) := by decide +kernel
theorem dL_isSound_72 : decode cL_isSound 72 = .ok (.iconst 1, 1) := by decide +kernel
theorem dL_isSound_73 : decode cL_isSound 73 = .ok (.if_icmp .lt 32, 3) := by decide +kernel
theorem dL_isSound_76 : decode cL_isSound 76 = .ok (.aload_n 0, 1) := by decide +kernel
theorem dL_isSound_77 : decode cL_isSound 77 = .ok (.iload_n 2, 1) := by decide +kernel
theorem dL_isSound_78 : decode cL_isSound 78 = .ok (.iload 5, 2) := by decide +kernel
theorem dL_isSound_80 : decode cL_isSound 80 = .ok (.iconst 1, 1) := by decide +kernel
theorem dL_isSound_81 : decode cL_isSound 81 = .ok (.invokevirtual 139, 3) := by decide +kernel
theorem dL_isSound_84 : decode cL_isSound 84 = .ok (.bipush 8, 2) := by decide +kernel
theorem dL_isSound_86 : decode cL_isSound 86 = .ok (.if_icmp .gt 19, 3) := by decide +kernel
theorem dL_isSound_89 : decode cL_isSound 89 = .ok (.aload_n 0, 1) := by decide +kernel
theorem dL_isSound_90 : decode cL_isSound 90 = .ok (.iload_n 2, 1) := by decide +kernel
theorem dL_isSound_91 : decode cL_isSound 91 = .ok (.iload 5, 2) := by decide +kernel
theorem dL_isSound_93 : decode cL_isSound 93 = .ok (.iconst 2, 1) := by decide +kernel
theorem dL_isSound_94 : decode cL_isSound 94 = .ok (.invokevirtual 139, 3) := by decide +kernel
theorem dL_isSound_97 : decode cL_isSound 97 = .ok (.aload_n 0, 1) := by decide +kernel
theorem dL_isSound_98 : decode cL_isSound 98 = .ok (.iconst 0, 1) := by decide +kernel
theorem dL_isSound_99 : decode cL_isSound 99 = .ok (.invokevirtual 127, 3) := by decide +kernel
theorem dL_isSound_102 : decode cL_isSound 102 = .ok (.if_icmp .lt 5, 3) := by decide +kernel
theorem dL_isSound_105 : decode cL_isSound 105 = .ok (.iconst 0, 1) := by decide +kernel
theorem dL_isSound_106 : decode cL_isSound 106 = .ok (.ireturn, 1) := by decide +kernel
theorem dL_isSound_107 : decode cL_isSound 107 = .ok (.iinc 5 1, 3) := by decide +kernel
theorem dL_isSound_110 : decode cL_isSound 110 = .ok (.goto (-74), 3) := by decide +kernel
theorem dL_isSound_113 : decode cL_isSound 113 = .ok (.iload 4, 2) := by decide +kernel
theorem dL_isSound_115 : decode cL_isSound 115 = .ok (.aload_n 0, 1) := by decide +kernel
theorem dL_isSound_116 : decode cL_isSound 116 = .ok (.iload_n 2, 1) := by decide +kernel
theorem dL_isSound_117 : decode cL_isSound 117 = .ok (.iconst 3, 1) := by decide +kernel
theorem dL_isSound_118 : decode cL_isSound 118 = .ok (.invokevirtual 169, 3) := by decide +kernel
theorem dL_isSound_121 : decode cL_isSound 121 = .ok (.if_icmp .gt 60, 3) := by decide +kernel
theorem dL_isSound_124 : decode cL_isSound 124 = .ok (.aload_n 0, 1) := by decide +kernel
theorem dL_isSound_125 : decode cL_isSound 125 = .ok (.iconst 1, 1) := by decide +kernel
theorem dL_isSound_126 : decode cL_isSound 126 = .ok (.invokevirtual 127, 3) := by decide +kernel
theorem dL_isSound_129 : decode cL_isSound 129 = .ok (.ifCond .eq 16, 3) := by decide +kernel
theorem dL_isSound_132 : decode cL_isSound 132 = .ok (.iload 4, 2) := by decide +kernel
theorem dL_isSound_134 : decode cL_isSound 134 = .ok (.aload_n 0, 1) := by decide +kernel
theorem dL_isSound_135 : decode cL_isSound 135 = .ok (.iload_n 2, 1) := by decide +kernel
theorem dL_isSound_136 : decode cL_isSound 136 = .ok (.iconst 3, 1) := by decide +kernel
theorem dL_isSound_137 : decode cL_isSound 137 = .ok (.invokevirtual 169, 3) := by decide +kernel
theorem dL_isSound_140 : decode cL_isSound 140 = .ok (.iload_n 3, 1) := by decide +kernel
theorem dL_isSound_141 : decode cL_isSound 141 = .ok (.isub, 1) := by decide +kernel
theorem dL_isSound_142 : decode cL_isSound 142 = .ok (.if_icmp .lt 39, 3) := by decide +kernel
theorem dL_isSound_145 : decode cL_isSound 145 = .ok (.aload_n 0, 1) := by decide +kernel
theorem dL_isSound_146 : decode cL_isSound 146 = .ok (.iload_n 2, 1) := by decide +kernel
theorem dL_isSound_147 : decode cL_isSound 147 = .ok (.bipush 8, 2) := by decide +kernel
theorem dL_isSound_149 : decode cL_isSound 149 = .ok (.invokevirtual 169, 3) := by decide +kernel
theorem dL_isSound_152 : decode cL_isSound 152 = .ok (.bipush 8, 2) := by decide +kernel
theorem dL_isSound_154 : decode cL_isSound 154 = .ok (.if_icmp .gt 27, 3) := by decide +kernel
theorem dL_isSound_157 : decode cL_isSound 157 = .ok (.aload_n 0, 1) := by decide +kernel
theorem dL_isSound_158 : decode cL_isSound 158 = .ok (.iload_n 2, 1) := by decide +kernel
theorem dL_isSound_159 : decode cL_isSound 159 = .ok (.bipush 9, 2) := by decide +kernel
theorem dL_isSound_161 : decode cL_isSound 161 = .ok (.invokevirtual 169, 3) := by decide +kernel
theorem dL_isSound_164 : decode cL_isSound 164 = .ok (.bipush 8, 2) := by decide +kernel
theorem dL_isSound_166 : decode cL_isSound 166 = .ok (.if_icmp .gt 15, 3) := by decide +kernel
theorem dL_isSound_169 : decode cL_isSound 169 = .ok (.aload_n 0, 1) := by decide +kernel
theorem dL_isSound_170 : decode cL_isSound 170 = .ok (.iload_n 2, 1) := by decide +kernel
theorem dL_isSound_171 : decode cL_isSound 171 = .ok (.iconst 0, 1) := by decide +kernel
theorem dL_isSound_172 : decode cL_isSound 172 = .ok (.invokevirtual 169, 3) := by decide +kernel
theorem dL_isSound_175 : decode cL_isSound 175 = .ok (.sipush 200, 3) := by decide +kernel
theorem dL_isSound_178 : decode cL_isSound 178 = .ok (.if_icmp .le 5, 3) := by decide +kernel
theorem dL_isSound_181 : decode cL_isSound 181 = .ok (.iconst 0, 1) := by decide +kernel
theorem dL_isSound_182 : decode cL_isSound 182 = .ok (.ireturn, 1) := by decide +kernel
theorem dL_isSound_183 : decode cL_isSound 183 = .ok (.iconst 0, 1) := by decide +kernel
theorem dL_isSound_184 : decode cL_isSound 184 = .ok (.istore 5, 2) := by decide +kernel
theorem dL_isSound_186 : decode cL_isSound 186 = .ok (.iload 5, 2) := by decide +kernel
theorem dL_isSound_188 : decode cL_isSound 188 = .ok (.aload_n 0, 1) := by decide +kernel
theorem dL_isSound_189 : decode cL_isSound 189 = .ok (.iload_n 2, 1) := by decide +kernel
theorem dL_isSound_190 : decode cL_isSound 190 = .ok (.bipush 8, 2) := by decide +kernel
theorem dL_isSound_192 : decode cL_isSound 192 = .ok (.invokevirtual 169, 3) := by decide +kernel
theorem dL_isSound_195 : decode cL_isSound 195 = .ok (.if_icmp .ge 46, 3) := by decide +kernel
theorem dL_isSound_198 : decode cL_isSound 198 = .ok (.iconst 0, 1) := by decide +kernel
theorem dL_isSound_199 : decode cL_isSound 199 = .ok (.istore 6, 2) := by decide +kernel
theorem dL_isSound_201 : decode cL_isSound 201 = .ok (.iload 6, 2) := by decide +kernel
theorem dL_isSound_203 : decode cL_isSound 203 = .ok (.iload 5, 2) := by decide +kernel
theorem dL_isSound_205 : decode cL_isSound 205 = .ok (.if_icmp .ge 30, 3) := by decide +kernel
theorem dL_isSound_208 : decode cL_isSound 208 = .ok (.aload_n 0, 1) := by decide +kernel
theorem dL_isSound_209 : decode cL_isSound 209 = .ok (.iload_n 2, 1) := by decide +kernel
theorem dL_isSound_210 : decode cL_isSound 210 = .ok (.iconst 1, 1) := by decide +kernel
theorem dL_isSound_211 : decode cL_isSound 211 = .ok (.iload 5, 2) := by decide +kernel
theorem dL_isSound_213 : decode cL_isSound 213 = .ok (.invokevirtual 171, 3) := by decide +kernel
theorem dL_isSound_216 : decode cL_isSound 216 = .ok (.aload_n 0, 1) := by decide +kernel
theorem dL_isSound_217 : decode cL_isSound 217 = .ok (.iload_n 2, 1) := by decide +kernel
theorem dL_isSound_218 : decode cL_isSound 218 = .ok (.iconst 1, 1) := by decide +kernel
theorem dL_isSound_219 : decode cL_isSound 219 = .ok (.iload 6, 2) := by decide +kernel
theorem dL_isSound_221 : decode cL_isSound 221 = .ok (.invokevirtual 171, 3) := by decide +kernel
theorem dL_isSound_224 : decode cL_isSound 224 = .ok (.if_icmp .ne 5, 3) := by decide +kernel
theorem dL_isSound_227 : decode cL_isSound 227 = .ok (.iconst 0, 1) := by decide +kernel
theorem dL_isSound_228 : decode cL_isSound 228 = .ok (.ireturn, 1) := by decide +kernel
theorem dL_isSound_229 : decode cL_isSound 229 = .ok (.iinc 6 1, 3) := by decide +kernel
theorem dL_isSound_232 : decode cL_isSound 232 = .ok (.goto (-31), 3) := by decide +kernel
theorem dL_isSound_235 : decode cL_isSound 235 = .ok (.iinc 5 1, 3) := by decide +kernel
theorem dL_isSound_238 : decode cL_isSound 238 = .ok (.goto (-52), 3) := by decide +kernel
theorem dL_isSound_241 : decode cL_isSound 241 = .ok (.aload_n 0, 1) := by decide +kernel
theorem dL_isSound_242 : decode cL_isSound 242 = .ok (.iconst 1, 1) := by decide +kernel
theorem dL_isSound_243 : decode cL_isSound 243 = .ok (.invokevirtual 127, 3) := by decide +kernel
theorem dL_isSound_246 : decode cL_isSound 246 = .ok (.iconst 2, 1) := by decide +kernel
theorem dL_isSound_247 : decode cL_isSound 247 = .ok (.if_icmp .ne 35, 3) := by decide +kernel
theorem dL_isSound_250 : decode cL_isSound 250 = .ok (.aload_n 0, 1) := by decide +kernel
theorem dL_isSound_251 : decode cL_isSound 251 = .ok (.iload_n 2, 1) := by decide +kernel
theorem dL_isSound_252 : decode cL_isSound 252 = .ok (.iconst 0, 1) := by decide +kernel
theorem dL_isSound_253 : decode cL_isSound 253 = .ok (.invokevirtual 169, 3) := by decide +kernel
theorem dL_isSound_256 : decode cL_isSound 256 = .ok (.ifCond .le 7, 3) := by decide +kernel
theorem dL_isSound_259 : decode cL_isSound 259 = .ok (.iconst 1, 1) := by decide +kernel
theorem dL_isSound_260 : decode cL_isSound 260 = .ok (.goto 4, 3) := by decide +kernel
theorem dL_isSound_263 : decode cL_isSound 263 = .ok (.iconst 0, 1) := by decide +kernel
theorem dL_isSound_264 : decode cL_isSound 264 = .ok (.aload_n 0, 1) := by decide +kernel
theorem dL_isSound_265 : decode cL_isSound 265 = .ok (.iload_n 2, 1) := by decide +kernel
theorem dL_isSound_266 : decode cL_isSound 266 = .ok (.invokevirtual 221, 3) := by decide +kernel
theorem dL_isSound_269 : decode cL_isSound 269 = .ok (.ifCond .le 7, 3) := by decide +kernel
theorem dL_isSound_272 : decode cL_isSound 272 = .ok (.iconst 1, 1) := by decide +kernel
theorem dL_isSound_273 : decode cL_isSound 273 = .ok (.goto 4, 3) := by decide +kernel
theorem dL_isSound_276 : decode cL_isSound 276 = .ok (.iconst 0, 1) := by decide +kernel
theorem dL_isSound_277 : decode cL_isSound 277 = .ok (.if_icmp .eq 5, 3) := by decide +kernel
theorem dL_isSound_280 : decode cL_isSound 280 = .ok (.iconst 0, 1) := by decide +kernel
theorem dL_isSound_281 : decode cL_isSound 281 = .ok (.ireturn, 1) := by decide +kernel
theorem dL_isSound_282 : decode cL_isSound 282 = .ok (.iload_n 1, 1) := by decide +kernel
theorem dL_isSound_283 : decode cL_isSound 283 = .ok (.aload_n 0, 1) := by decide +kernel
theorem dL_isSound_284 : decode cL_isSound 284 = .ok (.iload_n 2, 1) := by decide +kernel
theorem dL_isSound_285 : decode cL_isSound 285 = .ok (.iconst 5, 1) := by decide +kernel
theorem dL_isSound_286 : decode cL_isSound 286 = .ok (.invokevirtual 169, 3) := by decide +kernel
theorem dL_isSound_289 : decode cL_isSound 289 = .ok (.iadd, 1) := by decide +kernel
theorem dL_isSound_290 : decode cL_isSound 290 = .ok (.istore_n 1, 1) := by decide +kernel
theorem dL_isSound_291 : decode cL_isSound 291 = .ok (.iinc 2 1, 3) := by decide +kernel
theorem dL_isSound_294 : decode cL_isSound 294 = .ok (.goto (-290), 3) := by decide +kernel
theorem dL_isSound_297 : decode cL_isSound 297 = .ok (.iload_n 1, 1) := by decide +kernel
theorem dL_isSound_298 : decode cL_isSound 298 = .ok (.aload_n 0, 1) := by decide +kernel
theorem dL_isSound_299 : decode cL_isSound 299 = .ok (.bipush 10, 2) := by decide +kernel
theorem dL_isSound_301 : decode cL_isSound 301 = .ok (.invokevirtual 130, 3) := by decide +kernel
theorem dL_isSound_304 : decode cL_isSound 304 = .ok (.if_icmp .ne 56, 3) := by decide +kernel
theorem dL_isSound_307 : decode cL_isSound 307 = .ok (.aload_n 0, 1) := by decide +kernel
theorem dL_isSound_308 : decode cL_isSound 308 = .ok (.iconst 1, 1) := by decide +kernel
theorem dL_isSound_309 : decode cL_isSound 309 = .ok (.invokevirtual 130, 3) := by decide +kernel
theorem dL_isSound_312 : decode cL_isSound 312 = .ok (.aload_n 0, 1) := by decide +kernel
theorem dL_isSound_313 : decode cL_isSound 313 = .ok (.iconst 0, 1) := by decide +kernel
theorem dL_isSound_314 : decode cL_isSound 314 = .ok (.invokevirtual 130, 3) := by decide +kernel
theorem dL_isSound_317 : decode cL_isSound 317 = .ok (.if_icmp .gt 43, 3) := by decide +kernel
theorem dL_isSound_320 : decode cL_isSound 320 = .ok (.aload_n 0, 1) := by decide +kernel
theorem dL_isSound_321 : decode cL_isSound 321 = .ok (.bipush 9, 2) := by decide +kernel
theorem dL_isSound_323 : decode cL_isSound 323 = .ok (.invokevirtual 130, 3) := by decide +kernel
theorem dL_isSound_326 : decode cL_isSound 326 = .ok (.iconst 5, 1) := by decide +kernel
theorem dL_isSound_327 : decode cL_isSound 327 = .ok (.aload_n 0, 1) := by decide +kernel
theorem dL_isSound_328 : decode cL_isSound 328 = .ok (.iconst 0, 1) := by decide +kernel
theorem dL_isSound_329 : decode cL_isSound 329 = .ok (.invokevirtual 130, 3) := by decide +kernel
theorem dL_isSound_332 : decode cL_isSound 332 = .ok (.imul, 1) := by decide +kernel
theorem dL_isSound_333 : decode cL_isSound 333 = .ok (.if_icmp .lt 27, 3) := by decide +kernel
theorem dL_isSound_336 : decode cL_isSound 336 = .ok (.aload_n 0, 1) := by decide +kernel
theorem dL_isSound_337 : decode cL_isSound 337 = .ok (.bipush 7, 2) := by decide +kernel
theorem dL_isSound_339 : decode cL_isSound 339 = .ok (.invokevirtual 130, 3) := by decide +kernel
theorem dL_isSound_342 : decode cL_isSound 342 = .ok (.iconst 1, 1) := by decide +kernel
theorem dL_isSound_343 : decode cL_isSound 343 = .ok (.iadd, 1) := by decide +kernel
theorem dL_isSound_344 : decode cL_isSound 344 = .ok (.aload_n 0, 1) := by decide +kernel
theorem dL_isSound_345 : decode cL_isSound 345 = .ok (.bipush 8, 2) := by decide +kernel
theorem dL_isSound_347 : decode cL_isSound 347 = .ok (.invokevirtual 130, 3) := by decide +kernel
theorem dL_isSound_350 : decode cL_isSound 350 = .ok (.aload_n 0, 1) := by decide +kernel
theorem dL_isSound_351 : decode cL_isSound 351 = .ok (.bipush 6, 2) := by decide +kernel
theorem dL_isSound_353 : decode cL_isSound 353 = .ok (.invokevirtual 130, 3) := by decide +kernel
theorem dL_isSound_356 : decode cL_isSound 356 = .ok (.isub, 1) := by decide +kernel
theorem dL_isSound_357 : decode cL_isSound 357 = .ok (.if_icmp .ge 5, 3) := by decide +kernel
theorem dL_isSound_360 : decode cL_isSound 360 = .ok (.iconst 0, 1) := by decide +kernel
theorem dL_isSound_361 : decode cL_isSound 361 = .ok (.ireturn, 1) := by decide +kernel
theorem dL_isSound_362 : decode cL_isSound 362 = .ok (.iconst (-1), 1) := by decide +kernel
theorem dL_isSound_363 : decode cL_isSound 363 = .ok (.istore_n 2, 1) := by decide +kernel
theorem dL_isSound_364 : decode cL_isSound 364 = .ok (.iconst 0, 1) := by decide +kernel
theorem dL_isSound_365 : decode cL_isSound 365 = .ok (.istore_n 3, 1) := by decide +kernel
theorem dL_isSound_366 : decode cL_isSound 366 = .ok (.iload_n 3, 1) := by decide +kernel
theorem dL_isSound_367 : decode cL_isSound 367 = .ok (.aload_n 0, 1) := by decide +kernel
theorem dL_isSound_368 : decode cL_isSound 368 = .ok (.bipush 10, 2) := by decide +kernel
theorem dL_isSound_370 : decode cL_isSound 370 = .ok (.invokevirtual 127, 3) := by decide +kernel
theorem dL_isSound_373 : decode cL_isSound 373 = .ok (.if_icmp .ge 135, 3) := by decide +kernel
theorem dL_isSound_376 : decode cL_isSound 376 = .ok (.aload_n 0, 1) := by decide +kernel
theorem dL_isSound_377 : decode cL_isSound 377 = .ok (.iload_n 3, 1) := by decide +kernel
theorem dL_isSound_378 : decode cL_isSound 378 = .ok (.iconst 1, 1) := by decide +kernel
theorem dL_isSound_379 : decode cL_isSound 379 = .ok (.invokevirtual 180, 3) := by decide +kernel
theorem dL_isSound_382 : decode cL_isSound 382 = .ok (.istore 4, 2) := by decide +kernel
theorem dL_isSound_384 : decode cL_isSound 384 = .ok (.aload_n 0, 1) := by decide +kernel
theorem dL_isSound_385 : decode cL_isSound 385 = .ok (.iload_n 3, 1) := by decide +kernel
theorem dL_isSound_386 : decode cL_isSound 386 = .ok (.iconst 3, 1) := by decide +kernel
theorem dL_isSound_387 : decode cL_isSound 387 = .ok (.invokevirtual 180, 3) := by decide +kernel
theorem dL_isSound_390 : decode cL_isSound 390 = .ok (.istore 5, 2) := by decide +kernel
theorem dL_isSound_392 : decode cL_isSound 392 = .ok (.iload_n 3, 1) := by decide +kernel
theorem dL_isSound_393 : decode cL_isSound 393 = .ok (.ifCond .le 20, 3) := by decide +kernel
theorem dL_isSound_396 : decode cL_isSound 396 = .ok (.aload_n 0, 1) := by decide +kernel
theorem dL_isSound_397 : decode cL_isSound 397 = .ok (.iload_n 3, 1) := by decide +kernel
theorem dL_isSound_398 : decode cL_isSound 398 = .ok (.iconst 0, 1) := by decide +kernel
theorem dL_isSound_399 : decode cL_isSound 399 = .ok (.invokevirtual 180, 3) := by decide +kernel
theorem dL_isSound_402 : decode cL_isSound 402 = .ok (.aload_n 0, 1) := by decide +kernel
theorem dL_isSound_403 : decode cL_isSound 403 = .ok (.iload_n 3, 1) := by decide +kernel
theorem dL_isSound_404 : decode cL_isSound 404 = .ok (.iconst 1, 1) := by decide +kernel
theorem dL_isSound_405 : decode cL_isSound 405 = .ok (.isub, 1) := by decide +kernel
theorem dL_isSound_406 : decode cL_isSound 406 = .ok (.iconst 0, 1) := by decide +kernel
theorem dL_isSound_407 : decode cL_isSound 407 = .ok (.invokevirtual 180, 3) := by decide +kernel
theorem dL_isSound_410 : decode cL_isSound 410 = .ok (.if_icmp .lt 33, 3) := by decide +kernel
theorem dL_isSound_413 : decode cL_isSound 413 = .ok (.iload 4, 2) := by decide +kernel
theorem dL_isSound_415 : decode cL_isSound 415 = .ok (.iconst 4, 1) := by decide +kernel
theorem dL_isSound_416 : decode cL_isSound 416 = .ok (.if_icmp .eq 9, 3) := by decide +kernel
theorem dL_isSound_419 : decode cL_isSound 419 = .ok (.iload 4, 2) := by decide +kernel
theorem dL_isSound_421 : decode cL_isSound 421 = .ok (.iconst 5, 1) := by decide +kernel
theorem dL_isSound_422 : decode cL_isSound 422 = .ok (.if_icmp .ne 7, 3) := by decide +kernel
theorem dL_isSound_425 : decode cL_isSound 425 = .ok (.iconst 1, 1) := by decide +kernel
theorem dL_isSound_426 : decode cL_isSound 426 = .ok (.goto 4, 3) := by decide +kernel
theorem dL_isSound_429 : decode cL_isSound 429 = .ok (.iconst 0, 1) := by decide +kernel
theorem dL_isSound_430 : decode cL_isSound 430 = .ok (.iload 5, 2) := by decide +kernel
theorem dL_isSound_432 : decode cL_isSound 432 = .ok (.ifCond .ge 7, 3) := by decide +kernel
theorem dL_isSound_435 : decode cL_isSound 435 = .ok (.iconst 1, 1) := by decide +kernel
theorem dL_isSound_436 : decode cL_isSound 436 = .ok (.goto 4, 3) := by decide +kernel
theorem dL_isSound_439 : decode cL_isSound 439 = .ok (.iconst 0, 1) := by decide +kernel
theorem dL_isSound_440 : decode cL_isSound 440 = .ok (.if_icmp .eq 5, 3) := by decide +kernel
theorem dL_isSound_443 : decode cL_isSound 443 = .ok (.iconst 0, 1) := by decide +kernel
theorem dL_isSound_444 : decode cL_isSound 444 = .ok (.ireturn, 1) := by decide +kernel
theorem dL_isSound_445 : decode cL_isSound 445 = .ok (.iload_n 2, 1) := by decide +kernel
theorem dL_isSound_446 : decode cL_isSound 446 = .ok (.ifCond .lt 53, 3) := by decide +kernel
theorem dL_isSound_449 : decode cL_isSound 449 = .ok (.iload 4, 2) := by decide +kernel
theorem dL_isSound_451 : decode cL_isSound 451 = .ok (.iconst 2, 1) := by decide +kernel
theorem dL_isSound_452 : decode cL_isSound 452 = .ok (.if_icmp .ne 11, 3) := by decide +kernel
theorem dL_isSound_455 : decode cL_isSound 455 = .ok (.iload 5, 2) := by decide +kernel
theorem dL_isSound_457 : decode cL_isSound 457 = .ok (.iload_n 2, 1) := by decide +kernel
theorem dL_isSound_458 : decode cL_isSound 458 = .ok (.iconst 1, 1) := by decide +kernel
theorem dL_isSound_459 : decode cL_isSound 459 = .ok (.isub, 1) := by decide +kernel
theorem dL_isSound_460 : decode cL_isSound 460 = .ok (.if_icmp .ne 37, 3) := by decide +kernel
theorem dL_isSound_463 : decode cL_isSound 463 = .ok (.iload 4, 2) := by decide +kernel
theorem dL_isSound_465 : decode cL_isSound 465 = .ok (.iconst 3, 1) := by decide +kernel
theorem dL_isSound_466 : decode cL_isSound 466 = .ok (.if_icmp .ne 11, 3) := by decide +kernel
theorem dL_isSound_469 : decode cL_isSound 469 = .ok (.iload 5, 2) := by decide +kernel
theorem dL_isSound_471 : decode cL_isSound 471 = .ok (.iload_n 2, 1) := by decide +kernel
theorem dL_isSound_472 : decode cL_isSound 472 = .ok (.iconst 1, 1) := by decide +kernel
theorem dL_isSound_473 : decode cL_isSound 473 = .ok (.iadd, 1) := by decide +kernel
theorem dL_isSound_474 : decode cL_isSound 474 = .ok (.if_icmp .ne 23, 3) := by decide +kernel
theorem dL_isSound_477 : decode cL_isSound 477 = .ok (.iload 4, 2) := by decide +kernel
theorem dL_isSound_479 : decode cL_isSound 479 = .ok (.bipush 6, 2) := by decide +kernel
theorem dL_isSound_481 : decode cL_isSound 481 = .ok (.if_icmp .eq 10, 3) := by decide +kernel
theorem dL_isSound_484 : decode cL_isSound 484 = .ok (.iload 4, 2) := by decide +kernel
theorem dL_isSound_486 : decode cL_isSound 486 = .ok (.bipush 7, 2) := by decide +kernel
theorem dL_isSound_488 : decode cL_isSound 488 = .ok (.if_icmp .ne 11, 3) := by decide +kernel
theorem dL_isSound_491 : decode cL_isSound 491 = .ok (.iload 5, 2) := by decide +kernel
theorem dL_isSound_493 : decode cL_isSound 493 = .ok (.iload_n 2, 1) := by decide +kernel
theorem dL_isSound_494 : decode cL_isSound 494 = .ok (.if_icmp .eq 5, 3) := by decide +kernel
theorem dL_isSound_497 : decode cL_isSound 497 = .ok (.iconst 0, 1) := by decide +kernel
theorem dL_isSound_498 : decode cL_isSound 498 = .ok (.ireturn, 1) := by decide +kernel
theorem dL_isSound_499 : decode cL_isSound 499 = .ok (.iload 5, 2) := by decide +kernel
theorem dL_isSound_501 : decode cL_isSound 501 = .ok (.istore_n 2, 1) := by decide +kernel
theorem dL_isSound_502 : decode cL_isSound 502 = .ok (.iinc 3 1, 3) := by decide +kernel
theorem dL_isSound_505 : decode cL_isSound 505 = .ok (.goto (-139), 3) := by decide +kernel
theorem dL_isSound_508 : decode cL_isSound 508 = .ok (.iconst 1, 1) := by decide +kernel
theorem dL_isSound_509 : decode cL_isSound 509 = .ok (.ireturn, 1) := by decide +kernel
def f_L_isSound_499 (hp : gH) (k366 : Int → Int → xM → Option (Int × xM)) (x3 : Int) (x5 : Int) (m : xM) : Option (Int × xM) :=
     k366 x5 (x3 + 1) m
set_option maxRecDepth 1000000 in
set_option maxHeartbeats 4000000 in
theorem t_L_isSound_499 {P : gG → Prop} {d : Nat} {hp : gH} {r : Int} {m9 : xM} (hd9 : 4 ≤ d) (C : ∀ Γ, P Γ → gX Γ lay_X RL cL_isSound 7 d hp) (hR : ∀ Γ, P Γ → gRz Γ lay_X cL_isSound r m9 hp) {k366 : Int → Int → xM → Option (Int × xM)} (hk366 : ∀ (x2 : Int) (x3 : Int) (m : xM), k366 x2 x3 m = some (r, m9) → gJ P lay_X 7 366 [(0, .inr (.inr (some 0))), (2, .inl x2), (3, .inl x3)] [] m hp hp) (x3 : Int) (x5 : Int) (m : xM) (h : f_L_isSound_499 hp k366 x3 x5 m = some (r, m9)) : gJ P lay_X 7 499 [(0, .inr (.inr (some 0))), (3, .inl x3), (5, .inl x5)] [] m hp hp := by
  unfold f_L_isSound_499 at h
  refine g_iload C dL_isSound_499 rfl ?_
  refine g_istore_n C dL_isSound_501 (by decide) ?_
  refine g_iinc C dL_isSound_502 (by decide) rfl ?_
  refine g_goto C 366 dL_isSound_505 (by decide) ?_
  refine g_loc [(0, .inr (.inr (some 0))), (2, .inl x5), (3, .inl (x3 + 1))] ⟨rfl, rfl, rfl, trivial⟩ ?_
  exact hk366 _ _ _ h
def f_L_isSound_491 (hp : gH) (k366 : Int → Int → xM → Option (Int × xM)) (x2 : Int) (x3 : Int) (x5 : Int) (m : xM) : Option (Int × xM) :=
     (if xw x5 = xw x2 then f_L_isSound_499 hp k366 x3 x5 m
      else some (0, m))
set_option maxRecDepth 1000000 in
set_option maxHeartbeats 4000000 in
theorem t_L_isSound_491 {P : gG → Prop} {d : Nat} {hp : gH} {r : Int} {m9 : xM} (hd9 : 4 ≤ d) (C : ∀ Γ, P Γ → gX Γ lay_X RL cL_isSound 7 d hp) (hR : ∀ Γ, P Γ → gRz Γ lay_X cL_isSound r m9 hp) {k366 : Int → Int → xM → Option (Int × xM)} (hk366 : ∀ (x2 : Int) (x3 : Int) (m : xM), k366 x2 x3 m = some (r, m9) → gJ P lay_X 7 366 [(0, .inr (.inr (some 0))), (2, .inl x2), (3, .inl x3)] [] m hp hp) (x2 : Int) (x3 : Int) (x5 : Int) (m : xM) (h : f_L_isSound_491 hp k366 x2 x3 x5 m = some (r, m9)) : gJ P lay_X 7 491 [(0, .inr (.inr (some 0))), (2, .inl x2), (3, .inl x3), (5, .inl x5)] [] m hp hp := by
  unfold f_L_isSound_491 at h
  refine g_iload C dL_isSound_491 rfl ?_
  refine g_iload_n C dL_isSound_493 rfl ?_
  refine g_icmp_eq C 499 dL_isSound_494 (by decide) h (fun h => ?_) (fun h => ?_)
  · refine g_loc [(0, .inr (.inr (some 0))), (3, .inl x3), (5, .inl x5)] ⟨rfl, rfl, rfl, trivial⟩ ?_
    exact t_L_isSound_499 hd9 C hR hk366 _ _ _ h
  · refine g_iconst C dL_isSound_497 ?_
    exact g_zreturn hR (by decide) dL_isSound_498 (by cases h; exact ⟨rfl, rfl, rfl⟩)
def f_L_isSound_477 (hp : gH) (k366 : Int → Int → xM → Option (Int × xM)) (x2 : Int) (x3 : Int) (x4 : Int) (x5 : Int) (m : xM) : Option (Int × xM) :=
     (if xw x4 = xw 6 then f_L_isSound_491 hp k366 x2 x3 x5 m
      else (if xw x4 = xw 7 then f_L_isSound_491 hp k366 x2 x3 x5 m
      else f_L_isSound_499 hp k366 x3 x5 m))
set_option maxRecDepth 1000000 in
set_option maxHeartbeats 4000000 in
theorem t_L_isSound_477 {P : gG → Prop} {d : Nat} {hp : gH} {r : Int} {m9 : xM} (hd9 : 4 ≤ d) (C : ∀ Γ, P Γ → gX Γ lay_X RL cL_isSound 7 d hp) (hR : ∀ Γ, P Γ → gRz Γ lay_X cL_isSound r m9 hp) {k366 : Int → Int → xM → Option (Int × xM)} (hk366 : ∀ (x2 : Int) (x3 : Int) (m : xM), k366 x2 x3 m = some (r, m9) → gJ P lay_X 7 366 [(0, .inr (.inr (some 0))), (2, .inl x2), (3, .inl x3)] [] m hp hp) (x2 : Int) (x3 : Int) (x4 : Int) (x5 : Int) (m : xM) (h : f_L_isSound_477 hp k366 x2 x3 x4 x5 m = some (r, m9)) : gJ P lay_X 7 477 [(0, .inr (.inr (some 0))), (2, .inl x2), (3, .inl x3), (4, .inl x4), (5, .inl x5)] [] m hp hp := by
  unfold f_L_isSound_477 at h
  refine g_iload C dL_isSound_477 rfl ?_
  refine g_bipush C dL_isSound_479 (by decide) ?_
  refine g_icmp_eq C 491 dL_isSound_481 (by decide) h (fun h => ?_) (fun h => ?_)
  · refine g_loc [(0, .inr (.inr (some 0))), (2, .inl x2), (3, .inl x3), (5, .inl x5)] ⟨rfl, rfl, rfl, rfl, trivial⟩ ?_
    exact t_L_isSound_491 hd9 C hR hk366 _ _ _ _ h
  · refine g_iload C dL_isSound_484 rfl ?_
    refine g_bipush C dL_isSound_486 (by decide) ?_
    refine g_icmp_ne C 499 dL_isSound_488 (by decide) h (fun h => ?_) (fun h => ?_)
    · refine g_loc [(0, .inr (.inr (some 0))), (3, .inl x3), (5, .inl x5)] ⟨rfl, rfl, rfl, trivial⟩ ?_
      exact t_L_isSound_499 hd9 C hR hk366 _ _ _ h
    · refine g_loc [(0, .inr (.inr (some 0))), (2, .inl x2), (3, .inl x3), (5, .inl x5)] ⟨rfl, rfl, rfl, rfl, trivial⟩ ?_
      exact t_L_isSound_491 hd9 C hR hk366 _ _ _ _ h
def f_L_isSound_463 (hp : gH) (k366 : Int → Int → xM → Option (Int × xM)) (x2 : Int) (x3 : Int) (x4 : Int) (x5 : Int) (m : xM) : Option (Int × xM) :=
     (if xw x4 = xw 3 then (if xw x5 = xw (x2 + 1) then f_L_isSound_477 hp k366 x2 x3 x4 x5 m
      else some (0, m))
      else f_L_isSound_477 hp k366 x2 x3 x4 x5 m)
set_option maxRecDepth 1000000 in
set_option maxHeartbeats 4000000 in
theorem t_L_isSound_463 {P : gG → Prop} {d : Nat} {hp : gH} {r : Int} {m9 : xM} (hd9 : 4 ≤ d) (C : ∀ Γ, P Γ → gX Γ lay_X RL cL_isSound 7 d hp) (hR : ∀ Γ, P Γ → gRz Γ lay_X cL_isSound r m9 hp) {k366 : Int → Int → xM → Option (Int × xM)} (hk366 : ∀ (x2 : Int) (x3 : Int) (m : xM), k366 x2 x3 m = some (r, m9) → gJ P lay_X 7 366 [(0, .inr (.inr (some 0))), (2, .inl x2), (3, .inl x3)] [] m hp hp) (x2 : Int) (x3 : Int) (x4 : Int) (x5 : Int) (m : xM) (h : f_L_isSound_463 hp k366 x2 x3 x4 x5 m = some (r, m9)) : gJ P lay_X 7 463 [(0, .inr (.inr (some 0))), (2, .inl x2), (3, .inl x3), (4, .inl x4), (5, .inl x5)] [] m hp hp := by
  unfold f_L_isSound_463 at h
  refine g_iload C dL_isSound_463 rfl ?_
  refine g_iconst C dL_isSound_465 ?_
  refine g_icmp_ne C 477 dL_isSound_466 (by decide) h (fun h => ?_) (fun h => ?_)
  · refine g_loc [(0, .inr (.inr (some 0))), (2, .inl x2), (3, .inl x3), (4, .inl x4), (5, .inl x5)] ⟨rfl, rfl, rfl, rfl, rfl, trivial⟩ ?_
    exact t_L_isSound_477 hd9 C hR hk366 _ _ _ _ _ h
  · refine g_iload C dL_isSound_469 rfl ?_
    refine g_iload_n C dL_isSound_471 rfl ?_
    refine g_iconst C dL_isSound_472 ?_
    refine g_iadd C dL_isSound_473 ?_
    refine g_icmp_ne C 497 dL_isSound_474 (by decide) h (fun h => ?_) (fun h => ?_)
    · refine g_iconst C dL_isSound_497 ?_
      exact g_zreturn hR (by decide) dL_isSound_498 (by cases h; exact ⟨rfl, rfl, rfl⟩)
    · refine g_loc [(0, .inr (.inr (some 0))), (2, .inl x2), (3, .inl x3), (4, .inl x4), (5, .inl x5)] ⟨rfl, rfl, rfl, rfl, rfl, trivial⟩ ?_
      exact t_L_isSound_477 hd9 C hR hk366 _ _ _ _ _ h
def f_L_isSound_440 (hp : gH) (k366 : Int → Int → xM → Option (Int × xM)) (x2 : Int) (x3 : Int) (x4 : Int) (x5 : Int) (s0 : Int) (s1 : Int) (m : xM) : Option (Int × xM) :=
     (if xw s1 = xw s0 then (if xw x2 < 0 then f_L_isSound_499 hp k366 x3 x5 m
      else (if xw x4 = xw 2 then (if xw x5 = xw (x2 - 1) then f_L_isSound_463 hp k366 x2 x3 x4 x5 m
      else some (0, m))
      else f_L_isSound_463 hp k366 x2 x3 x4 x5 m))
      else some (0, m))
set_option maxRecDepth 1000000 in
set_option maxHeartbeats 4000000 in
theorem t_L_isSound_440 {P : gG → Prop} {d : Nat} {hp : gH} {r : Int} {m9 : xM} (hd9 : 4 ≤ d) (C : ∀ Γ, P Γ → gX Γ lay_X RL cL_isSound 7 d hp) (hR : ∀ Γ, P Γ → gRz Γ lay_X cL_isSound r m9 hp) {k366 : Int → Int → xM → Option (Int × xM)} (hk366 : ∀ (x2 : Int) (x3 : Int) (m : xM), k366 x2 x3 m = some (r, m9) → gJ P lay_X 7 366 [(0, .inr (.inr (some 0))), (2, .inl x2), (3, .inl x3)] [] m hp hp) (x2 : Int) (x3 : Int) (x4 : Int) (x5 : Int) (s0 : Int) (s1 : Int) (m : xM) (h : f_L_isSound_440 hp k366 x2 x3 x4 x5 s0 s1 m = some (r, m9)) : gJ P lay_X 7 440 [(0, .inr (.inr (some 0))), (2, .inl x2), (3, .inl x3), (4, .inl x4), (5, .inl x5)] [.inl s0, .inl s1] m hp hp := by
  unfold f_L_isSound_440 at h
  refine g_icmp_eq C 445 dL_isSound_440 (by decide) h (fun h => ?_) (fun h => ?_)
  · refine g_iload_n C dL_isSound_445 rfl ?_
    refine g_if_lt C 499 dL_isSound_446 (by decide) h (fun h => ?_) (fun h => ?_)
    · refine g_loc [(0, .inr (.inr (some 0))), (3, .inl x3), (5, .inl x5)] ⟨rfl, rfl, rfl, trivial⟩ ?_
      exact t_L_isSound_499 hd9 C hR hk366 _ _ _ h
    · refine g_iload C dL_isSound_449 rfl ?_
      refine g_iconst C dL_isSound_451 ?_
      refine g_icmp_ne C 463 dL_isSound_452 (by decide) h (fun h => ?_) (fun h => ?_)
      · refine g_loc [(0, .inr (.inr (some 0))), (2, .inl x2), (3, .inl x3), (4, .inl x4), (5, .inl x5)] ⟨rfl, rfl, rfl, rfl, rfl, trivial⟩ ?_
        exact t_L_isSound_463 hd9 C hR hk366 _ _ _ _ _ h
      · refine g_iload C dL_isSound_455 rfl ?_
        refine g_iload_n C dL_isSound_457 rfl ?_
        refine g_iconst C dL_isSound_458 ?_
        refine g_isub C dL_isSound_459 ?_
        refine g_icmp_ne C 497 dL_isSound_460 (by decide) h (fun h => ?_) (fun h => ?_)
        · refine g_iconst C dL_isSound_497 ?_
          exact g_zreturn hR (by decide) dL_isSound_498 (by cases h; exact ⟨rfl, rfl, rfl⟩)
        · refine g_loc [(0, .inr (.inr (some 0))), (2, .inl x2), (3, .inl x3), (4, .inl x4), (5, .inl x5)] ⟨rfl, rfl, rfl, rfl, rfl, trivial⟩ ?_
          exact t_L_isSound_463 hd9 C hR hk366 _ _ _ _ _ h
  · refine g_iconst C dL_isSound_443 ?_
    exact g_zreturn hR (by decide) dL_isSound_444 (by cases h; exact ⟨rfl, rfl, rfl⟩)
def f_L_isSound_430 (hp : gH) (k366 : Int → Int → xM → Option (Int × xM)) (x2 : Int) (x3 : Int) (x4 : Int) (x5 : Int) (s0 : Int) (m : xM) : Option (Int × xM) :=
     (if xw x5 < 0 then f_L_isSound_440 hp k366 x2 x3 x4 x5 1 s0 m
      else f_L_isSound_440 hp k366 x2 x3 x4 x5 0 s0 m)
set_option maxRecDepth 1000000 in
set_option maxHeartbeats 4000000 in
theorem t_L_isSound_430 {P : gG → Prop} {d : Nat} {hp : gH} {r : Int} {m9 : xM} (hd9 : 4 ≤ d) (C : ∀ Γ, P Γ → gX Γ lay_X RL cL_isSound 7 d hp) (hR : ∀ Γ, P Γ → gRz Γ lay_X cL_isSound r m9 hp) {k366 : Int → Int → xM → Option (Int × xM)} (hk366 : ∀ (x2 : Int) (x3 : Int) (m : xM), k366 x2 x3 m = some (r, m9) → gJ P lay_X 7 366 [(0, .inr (.inr (some 0))), (2, .inl x2), (3, .inl x3)] [] m hp hp) (x2 : Int) (x3 : Int) (x4 : Int) (x5 : Int) (s0 : Int) (m : xM) (h : f_L_isSound_430 hp k366 x2 x3 x4 x5 s0 m = some (r, m9)) : gJ P lay_X 7 430 [(0, .inr (.inr (some 0))), (2, .inl x2), (3, .inl x3), (4, .inl x4), (5, .inl x5)] [.inl s0] m hp hp := by
  unfold f_L_isSound_430 at h
  refine g_iload C dL_isSound_430 rfl ?_
  refine g_if_ge C 439 dL_isSound_432 (by decide) h (fun h => ?_) (fun h => ?_)
  · refine g_iconst C dL_isSound_439 ?_
    refine g_loc [(0, .inr (.inr (some 0))), (2, .inl x2), (3, .inl x3), (4, .inl x4), (5, .inl x5)] ⟨rfl, rfl, rfl, rfl, rfl, trivial⟩ ?_
    exact t_L_isSound_440 hd9 C hR hk366 _ _ _ _ _ _ _ h
  · refine g_iconst C dL_isSound_435 ?_
    refine g_goto C 440 dL_isSound_436 (by decide) ?_
    refine g_loc [(0, .inr (.inr (some 0))), (2, .inl x2), (3, .inl x3), (4, .inl x4), (5, .inl x5)] ⟨rfl, rfl, rfl, rfl, rfl, trivial⟩ ?_
    exact t_L_isSound_440 hd9 C hR hk366 _ _ _ _ _ _ _ h
def f_L_isSound_425 (hp : gH) (k366 : Int → Int → xM → Option (Int × xM)) (x2 : Int) (x3 : Int) (x4 : Int) (x5 : Int) (m : xM) : Option (Int × xM) :=
     f_L_isSound_430 hp k366 x2 x3 x4 x5 1 m
set_option maxRecDepth 1000000 in
set_option maxHeartbeats 4000000 in
theorem t_L_isSound_425 {P : gG → Prop} {d : Nat} {hp : gH} {r : Int} {m9 : xM} (hd9 : 4 ≤ d) (C : ∀ Γ, P Γ → gX Γ lay_X RL cL_isSound 7 d hp) (hR : ∀ Γ, P Γ → gRz Γ lay_X cL_isSound r m9 hp) {k366 : Int → Int → xM → Option (Int × xM)} (hk366 : ∀ (x2 : Int) (x3 : Int) (m : xM), k366 x2 x3 m = some (r, m9) → gJ P lay_X 7 366 [(0, .inr (.inr (some 0))), (2, .inl x2), (3, .inl x3)] [] m hp hp) (x2 : Int) (x3 : Int) (x4 : Int) (x5 : Int) (m : xM) (h : f_L_isSound_425 hp k366 x2 x3 x4 x5 m = some (r, m9)) : gJ P lay_X 7 425 [(0, .inr (.inr (some 0))), (2, .inl x2), (3, .inl x3), (4, .inl x4), (5, .inl x5)] [] m hp hp := by
  unfold f_L_isSound_425 at h
  refine g_iconst C dL_isSound_425 ?_
  refine g_goto C 430 dL_isSound_426 (by decide) ?_
  refine g_loc [(0, .inr (.inr (some 0))), (2, .inl x2), (3, .inl x3), (4, .inl x4), (5, .inl x5)] ⟨rfl, rfl, rfl, rfl, rfl, trivial⟩ ?_
  exact t_L_isSound_430 hd9 C hR hk366 _ _ _ _ _ _ h
def f_L_isSound_413 (hp : gH) (k366 : Int → Int → xM → Option (Int × xM)) (x2 : Int) (x3 : Int) (x4 : Int) (x5 : Int) (m : xM) : Option (Int × xM) :=
     (if xw x4 = xw 4 then f_L_isSound_425 hp k366 x2 x3 x4 x5 m
      else (if xw x4 = xw 5 then f_L_isSound_425 hp k366 x2 x3 x4 x5 m
      else f_L_isSound_430 hp k366 x2 x3 x4 x5 0 m))
set_option maxRecDepth 1000000 in
set_option maxHeartbeats 4000000 in
theorem t_L_isSound_413 {P : gG → Prop} {d : Nat} {hp : gH} {r : Int} {m9 : xM} (hd9 : 4 ≤ d) (C : ∀ Γ, P Γ → gX Γ lay_X RL cL_isSound 7 d hp) (hR : ∀ Γ, P Γ → gRz Γ lay_X cL_isSound r m9 hp) {k366 : Int → Int → xM → Option (Int × xM)} (hk366 : ∀ (x2 : Int) (x3 : Int) (m : xM), k366 x2 x3 m = some (r, m9) → gJ P lay_X 7 366 [(0, .inr (.inr (some 0))), (2, .inl x2), (3, .inl x3)] [] m hp hp) (x2 : Int) (x3 : Int) (x4 : Int) (x5 : Int) (m : xM) (h : f_L_isSound_413 hp k366 x2 x3 x4 x5 m = some (r, m9)) : gJ P lay_X 7 413 [(0, .inr (.inr (some 0))), (2, .inl x2), (3, .inl x3), (4, .inl x4), (5, .inl x5)] [] m hp hp := by
  unfold f_L_isSound_413 at h
  refine g_iload C dL_isSound_413 rfl ?_
  refine g_iconst C dL_isSound_415 ?_
  refine g_icmp_eq C 425 dL_isSound_416 (by decide) h (fun h => ?_) (fun h => ?_)
  · refine g_loc [(0, .inr (.inr (some 0))), (2, .inl x2), (3, .inl x3), (4, .inl x4), (5, .inl x5)] ⟨rfl, rfl, rfl, rfl, rfl, trivial⟩ ?_
    exact t_L_isSound_425 hd9 C hR hk366 _ _ _ _ _ h
  · refine g_iload C dL_isSound_419 rfl ?_
    refine g_iconst C dL_isSound_421 ?_
    refine g_icmp_ne C 429 dL_isSound_422 (by decide) h (fun h => ?_) (fun h => ?_)
    · refine g_iconst C dL_isSound_429 ?_
      refine g_loc [(0, .inr (.inr (some 0))), (2, .inl x2), (3, .inl x3), (4, .inl x4), (5, .inl x5)] ⟨rfl, rfl, rfl, rfl, rfl, trivial⟩ ?_
      exact t_L_isSound_430 hd9 C hR hk366 _ _ _ _ _ _ h
    · refine g_loc [(0, .inr (.inr (some 0))), (2, .inl x2), (3, .inl x3), (4, .inl x4), (5, .inl x5)] ⟨rfl, rfl, rfl, rfl, rfl, trivial⟩ ?_
      exact t_L_isSound_425 hd9 C hR hk366 _ _ _ _ _ h
def f_L_isSound_366 (hp : gH) : Nat → Int → Int → xM → Option (Int × xM)
  | 0, _, _, _ => none
  | n + 1, x2, x3, m =>
     (Option.bind (f_X_size 10 m) fun q8 =>
      (if xw x3 < xw q8 then (Option.bind (f_X_event x3 1 m) fun q9 =>
      (Option.bind (f_X_event x3 3 m) fun q10 =>
      (if 0 < xw x3 then (Option.bind (f_X_event x3 0 m) fun q11 =>
      (Option.bind (f_X_event (x3 - 1) 0 m) fun q12 =>
      (if xw q11 < xw q12 then some (0, m)
      else f_L_isSound_413 hp (f_L_isSound_366 hp n) x2 x3 q9 q10 m)))
      else f_L_isSound_413 hp (f_L_isSound_366 hp n) x2 x3 q9 q10 m)))
      else some (1, m)))
set_option maxRecDepth 1000000 in
set_option maxHeartbeats 4000000 in
theorem t_L_isSound_366 {P : gG → Prop} {d : Nat} {hp : gH} {r : Int} {m9 : xM} (hd9 : 4 ≤ d) (C : ∀ Γ, P Γ → gX Γ lay_X RL cL_isSound 7 d hp) (hR : ∀ Γ, P Γ → gRz Γ lay_X cL_isSound r m9 hp) : ∀ (n : Nat) (x2 : Int) (x3 : Int) (m : xM), f_L_isSound_366 hp n x2 x3 m = some (r, m9) → gJ P lay_X 7 366 [(0, .inr (.inr (some 0))), (2, .inl x2), (3, .inl x3)] [] m hp hp := by
  intro n
  induction n with
  | zero => intro _ _ _ h; cases h
  | succ n ih =>
    intro x2 x3 m h
    rw [f_L_isSound_366] at h
    refine g_iload_n C dL_isSound_366 rfl ?_
    refine g_aload_n C dL_isSound_367 rfl ?_
    refine g_bipush C dL_isSound_368 (by decide) ?_
    obtain ⟨q8, hq8, h⟩ := x_bind h
    refine g_callX C dL_isSound_370 (xin_29 _ (List.mem_of_getElem? (i := 1) rfl)) xy_X10_size xi_X10_size xs_X10_size (by omega) (by decide) (b := 0) (ci := 11) rfl ⟨_, _, rfl⟩ (av := [.inl 10]) rfl (Nat.le_of_ble_eq_true rfl) (fun l => c_X_size l _ _ _ hq8) rfl ?_
    refine g_icmp_ge C 508 dL_isSound_373 (by decide) h (fun h => ?_) (fun h => ?_)
    · refine g_iconst C dL_isSound_508 ?_
      exact g_zreturn hR (by decide) dL_isSound_509 (by cases h; exact ⟨rfl, rfl, rfl⟩)
    · refine g_aload_n C dL_isSound_376 rfl ?_
      refine g_iload_n C dL_isSound_377 rfl ?_
      refine g_iconst C dL_isSound_378 ?_
      obtain ⟨q9, hq9, h⟩ := x_bind h
      refine g_callX C dL_isSound_379 (xin_32 _ (List.mem_of_getElem? (i := 3) rfl)) xy_X10_event xi_X10_event xs_X10_event (by omega) (by decide) (b := 0) (ci := 11) rfl ⟨_, _, rfl⟩ (av := [.inl x3, .inl 1]) rfl (Nat.le_of_ble_eq_true rfl) (fun l => c_X_event l _ _ _ _ hq9) rfl ?_
      refine g_istore C dL_isSound_382 (by decide) ?_
      refine g_aload_n C dL_isSound_384 rfl ?_
      refine g_iload_n C dL_isSound_385 rfl ?_
      refine g_iconst C dL_isSound_386 ?_
      obtain ⟨q10, hq10, h⟩ := x_bind h
      refine g_callX C dL_isSound_387 (xin_32 _ (List.mem_of_getElem? (i := 3) rfl)) xy_X10_event xi_X10_event xs_X10_event (by omega) (by decide) (b := 0) (ci := 11) rfl ⟨_, _, rfl⟩ (av := [.inl x3, .inl 3]) rfl (Nat.le_of_ble_eq_true rfl) (fun l => c_X_event l _ _ _ _ hq10) rfl ?_
      refine g_istore C dL_isSound_390 (by decide) ?_
      refine g_iload_n C dL_isSound_392 rfl ?_
      refine g_if_le C 413 dL_isSound_393 (by decide) h (fun h => ?_) (fun h => ?_)
      · refine g_loc [(0, .inr (.inr (some 0))), (2, .inl x2), (3, .inl x3), (4, .inl q9), (5, .inl q10)] ⟨rfl, rfl, rfl, rfl, rfl, trivial⟩ ?_
        exact t_L_isSound_413 hd9 C hR ih _ _ _ _ _ h
      · refine g_aload_n C dL_isSound_396 rfl ?_
        refine g_iload_n C dL_isSound_397 rfl ?_
        refine g_iconst C dL_isSound_398 ?_
        obtain ⟨q11, hq11, h⟩ := x_bind h
        refine g_callX C dL_isSound_399 (xin_32 _ (List.mem_of_getElem? (i := 3) rfl)) xy_X10_event xi_X10_event xs_X10_event (by omega) (by decide) (b := 0) (ci := 11) rfl ⟨_, _, rfl⟩ (av := [.inl x3, .inl 0]) rfl (Nat.le_of_ble_eq_true rfl) (fun l => c_X_event l _ _ _ _ hq11) rfl ?_
        refine g_aload_n C dL_isSound_402 rfl ?_
        refine g_iload_n C dL_isSound_403 rfl ?_
        refine g_iconst C dL_isSound_404 ?_
        refine g_isub C dL_isSound_405 ?_
        refine g_iconst C dL_isSound_406 ?_
        obtain ⟨q12, hq12, h⟩ := x_bind h
        refine g_callX C dL_isSound_407 (xin_32 _ (List.mem_of_getElem? (i := 3) rfl)) xy_X10_event xi_X10_event xs_X10_event (by omega) (by decide) (b := 0) (ci := 11) rfl ⟨_, _, rfl⟩ (av := [.inl (x3 - 1), .inl 0]) rfl (Nat.le_of_ble_eq_true rfl) (fun l => c_X_event l _ _ _ _ hq12) rfl ?_
        refine g_icmp_lt C 443 dL_isSound_410 (by decide) h (fun h => ?_) (fun h => ?_)
        · refine g_iconst C dL_isSound_443 ?_
          exact g_zreturn hR (by decide) dL_isSound_444 (by cases h; exact ⟨rfl, rfl, rfl⟩)
        · refine g_loc [(0, .inr (.inr (some 0))), (2, .inl x2), (3, .inl x3), (4, .inl q9), (5, .inl q10)] ⟨rfl, rfl, rfl, rfl, rfl, trivial⟩ ?_
          exact t_L_isSound_413 hd9 C hR ih _ _ _ _ _ h
def f_L_isSound_297 (hp : gH) (x1 : Int) (m : xM) : Option (Int × xM) :=
     (Option.bind (f_X_total 10 m) fun q0 =>
      (if xw x1 = xw q0 then (Option.bind (f_X_total 1 m) fun q1 =>
      (Option.bind (f_X_total 0 m) fun q2 =>
      (if xw q2 < xw q1 then some (0, m)
      else (Option.bind (f_X_total 9 m) fun q3 =>
      (Option.bind (f_X_total 0 m) fun q4 =>
      (if xw q3 < xw (5 * q4) then some (0, m)
      else (Option.bind (f_X_total 7 m) fun q5 =>
      (Option.bind (f_X_total 8 m) fun q6 =>
      (Option.bind (f_X_total 6 m) fun q7 =>
      (if xw (q5 + 1) < xw (q6 - q7) then some (0, m)
      else f_L_isSound_366 hp fu (-1) 0 m))))))))))
      else some (0, m)))
set_option maxRecDepth 1000000 in
set_option maxHeartbeats 4000000 in
theorem t_L_isSound_297 {P : gG → Prop} {d : Nat} {hp : gH} {r : Int} {m9 : xM} (hd9 : 4 ≤ d) (C : ∀ Γ, P Γ → gX Γ lay_X RL cL_isSound 7 d hp) (hR : ∀ Γ, P Γ → gRz Γ lay_X cL_isSound r m9 hp) (x1 : Int) (m : xM) (h : f_L_isSound_297 hp x1 m = some (r, m9)) : gJ P lay_X 7 297 [(0, .inr (.inr (some 0))), (1, .inl x1)] [] m hp hp := by
  unfold f_L_isSound_297 at h
  refine g_iload_n C dL_isSound_297 rfl ?_
  refine g_aload_n C dL_isSound_298 rfl ?_
  refine g_bipush C dL_isSound_299 (by decide) ?_
  obtain ⟨q0, hq0, h⟩ := x_bind h
  refine g_callX C dL_isSound_301 (xin_35 _ (List.mem_of_getElem? (i := 10) rfl)) xy_X10_total xi_X10_total xs_X10_total (by omega) (by decide) (b := 0) (ci := 11) rfl ⟨_, _, rfl⟩ (av := [.inl 10]) rfl (Nat.le_of_ble_eq_true rfl) (fun l => c_X_total l _ _ _ hq0) rfl ?_
  refine g_icmp_ne C 360 dL_isSound_304 (by decide) h (fun h => ?_) (fun h => ?_)
  · refine g_iconst C dL_isSound_360 ?_
    exact g_zreturn hR (by decide) dL_isSound_361 (by cases h; exact ⟨rfl, rfl, rfl⟩)
  · refine g_aload_n C dL_isSound_307 rfl ?_
    refine g_iconst C dL_isSound_308 ?_
    obtain ⟨q1, hq1, h⟩ := x_bind h
    refine g_callX C dL_isSound_309 (xin_35 _ (List.mem_of_getElem? (i := 10) rfl)) xy_X10_total xi_X10_total xs_X10_total (by omega) (by decide) (b := 0) (ci := 11) rfl ⟨_, _, rfl⟩ (av := [.inl 1]) rfl (Nat.le_of_ble_eq_true rfl) (fun l => c_X_total l _ _ _ hq1) rfl ?_
    refine g_aload_n C dL_isSound_312 rfl ?_
    refine g_iconst C dL_isSound_313 ?_
    obtain ⟨q2, hq2, h⟩ := x_bind h
    refine g_callX C dL_isSound_314 (xin_35 _ (List.mem_of_getElem? (i := 10) rfl)) xy_X10_total xi_X10_total xs_X10_total (by omega) (by decide) (b := 0) (ci := 11) rfl ⟨_, _, rfl⟩ (av := [.inl 0]) rfl (Nat.le_of_ble_eq_true rfl) (fun l => c_X_total l _ _ _ hq2) rfl ?_
    refine g_icmp_gt C 360 dL_isSound_317 (by decide) h (fun h => ?_) (fun h => ?_)
    · refine g_iconst C dL_isSound_360 ?_
      exact g_zreturn hR (by decide) dL_isSound_361 (by cases h; exact ⟨rfl, rfl, rfl⟩)
    · refine g_aload_n C dL_isSound_320 rfl ?_
      refine g_bipush C dL_isSound_321 (by decide) ?_
      obtain ⟨q3, hq3, h⟩ := x_bind h
      refine g_callX C dL_isSound_323 (xin_35 _ (List.mem_of_getElem? (i := 10) rfl)) xy_X10_total xi_X10_total xs_X10_total (by omega) (by decide) (b := 0) (ci := 11) rfl ⟨_, _, rfl⟩ (av := [.inl 9]) rfl (Nat.le_of_ble_eq_true rfl) (fun l => c_X_total l _ _ _ hq3) rfl ?_
      refine g_iconst C dL_isSound_326 ?_
      refine g_aload_n C dL_isSound_327 rfl ?_
      refine g_iconst C dL_isSound_328 ?_
      obtain ⟨q4, hq4, h⟩ := x_bind h
      refine g_callX C dL_isSound_329 (xin_35 _ (List.mem_of_getElem? (i := 10) rfl)) xy_X10_total xi_X10_total xs_X10_total (by omega) (by decide) (b := 0) (ci := 11) rfl ⟨_, _, rfl⟩ (av := [.inl 0]) rfl (Nat.le_of_ble_eq_true rfl) (fun l => c_X_total l _ _ _ hq4) rfl ?_
      refine g_imul C dL_isSound_332 ?_
      refine g_icmp_lt C 360 dL_isSound_333 (by decide) h (fun h => ?_) (fun h => ?_)
      · refine g_iconst C dL_isSound_360 ?_
        exact g_zreturn hR (by decide) dL_isSound_361 (by cases h; exact ⟨rfl, rfl, rfl⟩)
      · refine g_aload_n C dL_isSound_336 rfl ?_
        refine g_bipush C dL_isSound_337 (by decide) ?_
        obtain ⟨q5, hq5, h⟩ := x_bind h
        refine g_callX C dL_isSound_339 (xin_35 _ (List.mem_of_getElem? (i := 10) rfl)) xy_X10_total xi_X10_total xs_X10_total (by omega) (by decide) (b := 0) (ci := 11) rfl ⟨_, _, rfl⟩ (av := [.inl 7]) rfl (Nat.le_of_ble_eq_true rfl) (fun l => c_X_total l _ _ _ hq5) rfl ?_
        refine g_iconst C dL_isSound_342 ?_
        refine g_iadd C dL_isSound_343 ?_
        refine g_aload_n C dL_isSound_344 rfl ?_
        refine g_bipush C dL_isSound_345 (by decide) ?_
        obtain ⟨q6, hq6, h⟩ := x_bind h
        refine g_callX C dL_isSound_347 (xin_35 _ (List.mem_of_getElem? (i := 10) rfl)) xy_X10_total xi_X10_total xs_X10_total (by omega) (by decide) (b := 0) (ci := 11) rfl ⟨_, _, rfl⟩ (av := [.inl 8]) rfl (Nat.le_of_ble_eq_true rfl) (fun l => c_X_total l _ _ _ hq6) rfl ?_
        refine g_aload_n C dL_isSound_350 rfl ?_
        refine g_bipush C dL_isSound_351 (by decide) ?_
        obtain ⟨q7, hq7, h⟩ := x_bind h
        refine g_callX C dL_isSound_353 (xin_35 _ (List.mem_of_getElem? (i := 10) rfl)) xy_X10_total xi_X10_total xs_X10_total (by omega) (by decide) (b := 0) (ci := 11) rfl ⟨_, _, rfl⟩ (av := [.inl 6]) rfl (Nat.le_of_ble_eq_true rfl) (fun l => c_X_total l _ _ _ hq7) rfl ?_
        refine g_isub C dL_isSound_356 ?_
        refine g_icmp_ge C 362 dL_isSound_357 (by decide) h (fun h => ?_) (fun h => ?_)
        · refine g_iconst C dL_isSound_362 ?_
          refine g_istore_n C dL_isSound_363 (by decide) ?_
          refine g_iconst C dL_isSound_364 ?_
          refine g_istore_n C dL_isSound_365 (by decide) ?_
          refine g_loc [(0, .inr (.inr (some 0))), (2, .inl (-1)), (3, .inl 0)] ⟨rfl, rfl, rfl, trivial⟩ ?_
          exact t_L_isSound_366 hd9 C hR fu _ _ _ h
        · refine g_iconst C dL_isSound_360 ?_
          exact g_zreturn hR (by decide) dL_isSound_361 (by cases h; exact ⟨rfl, rfl, rfl⟩)
def f_L_isSound_282 (hp : gH) (k4 : Int → Int → xM → Option (Int × xM)) (x1 : Int) (x2 : Int) (m : xM) : Option (Int × xM) :=
     (Option.bind (f_X_end x2 5 m) fun q23 =>
      k4 (x1 + q23) (x2 + 1) m)
set_option maxRecDepth 1000000 in
set_option maxHeartbeats 4000000 in
theorem t_L_isSound_282 {P : gG → Prop} {d : Nat} {hp : gH} {r : Int} {m9 : xM} (hd9 : 4 ≤ d) (C : ∀ Γ, P Γ → gX Γ lay_X RL cL_isSound 7 d hp) (hR : ∀ Γ, P Γ → gRz Γ lay_X cL_isSound r m9 hp) {k4 : Int → Int → xM → Option (Int × xM)} (hk4 : ∀ (x1 : Int) (x2 : Int) (m : xM), k4 x1 x2 m = some (r, m9) → gJ P lay_X 7 4 [(0, .inr (.inr (some 0))), (1, .inl x1), (2, .inl x2)] [] m hp hp) (x1 : Int) (x2 : Int) (m : xM) (h : f_L_isSound_282 hp k4 x1 x2 m = some (r, m9)) : gJ P lay_X 7 282 [(0, .inr (.inr (some 0))), (1, .inl x1), (2, .inl x2)] [] m hp hp := by
  unfold f_L_isSound_282 at h
  refine g_iload_n C dL_isSound_282 rfl ?_
  refine g_aload_n C dL_isSound_283 rfl ?_
  refine g_iload_n C dL_isSound_284 rfl ?_
  refine g_iconst C dL_isSound_285 ?_
  obtain ⟨q23, hq23, h⟩ := x_bind h
  refine g_callX C dL_isSound_286 (xin_31 _ (List.mem_of_getElem? (i := 1) rfl)) xy_X10_end xi_X10_end xs_X10_end (by omega) (by decide) (b := 0) (ci := 11) rfl ⟨_, _, rfl⟩ (av := [.inl x2, .inl 5]) rfl (Nat.le_of_ble_eq_true rfl) (fun l => c_X_end l _ _ _ _ hq23) rfl ?_
  refine g_iadd C dL_isSound_289 ?_
  refine g_istore_n C dL_isSound_290 (by decide) ?_
  refine g_iinc C dL_isSound_291 (by decide) rfl ?_
  refine g_goto C 4 dL_isSound_294 (by decide) ?_
  refine g_loc [(0, .inr (.inr (some 0))), (1, .inl (x1 + q23)), (2, .inl (x2 + 1))] ⟨rfl, rfl, rfl, trivial⟩ ?_
  exact hk4 _ _ _ h
def f_L_isSound_277 (hp : gH) (k4 : Int → Int → xM → Option (Int × xM)) (x1 : Int) (x2 : Int) (s0 : Int) (s1 : Int) (m : xM) : Option (Int × xM) :=
     (if xw s1 = xw s0 then f_L_isSound_282 hp k4 x1 x2 m
      else some (0, m))
set_option maxRecDepth 1000000 in
set_option maxHeartbeats 4000000 in
theorem t_L_isSound_277 {P : gG → Prop} {d : Nat} {hp : gH} {r : Int} {m9 : xM} (hd9 : 4 ≤ d) (C : ∀ Γ, P Γ → gX Γ lay_X RL cL_isSound 7 d hp) (hR : ∀ Γ, P Γ → gRz Γ lay_X cL_isSound r m9 hp) {k4 : Int → Int → xM → Option (Int × xM)} (hk4 : ∀ (x1 : Int) (x2 : Int) (m : xM), k4 x1 x2 m = some (r, m9) → gJ P lay_X 7 4 [(0, .inr (.inr (some 0))), (1, .inl x1), (2, .inl x2)] [] m hp hp) (x1 : Int) (x2 : Int) (s0 : Int) (s1 : Int) (m : xM) (h : f_L_isSound_277 hp k4 x1 x2 s0 s1 m = some (r, m9)) : gJ P lay_X 7 277 [(0, .inr (.inr (some 0))), (1, .inl x1), (2, .inl x2)] [.inl s0, .inl s1] m hp hp := by
  unfold f_L_isSound_277 at h
  refine g_icmp_eq C 282 dL_isSound_277 (by decide) h (fun h => ?_) (fun h => ?_)
  · refine g_loc [(0, .inr (.inr (some 0))), (1, .inl x1), (2, .inl x2)] ⟨rfl, rfl, rfl, trivial⟩ ?_
    exact t_L_isSound_282 hd9 C hR hk4 _ _ _ h
  · refine g_iconst C dL_isSound_280 ?_
    exact g_zreturn hR (by decide) dL_isSound_281 (by cases h; exact ⟨rfl, rfl, rfl⟩)
def f_L_isSound_264 (hp : gH) (k4 : Int → Int → xM → Option (Int × xM)) (x1 : Int) (x2 : Int) (s0 : Int) (m : xM) : Option (Int × xM) :=
     (Option.bind (f_X_nextCost x2 m) fun q25 =>
      (if 0 < xw q25.1 then f_L_isSound_277 hp k4 x1 x2 1 s0 q25.2
      else f_L_isSound_277 hp k4 x1 x2 0 s0 q25.2))
set_option maxRecDepth 1000000 in
set_option maxHeartbeats 4000000 in
theorem t_L_isSound_264 {P : gG → Prop} {d : Nat} {hp : gH} {r : Int} {m9 : xM} (hd9 : 4 ≤ d) (C : ∀ Γ, P Γ → gX Γ lay_X RL cL_isSound 7 d hp) (hR : ∀ Γ, P Γ → gRz Γ lay_X cL_isSound r m9 hp) {k4 : Int → Int → xM → Option (Int × xM)} (hk4 : ∀ (x1 : Int) (x2 : Int) (m : xM), k4 x1 x2 m = some (r, m9) → gJ P lay_X 7 4 [(0, .inr (.inr (some 0))), (1, .inl x1), (2, .inl x2)] [] m hp hp) (x1 : Int) (x2 : Int) (s0 : Int) (m : xM) (h : f_L_isSound_264 hp k4 x1 x2 s0 m = some (r, m9)) : gJ P lay_X 7 264 [(0, .inr (.inr (some 0))), (1, .inl x1), (2, .inl x2)] [.inl s0] m hp hp := by
  unfold f_L_isSound_264 at h
  refine g_aload_n C dL_isSound_264 rfl ?_
  refine g_iload_n C dL_isSound_265 rfl ?_
  obtain ⟨q25, hq25, h⟩ := x_bind h
  refine g_callX C dL_isSound_266 (xin_30 _ (List.mem_of_getElem? (i := 6) rfl)) xy_X10_nextCost xi_X10_nextCost xs_X10_nextCost (by omega) (by decide) (b := 0) (ci := 11) rfl ⟨_, _, rfl⟩ (av := [.inl x2]) rfl (Nat.le_of_ble_eq_true rfl) (fun l => c_X_nextCost l _ _ q25.1 q25.2 hq25) rfl ?_
  refine g_if_le C 276 dL_isSound_269 (by decide) h (fun h => ?_) (fun h => ?_)
  · refine g_iconst C dL_isSound_276 ?_
    refine g_loc [(0, .inr (.inr (some 0))), (1, .inl x1), (2, .inl x2)] ⟨rfl, rfl, rfl, trivial⟩ ?_
    exact t_L_isSound_277 hd9 C hR hk4 _ _ _ _ _ h
  · refine g_iconst C dL_isSound_272 ?_
    refine g_goto C 277 dL_isSound_273 (by decide) ?_
    refine g_loc [(0, .inr (.inr (some 0))), (1, .inl x1), (2, .inl x2)] ⟨rfl, rfl, rfl, trivial⟩ ?_
    exact t_L_isSound_277 hd9 C hR hk4 _ _ _ _ _ h
def f_L_isSound_241 (hp : gH) (k4 : Int → Int → xM → Option (Int × xM)) (x1 : Int) (x2 : Int) (m : xM) : Option (Int × xM) :=
     (Option.bind (f_X_size 1 m) fun q22 =>
      (if xw q22 = xw 2 then (Option.bind (f_X_end x2 0 m) fun q24 =>
      (if 0 < xw q24 then f_L_isSound_264 hp k4 x1 x2 1 m
      else f_L_isSound_264 hp k4 x1 x2 0 m))
      else f_L_isSound_282 hp k4 x1 x2 m))
set_option maxRecDepth 1000000 in
set_option maxHeartbeats 4000000 in
theorem t_L_isSound_241 {P : gG → Prop} {d : Nat} {hp : gH} {r : Int} {m9 : xM} (hd9 : 4 ≤ d) (C : ∀ Γ, P Γ → gX Γ lay_X RL cL_isSound 7 d hp) (hR : ∀ Γ, P Γ → gRz Γ lay_X cL_isSound r m9 hp) {k4 : Int → Int → xM → Option (Int × xM)} (hk4 : ∀ (x1 : Int) (x2 : Int) (m : xM), k4 x1 x2 m = some (r, m9) → gJ P lay_X 7 4 [(0, .inr (.inr (some 0))), (1, .inl x1), (2, .inl x2)] [] m hp hp) (x1 : Int) (x2 : Int) (m : xM) (h : f_L_isSound_241 hp k4 x1 x2 m = some (r, m9)) : gJ P lay_X 7 241 [(0, .inr (.inr (some 0))), (1, .inl x1), (2, .inl x2)] [] m hp hp := by
  unfold f_L_isSound_241 at h
  refine g_aload_n C dL_isSound_241 rfl ?_
  refine g_iconst C dL_isSound_242 ?_
  obtain ⟨q22, hq22, h⟩ := x_bind h
  refine g_callX C dL_isSound_243 (xin_29 _ (List.mem_of_getElem? (i := 1) rfl)) xy_X10_size xi_X10_size xs_X10_size (by omega) (by decide) (b := 0) (ci := 11) rfl ⟨_, _, rfl⟩ (av := [.inl 1]) rfl (Nat.le_of_ble_eq_true rfl) (fun l => c_X_size l _ _ _ hq22) rfl ?_
  refine g_iconst C dL_isSound_246 ?_
  refine g_icmp_ne C 282 dL_isSound_247 (by decide) h (fun h => ?_) (fun h => ?_)
  · refine g_loc [(0, .inr (.inr (some 0))), (1, .inl x1), (2, .inl x2)] ⟨rfl, rfl, rfl, trivial⟩ ?_
    exact t_L_isSound_282 hd9 C hR hk4 _ _ _ h
  · refine g_aload_n C dL_isSound_250 rfl ?_
    refine g_iload_n C dL_isSound_251 rfl ?_
    refine g_iconst C dL_isSound_252 ?_
    obtain ⟨q24, hq24, h⟩ := x_bind h
    refine g_callX C dL_isSound_253 (xin_31 _ (List.mem_of_getElem? (i := 1) rfl)) xy_X10_end xi_X10_end xs_X10_end (by omega) (by decide) (b := 0) (ci := 11) rfl ⟨_, _, rfl⟩ (av := [.inl x2, .inl 0]) rfl (Nat.le_of_ble_eq_true rfl) (fun l => c_X_end l _ _ _ _ hq24) rfl ?_
    refine g_if_le C 263 dL_isSound_256 (by decide) h (fun h => ?_) (fun h => ?_)
    · refine g_iconst C dL_isSound_263 ?_
      refine g_loc [(0, .inr (.inr (some 0))), (1, .inl x1), (2, .inl x2)] ⟨rfl, rfl, rfl, trivial⟩ ?_
      exact t_L_isSound_264 hd9 C hR hk4 _ _ _ _ h
    · refine g_iconst C dL_isSound_259 ?_
      refine g_goto C 264 dL_isSound_260 (by decide) ?_
      refine g_loc [(0, .inr (.inr (some 0))), (1, .inl x1), (2, .inl x2)] ⟨rfl, rfl, rfl, trivial⟩ ?_
      exact t_L_isSound_264 hd9 C hR hk4 _ _ _ _ h
def f_L_isSound_235 (hp : gH) (k4 : Int → Int → xM → Option (Int × xM)) (k186 : Int → Int → Int → xM → Option (Int × xM)) (x1 : Int) (x2 : Int) (x5 : Int) (m : xM) : Option (Int × xM) :=
     k186 x1 x2 (x5 + 1) m
set_option maxRecDepth 1000000 in
set_option maxHeartbeats 4000000 in
theorem t_L_isSound_235 {P : gG → Prop} {d : Nat} {hp : gH} {r : Int} {m9 : xM} (hd9 : 4 ≤ d) (C : ∀ Γ, P Γ → gX Γ lay_X RL cL_isSound 7 d hp) (hR : ∀ Γ, P Γ → gRz Γ lay_X cL_isSound r m9 hp) {k4 : Int → Int → xM → Option (Int × xM)} (hk4 : ∀ (x1 : Int) (x2 : Int) (m : xM), k4 x1 x2 m = some (r, m9) → gJ P lay_X 7 4 [(0, .inr (.inr (some 0))), (1, .inl x1), (2, .inl x2)] [] m hp hp) {k186 : Int → Int → Int → xM → Option (Int × xM)} (hk186 : ∀ (x1 : Int) (x2 : Int) (x5 : Int) (m : xM), k186 x1 x2 x5 m = some (r, m9) → gJ P lay_X 7 186 [(0, .inr (.inr (some 0))), (1, .inl x1), (2, .inl x2), (5, .inl x5)] [] m hp hp) (x1 : Int) (x2 : Int) (x5 : Int) (m : xM) (h : f_L_isSound_235 hp k4 k186 x1 x2 x5 m = some (r, m9)) : gJ P lay_X 7 235 [(0, .inr (.inr (some 0))), (1, .inl x1), (2, .inl x2), (5, .inl x5)] [] m hp hp := by
  unfold f_L_isSound_235 at h
  refine g_iinc C dL_isSound_235 (by decide) rfl ?_
  refine g_goto C 186 dL_isSound_238 (by decide) ?_
  refine g_loc [(0, .inr (.inr (some 0))), (1, .inl x1), (2, .inl x2), (5, .inl (x5 + 1))] ⟨rfl, rfl, rfl, rfl, trivial⟩ ?_
  exact hk186 _ _ _ _ h
def f_L_isSound_201 (hp : gH) (k4 : Int → Int → xM → Option (Int × xM)) (k186 : Int → Int → Int → xM → Option (Int × xM)) : Nat → Int → Int → Int → Int → xM → Option (Int × xM)
  | 0, _, _, _, _, _ => none
  | n + 1, x1, x2, x5, x6, m =>
     (if xw x6 < xw x5 then (Option.bind (f_X_word x2 1 x5 m) fun q26 =>
      (Option.bind (f_X_word x2 1 x6 m) fun q27 =>
      (if xw q26 = xw q27 then some (0, m)
      else f_L_isSound_201 hp k4 k186 n x1 x2 x5 (x6 + 1) m)))
      else f_L_isSound_235 hp k4 k186 x1 x2 x5 m)
set_option maxRecDepth 1000000 in
set_option maxHeartbeats 4000000 in
theorem t_L_isSound_201 {P : gG → Prop} {d : Nat} {hp : gH} {r : Int} {m9 : xM} (hd9 : 4 ≤ d) (C : ∀ Γ, P Γ → gX Γ lay_X RL cL_isSound 7 d hp) (hR : ∀ Γ, P Γ → gRz Γ lay_X cL_isSound r m9 hp) {k4 : Int → Int → xM → Option (Int × xM)} (hk4 : ∀ (x1 : Int) (x2 : Int) (m : xM), k4 x1 x2 m = some (r, m9) → gJ P lay_X 7 4 [(0, .inr (.inr (some 0))), (1, .inl x1), (2, .inl x2)] [] m hp hp) {k186 : Int → Int → Int → xM → Option (Int × xM)} (hk186 : ∀ (x1 : Int) (x2 : Int) (x5 : Int) (m : xM), k186 x1 x2 x5 m = some (r, m9) → gJ P lay_X 7 186 [(0, .inr (.inr (some 0))), (1, .inl x1), (2, .inl x2), (5, .inl x5)] [] m hp hp) : ∀ (n : Nat) (x1 : Int) (x2 : Int) (x5 : Int) (x6 : Int) (m : xM), f_L_isSound_201 hp k4 k186 n x1 x2 x5 x6 m = some (r, m9) → gJ P lay_X 7 201 [(0, .inr (.inr (some 0))), (1, .inl x1), (2, .inl x2), (5, .inl x5), (6, .inl x6)] [] m hp hp := by
  intro n
  induction n with
  | zero => intro _ _ _ _ _ h; cases h
  | succ n ih =>
    intro x1 x2 x5 x6 m h
    rw [f_L_isSound_201] at h
    refine g_iload C dL_isSound_201 rfl ?_
    refine g_iload C dL_isSound_203 rfl ?_
    refine g_icmp_ge C 235 dL_isSound_205 (by decide) h (fun h => ?_) (fun h => ?_)
    · refine g_loc [(0, .inr (.inr (some 0))), (1, .inl x1), (2, .inl x2), (5, .inl x5)] ⟨rfl, rfl, rfl, rfl, trivial⟩ ?_
      exact t_L_isSound_235 hd9 C hR hk4 hk186 _ _ _ _ h
    · refine g_aload_n C dL_isSound_208 rfl ?_
      refine g_iload_n C dL_isSound_209 rfl ?_
      refine g_iconst C dL_isSound_210 ?_
      refine g_iload C dL_isSound_211 rfl ?_
      obtain ⟨q26, hq26, h⟩ := x_bind h
      refine g_callX C dL_isSound_213 (xin_31 _ (List.mem_of_getElem? (i := 22) rfl)) xy_X10_word xi_X10_word xs_X10_word (by omega) (by decide) (b := 0) (ci := 11) rfl ⟨_, _, rfl⟩ (av := [.inl x2, .inl 1, .inl x5]) rfl (Nat.le_of_ble_eq_true rfl) (fun l => c_X_word l _ _ _ _ _ hq26) rfl ?_
      refine g_aload_n C dL_isSound_216 rfl ?_
      refine g_iload_n C dL_isSound_217 rfl ?_
      refine g_iconst C dL_isSound_218 ?_
      refine g_iload C dL_isSound_219 rfl ?_
      obtain ⟨q27, hq27, h⟩ := x_bind h
      refine g_callX C dL_isSound_221 (xin_31 _ (List.mem_of_getElem? (i := 22) rfl)) xy_X10_word xi_X10_word xs_X10_word (by omega) (by decide) (b := 0) (ci := 11) rfl ⟨_, _, rfl⟩ (av := [.inl x2, .inl 1, .inl x6]) rfl (Nat.le_of_ble_eq_true rfl) (fun l => c_X_word l _ _ _ _ _ hq27) rfl ?_
      refine g_icmp_ne C 229 dL_isSound_224 (by decide) h (fun h => ?_) (fun h => ?_)
      · refine g_iinc C dL_isSound_229 (by decide) rfl ?_
        refine g_goto C 201 dL_isSound_232 (by decide) ?_
        refine g_loc [(0, .inr (.inr (some 0))), (1, .inl x1), (2, .inl x2), (5, .inl x5), (6, .inl (x6 + 1))] ⟨rfl, rfl, rfl, rfl, rfl, trivial⟩ ?_
        exact ih _ _ _ _ _ h
      · refine g_iconst C dL_isSound_227 ?_
        exact g_zreturn hR (by decide) dL_isSound_228 (by cases h; exact ⟨rfl, rfl, rfl⟩)
def f_L_isSound_186 (hp : gH) (k4 : Int → Int → xM → Option (Int × xM)) : Nat → Int → Int → Int → xM → Option (Int × xM)
  | 0, _, _, _, _ => none
  | n + 1, x1, x2, x5, m =>
     (Option.bind (f_X_end x2 8 m) fun q21 =>
      (if xw x5 < xw q21 then f_L_isSound_201 hp k4 (f_L_isSound_186 hp k4 n) fu x1 x2 x5 0 m
      else f_L_isSound_241 hp k4 x1 x2 m))
set_option maxRecDepth 1000000 in
set_option maxHeartbeats 4000000 in
theorem t_L_isSound_186 {P : gG → Prop} {d : Nat} {hp : gH} {r : Int} {m9 : xM} (hd9 : 4 ≤ d) (C : ∀ Γ, P Γ → gX Γ lay_X RL cL_isSound 7 d hp) (hR : ∀ Γ, P Γ → gRz Γ lay_X cL_isSound r m9 hp) {k4 : Int → Int → xM → Option (Int × xM)} (hk4 : ∀ (x1 : Int) (x2 : Int) (m : xM), k4 x1 x2 m = some (r, m9) → gJ P lay_X 7 4 [(0, .inr (.inr (some 0))), (1, .inl x1), (2, .inl x2)] [] m hp hp) : ∀ (n : Nat) (x1 : Int) (x2 : Int) (x5 : Int) (m : xM), f_L_isSound_186 hp k4 n x1 x2 x5 m = some (r, m9) → gJ P lay_X 7 186 [(0, .inr (.inr (some 0))), (1, .inl x1), (2, .inl x2), (5, .inl x5)] [] m hp hp := by
  intro n
  induction n with
  | zero => intro _ _ _ _ h; cases h
  | succ n ih =>
    intro x1 x2 x5 m h
    rw [f_L_isSound_186] at h
    refine g_iload C dL_isSound_186 rfl ?_
    refine g_aload_n C dL_isSound_188 rfl ?_
    refine g_iload_n C dL_isSound_189 rfl ?_
    refine g_bipush C dL_isSound_190 (by decide) ?_
    obtain ⟨q21, hq21, h⟩ := x_bind h
    refine g_callX C dL_isSound_192 (xin_31 _ (List.mem_of_getElem? (i := 1) rfl)) xy_X10_end xi_X10_end xs_X10_end (by omega) (by decide) (b := 0) (ci := 11) rfl ⟨_, _, rfl⟩ (av := [.inl x2, .inl 8]) rfl (Nat.le_of_ble_eq_true rfl) (fun l => c_X_end l _ _ _ _ hq21) rfl ?_
    refine g_icmp_ge C 241 dL_isSound_195 (by decide) h (fun h => ?_) (fun h => ?_)
    · refine g_loc [(0, .inr (.inr (some 0))), (1, .inl x1), (2, .inl x2)] ⟨rfl, rfl, rfl, trivial⟩ ?_
      exact t_L_isSound_241 hd9 C hR hk4 _ _ _ h
    · refine g_iconst C dL_isSound_198 ?_
      refine g_istore C dL_isSound_199 (by decide) ?_
      refine g_loc [(0, .inr (.inr (some 0))), (1, .inl x1), (2, .inl x2), (5, .inl x5), (6, .inl 0)] ⟨rfl, rfl, rfl, rfl, rfl, trivial⟩ ?_
      exact t_L_isSound_201 hd9 C hR hk4 ih fu _ _ _ _ _ h
def f_L_isSound_145 (hp : gH) (k4 : Int → Int → xM → Option (Int × xM)) (x1 : Int) (x2 : Int) (m : xM) : Option (Int × xM) :=
     (Option.bind (f_X_end x2 8 m) fun q18 =>
      (if xw 8 < xw q18 then some (0, m)
      else (Option.bind (f_X_end x2 9 m) fun q19 =>
      (if xw 8 < xw q19 then some (0, m)
      else (Option.bind (f_X_end x2 0 m) fun q20 =>
      (if xw 200 < xw q20 then some (0, m)
      else f_L_isSound_186 hp k4 fu x1 x2 0 m))))))
set_option maxRecDepth 1000000 in
set_option maxHeartbeats 4000000 in
theorem t_L_isSound_145 {P : gG → Prop} {d : Nat} {hp : gH} {r : Int} {m9 : xM} (hd9 : 4 ≤ d) (C : ∀ Γ, P Γ → gX Γ lay_X RL cL_isSound 7 d hp) (hR : ∀ Γ, P Γ → gRz Γ lay_X cL_isSound r m9 hp) {k4 : Int → Int → xM → Option (Int × xM)} (hk4 : ∀ (x1 : Int) (x2 : Int) (m : xM), k4 x1 x2 m = some (r, m9) → gJ P lay_X 7 4 [(0, .inr (.inr (some 0))), (1, .inl x1), (2, .inl x2)] [] m hp hp) (x1 : Int) (x2 : Int) (m : xM) (h : f_L_isSound_145 hp k4 x1 x2 m = some (r, m9)) : gJ P lay_X 7 145 [(0, .inr (.inr (some 0))), (1, .inl x1), (2, .inl x2)] [] m hp hp := by
  unfold f_L_isSound_145 at h
  refine g_aload_n C dL_isSound_145 rfl ?_
  refine g_iload_n C dL_isSound_146 rfl ?_
  refine g_bipush C dL_isSound_147 (by decide) ?_
  obtain ⟨q18, hq18, h⟩ := x_bind h
  refine g_callX C dL_isSound_149 (xin_31 _ (List.mem_of_getElem? (i := 1) rfl)) xy_X10_end xi_X10_end xs_X10_end (by omega) (by decide) (b := 0) (ci := 11) rfl ⟨_, _, rfl⟩ (av := [.inl x2, .inl 8]) rfl (Nat.le_of_ble_eq_true rfl) (fun l => c_X_end l _ _ _ _ hq18) rfl ?_
  refine g_bipush C dL_isSound_152 (by decide) ?_
  refine g_icmp_gt C 181 dL_isSound_154 (by decide) h (fun h => ?_) (fun h => ?_)
  · refine g_iconst C dL_isSound_181 ?_
    exact g_zreturn hR (by decide) dL_isSound_182 (by cases h; exact ⟨rfl, rfl, rfl⟩)
  · refine g_aload_n C dL_isSound_157 rfl ?_
    refine g_iload_n C dL_isSound_158 rfl ?_
    refine g_bipush C dL_isSound_159 (by decide) ?_
    obtain ⟨q19, hq19, h⟩ := x_bind h
    refine g_callX C dL_isSound_161 (xin_31 _ (List.mem_of_getElem? (i := 1) rfl)) xy_X10_end xi_X10_end xs_X10_end (by omega) (by decide) (b := 0) (ci := 11) rfl ⟨_, _, rfl⟩ (av := [.inl x2, .inl 9]) rfl (Nat.le_of_ble_eq_true rfl) (fun l => c_X_end l _ _ _ _ hq19) rfl ?_
    refine g_bipush C dL_isSound_164 (by decide) ?_
    refine g_icmp_gt C 181 dL_isSound_166 (by decide) h (fun h => ?_) (fun h => ?_)
    · refine g_iconst C dL_isSound_181 ?_
      exact g_zreturn hR (by decide) dL_isSound_182 (by cases h; exact ⟨rfl, rfl, rfl⟩)
    · refine g_aload_n C dL_isSound_169 rfl ?_
      refine g_iload_n C dL_isSound_170 rfl ?_
      refine g_iconst C dL_isSound_171 ?_
      obtain ⟨q20, hq20, h⟩ := x_bind h
      refine g_callX C dL_isSound_172 (xin_31 _ (List.mem_of_getElem? (i := 1) rfl)) xy_X10_end xi_X10_end xs_X10_end (by omega) (by decide) (b := 0) (ci := 11) rfl ⟨_, _, rfl⟩ (av := [.inl x2, .inl 0]) rfl (Nat.le_of_ble_eq_true rfl) (fun l => c_X_end l _ _ _ _ hq20) rfl ?_
      refine g_sipush C dL_isSound_175 (by decide) ?_
      refine g_icmp_le C 183 dL_isSound_178 (by decide) h (fun h => ?_) (fun h => ?_)
      · refine g_iconst C dL_isSound_183 ?_
        refine g_istore C dL_isSound_184 (by decide) ?_
        refine g_loc [(0, .inr (.inr (some 0))), (1, .inl x1), (2, .inl x2), (5, .inl 0)] ⟨rfl, rfl, rfl, rfl, trivial⟩ ?_
        exact t_L_isSound_186 hd9 C hR hk4 fu _ _ _ _ h
      · refine g_iconst C dL_isSound_181 ?_
        exact g_zreturn hR (by decide) dL_isSound_182 (by cases h; exact ⟨rfl, rfl, rfl⟩)
def f_L_isSound_113 (hp : gH) (k4 : Int → Int → xM → Option (Int × xM)) (x1 : Int) (x2 : Int) (x3 : Int) (x4 : Int) (m : xM) : Option (Int × xM) :=
     (Option.bind (f_X_end x2 3 m) fun q16 =>
      (if xw q16 < xw x4 then some (0, m)
      else (Option.bind (f_X_size 1 m) fun q17 =>
      (if xw q17 = 0 then f_L_isSound_145 hp k4 x1 x2 m
      else (Option.bind (f_X_end x2 3 m) fun q28 =>
      (if xw x4 < xw (q28 - x3) then some (0, m)
      else f_L_isSound_145 hp k4 x1 x2 m))))))
set_option maxRecDepth 1000000 in
set_option maxHeartbeats 4000000 in
theorem t_L_isSound_113 {P : gG → Prop} {d : Nat} {hp : gH} {r : Int} {m9 : xM} (hd9 : 4 ≤ d) (C : ∀ Γ, P Γ → gX Γ lay_X RL cL_isSound 7 d hp) (hR : ∀ Γ, P Γ → gRz Γ lay_X cL_isSound r m9 hp) {k4 : Int → Int → xM → Option (Int × xM)} (hk4 : ∀ (x1 : Int) (x2 : Int) (m : xM), k4 x1 x2 m = some (r, m9) → gJ P lay_X 7 4 [(0, .inr (.inr (some 0))), (1, .inl x1), (2, .inl x2)] [] m hp hp) (x1 : Int) (x2 : Int) (x3 : Int) (x4 : Int) (m : xM) (h : f_L_isSound_113 hp k4 x1 x2 x3 x4 m = some (r, m9)) : gJ P lay_X 7 113 [(0, .inr (.inr (some 0))), (1, .inl x1), (2, .inl x2), (3, .inl x3), (4, .inl x4)] [] m hp hp := by
  unfold f_L_isSound_113 at h
  refine g_iload C dL_isSound_113 rfl ?_
  refine g_aload_n C dL_isSound_115 rfl ?_
  refine g_iload_n C dL_isSound_116 rfl ?_
  refine g_iconst C dL_isSound_117 ?_
  obtain ⟨q16, hq16, h⟩ := x_bind h
  refine g_callX C dL_isSound_118 (xin_31 _ (List.mem_of_getElem? (i := 1) rfl)) xy_X10_end xi_X10_end xs_X10_end (by omega) (by decide) (b := 0) (ci := 11) rfl ⟨_, _, rfl⟩ (av := [.inl x2, .inl 3]) rfl (Nat.le_of_ble_eq_true rfl) (fun l => c_X_end l _ _ _ _ hq16) rfl ?_
  refine g_icmp_gt C 181 dL_isSound_121 (by decide) h (fun h => ?_) (fun h => ?_)
  · refine g_iconst C dL_isSound_181 ?_
    exact g_zreturn hR (by decide) dL_isSound_182 (by cases h; exact ⟨rfl, rfl, rfl⟩)
  · refine g_aload_n C dL_isSound_124 rfl ?_
    refine g_iconst C dL_isSound_125 ?_
    obtain ⟨q17, hq17, h⟩ := x_bind h
    refine g_callX C dL_isSound_126 (xin_29 _ (List.mem_of_getElem? (i := 1) rfl)) xy_X10_size xi_X10_size xs_X10_size (by omega) (by decide) (b := 0) (ci := 11) rfl ⟨_, _, rfl⟩ (av := [.inl 1]) rfl (Nat.le_of_ble_eq_true rfl) (fun l => c_X_size l _ _ _ hq17) rfl ?_
    refine g_if_eq C 145 dL_isSound_129 (by decide) h (fun h => ?_) (fun h => ?_)
    · refine g_loc [(0, .inr (.inr (some 0))), (1, .inl x1), (2, .inl x2)] ⟨rfl, rfl, rfl, trivial⟩ ?_
      exact t_L_isSound_145 hd9 C hR hk4 _ _ _ h
    · refine g_iload C dL_isSound_132 rfl ?_
      refine g_aload_n C dL_isSound_134 rfl ?_
      refine g_iload_n C dL_isSound_135 rfl ?_
      refine g_iconst C dL_isSound_136 ?_
      obtain ⟨q28, hq28, h⟩ := x_bind h
      refine g_callX C dL_isSound_137 (xin_31 _ (List.mem_of_getElem? (i := 1) rfl)) xy_X10_end xi_X10_end xs_X10_end (by omega) (by decide) (b := 0) (ci := 11) rfl ⟨_, _, rfl⟩ (av := [.inl x2, .inl 3]) rfl (Nat.le_of_ble_eq_true rfl) (fun l => c_X_end l _ _ _ _ hq28) rfl ?_
      refine g_iload_n C dL_isSound_140 rfl ?_
      refine g_isub C dL_isSound_141 ?_
      refine g_icmp_lt C 181 dL_isSound_142 (by decide) h (fun h => ?_) (fun h => ?_)
      · refine g_iconst C dL_isSound_181 ?_
        exact g_zreturn hR (by decide) dL_isSound_182 (by cases h; exact ⟨rfl, rfl, rfl⟩)
      · refine g_loc [(0, .inr (.inr (some 0))), (1, .inl x1), (2, .inl x2)] ⟨rfl, rfl, rfl, trivial⟩ ?_
        exact t_L_isSound_145 hd9 C hR hk4 _ _ _ h
def f_L_isSound_36 (hp : gH) (k4 : Int → Int → xM → Option (Int × xM)) : Nat → Int → Int → Int → Int → Int → xM → Option (Int × xM)
  | 0, _, _, _, _, _, _ => none
  | n + 1, x1, x2, x3, x4, x5, m =>
     (if xw x5 < xw x3 then (Option.bind (f_X_frame x2 x5 0 m) fun q29 =>
      (Option.bind (f_X_end x2 3 m) fun q30 =>
      (if xw q29 = xw ((q30 - x3) + x5) then (Option.bind (f_X_frame x2 x5 1 m) fun q31 =>
      (if xw q31 < xw 1 then some (0, m)
      else (Option.bind (f_X_frame x2 x5 1 m) fun q32 =>
      (if xw 8 < xw q32 then some (0, m)
      else (Option.bind (f_X_frame x2 x5 2 m) fun q33 =>
      (Option.bind (f_X_size 0 m) fun q34 =>
      (if xw q33 < xw q34 then f_L_isSound_36 hp k4 n x1 x2 x3 x4 (x5 + 1) m
      else some (0, m))))))))
      else some (0, m))))
      else f_L_isSound_113 hp k4 x1 x2 x3 x4 m)
set_option maxRecDepth 1000000 in
set_option maxHeartbeats 4000000 in
theorem t_L_isSound_36 {P : gG → Prop} {d : Nat} {hp : gH} {r : Int} {m9 : xM} (hd9 : 4 ≤ d) (C : ∀ Γ, P Γ → gX Γ lay_X RL cL_isSound 7 d hp) (hR : ∀ Γ, P Γ → gRz Γ lay_X cL_isSound r m9 hp) {k4 : Int → Int → xM → Option (Int × xM)} (hk4 : ∀ (x1 : Int) (x2 : Int) (m : xM), k4 x1 x2 m = some (r, m9) → gJ P lay_X 7 4 [(0, .inr (.inr (some 0))), (1, .inl x1), (2, .inl x2)] [] m hp hp) : ∀ (n : Nat) (x1 : Int) (x2 : Int) (x3 : Int) (x4 : Int) (x5 : Int) (m : xM), f_L_isSound_36 hp k4 n x1 x2 x3 x4 x5 m = some (r, m9) → gJ P lay_X 7 36 [(0, .inr (.inr (some 0))), (1, .inl x1), (2, .inl x2), (3, .inl x3), (4, .inl x4), (5, .inl x5)] [] m hp hp := by
  intro n
  induction n with
  | zero => intro _ _ _ _ _ _ h; cases h
  | succ n ih =>
    intro x1 x2 x3 x4 x5 m h
    rw [f_L_isSound_36] at h
    refine g_iload C dL_isSound_36 rfl ?_
    refine g_iload_n C dL_isSound_38 rfl ?_
    refine g_icmp_ge C 113 dL_isSound_39 (by decide) h (fun h => ?_) (fun h => ?_)
    · refine g_loc [(0, .inr (.inr (some 0))), (1, .inl x1), (2, .inl x2), (3, .inl x3), (4, .inl x4)] ⟨rfl, rfl, rfl, rfl, rfl, trivial⟩ ?_
      exact t_L_isSound_113 hd9 C hR hk4 _ _ _ _ _ h
    · refine g_aload_n C dL_isSound_42 rfl ?_
      refine g_iload_n C dL_isSound_43 rfl ?_
      refine g_iload C dL_isSound_44 rfl ?_
      refine g_iconst C dL_isSound_46 ?_
      obtain ⟨q29, hq29, h⟩ := x_bind h
      refine g_callX C dL_isSound_47 (xin_35 _ (List.mem_of_getElem? (i := 3) rfl)) xy_X10_frame xi_X10_frame xs_X10_frame (by omega) (by decide) (b := 0) (ci := 11) rfl ⟨_, _, rfl⟩ (av := [.inl x2, .inl x5, .inl 0]) rfl (Nat.le_of_ble_eq_true rfl) (fun l => c_X_frame l _ _ _ _ _ hq29) rfl ?_
      refine g_aload_n C dL_isSound_50 rfl ?_
      refine g_iload_n C dL_isSound_51 rfl ?_
      refine g_iconst C dL_isSound_52 ?_
      obtain ⟨q30, hq30, h⟩ := x_bind h
      refine g_callX C dL_isSound_53 (xin_31 _ (List.mem_of_getElem? (i := 1) rfl)) xy_X10_end xi_X10_end xs_X10_end (by omega) (by decide) (b := 0) (ci := 11) rfl ⟨_, _, rfl⟩ (av := [.inl x2, .inl 3]) rfl (Nat.le_of_ble_eq_true rfl) (fun l => c_X_end l _ _ _ _ hq30) rfl ?_
      refine g_iload_n C dL_isSound_56 rfl ?_
      refine g_isub C dL_isSound_57 ?_
      refine g_iload C dL_isSound_58 rfl ?_
      refine g_iadd C dL_isSound_60 ?_
      refine g_icmp_ne C 105 dL_isSound_61 (by decide) h (fun h => ?_) (fun h => ?_)
      · refine g_iconst C dL_isSound_105 ?_
        exact g_zreturn hR (by decide) dL_isSound_106 (by cases h; exact ⟨rfl, rfl, rfl⟩)
      · refine g_aload_n C dL_isSound_64 rfl ?_
        refine g_iload_n C dL_isSound_65 rfl ?_
        refine g_iload C dL_isSound_66 rfl ?_
        refine g_iconst C dL_isSound_68 ?_
        obtain ⟨q31, hq31, h⟩ := x_bind h
        refine g_callX C dL_isSound_69 (xin_35 _ (List.mem_of_getElem? (i := 3) rfl)) xy_X10_frame xi_X10_frame xs_X10_frame (by omega) (by decide) (b := 0) (ci := 11) rfl ⟨_, _, rfl⟩ (av := [.inl x2, .inl x5, .inl 1]) rfl (Nat.le_of_ble_eq_true rfl) (fun l => c_X_frame l _ _ _ _ _ hq31) rfl ?_
        refine g_iconst C dL_isSound_72 ?_
        refine g_icmp_lt C 105 dL_isSound_73 (by decide) h (fun h => ?_) (fun h => ?_)
        · refine g_iconst C dL_isSound_105 ?_
          exact g_zreturn hR (by decide) dL_isSound_106 (by cases h; exact ⟨rfl, rfl, rfl⟩)
        · refine g_aload_n C dL_isSound_76 rfl ?_
          refine g_iload_n C dL_isSound_77 rfl ?_
          refine g_iload C dL_isSound_78 rfl ?_
          refine g_iconst C dL_isSound_80 ?_
          obtain ⟨q32, hq32, h⟩ := x_bind h
          refine g_callX C dL_isSound_81 (xin_35 _ (List.mem_of_getElem? (i := 3) rfl)) xy_X10_frame xi_X10_frame xs_X10_frame (by omega) (by decide) (b := 0) (ci := 11) rfl ⟨_, _, rfl⟩ (av := [.inl x2, .inl x5, .inl 1]) rfl (Nat.le_of_ble_eq_true rfl) (fun l => c_X_frame l _ _ _ _ _ hq32) rfl ?_
          refine g_bipush C dL_isSound_84 (by decide) ?_
          refine g_icmp_gt C 105 dL_isSound_86 (by decide) h (fun h => ?_) (fun h => ?_)
          · refine g_iconst C dL_isSound_105 ?_
            exact g_zreturn hR (by decide) dL_isSound_106 (by cases h; exact ⟨rfl, rfl, rfl⟩)
          · refine g_aload_n C dL_isSound_89 rfl ?_
            refine g_iload_n C dL_isSound_90 rfl ?_
            refine g_iload C dL_isSound_91 rfl ?_
            refine g_iconst C dL_isSound_93 ?_
            obtain ⟨q33, hq33, h⟩ := x_bind h
            refine g_callX C dL_isSound_94 (xin_35 _ (List.mem_of_getElem? (i := 3) rfl)) xy_X10_frame xi_X10_frame xs_X10_frame (by omega) (by decide) (b := 0) (ci := 11) rfl ⟨_, _, rfl⟩ (av := [.inl x2, .inl x5, .inl 2]) rfl (Nat.le_of_ble_eq_true rfl) (fun l => c_X_frame l _ _ _ _ _ hq33) rfl ?_
            refine g_aload_n C dL_isSound_97 rfl ?_
            refine g_iconst C dL_isSound_98 ?_
            obtain ⟨q34, hq34, h⟩ := x_bind h
            refine g_callX C dL_isSound_99 (xin_29 _ (List.mem_of_getElem? (i := 1) rfl)) xy_X10_size xi_X10_size xs_X10_size (by omega) (by decide) (b := 0) (ci := 11) rfl ⟨_, _, rfl⟩ (av := [.inl 0]) rfl (Nat.le_of_ble_eq_true rfl) (fun l => c_X_size l _ _ _ hq34) rfl ?_
            refine g_icmp_lt C 107 dL_isSound_102 (by decide) h (fun h => ?_) (fun h => ?_)
            · refine g_iinc C dL_isSound_107 (by decide) rfl ?_
              refine g_goto C 36 dL_isSound_110 (by decide) ?_
              refine g_loc [(0, .inr (.inr (some 0))), (1, .inl x1), (2, .inl x2), (3, .inl x3), (4, .inl x4), (5, .inl (x5 + 1))] ⟨rfl, rfl, rfl, rfl, rfl, rfl, trivial⟩ ?_
              exact ih _ _ _ _ _ _ h
            · refine g_iconst C dL_isSound_105 ?_
              exact g_zreturn hR (by decide) dL_isSound_106 (by cases h; exact ⟨rfl, rfl, rfl⟩)
def f_L_isSound_4 (hp : gH) : Nat → Int → Int → xM → Option (Int × xM)
  | 0, _, _, _ => none
  | n + 1, x1, x2, m =>
     (if xw x2 < xw 2 then (Option.bind (f_X_end x2 1 m) fun q13 =>
      (Option.bind (f_X_end x2 2 m) fun q14 =>
      (Option.bind (f_X_end (1 - x2) 4 m) fun q15 =>
      f_L_isSound_36 hp (f_L_isSound_4 hp n) fu x1 x2 (q13 + q14) q15 0 m)))
      else f_L_isSound_297 hp x1 m)
set_option maxRecDepth 1000000 in
set_option maxHeartbeats 4000000 in
theorem t_L_isSound_4 {P : gG → Prop} {d : Nat} {hp : gH} {r : Int} {m9 : xM} (hd9 : 4 ≤ d) (C : ∀ Γ, P Γ → gX Γ lay_X RL cL_isSound 7 d hp) (hR : ∀ Γ, P Γ → gRz Γ lay_X cL_isSound r m9 hp) : ∀ (n : Nat) (x1 : Int) (x2 : Int) (m : xM), f_L_isSound_4 hp n x1 x2 m = some (r, m9) → gJ P lay_X 7 4 [(0, .inr (.inr (some 0))), (1, .inl x1), (2, .inl x2)] [] m hp hp := by
  intro n
  induction n with
  | zero => intro _ _ _ h; cases h
  | succ n ih =>
    intro x1 x2 m h
    rw [f_L_isSound_4] at h
    refine g_iload_n C dL_isSound_4 rfl ?_
    refine g_iconst C dL_isSound_5 ?_
    refine g_icmp_ge C 297 dL_isSound_6 (by decide) h (fun h => ?_) (fun h => ?_)
    · refine g_loc [(0, .inr (.inr (some 0))), (1, .inl x1)] ⟨rfl, rfl, trivial⟩ ?_
      exact t_L_isSound_297 hd9 C hR _ _ h
    · refine g_aload_n C dL_isSound_9 rfl ?_
      refine g_iload_n C dL_isSound_10 rfl ?_
      refine g_iconst C dL_isSound_11 ?_
      obtain ⟨q13, hq13, h⟩ := x_bind h
      refine g_callX C dL_isSound_12 (xin_31 _ (List.mem_of_getElem? (i := 1) rfl)) xy_X10_end xi_X10_end xs_X10_end (by omega) (by decide) (b := 0) (ci := 11) rfl ⟨_, _, rfl⟩ (av := [.inl x2, .inl 1]) rfl (Nat.le_of_ble_eq_true rfl) (fun l => c_X_end l _ _ _ _ hq13) rfl ?_
      refine g_aload_n C dL_isSound_15 rfl ?_
      refine g_iload_n C dL_isSound_16 rfl ?_
      refine g_iconst C dL_isSound_17 ?_
      obtain ⟨q14, hq14, h⟩ := x_bind h
      refine g_callX C dL_isSound_18 (xin_31 _ (List.mem_of_getElem? (i := 1) rfl)) xy_X10_end xi_X10_end xs_X10_end (by omega) (by decide) (b := 0) (ci := 11) rfl ⟨_, _, rfl⟩ (av := [.inl x2, .inl 2]) rfl (Nat.le_of_ble_eq_true rfl) (fun l => c_X_end l _ _ _ _ hq14) rfl ?_
      refine g_iadd C dL_isSound_21 ?_
      refine g_istore_n C dL_isSound_22 (by decide) ?_
      refine g_aload_n C dL_isSound_23 rfl ?_
      refine g_iconst C dL_isSound_24 ?_
      refine g_iload_n C dL_isSound_25 rfl ?_
      refine g_isub C dL_isSound_26 ?_
      refine g_iconst C dL_isSound_27 ?_
      obtain ⟨q15, hq15, h⟩ := x_bind h
      refine g_callX C dL_isSound_28 (xin_31 _ (List.mem_of_getElem? (i := 1) rfl)) xy_X10_end xi_X10_end xs_X10_end (by omega) (by decide) (b := 0) (ci := 11) rfl ⟨_, _, rfl⟩ (av := [.inl (1 - x2), .inl 4]) rfl (Nat.le_of_ble_eq_true rfl) (fun l => c_X_end l _ _ _ _ hq15) rfl ?_
      refine g_istore C dL_isSound_31 (by decide) ?_
      refine g_iconst C dL_isSound_33 ?_
      refine g_istore C dL_isSound_34 (by decide) ?_
      refine g_loc [(0, .inr (.inr (some 0))), (1, .inl x1), (2, .inl x2), (3, .inl (q13 + q14)), (4, .inl q15), (5, .inl 0)] ⟨rfl, rfl, rfl, rfl, rfl, rfl, trivial⟩ ?_
      exact t_L_isSound_36 hd9 C hR ih fu _ _ _ _ _ _ h
def f_L_isSound (hp : gH) (m : xM) : Option (Int × xM) :=
     f_L_isSound_4 hp fu 0 0 m
set_option maxRecDepth 1000000 in
set_option maxHeartbeats 4000000 in
theorem t_L_isSound {P : gG → Prop} {d : Nat} {hp : gH} {r : Int} {m9 : xM} (hd9 : 4 ≤ d) (C : ∀ Γ, P Γ → gX Γ lay_X RL cL_isSound 7 d hp) (hR : ∀ Γ, P Γ → gRz Γ lay_X cL_isSound r m9 hp) (m : xM) (h : f_L_isSound hp m = some (r, m9)) : gJ P lay_X 7 0 [(0, .inr (.inr (some 0)))] [] m hp hp := by
  unfold f_L_isSound at h
  refine g_iconst C dL_isSound_0 ?_
  refine g_istore_n C dL_isSound_1 (by decide) ?_
  refine g_iconst C dL_isSound_2 ?_
  refine g_istore_n C dL_isSound_3 (by decide) ?_
  refine g_loc [(0, .inr (.inr (some 0))), (1, .inl 0), (2, .inl 0)] ⟨rfl, rfl, rfl, trivial⟩ ?_
  exact t_L_isSound_4 hd9 C hR fu _ _ _ h
theorem c_L_isSound {m m9 : xM} {r : Int} {hp : gH} (h : f_L_isSound hp m = some (r, m9)) (l : Launch) : gMet l yL_isSound cL_isSound 7 (some .boolean) 4 lay_X [.inr (.inr (some 0))] m hp (some (.inl r)) m9 hp :=
  gMet_z (by decide +kernel) (Nat.le_of_ble_eq_true rfl) (fun P C hR => t_L_isSound (Nat.le_refl _) C hR m h)

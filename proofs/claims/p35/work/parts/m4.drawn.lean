/-! ===== yL_drawn ===== -/
theorem xy_X11_init : xY yX11_init cX11_init 1 none 0 := ⟨(xin_33 _ (List.mem_of_getElem? (i := 7) rfl)), (xin_33 _ (List.mem_of_getElem? (i := 5) rfl)), by decide, by decide, by decide +kernel⟩
theorem xi_X11_init : Cond.instanceMethod yX11_init ∈ wsL_law := (xin_33 _ (List.mem_of_getElem? (i := 6) rfl))
theorem xy_L_cell : xY yL_cell cL_cell 2 (some .int) 2 := ⟨(xin_34 _ (List.mem_of_getElem? (i := 10) rfl)), (xin_8 _ (List.mem_of_getElem? (i := 21) rfl)), by decide, by decide, by decide +kernel⟩
theorem xt_L_cell : Cond.static yL_cell ∈ wsL_law := (xin_34 _ (List.mem_of_getElem? (i := 9) rfl))
theorem dL_drawn_0 : decode cL_drawn 0 = .ok (.new 20, 3) := by decide +kernel
theorem dL_drawn_3 : decode cL_drawn 3 = .ok (.dup, 1) := by decide +kernel
theorem dL_drawn_4 : decode cL_drawn 4 = .ok (.invokespecial 22, 3) := by decide +kernel
theorem dL_drawn_7 : decode cL_drawn 7 = .ok (.astore_n 2, 1) := by decide +kernel
theorem dL_drawn_8 : decode cL_drawn 8 = .ok (.aload_n 0, 1) := by decide +kernel
theorem dL_drawn_9 : decode cL_drawn 9 = .ok (.iload_n 1, 1) := by decide +kernel
theorem dL_drawn_10 : decode cL_drawn 10 = .ok (.invokestatic 23, 3) := by decide +kernel
theorem dL_drawn_13 : decode cL_drawn 13 = .ok (.istore_n 3, 1) := by decide +kernel
theorem dL_drawn_14 : decode cL_drawn 14 = .ok (.aload_n 0, 1) := by decide +kernel
theorem dL_drawn_15 : decode cL_drawn 15 = .ok (.iload_n 1, 1) := by decide +kernel
theorem dL_drawn_16 : decode cL_drawn 16 = .ok (.iconst 1, 1) := by decide +kernel
theorem dL_drawn_17 : decode cL_drawn 17 = .ok (.iadd, 1) := by decide +kernel
theorem dL_drawn_18 : decode cL_drawn 18 = .ok (.invokestatic 23, 3) := by decide +kernel
theorem dL_drawn_21 : decode cL_drawn 21 = .ok (.istore 4, 2) := by decide +kernel
theorem dL_drawn_23 : decode cL_drawn 23 = .ok (.aload_n 2, 1) := by decide +kernel
theorem dL_drawn_24 : decode cL_drawn 24 = .ok (.iload_n 3, 1) := by decide +kernel
theorem dL_drawn_25 : decode cL_drawn 25 = .ok (.iconst 3, 1) := by decide +kernel
theorem dL_drawn_26 : decode cL_drawn 26 = .ok (.invokestatic 27, 3) := by decide +kernel
theorem dL_drawn_29 : decode cL_drawn 29 = .ok (.ifCond .ne 14, 3) := by decide +kernel
theorem dL_drawn_32 : decode cL_drawn 32 = .ok (.iload_n 3, 1) := by decide +kernel
theorem dL_drawn_33 : decode cL_drawn 33 = .ok (.iconst 2, 1) := by decide +kernel
theorem dL_drawn_34 : decode cL_drawn 34 = .ok (.ishr, 1) := by decide +kernel
theorem dL_drawn_35 : decode cL_drawn 35 = .ok (.bipush 10, 2) := by decide +kernel
theorem dL_drawn_37 : decode cL_drawn 37 = .ok (.invokestatic 27, 3) := by decide +kernel
theorem dL_drawn_40 : decode cL_drawn 40 = .ok (.goto 12, 3) := by decide +kernel
theorem dL_drawn_43 : decode cL_drawn 43 = .ok (.iconst 5, 1) := by decide +kernel
theorem dL_drawn_44 : decode cL_drawn 44 = .ok (.iload_n 3, 1) := by decide +kernel
theorem dL_drawn_45 : decode cL_drawn 45 = .ok (.iconst 2, 1) := by decide +kernel
theorem dL_drawn_46 : decode cL_drawn 46 = .ok (.ishr, 1) := by decide +kernel
theorem dL_drawn_47 : decode cL_drawn 47 = .ok (.iconst 5, 1) := by decide +kernel
theorem dL_drawn_48 : decode cL_drawn 48 = .ok (.invokestatic 27, 3) := by decide +kernel
theorem dL_drawn_51 : decode cL_drawn 51 = .ok (.iadd, 1) := by decide +kernel
theorem dL_drawn_52 : decode cL_drawn 52 = .ok (.putfield 31, 3) := by decide +kernel
theorem dL_drawn_55 : decode cL_drawn 55 = .ok (.iconst 1, 1) := by decide +kernel
theorem dL_drawn_56 : decode cL_drawn 56 = .ok (.iload_n 3, 1) := by decide +kernel
theorem dL_drawn_57 : decode cL_drawn 57 = .ok (.iconst 5, 1) := by decide +kernel
theorem dL_drawn_58 : decode cL_drawn 58 = .ok (.ishr, 1) := by decide +kernel
theorem dL_drawn_59 : decode cL_drawn 59 = .ok (.iconst 4, 1) := by decide +kernel
theorem dL_drawn_60 : decode cL_drawn 60 = .ok (.invokestatic 27, 3) := by decide +kernel
theorem dL_drawn_63 : decode cL_drawn 63 = .ok (.iadd, 1) := by decide +kernel
theorem dL_drawn_64 : decode cL_drawn 64 = .ok (.istore 5, 2) := by decide +kernel
theorem dL_drawn_66 : decode cL_drawn 66 = .ok (.aload_n 2, 1) := by decide +kernel
theorem dL_drawn_67 : decode cL_drawn 67 = .ok (.iload 5, 2) := by decide +kernel
theorem dL_drawn_69 : decode cL_drawn 69 = .ok (.newarray .int, 2) := by decide +kernel
theorem dL_drawn_71 : decode cL_drawn 71 = .ok (.putfield 35, 3) := by decide +kernel
theorem dL_drawn_74 : decode cL_drawn 74 = .ok (.aload_n 2, 1) := by decide +kernel
theorem dL_drawn_75 : decode cL_drawn 75 = .ok (.iload 5, 2) := by decide +kernel
theorem dL_drawn_77 : decode cL_drawn 77 = .ok (.newarray .int, 2) := by decide +kernel
theorem dL_drawn_79 : decode cL_drawn 79 = .ok (.putfield 39, 3) := by decide +kernel
theorem dL_drawn_82 : decode cL_drawn 82 = .ok (.iconst 0, 1) := by decide +kernel
theorem dL_drawn_83 : decode cL_drawn 83 = .ok (.istore 6, 2) := by decide +kernel
theorem dL_drawn_85 : decode cL_drawn 85 = .ok (.iload 6, 2) := by decide +kernel
theorem dL_drawn_87 : decode cL_drawn 87 = .ok (.iload 5, 2) := by decide +kernel
theorem dL_drawn_89 : decode cL_drawn 89 = .ok (.if_icmp .ge 107, 3) := by decide +kernel
theorem dL_drawn_92 : decode cL_drawn 92 = .ok (.aload_n 2, 1) := by decide +kernel
theorem dL_drawn_93 : decode cL_drawn 93 = .ok (.getfield 35, 3) := by decide +kernel
theorem dL_drawn_96 : decode cL_drawn 96 = .ok (.iload 6, 2) := by decide +kernel
theorem dL_drawn_98 : decode cL_drawn 98 = .ok (.iload 6, 2) := by decide +kernel
theorem dL_drawn_100 : decode cL_drawn 100 = .ok (.ifCond .ne 17, 3) := by decide +kernel
theorem dL_drawn_103 : decode cL_drawn 103 = .ok (.iconst 4, 1) := by decide +kernel
theorem dL_drawn_104 : decode cL_drawn 104 = .ok (.iload_n 3, 1) := by decide +kernel
theorem dL_drawn_105 : decode cL_drawn 105 = .ok (.bipush 7, 2) := by decide +kernel
theorem dL_drawn_107 : decode cL_drawn 107 = .ok (.ishr, 1) := by decide +kernel
theorem dL_drawn_108 : decode cL_drawn 108 = .ok (.bipush 20, 2) := by decide +kernel
theorem dL_drawn_110 : decode cL_drawn 110 = .ok (.invokestatic 27, 3) := by decide +kernel
theorem dL_drawn_113 : decode cL_drawn 113 = .ok (.iadd, 1) := by decide +kernel
theorem dL_drawn_114 : decode cL_drawn 114 = .ok (.goto 27, 3) := by decide +kernel
theorem dL_drawn_117 : decode cL_drawn 117 = .ok (.aload_n 2, 1) := by decide +kernel
theorem dL_drawn_118 : decode cL_drawn 118 = .ok (.getfield 35, 3) := by decide +kernel
theorem dL_drawn_121 : decode cL_drawn 121 = .ok (.iload 6, 2) := by decide +kernel
theorem dL_drawn_123 : decode cL_drawn 123 = .ok (.iconst 1, 1) := by decide +kernel
theorem dL_drawn_124 : decode cL_drawn 124 = .ok (.isub, 1) := by decide +kernel
theorem dL_drawn_125 : decode cL_drawn 125 = .ok (.iaload, 1) := by decide +kernel
theorem dL_drawn_126 : decode cL_drawn 126 = .ok (.iconst 1, 1) := by decide +kernel
theorem dL_drawn_127 : decode cL_drawn 127 = .ok (.iadd, 1) := by decide +kernel
theorem dL_drawn_128 : decode cL_drawn 128 = .ok (.iload_n 3, 1) := by decide +kernel
theorem dL_drawn_129 : decode cL_drawn 129 = .ok (.bipush 8, 2) := by decide +kernel
theorem dL_drawn_131 : decode cL_drawn 131 = .ok (.iload 6, 2) := by decide +kernel
theorem dL_drawn_133 : decode cL_drawn 133 = .ok (.iadd, 1) := by decide +kernel
theorem dL_drawn_134 : decode cL_drawn 134 = .ok (.ishr, 1) := by decide +kernel
theorem dL_drawn_135 : decode cL_drawn 135 = .ok (.bipush 12, 2) := by decide +kernel
theorem dL_drawn_137 : decode cL_drawn 137 = .ok (.invokestatic 27, 3) := by decide +kernel
theorem dL_drawn_140 : decode cL_drawn 140 = .ok (.iadd, 1) := by decide +kernel
theorem dL_drawn_141 : decode cL_drawn 141 = .ok (.iastore, 1) := by decide +kernel
theorem dL_drawn_142 : decode cL_drawn 142 = .ok (.aload_n 2, 1) := by decide +kernel
theorem dL_drawn_143 : decode cL_drawn 143 = .ok (.getfield 39, 3) := by decide +kernel
theorem dL_drawn_146 : decode cL_drawn 146 = .ok (.iload 6, 2) := by decide +kernel
theorem dL_drawn_148 : decode cL_drawn 148 = .ok (.iload 6, 2) := by decide +kernel
theorem dL_drawn_150 : decode cL_drawn 150 = .ok (.ifCond .ne 16, 3) := by decide +kernel
theorem dL_drawn_153 : decode cL_drawn 153 = .ok (.iconst 1, 1) := by decide +kernel
theorem dL_drawn_154 : decode cL_drawn 154 = .ok (.iload_n 3, 1) := by decide +kernel
theorem dL_drawn_155 : decode cL_drawn 155 = .ok (.bipush 9, 2) := by decide +kernel
theorem dL_drawn_157 : decode cL_drawn 157 = .ok (.ishr, 1) := by decide +kernel
theorem dL_drawn_158 : decode cL_drawn 158 = .ok (.iconst 3, 1) := by decide +kernel
theorem dL_drawn_159 : decode cL_drawn 159 = .ok (.invokestatic 27, 3) := by decide +kernel
theorem dL_drawn_162 : decode cL_drawn 162 = .ok (.iadd, 1) := by decide +kernel
theorem dL_drawn_163 : decode cL_drawn 163 = .ok (.goto 26, 3) := by decide +kernel
theorem dL_drawn_166 : decode cL_drawn 166 = .ok (.aload_n 2, 1) := by decide +kernel
theorem dL_drawn_167 : decode cL_drawn 167 = .ok (.getfield 39, 3) := by decide +kernel
theorem dL_drawn_170 : decode cL_drawn 170 = .ok (.iload 6, 2) := by decide +kernel
theorem dL_drawn_172 : decode cL_drawn 172 = .ok (.iconst 1, 1) := by decide +kernel
theorem dL_drawn_173 : decode cL_drawn 173 = .ok (.isub, 1) := by decide +kernel
theorem dL_drawn_174 : decode cL_drawn 174 = .ok (.iaload, 1) := by decide +kernel
theorem dL_drawn_175 : decode cL_drawn 175 = .ok (.iconst 1, 1) := by decide +kernel
theorem dL_drawn_176 : decode cL_drawn 176 = .ok (.iadd, 1) := by decide +kernel
theorem dL_drawn_177 : decode cL_drawn 177 = .ok (.iload_n 3, 1) := by decide +kernel
theorem dL_drawn_178 : decode cL_drawn 178 = .ok (.bipush 10, 2) := by decide +kernel
theorem dL_drawn_180 : decode cL_drawn 180 = .ok (.iload 6, 2) := by decide +kernel
theorem dL_drawn_182 : decode cL_drawn 182 = .ok (.iadd, 1) := by decide +kernel
theorem dL_drawn_183 : decode cL_drawn 183 = .ok (.ishr, 1) := by decide +kernel
theorem dL_drawn_184 : decode cL_drawn 184 = .ok (.iconst 2, 1) := by decide +kernel
theorem dL_drawn_185 : decode cL_drawn 185 = .ok (.invokestatic 27, 3) := by decide +kernel
theorem dL_drawn_188 : decode cL_drawn 188 = .ok (.iadd, 1) := by decide +kernel
theorem dL_drawn_189 : decode cL_drawn 189 = .ok (.iastore, 1) := by decide +kernel
theorem dL_drawn_190 : decode cL_drawn 190 = .ok (.iinc 6 1, 3) := by decide +kernel
theorem dL_drawn_193 : decode cL_drawn 193 = .ok (.goto (-108), 3) := by decide +kernel
theorem dL_drawn_196 : decode cL_drawn 196 = .ok (.aload_n 2, 1) := by decide +kernel
theorem dL_drawn_197 : decode cL_drawn 197 = .ok (.iconst 4, 1) := by decide +kernel
theorem dL_drawn_198 : decode cL_drawn 198 = .ok (.newarray .int, 2) := by decide +kernel
theorem dL_drawn_200 : decode cL_drawn 200 = .ok (.dup, 1) := by decide +kernel
theorem dL_drawn_201 : decode cL_drawn 201 = .ok (.iconst 0, 1) := by decide +kernel
theorem dL_drawn_202 : decode cL_drawn 202 = .ok (.iconst 1, 1) := by decide +kernel
theorem dL_drawn_203 : decode cL_drawn 203 = .ok (.iload 4, 2) := by decide +kernel
theorem dL_drawn_205 : decode cL_drawn 205 = .ok (.iconst 3, 1) := by decide +kernel
theorem dL_drawn_206 : decode cL_drawn 206 = .ok (.invokestatic 27, 3) := by decide +kernel
theorem dL_drawn_209 : decode cL_drawn 209 = .ok (.iadd, 1) := by decide +kernel
theorem dL_drawn_210 : decode cL_drawn 210 = .ok (.iastore, 1) := by decide +kernel
theorem dL_drawn_211 : decode cL_drawn 211 = .ok (.dup, 1) := by decide +kernel
theorem dL_drawn_212 : decode cL_drawn 212 = .ok (.iconst 1, 1) := by decide +kernel
theorem dL_drawn_213 : decode cL_drawn 213 = .ok (.iconst 1, 1) := by decide +kernel
theorem dL_drawn_214 : decode cL_drawn 214 = .ok (.iload 4, 2) := by decide +kernel
theorem dL_drawn_216 : decode cL_drawn 216 = .ok (.iconst 1, 1) := by decide +kernel
theorem dL_drawn_217 : decode cL_drawn 217 = .ok (.ishr, 1) := by decide +kernel
theorem dL_drawn_218 : decode cL_drawn 218 = .ok (.iconst 3, 1) := by decide +kernel
theorem dL_drawn_219 : decode cL_drawn 219 = .ok (.invokestatic 27, 3) := by decide +kernel
theorem dL_drawn_222 : decode cL_drawn 222 = .ok (.iadd, 1) := by decide +kernel
theorem dL_drawn_223 : decode cL_drawn 223 = .ok (.iastore, 1) := by decide +kernel
theorem dL_drawn_224 : decode cL_drawn 224 = .ok (.dup, 1) := by decide +kernel
theorem dL_drawn_225 : decode cL_drawn 225 = .ok (.iconst 2, 1) := by decide +kernel
theorem dL_drawn_226 : decode cL_drawn 226 = .ok (.iconst 1, 1) := by decide +kernel
theorem dL_drawn_227 : decode cL_drawn 227 = .ok (.iload 4, 2) := by decide +kernel
theorem dL_drawn_229 : decode cL_drawn 229 = .ok (.iconst 2, 1) := by decide +kernel
theorem dL_drawn_230 : decode cL_drawn 230 = .ok (.ishr, 1) := by decide +kernel
theorem dL_drawn_231 : decode cL_drawn 231 = .ok (.iconst 3, 1) := by decide +kernel
theorem dL_drawn_232 : decode cL_drawn 232 = .ok (.invokestatic 27, 3) := by decide +kernel
theorem dL_drawn_235 : decode cL_drawn 235 = .ok (.iadd, 1) := by decide +kernel
theorem dL_drawn_236 : decode cL_drawn 236 = .ok (.iastore, 1) := by decide +kernel
theorem dL_drawn_237 : decode cL_drawn 237 = .ok (.dup, 1) := by decide +kernel
theorem dL_drawn_238 : decode cL_drawn 238 = .ok (.iconst 3, 1) := by decide +kernel
theorem dL_drawn_239 : decode cL_drawn 239 = .ok (.iconst 1, 1) := by decide +kernel
theorem dL_drawn_240 : decode cL_drawn 240 = .ok (.iload 4, 2) := by decide +kernel
theorem dL_drawn_242 : decode cL_drawn 242 = .ok (.iconst 3, 1) := by decide +kernel
theorem dL_drawn_243 : decode cL_drawn 243 = .ok (.ishr, 1) := by decide +kernel
theorem dL_drawn_244 : decode cL_drawn 244 = .ok (.iconst 2, 1) := by decide +kernel
theorem dL_drawn_245 : decode cL_drawn 245 = .ok (.invokestatic 27, 3) := by decide +kernel
theorem dL_drawn_248 : decode cL_drawn 248 = .ok (.iadd, 1) := by decide +kernel
theorem dL_drawn_249 : decode cL_drawn 249 = .ok (.iastore, 1) := by decide +kernel
theorem dL_drawn_250 : decode cL_drawn 250 = .ok (.putfield 42, 3) := by decide +kernel
theorem dL_drawn_253 : decode cL_drawn 253 = .ok (.iconst 1, 1) := by decide +kernel
theorem dL_drawn_254 : decode cL_drawn 254 = .ok (.iload 4, 2) := by decide +kernel
theorem dL_drawn_256 : decode cL_drawn 256 = .ok (.iconst 4, 1) := by decide +kernel
theorem dL_drawn_257 : decode cL_drawn 257 = .ok (.ishr, 1) := by decide +kernel
theorem dL_drawn_258 : decode cL_drawn 258 = .ok (.iconst 4, 1) := by decide +kernel
theorem dL_drawn_259 : decode cL_drawn 259 = .ok (.invokestatic 27, 3) := by decide +kernel
theorem dL_drawn_262 : decode cL_drawn 262 = .ok (.iadd, 1) := by decide +kernel
theorem dL_drawn_263 : decode cL_drawn 263 = .ok (.istore 6, 2) := by decide +kernel
theorem dL_drawn_265 : decode cL_drawn 265 = .ok (.aload_n 2, 1) := by decide +kernel
theorem dL_drawn_266 : decode cL_drawn 266 = .ok (.bipush 7, 2) := by decide +kernel
theorem dL_drawn_268 : decode cL_drawn 268 = .ok (.newarray .int, 2) := by decide +kernel
theorem dL_drawn_270 : decode cL_drawn 270 = .ok (.dup, 1) := by decide +kernel
theorem dL_drawn_271 : decode cL_drawn 271 = .ok (.iconst 0, 1) := by decide +kernel
theorem dL_drawn_272 : decode cL_drawn 272 = .ok (.iload 4, 2) := by decide +kernel
theorem dL_drawn_274 : decode cL_drawn 274 = .ok (.iconst 5, 1) := by decide +kernel
theorem dL_drawn_275 : decode cL_drawn 275 = .ok (.ishr, 1) := by decide +kernel
theorem dL_drawn_276 : decode cL_drawn 276 = .ok (.iconst 4, 1) := by decide +kernel
theorem dL_drawn_277 : decode cL_drawn 277 = .ok (.invokestatic 27, 3) := by decide +kernel
theorem dL_drawn_280 : decode cL_drawn 280 = .ok (.iastore, 1) := by decide +kernel
theorem dL_drawn_281 : decode cL_drawn 281 = .ok (.dup, 1) := by decide +kernel
theorem dL_drawn_282 : decode cL_drawn 282 = .ok (.iconst 1, 1) := by decide +kernel
theorem dL_drawn_283 : decode cL_drawn 283 = .ok (.iload 4, 2) := by decide +kernel
theorem dL_drawn_285 : decode cL_drawn 285 = .ok (.bipush 7, 2) := by decide +kernel
theorem dL_drawn_287 : decode cL_drawn 287 = .ok (.ishr, 1) := by decide +kernel
theorem dL_drawn_288 : decode cL_drawn 288 = .ok (.iconst 5, 1) := by decide +kernel
theorem dL_drawn_289 : decode cL_drawn 289 = .ok (.invokestatic 27, 3) := by decide +kernel
theorem dL_drawn_292 : decode cL_drawn 292 = .ok (.iastore, 1) := by decide +kernel
theorem dL_drawn_293 : decode cL_drawn 293 = .ok (.dup, 1) := by decide +kernel
theorem dL_drawn_294 : decode cL_drawn 294 = .ok (.iconst 2, 1) := by decide +kernel
theorem dL_drawn_295 : decode cL_drawn 295 = .ok (.iconst 1, 1) := by decide +kernel
theorem dL_drawn_296 : decode cL_drawn 296 = .ok (.iload 4, 2) := by decide +kernel
theorem dL_drawn_298 : decode cL_drawn 298 = .ok (.bipush 8, 2) := by decide +kernel
theorem dL_drawn_300 : decode cL_drawn 300 = .ok (.ishr, 1) := by decide +kernel
theorem dL_drawn_301 : decode cL_drawn 301 = .ok (.bipush 7, 2) := by decide +kernel
theorem dL_drawn_303 : decode cL_drawn 303 = .ok (.invokestatic 27, 3) := by decide +kernel
theorem dL_drawn_306 : decode cL_drawn 306 = .ok (.iadd, 1) := by decide +kernel
theorem dL_drawn_307 : decode cL_drawn 307 = .ok (.iastore, 1) := by decide +kernel
theorem dL_drawn_308 : decode cL_drawn 308 = .ok (.dup, 1) := by decide +kernel
theorem dL_drawn_309 : decode cL_drawn 309 = .ok (.iconst 3, 1) := by decide +kernel
theorem dL_drawn_310 : decode cL_drawn 310 = .ok (.iload 6, 2) := by decide +kernel
theorem dL_drawn_312 : decode cL_drawn 312 = .ok (.iastore, 1) := by decide +kernel
theorem dL_drawn_313 : decode cL_drawn 313 = .ok (.dup, 1) := by decide +kernel
theorem dL_drawn_314 : decode cL_drawn 314 = .ok (.iconst 4, 1) := by decide +kernel
theorem dL_drawn_315 : decode cL_drawn 315 = .ok (.iconst 2, 1) := by decide +kernel
theorem dL_drawn_316 : decode cL_drawn 316 = .ok (.iload 6, 2) := by decide +kernel
theorem dL_drawn_318 : decode cL_drawn 318 = .ok (.imul, 1) := by decide +kernel
theorem dL_drawn_319 : decode cL_drawn 319 = .ok (.iconst 1, 1) := by decide +kernel
theorem dL_drawn_320 : decode cL_drawn 320 = .ok (.iadd, 1) := by decide +kernel
theorem dL_drawn_321 : decode cL_drawn 321 = .ok (.iload 4, 2) := by decide +kernel
theorem dL_drawn_323 : decode cL_drawn 323 = .ok (.bipush 9, 2) := by decide +kernel
theorem dL_drawn_325 : decode cL_drawn 325 = .ok (.ishr, 1) := by decide +kernel
theorem dL_drawn_326 : decode cL_drawn 326 = .ok (.iconst 4, 1) := by decide +kernel
theorem dL_drawn_327 : decode cL_drawn 327 = .ok (.invokestatic 27, 3) := by decide +kernel
theorem dL_drawn_330 : decode cL_drawn 330 = .ok (.iadd, 1) := by decide +kernel
theorem dL_drawn_331 : decode cL_drawn 331 = .ok (.iastore, 1) := by decide +kernel
theorem dL_drawn_332 : decode cL_drawn 332 = .ok (.dup, 1) := by decide +kernel
theorem dL_drawn_333 : decode cL_drawn 333 = .ok (.iconst 5, 1) := by decide +kernel
theorem dL_drawn_334 : decode cL_drawn 334 = .ok (.iconst 1, 1) := by decide +kernel
theorem dL_drawn_335 : decode cL_drawn 335 = .ok (.iload 4, 2) := by decide +kernel
theorem dL_drawn_337 : decode cL_drawn 337 = .ok (.bipush 6, 2) := by decide +kernel
theorem dL_drawn_339 : decode cL_drawn 339 = .ok (.ishr, 1) := by decide +kernel
theorem dL_drawn_340 : decode cL_drawn 340 = .ok (.iconst 4, 1) := by decide +kernel
theorem dL_drawn_341 : decode cL_drawn 341 = .ok (.invokestatic 27, 3) := by decide +kernel
theorem dL_drawn_344 : decode cL_drawn 344 = .ok (.iadd, 1) := by decide +kernel
theorem dL_drawn_345 : decode cL_drawn 345 = .ok (.iastore, 1) := by decide +kernel
theorem dL_drawn_346 : decode cL_drawn 346 = .ok (.dup, 1) := by decide +kernel
theorem dL_drawn_347 : decode cL_drawn 347 = .ok (.bipush 6, 2) := by decide +kernel
theorem dL_drawn_349 : decode cL_drawn 349 = .ok (.iconst 1, 1) := by decide +kernel
theorem dL_drawn_350 : decode cL_drawn 350 = .ok (.iload 4, 2) := by decide +kernel
theorem dL_drawn_352 : decode cL_drawn 352 = .ok (.bipush 10, 2) := by decide +kernel
theorem dL_drawn_354 : decode cL_drawn 354 = .ok (.ishr, 1) := by decide +kernel
theorem dL_drawn_355 : decode cL_drawn 355 = .ok (.bipush 7, 2) := by decide +kernel
theorem dL_drawn_357 : decode cL_drawn 357 = .ok (.invokestatic 27, 3) := by decide +kernel
theorem dL_drawn_360 : decode cL_drawn 360 = .ok (.iadd, 1) := by decide +kernel
theorem dL_drawn_361 : decode cL_drawn 361 = .ok (.iastore, 1) := by decide +kernel
theorem dL_drawn_362 : decode cL_drawn 362 = .ok (.putfield 45, 3) := by decide +kernel
theorem dL_drawn_365 : decode cL_drawn 365 = .ok (.iconst 1, 1) := by decide +kernel
theorem dL_drawn_366 : decode cL_drawn 366 = .ok (.iload 4, 2) := by decide +kernel
theorem dL_drawn_368 : decode cL_drawn 368 = .ok (.bipush 11, 2) := by decide +kernel
theorem dL_drawn_370 : decode cL_drawn 370 = .ok (.ishr, 1) := by decide +kernel
theorem dL_drawn_371 : decode cL_drawn 371 = .ok (.iconst 5, 1) := by decide +kernel
theorem dL_drawn_372 : decode cL_drawn 372 = .ok (.invokestatic 27, 3) := by decide +kernel
theorem dL_drawn_375 : decode cL_drawn 375 = .ok (.iadd, 1) := by decide +kernel
theorem dL_drawn_376 : decode cL_drawn 376 = .ok (.istore 7, 2) := by decide +kernel
theorem dL_drawn_378 : decode cL_drawn 378 = .ok (.aload_n 2, 1) := by decide +kernel
theorem dL_drawn_379 : decode cL_drawn 379 = .ok (.iload 7, 2) := by decide +kernel
theorem dL_drawn_381 : decode cL_drawn 381 = .ok (.newarray .int, 2) := by decide +kernel
theorem dL_drawn_383 : decode cL_drawn 383 = .ok (.putfield 48, 3) := by decide +kernel
theorem dL_drawn_386 : decode cL_drawn 386 = .ok (.iconst 0, 1) := by decide +kernel
theorem dL_drawn_387 : decode cL_drawn 387 = .ok (.istore 8, 2) := by decide +kernel
theorem dL_drawn_389 : decode cL_drawn 389 = .ok (.iload 8, 2) := by decide +kernel
theorem dL_drawn_391 : decode cL_drawn 391 = .ok (.iload 7, 2) := by decide +kernel
theorem dL_drawn_393 : decode cL_drawn 393 = .ok (.if_icmp .ge 46, 3) := by decide +kernel
theorem dL_drawn_396 : decode cL_drawn 396 = .ok (.aload_n 2, 1) := by decide +kernel
theorem dL_drawn_397 : decode cL_drawn 397 = .ok (.getfield 48, 3) := by decide +kernel
theorem dL_drawn_400 : decode cL_drawn 400 = .ok (.iload 8, 2) := by decide +kernel
theorem dL_drawn_402 : decode cL_drawn 402 = .ok (.iload 4, 2) := by decide +kernel
theorem dL_drawn_404 : decode cL_drawn 404 = .ok (.iconst 2, 1) := by decide +kernel
theorem dL_drawn_405 : decode cL_drawn 405 = .ok (.iload 8, 2) := by decide +kernel
theorem dL_drawn_407 : decode cL_drawn 407 = .ok (.imul, 1) := by decide +kernel
theorem dL_drawn_408 : decode cL_drawn 408 = .ok (.ishr, 1) := by decide +kernel
theorem dL_drawn_409 : decode cL_drawn 409 = .ok (.iconst 4, 1) := by decide +kernel
theorem dL_drawn_410 : decode cL_drawn 410 = .ok (.invokestatic 27, 3) := by decide +kernel
theorem dL_drawn_413 : decode cL_drawn 413 = .ok (.ifCond .ne 8, 3) := by decide +kernel
theorem dL_drawn_416 : decode cL_drawn 416 = .ok (.bipush 9, 2) := by decide +kernel
theorem dL_drawn_418 : decode cL_drawn 418 = .ok (.goto 14, 3) := by decide +kernel
theorem dL_drawn_421 : decode cL_drawn 421 = .ok (.iload 4, 2) := by decide +kernel
theorem dL_drawn_423 : decode cL_drawn 423 = .ok (.iload 8, 2) := by decide +kernel
theorem dL_drawn_425 : decode cL_drawn 425 = .ok (.iconst 3, 1) := by decide +kernel
theorem dL_drawn_426 : decode cL_drawn 426 = .ok (.iadd, 1) := by decide +kernel
theorem dL_drawn_427 : decode cL_drawn 427 = .ok (.ishr, 1) := by decide +kernel
theorem dL_drawn_428 : decode cL_drawn 428 = .ok (.iconst 5, 1) := by decide +kernel
theorem dL_drawn_429 : decode cL_drawn 429 = .ok (.invokestatic 27, 3) := by decide +kernel
theorem dL_drawn_432 : decode cL_drawn 432 = .ok (.iastore, 1) := by decide +kernel
theorem dL_drawn_433 : decode cL_drawn 433 = .ok (.iinc 8 1, 3) := by decide +kernel
theorem dL_drawn_436 : decode cL_drawn 436 = .ok (.goto (-47), 3) := by decide +kernel
theorem dL_drawn_439 : decode cL_drawn 439 = .ok (.aload_n 2, 1) := by decide +kernel
theorem dL_drawn_440 : decode cL_drawn 440 = .ok (.areturn, 1) := by decide +kernel
set_option maxRecDepth 1000000 in
set_option maxHeartbeats 4000000 in
theorem t_L_drawn_439 {P : gG → Prop} {d : Nat} {m : xM} {r : Nat} {h9 : gH} (hd9 : 2 ≤ d) (C : ∀ Γ, P Γ → gX Γ lay_X RL cL_drawn 9 d h9) (Ln : Nat) (xs : Nat → Int) (k0 : Int) (hR : ∀ Γ, P Γ → gRa Γ lay_X cL_drawn r m h9) (hZ : ∀ Γ, P Γ → gS Γ Ln xs) (x2 : Nat) (hp : gH) (h : f_L_drawn_439 Ln xs k0 x2 hp = some (r, h9)) : gJ P lay_X 9 439 [(2, .inr (.inr (some x2)))] [] m hp h9 := by
  unfold f_L_drawn_439 at h
  refine g_aload_n C dL_drawn_439 rfl ?_
  exact g_areturn hR dL_drawn_440 (by cases h; exact ⟨rfl, rfl, rfl⟩)
set_option maxRecDepth 1000000 in
set_option maxHeartbeats 4000000 in
theorem t_L_drawn_432 {P : gG → Prop} {d : Nat} {m : xM} {r : Nat} {h9 : gH} (hd9 : 2 ≤ d) (C : ∀ Γ, P Γ → gX Γ lay_X RL cL_drawn 9 d h9) (Ln : Nat) (xs : Nat → Int) (k0 : Int) (hR : ∀ Γ, P Γ → gRa Γ lay_X cL_drawn r m h9) (hZ : ∀ Γ, P Γ → gS Γ Ln xs) {k389 : Nat → Int → Int → Int → gH → Option (Nat × gH)} (hk389 : ∀ (x2 : Nat) (x4 : Int) (x7 : Int) (x8 : Int) (hp : gH), k389 x2 x4 x7 x8 hp = some (r, h9) → gJ P lay_X 9 389 [(2, .inr (.inr (some x2))), (4, .inl x4), (7, .inl x7), (8, .inl x8)] [] m hp h9) (x2 : Nat) (x4 : Int) (x7 : Int) (x8 : Int) (s0 : Int) (s1 : Int) (s2 : Nat) (hp : gH) (h : f_L_drawn_432 Ln xs k0 k389 x2 x4 x7 x8 s0 s1 s2 hp = some (r, h9)) : gJ P lay_X 9 432 [(2, .inr (.inr (some x2))), (4, .inl x4), (7, .inl x7), (8, .inl x8)] [.inl s0, .inl s1, .inr (.inr (some s2))] m hp h9 := by
  unfold f_L_drawn_432 at h
  obtain ⟨q44, hq44, h⟩ := x_bind h
  refine g_iastore C dL_drawn_432 hq44 ?_
  refine g_iinc C dL_drawn_433 (by decide) rfl ?_
  refine g_goto C 389 dL_drawn_436 (by decide) ?_
  refine g_loc [(2, .inr (.inr (some x2))), (4, .inl x4), (7, .inl x7), (8, .inl (x8 + 1))] ⟨rfl, rfl, rfl, rfl, trivial⟩ ?_
  exact hk389 _ _ _ _ _ h
set_option maxRecDepth 1000000 in
set_option maxHeartbeats 4000000 in
theorem t_L_drawn_389 {P : gG → Prop} {d : Nat} {m : xM} {r : Nat} {h9 : gH} (hd9 : 2 ≤ d) (C : ∀ Γ, P Γ → gX Γ lay_X RL cL_drawn 9 d h9) (Ln : Nat) (xs : Nat → Int) (k0 : Int) (hR : ∀ Γ, P Γ → gRa Γ lay_X cL_drawn r m h9) (hZ : ∀ Γ, P Γ → gS Γ Ln xs) : ∀ (n : Nat) (x2 : Nat) (x4 : Int) (x7 : Int) (x8 : Int) (hp : gH), f_L_drawn_389 Ln xs k0 n x2 x4 x7 x8 hp = some (r, h9) → gJ P lay_X 9 389 [(2, .inr (.inr (some x2))), (4, .inl x4), (7, .inl x7), (8, .inl x8)] [] m hp h9 := by
  intro n
  induction n with
  | zero => intro _ _ _ _ _ h; cases h
  | succ n ih =>
    intro x2 x4 x7 x8 hp h
    rw [f_L_drawn_389] at h
    refine g_iload C dL_drawn_389 rfl ?_
    refine g_iload C dL_drawn_391 rfl ?_
    refine g_icmp_ge C 439 dL_drawn_393 (by decide) h (fun h => ?_) (fun h => ?_)
    · refine g_loc [(2, .inr (.inr (some x2)))] ⟨rfl, trivial⟩ ?_
      exact t_L_drawn_439 hd9 C _ _ _ hR hZ _ _ h
    · refine g_aload_n C dL_drawn_396 rfl ?_
      obtain ⟨q41, hq41, h⟩ := x_bind h
      refine g_getKN C dL_drawn_397 nF_48 hq41 ?_
      refine g_iload C dL_drawn_400 rfl ?_
      refine g_iload C dL_drawn_402 rfl ?_
      refine g_iconst C dL_drawn_404 ?_
      refine g_iload C dL_drawn_405 rfl ?_
      refine g_imul C dL_drawn_407 ?_
      refine g_ishr C dL_drawn_408 ?_
      refine g_iconst C dL_drawn_409 ?_
      obtain ⟨q42, hq42, h⟩ := x_bind h
      refine g_callS C dL_drawn_410 (xin_34 _ (List.mem_of_getElem? (i := 11) rfl)) xy_L_most xt_L_most (by omega) (by decide) (av := [.inl (xishr x4 (2 * x8)), .inl 4]) rfl (Nat.le_of_ble_eq_true rfl) gle.rf (c_L_most _ hq42) rfl ?_
      refine g_if_ne C 421 dL_drawn_413 (by decide) h (fun h => ?_) (fun h => ?_)
      · refine g_iload C dL_drawn_421 rfl ?_
        refine g_iload C dL_drawn_423 rfl ?_
        refine g_iconst C dL_drawn_425 ?_
        refine g_iadd C dL_drawn_426 ?_
        refine g_ishr C dL_drawn_427 ?_
        refine g_iconst C dL_drawn_428 ?_
        obtain ⟨q43, hq43, h⟩ := x_bind h
        refine g_callS C dL_drawn_429 (xin_34 _ (List.mem_of_getElem? (i := 11) rfl)) xy_L_most xt_L_most (by omega) (by decide) (av := [.inl (xishr x4 (x8 + 3)), .inl 5]) rfl (Nat.le_of_ble_eq_true rfl) gle.rf (c_L_most _ hq43) rfl ?_
        refine g_loc [(2, .inr (.inr (some x2))), (4, .inl x4), (7, .inl x7), (8, .inl x8)] ⟨rfl, rfl, rfl, rfl, trivial⟩ ?_
        exact t_L_drawn_432 hd9 C _ _ _ hR hZ ih _ _ _ _ _ _ _ _ h
      · refine g_bipush C dL_drawn_416 (by decide) ?_
        refine g_goto C 432 dL_drawn_418 (by decide) ?_
        refine g_loc [(2, .inr (.inr (some x2))), (4, .inl x4), (7, .inl x7), (8, .inl x8)] ⟨rfl, rfl, rfl, rfl, trivial⟩ ?_
        exact t_L_drawn_432 hd9 C _ _ _ hR hZ ih _ _ _ _ _ _ _ _ h
set_option maxRecDepth 1000000 in
set_option maxHeartbeats 4000000 in
theorem t_L_drawn_196 {P : gG → Prop} {d : Nat} {m : xM} {r : Nat} {h9 : gH} (hd9 : 2 ≤ d) (C : ∀ Γ, P Γ → gX Γ lay_X RL cL_drawn 9 d h9) (Ln : Nat) (xs : Nat → Int) (k0 : Int) (hR : ∀ Γ, P Γ → gRa Γ lay_X cL_drawn r m h9) (hZ : ∀ Γ, P Γ → gS Γ Ln xs) (x2 : Nat) (x4 : Int) (hp : gH) (h : f_L_drawn_196 Ln xs k0 x2 x4 hp = some (r, h9)) : gJ P lay_X 9 196 [(2, .inr (.inr (some x2))), (4, .inl x4)] [] m hp h9 := by
  unfold f_L_drawn_196 at h
  refine g_aload_n C dL_drawn_196 rfl ?_
  refine g_iconst C dL_drawn_197 ?_
  obtain ⟨q12, hq12, h⟩ := x_bind h
  refine g_newi C dL_drawn_198 (xin_1 _ (List.mem_of_getElem? (i := 3) rfl)) hq12 ?_
  refine g_dup C dL_drawn_200 rfl ?_
  refine g_iconst C dL_drawn_201 ?_
  refine g_iconst C dL_drawn_202 ?_
  refine g_iload C dL_drawn_203 rfl ?_
  refine g_iconst C dL_drawn_205 ?_
  obtain ⟨q13, hq13, h⟩ := x_bind h
  refine g_callS C dL_drawn_206 (xin_34 _ (List.mem_of_getElem? (i := 11) rfl)) xy_L_most xt_L_most (by omega) (by decide) (av := [.inl x4, .inl 3]) rfl (Nat.le_of_ble_eq_true rfl) gle.rf (c_L_most _ hq13) rfl ?_
  refine g_iadd C dL_drawn_209 ?_
  obtain ⟨q14, hq14, h⟩ := x_bind h
  refine g_iastore C dL_drawn_210 hq14 ?_
  refine g_dup C dL_drawn_211 rfl ?_
  refine g_iconst C dL_drawn_212 ?_
  refine g_iconst C dL_drawn_213 ?_
  refine g_iload C dL_drawn_214 rfl ?_
  refine g_iconst C dL_drawn_216 ?_
  refine g_ishr C dL_drawn_217 ?_
  refine g_iconst C dL_drawn_218 ?_
  obtain ⟨q15, hq15, h⟩ := x_bind h
  refine g_callS C dL_drawn_219 (xin_34 _ (List.mem_of_getElem? (i := 11) rfl)) xy_L_most xt_L_most (by omega) (by decide) (av := [.inl (xishr x4 1), .inl 3]) rfl (Nat.le_of_ble_eq_true rfl) gle.rf (c_L_most _ hq15) rfl ?_
  refine g_iadd C dL_drawn_222 ?_
  obtain ⟨q16, hq16, h⟩ := x_bind h
  refine g_iastore C dL_drawn_223 hq16 ?_
  refine g_dup C dL_drawn_224 rfl ?_
  refine g_iconst C dL_drawn_225 ?_
  refine g_iconst C dL_drawn_226 ?_
  refine g_iload C dL_drawn_227 rfl ?_
  refine g_iconst C dL_drawn_229 ?_
  refine g_ishr C dL_drawn_230 ?_
  refine g_iconst C dL_drawn_231 ?_
  obtain ⟨q17, hq17, h⟩ := x_bind h
  refine g_callS C dL_drawn_232 (xin_34 _ (List.mem_of_getElem? (i := 11) rfl)) xy_L_most xt_L_most (by omega) (by decide) (av := [.inl (xishr x4 2), .inl 3]) rfl (Nat.le_of_ble_eq_true rfl) gle.rf (c_L_most _ hq17) rfl ?_
  refine g_iadd C dL_drawn_235 ?_
  obtain ⟨q18, hq18, h⟩ := x_bind h
  refine g_iastore C dL_drawn_236 hq18 ?_
  refine g_dup C dL_drawn_237 rfl ?_
  refine g_iconst C dL_drawn_238 ?_
  refine g_iconst C dL_drawn_239 ?_
  refine g_iload C dL_drawn_240 rfl ?_
  refine g_iconst C dL_drawn_242 ?_
  refine g_ishr C dL_drawn_243 ?_
  refine g_iconst C dL_drawn_244 ?_
  obtain ⟨q19, hq19, h⟩ := x_bind h
  refine g_callS C dL_drawn_245 (xin_34 _ (List.mem_of_getElem? (i := 11) rfl)) xy_L_most xt_L_most (by omega) (by decide) (av := [.inl (xishr x4 3), .inl 2]) rfl (Nat.le_of_ble_eq_true rfl) gle.rf (c_L_most _ hq19) rfl ?_
  refine g_iadd C dL_drawn_248 ?_
  obtain ⟨q20, hq20, h⟩ := x_bind h
  refine g_iastore C dL_drawn_249 hq20 ?_
  obtain ⟨q21, hq21, h⟩ := x_bind h
  refine g_putRN C dL_drawn_250 nF_42 hq21 ?_
  refine g_iconst C dL_drawn_253 ?_
  refine g_iload C dL_drawn_254 rfl ?_
  refine g_iconst C dL_drawn_256 ?_
  refine g_ishr C dL_drawn_257 ?_
  refine g_iconst C dL_drawn_258 ?_
  obtain ⟨q22, hq22, h⟩ := x_bind h
  refine g_callS C dL_drawn_259 (xin_34 _ (List.mem_of_getElem? (i := 11) rfl)) xy_L_most xt_L_most (by omega) (by decide) (av := [.inl (xishr x4 4), .inl 4]) rfl (Nat.le_of_ble_eq_true rfl) gle.rf (c_L_most _ hq22) rfl ?_
  refine g_iadd C dL_drawn_262 ?_
  refine g_istore C dL_drawn_263 (by decide) ?_
  refine g_aload_n C dL_drawn_265 rfl ?_
  refine g_bipush C dL_drawn_266 (by decide) ?_
  obtain ⟨q23, hq23, h⟩ := x_bind h
  refine g_newi C dL_drawn_268 (xin_1 _ (List.mem_of_getElem? (i := 3) rfl)) hq23 ?_
  refine g_dup C dL_drawn_270 rfl ?_
  refine g_iconst C dL_drawn_271 ?_
  refine g_iload C dL_drawn_272 rfl ?_
  refine g_iconst C dL_drawn_274 ?_
  refine g_ishr C dL_drawn_275 ?_
  refine g_iconst C dL_drawn_276 ?_
  obtain ⟨q24, hq24, h⟩ := x_bind h
  refine g_callS C dL_drawn_277 (xin_34 _ (List.mem_of_getElem? (i := 11) rfl)) xy_L_most xt_L_most (by omega) (by decide) (av := [.inl (xishr x4 5), .inl 4]) rfl (Nat.le_of_ble_eq_true rfl) gle.rf (c_L_most _ hq24) rfl ?_
  obtain ⟨q25, hq25, h⟩ := x_bind h
  refine g_iastore C dL_drawn_280 hq25 ?_
  refine g_dup C dL_drawn_281 rfl ?_
  refine g_iconst C dL_drawn_282 ?_
  refine g_iload C dL_drawn_283 rfl ?_
  refine g_bipush C dL_drawn_285 (by decide) ?_
  refine g_ishr C dL_drawn_287 ?_
  refine g_iconst C dL_drawn_288 ?_
  obtain ⟨q26, hq26, h⟩ := x_bind h
  refine g_callS C dL_drawn_289 (xin_34 _ (List.mem_of_getElem? (i := 11) rfl)) xy_L_most xt_L_most (by omega) (by decide) (av := [.inl (xishr x4 7), .inl 5]) rfl (Nat.le_of_ble_eq_true rfl) gle.rf (c_L_most _ hq26) rfl ?_
  obtain ⟨q27, hq27, h⟩ := x_bind h
  refine g_iastore C dL_drawn_292 hq27 ?_
  refine g_dup C dL_drawn_293 rfl ?_
  refine g_iconst C dL_drawn_294 ?_
  refine g_iconst C dL_drawn_295 ?_
  refine g_iload C dL_drawn_296 rfl ?_
  refine g_bipush C dL_drawn_298 (by decide) ?_
  refine g_ishr C dL_drawn_300 ?_
  refine g_bipush C dL_drawn_301 (by decide) ?_
  obtain ⟨q28, hq28, h⟩ := x_bind h
  refine g_callS C dL_drawn_303 (xin_34 _ (List.mem_of_getElem? (i := 11) rfl)) xy_L_most xt_L_most (by omega) (by decide) (av := [.inl (xishr x4 8), .inl 7]) rfl (Nat.le_of_ble_eq_true rfl) gle.rf (c_L_most _ hq28) rfl ?_
  refine g_iadd C dL_drawn_306 ?_
  obtain ⟨q29, hq29, h⟩ := x_bind h
  refine g_iastore C dL_drawn_307 hq29 ?_
  refine g_dup C dL_drawn_308 rfl ?_
  refine g_iconst C dL_drawn_309 ?_
  refine g_iload C dL_drawn_310 rfl ?_
  obtain ⟨q30, hq30, h⟩ := x_bind h
  refine g_iastore C dL_drawn_312 hq30 ?_
  refine g_dup C dL_drawn_313 rfl ?_
  refine g_iconst C dL_drawn_314 ?_
  refine g_iconst C dL_drawn_315 ?_
  refine g_iload C dL_drawn_316 rfl ?_
  refine g_imul C dL_drawn_318 ?_
  refine g_iconst C dL_drawn_319 ?_
  refine g_iadd C dL_drawn_320 ?_
  refine g_iload C dL_drawn_321 rfl ?_
  refine g_bipush C dL_drawn_323 (by decide) ?_
  refine g_ishr C dL_drawn_325 ?_
  refine g_iconst C dL_drawn_326 ?_
  obtain ⟨q31, hq31, h⟩ := x_bind h
  refine g_callS C dL_drawn_327 (xin_34 _ (List.mem_of_getElem? (i := 11) rfl)) xy_L_most xt_L_most (by omega) (by decide) (av := [.inl (xishr x4 9), .inl 4]) rfl (Nat.le_of_ble_eq_true rfl) gle.rf (c_L_most _ hq31) rfl ?_
  refine g_iadd C dL_drawn_330 ?_
  obtain ⟨q32, hq32, h⟩ := x_bind h
  refine g_iastore C dL_drawn_331 hq32 ?_
  refine g_dup C dL_drawn_332 rfl ?_
  refine g_iconst C dL_drawn_333 ?_
  refine g_iconst C dL_drawn_334 ?_
  refine g_iload C dL_drawn_335 rfl ?_
  refine g_bipush C dL_drawn_337 (by decide) ?_
  refine g_ishr C dL_drawn_339 ?_
  refine g_iconst C dL_drawn_340 ?_
  obtain ⟨q33, hq33, h⟩ := x_bind h
  refine g_callS C dL_drawn_341 (xin_34 _ (List.mem_of_getElem? (i := 11) rfl)) xy_L_most xt_L_most (by omega) (by decide) (av := [.inl (xishr x4 6), .inl 4]) rfl (Nat.le_of_ble_eq_true rfl) gle.rf (c_L_most _ hq33) rfl ?_
  refine g_iadd C dL_drawn_344 ?_
  obtain ⟨q34, hq34, h⟩ := x_bind h
  refine g_iastore C dL_drawn_345 hq34 ?_
  refine g_dup C dL_drawn_346 rfl ?_
  refine g_bipush C dL_drawn_347 (by decide) ?_
  refine g_iconst C dL_drawn_349 ?_
  refine g_iload C dL_drawn_350 rfl ?_
  refine g_bipush C dL_drawn_352 (by decide) ?_
  refine g_ishr C dL_drawn_354 ?_
  refine g_bipush C dL_drawn_355 (by decide) ?_
  obtain ⟨q35, hq35, h⟩ := x_bind h
  refine g_callS C dL_drawn_357 (xin_34 _ (List.mem_of_getElem? (i := 11) rfl)) xy_L_most xt_L_most (by omega) (by decide) (av := [.inl (xishr x4 10), .inl 7]) rfl (Nat.le_of_ble_eq_true rfl) gle.rf (c_L_most _ hq35) rfl ?_
  refine g_iadd C dL_drawn_360 ?_
  obtain ⟨q36, hq36, h⟩ := x_bind h
  refine g_iastore C dL_drawn_361 hq36 ?_
  obtain ⟨q37, hq37, h⟩ := x_bind h
  refine g_putRN C dL_drawn_362 nF_45 hq37 ?_
  refine g_iconst C dL_drawn_365 ?_
  refine g_iload C dL_drawn_366 rfl ?_
  refine g_bipush C dL_drawn_368 (by decide) ?_
  refine g_ishr C dL_drawn_370 ?_
  refine g_iconst C dL_drawn_371 ?_
  obtain ⟨q38, hq38, h⟩ := x_bind h
  refine g_callS C dL_drawn_372 (xin_34 _ (List.mem_of_getElem? (i := 11) rfl)) xy_L_most xt_L_most (by omega) (by decide) (av := [.inl (xishr x4 11), .inl 5]) rfl (Nat.le_of_ble_eq_true rfl) gle.rf (c_L_most _ hq38) rfl ?_
  refine g_iadd C dL_drawn_375 ?_
  refine g_istore C dL_drawn_376 (by decide) ?_
  refine g_aload_n C dL_drawn_378 rfl ?_
  refine g_iload C dL_drawn_379 rfl ?_
  obtain ⟨q39, hq39, h⟩ := x_bind h
  refine g_newi C dL_drawn_381 (xin_1 _ (List.mem_of_getElem? (i := 3) rfl)) hq39 ?_
  obtain ⟨q40, hq40, h⟩ := x_bind h
  refine g_putRN C dL_drawn_383 nF_48 hq40 ?_
  refine g_iconst C dL_drawn_386 ?_
  refine g_istore C dL_drawn_387 (by decide) ?_
  refine g_loc [(2, .inr (.inr (some x2))), (4, .inl x4), (7, .inl (1 + q38)), (8, .inl 0)] ⟨rfl, rfl, rfl, rfl, trivial⟩ ?_
  exact t_L_drawn_389 hd9 C _ _ _ hR hZ fu _ _ _ _ _ h
set_option maxRecDepth 1000000 in
set_option maxHeartbeats 4000000 in
theorem t_L_drawn_189 {P : gG → Prop} {d : Nat} {m : xM} {r : Nat} {h9 : gH} (hd9 : 2 ≤ d) (C : ∀ Γ, P Γ → gX Γ lay_X RL cL_drawn 9 d h9) (Ln : Nat) (xs : Nat → Int) (k0 : Int) (hR : ∀ Γ, P Γ → gRa Γ lay_X cL_drawn r m h9) (hZ : ∀ Γ, P Γ → gS Γ Ln xs) {k85 : Nat → Int → Int → Int → Int → gH → Option (Nat × gH)} (hk85 : ∀ (x2 : Nat) (x3 : Int) (x4 : Int) (x5 : Int) (x6 : Int) (hp : gH), k85 x2 x3 x4 x5 x6 hp = some (r, h9) → gJ P lay_X 9 85 [(2, .inr (.inr (some x2))), (3, .inl x3), (4, .inl x4), (5, .inl x5), (6, .inl x6)] [] m hp h9) (x2 : Nat) (x3 : Int) (x4 : Int) (x5 : Int) (x6 : Int) (s0 : Int) (s1 : Int) (s2 : Nat) (hp : gH) (h : f_L_drawn_189 Ln xs k0 k85 x2 x3 x4 x5 x6 s0 s1 s2 hp = some (r, h9)) : gJ P lay_X 9 189 [(2, .inr (.inr (some x2))), (3, .inl x3), (4, .inl x4), (5, .inl x5), (6, .inl x6)] [.inl s0, .inl s1, .inr (.inr (some s2))] m hp h9 := by
  unfold f_L_drawn_189 at h
  obtain ⟨q54, hq54, h⟩ := x_bind h
  refine g_iastore C dL_drawn_189 hq54 ?_
  refine g_iinc C dL_drawn_190 (by decide) rfl ?_
  refine g_goto C 85 dL_drawn_193 (by decide) ?_
  refine g_loc [(2, .inr (.inr (some x2))), (3, .inl x3), (4, .inl x4), (5, .inl x5), (6, .inl (x6 + 1))] ⟨rfl, rfl, rfl, rfl, rfl, trivial⟩ ?_
  exact hk85 _ _ _ _ _ _ h
set_option maxRecDepth 1000000 in
set_option maxHeartbeats 4000000 in
theorem t_L_drawn_141 {P : gG → Prop} {d : Nat} {m : xM} {r : Nat} {h9 : gH} (hd9 : 2 ≤ d) (C : ∀ Γ, P Γ → gX Γ lay_X RL cL_drawn 9 d h9) (Ln : Nat) (xs : Nat → Int) (k0 : Int) (hR : ∀ Γ, P Γ → gRa Γ lay_X cL_drawn r m h9) (hZ : ∀ Γ, P Γ → gS Γ Ln xs) {k85 : Nat → Int → Int → Int → Int → gH → Option (Nat × gH)} (hk85 : ∀ (x2 : Nat) (x3 : Int) (x4 : Int) (x5 : Int) (x6 : Int) (hp : gH), k85 x2 x3 x4 x5 x6 hp = some (r, h9) → gJ P lay_X 9 85 [(2, .inr (.inr (some x2))), (3, .inl x3), (4, .inl x4), (5, .inl x5), (6, .inl x6)] [] m hp h9) (x2 : Nat) (x3 : Int) (x4 : Int) (x5 : Int) (x6 : Int) (s0 : Int) (s1 : Int) (s2 : Nat) (hp : gH) (h : f_L_drawn_141 Ln xs k0 k85 x2 x3 x4 x5 x6 s0 s1 s2 hp = some (r, h9)) : gJ P lay_X 9 141 [(2, .inr (.inr (some x2))), (3, .inl x3), (4, .inl x4), (5, .inl x5), (6, .inl x6)] [.inl s0, .inl s1, .inr (.inr (some s2))] m hp h9 := by
  unfold f_L_drawn_141 at h
  obtain ⟨q49, hq49, h⟩ := x_bind h
  refine g_iastore C dL_drawn_141 hq49 ?_
  refine g_aload_n C dL_drawn_142 rfl ?_
  obtain ⟨q50, hq50, h⟩ := x_bind h
  refine g_getKN C dL_drawn_143 nF_39 hq50 ?_
  refine g_iload C dL_drawn_146 rfl ?_
  refine g_iload C dL_drawn_148 rfl ?_
  refine g_if_ne C 166 dL_drawn_150 (by decide) h (fun h => ?_) (fun h => ?_)
  · refine g_aload_n C dL_drawn_166 rfl ?_
    obtain ⟨q51, hq51, h⟩ := x_bind h
    refine g_getKN C dL_drawn_167 nF_39 hq51 ?_
    refine g_iload C dL_drawn_170 rfl ?_
    refine g_iconst C dL_drawn_172 ?_
    refine g_isub C dL_drawn_173 ?_
    obtain ⟨q52, hq52, h⟩ := x_bind h
    refine g_iaload C dL_drawn_174 hq52 ?_
    refine g_iconst C dL_drawn_175 ?_
    refine g_iadd C dL_drawn_176 ?_
    refine g_iload_n C dL_drawn_177 rfl ?_
    refine g_bipush C dL_drawn_178 (by decide) ?_
    refine g_iload C dL_drawn_180 rfl ?_
    refine g_iadd C dL_drawn_182 ?_
    refine g_ishr C dL_drawn_183 ?_
    refine g_iconst C dL_drawn_184 ?_
    obtain ⟨q53, hq53, h⟩ := x_bind h
    refine g_callS C dL_drawn_185 (xin_34 _ (List.mem_of_getElem? (i := 11) rfl)) xy_L_most xt_L_most (by omega) (by decide) (av := [.inl (xishr x3 (10 + x6)), .inl 2]) rfl (Nat.le_of_ble_eq_true rfl) gle.rf (c_L_most _ hq53) rfl ?_
    refine g_iadd C dL_drawn_188 ?_
    refine g_loc [(2, .inr (.inr (some x2))), (3, .inl x3), (4, .inl x4), (5, .inl x5), (6, .inl x6)] ⟨rfl, rfl, rfl, rfl, rfl, trivial⟩ ?_
    exact t_L_drawn_189 hd9 C _ _ _ hR hZ hk85 _ _ _ _ _ _ _ _ _ h
  · refine g_iconst C dL_drawn_153 ?_
    refine g_iload_n C dL_drawn_154 rfl ?_
    refine g_bipush C dL_drawn_155 (by decide) ?_
    refine g_ishr C dL_drawn_157 ?_
    refine g_iconst C dL_drawn_158 ?_
    obtain ⟨q55, hq55, h⟩ := x_bind h
    refine g_callS C dL_drawn_159 (xin_34 _ (List.mem_of_getElem? (i := 11) rfl)) xy_L_most xt_L_most (by omega) (by decide) (av := [.inl (xishr x3 9), .inl 3]) rfl (Nat.le_of_ble_eq_true rfl) gle.rf (c_L_most _ hq55) rfl ?_
    refine g_iadd C dL_drawn_162 ?_
    refine g_goto C 189 dL_drawn_163 (by decide) ?_
    refine g_loc [(2, .inr (.inr (some x2))), (3, .inl x3), (4, .inl x4), (5, .inl x5), (6, .inl x6)] ⟨rfl, rfl, rfl, rfl, rfl, trivial⟩ ?_
    exact t_L_drawn_189 hd9 C _ _ _ hR hZ hk85 _ _ _ _ _ _ _ _ _ h
set_option maxRecDepth 1000000 in
set_option maxHeartbeats 4000000 in
theorem t_L_drawn_85 {P : gG → Prop} {d : Nat} {m : xM} {r : Nat} {h9 : gH} (hd9 : 2 ≤ d) (C : ∀ Γ, P Γ → gX Γ lay_X RL cL_drawn 9 d h9) (Ln : Nat) (xs : Nat → Int) (k0 : Int) (hR : ∀ Γ, P Γ → gRa Γ lay_X cL_drawn r m h9) (hZ : ∀ Γ, P Γ → gS Γ Ln xs) : ∀ (n : Nat) (x2 : Nat) (x3 : Int) (x4 : Int) (x5 : Int) (x6 : Int) (hp : gH), f_L_drawn_85 Ln xs k0 n x2 x3 x4 x5 x6 hp = some (r, h9) → gJ P lay_X 9 85 [(2, .inr (.inr (some x2))), (3, .inl x3), (4, .inl x4), (5, .inl x5), (6, .inl x6)] [] m hp h9 := by
  intro n
  induction n with
  | zero => intro _ _ _ _ _ _ h; cases h
  | succ n ih =>
    intro x2 x3 x4 x5 x6 hp h
    rw [f_L_drawn_85] at h
    refine g_iload C dL_drawn_85 rfl ?_
    refine g_iload C dL_drawn_87 rfl ?_
    refine g_icmp_ge C 196 dL_drawn_89 (by decide) h (fun h => ?_) (fun h => ?_)
    · refine g_loc [(2, .inr (.inr (some x2))), (4, .inl x4)] ⟨rfl, rfl, trivial⟩ ?_
      exact t_L_drawn_196 hd9 C _ _ _ hR hZ _ _ _ h
    · refine g_aload_n C dL_drawn_92 rfl ?_
      obtain ⟨q45, hq45, h⟩ := x_bind h
      refine g_getKN C dL_drawn_93 nF_35 hq45 ?_
      refine g_iload C dL_drawn_96 rfl ?_
      refine g_iload C dL_drawn_98 rfl ?_
      refine g_if_ne C 117 dL_drawn_100 (by decide) h (fun h => ?_) (fun h => ?_)
      · refine g_aload_n C dL_drawn_117 rfl ?_
        obtain ⟨q46, hq46, h⟩ := x_bind h
        refine g_getKN C dL_drawn_118 nF_35 hq46 ?_
        refine g_iload C dL_drawn_121 rfl ?_
        refine g_iconst C dL_drawn_123 ?_
        refine g_isub C dL_drawn_124 ?_
        obtain ⟨q47, hq47, h⟩ := x_bind h
        refine g_iaload C dL_drawn_125 hq47 ?_
        refine g_iconst C dL_drawn_126 ?_
        refine g_iadd C dL_drawn_127 ?_
        refine g_iload_n C dL_drawn_128 rfl ?_
        refine g_bipush C dL_drawn_129 (by decide) ?_
        refine g_iload C dL_drawn_131 rfl ?_
        refine g_iadd C dL_drawn_133 ?_
        refine g_ishr C dL_drawn_134 ?_
        refine g_bipush C dL_drawn_135 (by decide) ?_
        obtain ⟨q48, hq48, h⟩ := x_bind h
        refine g_callS C dL_drawn_137 (xin_34 _ (List.mem_of_getElem? (i := 11) rfl)) xy_L_most xt_L_most (by omega) (by decide) (av := [.inl (xishr x3 (8 + x6)), .inl 12]) rfl (Nat.le_of_ble_eq_true rfl) gle.rf (c_L_most _ hq48) rfl ?_
        refine g_iadd C dL_drawn_140 ?_
        refine g_loc [(2, .inr (.inr (some x2))), (3, .inl x3), (4, .inl x4), (5, .inl x5), (6, .inl x6)] ⟨rfl, rfl, rfl, rfl, rfl, trivial⟩ ?_
        exact t_L_drawn_141 hd9 C _ _ _ hR hZ ih _ _ _ _ _ _ _ _ _ h
      · refine g_iconst C dL_drawn_103 ?_
        refine g_iload_n C dL_drawn_104 rfl ?_
        refine g_bipush C dL_drawn_105 (by decide) ?_
        refine g_ishr C dL_drawn_107 ?_
        refine g_bipush C dL_drawn_108 (by decide) ?_
        obtain ⟨q56, hq56, h⟩ := x_bind h
        refine g_callS C dL_drawn_110 (xin_34 _ (List.mem_of_getElem? (i := 11) rfl)) xy_L_most xt_L_most (by omega) (by decide) (av := [.inl (xishr x3 7), .inl 20]) rfl (Nat.le_of_ble_eq_true rfl) gle.rf (c_L_most _ hq56) rfl ?_
        refine g_iadd C dL_drawn_113 ?_
        refine g_goto C 141 dL_drawn_114 (by decide) ?_
        refine g_loc [(2, .inr (.inr (some x2))), (3, .inl x3), (4, .inl x4), (5, .inl x5), (6, .inl x6)] ⟨rfl, rfl, rfl, rfl, rfl, trivial⟩ ?_
        exact t_L_drawn_141 hd9 C _ _ _ hR hZ ih _ _ _ _ _ _ _ _ _ h
set_option maxRecDepth 1000000 in
set_option maxHeartbeats 4000000 in
theorem t_L_drawn_52 {P : gG → Prop} {d : Nat} {m : xM} {r : Nat} {h9 : gH} (hd9 : 2 ≤ d) (C : ∀ Γ, P Γ → gX Γ lay_X RL cL_drawn 9 d h9) (Ln : Nat) (xs : Nat → Int) (k0 : Int) (hR : ∀ Γ, P Γ → gRa Γ lay_X cL_drawn r m h9) (hZ : ∀ Γ, P Γ → gS Γ Ln xs) (x2 : Nat) (x3 : Int) (x4 : Int) (s0 : Int) (s1 : Nat) (hp : gH) (h : f_L_drawn_52 Ln xs k0 x2 x3 x4 s0 s1 hp = some (r, h9)) : gJ P lay_X 9 52 [(2, .inr (.inr (some x2))), (3, .inl x3), (4, .inl x4)] [.inl s0, .inr (.inr (some s1))] m hp h9 := by
  unfold f_L_drawn_52 at h
  obtain ⟨q6, hq6, h⟩ := x_bind h
  refine g_putIN C dL_drawn_52 nF_31 hq6 ?_
  refine g_iconst C dL_drawn_55 ?_
  refine g_iload_n C dL_drawn_56 rfl ?_
  refine g_iconst C dL_drawn_57 ?_
  refine g_ishr C dL_drawn_58 ?_
  refine g_iconst C dL_drawn_59 ?_
  obtain ⟨q7, hq7, h⟩ := x_bind h
  refine g_callS C dL_drawn_60 (xin_34 _ (List.mem_of_getElem? (i := 11) rfl)) xy_L_most xt_L_most (by omega) (by decide) (av := [.inl (xishr x3 5), .inl 4]) rfl (Nat.le_of_ble_eq_true rfl) gle.rf (c_L_most _ hq7) rfl ?_
  refine g_iadd C dL_drawn_63 ?_
  refine g_istore C dL_drawn_64 (by decide) ?_
  refine g_aload_n C dL_drawn_66 rfl ?_
  refine g_iload C dL_drawn_67 rfl ?_
  obtain ⟨q8, hq8, h⟩ := x_bind h
  refine g_newi C dL_drawn_69 (xin_1 _ (List.mem_of_getElem? (i := 3) rfl)) hq8 ?_
  obtain ⟨q9, hq9, h⟩ := x_bind h
  refine g_putRN C dL_drawn_71 nF_35 hq9 ?_
  refine g_aload_n C dL_drawn_74 rfl ?_
  refine g_iload C dL_drawn_75 rfl ?_
  obtain ⟨q10, hq10, h⟩ := x_bind h
  refine g_newi C dL_drawn_77 (xin_1 _ (List.mem_of_getElem? (i := 3) rfl)) hq10 ?_
  obtain ⟨q11, hq11, h⟩ := x_bind h
  refine g_putRN C dL_drawn_79 nF_39 hq11 ?_
  refine g_iconst C dL_drawn_82 ?_
  refine g_istore C dL_drawn_83 (by decide) ?_
  refine g_loc [(2, .inr (.inr (some x2))), (3, .inl x3), (4, .inl x4), (5, .inl (1 + q7)), (6, .inl 0)] ⟨rfl, rfl, rfl, rfl, rfl, trivial⟩ ?_
  exact t_L_drawn_85 hd9 C _ _ _ hR hZ fu _ _ _ _ _ _ h
set_option maxRecDepth 1000000 in
set_option maxHeartbeats 4000000 in
theorem t_L_drawn {P : gG → Prop} {d : Nat} {m : xM} {r : Nat} {h9 : gH} (hd9 : 2 ≤ d) (C : ∀ Γ, P Γ → gX Γ lay_X RL cL_drawn 9 d h9) (Ln : Nat) (xs : Nat → Int) (k0 : Int) (hR : ∀ Γ, P Γ → gRa Γ lay_X cL_drawn r m h9) (hZ : ∀ Γ, P Γ → gS Γ Ln xs) (hp : gH) (h : f_L_drawn Ln xs k0 hp = some (r, h9)) : gJ P lay_X 9 0 [(0, .inr (.inr (some 1300))), (1, .inl k0)] [] m hp h9 := by
  unfold f_L_drawn at h
  obtain ⟨q0, hq0, h⟩ := x_bind h
  refine g_newOo C dL_drawn_0 (xin_33 _ (List.mem_of_getElem? (i := 3) rfl)) (xin_33 _ (List.mem_of_getElem? (i := 4) rfl)) (xin_33 _ (List.mem_of_getElem? (i := 5) rfl)) hq0 ?_
  refine g_dup C dL_drawn_3 rfl ?_
  obtain ⟨q1, hq1, h⟩ := x_bind h
  refine g_callIN C dL_drawn_4 (List.mem_of_getElem? (i := 15) rfl) xy_X11_init xi_X11_init rfl (by omega) (by decide) (av := []) rfl (Nat.le_of_ble_eq_true rfl) (le_O_init hq1) (c_O_init _ hq1) rfl ?_
  refine g_astore_n C dL_drawn_7 (by decide) ?_
  refine g_aload_n C dL_drawn_8 rfl ?_
  refine g_iload_n C dL_drawn_9 rfl ?_
  obtain ⟨q2, hq2, h⟩ := x_bind h
  refine g_callSS C hZ dL_drawn_10 (xin_34 _ (List.mem_of_getElem? (i := 8) rfl)) xy_L_cell xt_L_cell (by omega) (by decide) (av := [.inr (.inr (some 1300)), .inl k0]) rfl (Nat.le_of_ble_eq_true rfl) gle.rf (c_L_cell _ hq2) rfl ?_
  refine g_istore_n C dL_drawn_13 (by decide) ?_
  refine g_aload_n C dL_drawn_14 rfl ?_
  refine g_iload_n C dL_drawn_15 rfl ?_
  refine g_iconst C dL_drawn_16 ?_
  refine g_iadd C dL_drawn_17 ?_
  obtain ⟨q3, hq3, h⟩ := x_bind h
  refine g_callSS C hZ dL_drawn_18 (xin_34 _ (List.mem_of_getElem? (i := 8) rfl)) xy_L_cell xt_L_cell (by omega) (by decide) (av := [.inr (.inr (some 1300)), .inl (k0 + 1)]) rfl (Nat.le_of_ble_eq_true rfl) gle.rf (c_L_cell _ hq3) rfl ?_
  refine g_istore C dL_drawn_21 (by decide) ?_
  refine g_aload_n C dL_drawn_23 rfl ?_
  refine g_iload_n C dL_drawn_24 rfl ?_
  refine g_iconst C dL_drawn_25 ?_
  obtain ⟨q4, hq4, h⟩ := x_bind h
  refine g_callS C dL_drawn_26 (xin_34 _ (List.mem_of_getElem? (i := 11) rfl)) xy_L_most xt_L_most (by omega) (by decide) (av := [.inl q2, .inl 3]) rfl (Nat.le_of_ble_eq_true rfl) gle.rf (c_L_most _ hq4) rfl ?_
  refine g_if_ne C 43 dL_drawn_29 (by decide) h (fun h => ?_) (fun h => ?_)
  · refine g_iconst C dL_drawn_43 ?_
    refine g_iload_n C dL_drawn_44 rfl ?_
    refine g_iconst C dL_drawn_45 ?_
    refine g_ishr C dL_drawn_46 ?_
    refine g_iconst C dL_drawn_47 ?_
    obtain ⟨q5, hq5, h⟩ := x_bind h
    refine g_callS C dL_drawn_48 (xin_34 _ (List.mem_of_getElem? (i := 11) rfl)) xy_L_most xt_L_most (by omega) (by decide) (av := [.inl (xishr q2 2), .inl 5]) rfl (Nat.le_of_ble_eq_true rfl) gle.rf (c_L_most _ hq5) rfl ?_
    refine g_iadd C dL_drawn_51 ?_
    refine g_loc [(2, .inr (.inr (some q0.1))), (3, .inl q2), (4, .inl q3)] ⟨rfl, rfl, rfl, trivial⟩ ?_
    exact t_L_drawn_52 hd9 C _ _ _ hR hZ _ _ _ _ _ _ h
  · refine g_iload_n C dL_drawn_32 rfl ?_
    refine g_iconst C dL_drawn_33 ?_
    refine g_ishr C dL_drawn_34 ?_
    refine g_bipush C dL_drawn_35 (by decide) ?_
    obtain ⟨q57, hq57, h⟩ := x_bind h
    refine g_callS C dL_drawn_37 (xin_34 _ (List.mem_of_getElem? (i := 11) rfl)) xy_L_most xt_L_most (by omega) (by decide) (av := [.inl (xishr q2 2), .inl 10]) rfl (Nat.le_of_ble_eq_true rfl) gle.rf (c_L_most _ hq57) rfl ?_
    refine g_goto C 52 dL_drawn_40 (by decide) ?_
    refine g_loc [(2, .inr (.inr (some q0.1))), (3, .inl q2), (4, .inl q3)] ⟨rfl, rfl, rfl, trivial⟩ ?_
    exact t_L_drawn_52 hd9 C _ _ _ hR hZ _ _ _ _ _ _ h
theorem c_L_drawn {Ln : Nat} {xs : Nat → Int} {k0 : Int} (m : xM) {r : Nat} {hp h9 : gH} (h : f_L_drawn Ln xs k0 hp = some (r, h9)) (l : Launch) : gMetS Ln xs l yL_drawn cL_drawn 9 (some (.object "ModemLinkLaw$Own")) 2 lay_X [.inr (.inr (some 1300)), .inl k0] m hp (some (.inr (.inr (some r)))) m h9 :=
  gMetS_a (by first | exact Or.inl ⟨_, rfl⟩ | exact Or.inr ⟨_, rfl⟩) (by decide +kernel) (Nat.le_of_ble_eq_true rfl) (fun P C hZ hR => t_L_drawn (Nat.le_refl _) C _ _ _ hR hZ hp h)
theorem le_L_drawn {Ln : Nat} {xs : Nat → Int} {k0 : Int} {r : Nat} {hp h9 : gH} (h : f_L_drawn Ln xs k0 hp = some (r, h9)) : gle hp h9 :=
  (t_L_drawn (P := fun _ => False) (m := fun _ _ => 0) (Nat.le_refl _) (fun _ q => q.elim) _ _ _ (fun _ q => q.elim) (fun _ q => q.elim) hp h).1

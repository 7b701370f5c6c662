/-! ===== the law, call by call (1) ===== -/
set_option maxRecDepth 100000 in
set_option maxHeartbeats 8000000 in
theorem lc_0 {Γ : yG} {b Ln : Nat} {xs : Nat → Int32} (C : yC Γ RL cL_law 9 100 601024 7293034) (Z : lC Γ b Ln xs) (hst : Γ.1.2.1.stackTraces = false) {aX aM : Nat → Nat} (hS : lS Γ aX aM) (o i : Nat) (hi : i + 6 ≤ Ln) {ws : va_W} {k n : Nat} (hk : k + 4 ≤ 601024) (hn : n + 200 ≤ 7293034) (hI : lI (yDA Γ) aX aM o ws) (Gk : ∀ (ws' : va_W) (k' n' : Nat), lI (yDA Γ) aX aM o ws' → k' ≤ k + 4 → n' ≤ n + 200 → yW Γ 9 1638 (lL b aX aM o i) [] ws' k' n') : yW Γ 9 184 (lL b aX aM o i) [] ws k n := by
  obtain ⟨m, M, g, T, G, hX, hT, rfl⟩ := hI
  obtain ⟨z1, e1, i1⟩ := l_int (xs (i + 1))
  obtain ⟨z2, e2, i2⟩ := l_int (xs (i + 2))
  obtain ⟨z3, e3, i3⟩ := l_int (xs (i + 3))
  obtain ⟨z4, e4, i4⟩ := l_int (xs (i + 4))
  obtain ⟨z5, e5, i5⟩ := l_int (xs (i + 5))
  obtain ⟨r, m1, M1, q1, q2, q3, q4⟩ := ls_feed _ hst z1 z2 z3 z4 z5 m M hX
  refine y_aload C 1 dL_law_184 rfl rfl ?_
  refine y_arg C Z 0 4 1 i dL_law_185 dL_law_186 dL_law_188 dL_law_189 dL_law_190 rfl rfl (by omega) e1 ?_
  refine y_arg C Z 0 4 2 i dL_law_191 dL_law_192 dL_law_194 dL_law_195 dL_law_196 rfl rfl (by omega) e2 ?_
  refine y_arg C Z 0 4 3 i dL_law_197 dL_law_198 dL_law_200 dL_law_201 dL_law_202 rfl rfl (by omega) e3 ?_
  refine y_arg C Z 0 4 4 i dL_law_203 dL_law_204 dL_law_206 dL_law_207 dL_law_208 rfl rfl (by omega) e4 ?_
  refine y_arg C Z 0 4 5 i dL_law_209 dL_law_210 dL_law_212 dL_law_213 dL_law_214 rfl rfl (by omega) e5 ?_
  refine y_callXm (wa := [lwo (yDA Γ) o g]) (wb := T ++ xwld aM (yDA Γ) M 0 lay_M) (st := []) (av := [.inl z1, .inl z2, .inl z3, .inl z4, .inl z5]) (b := 0) (layY := lay_X) (m := m) C aX dL_law_215 (xin_9 _ (List.mem_of_getElem? (i := 19) rfl)) xy_X10_feed xi_X10_feed xs_X10_feed (by omega) (by decide) rfl ⟨_, _, rfl⟩ rfl (Nat.le_of_ble_eq_true rfl) q1 (by omega) (by omega) hS.1 rfl ?_
  refine y_aload C 2 dL_law_218 rfl rfl ?_
  refine y_arg C Z 0 4 1 i dL_law_219 dL_law_220 dL_law_222 dL_law_223 dL_law_224 rfl rfl (by omega) e1 ?_
  refine y_arg C Z 0 4 2 i dL_law_225 dL_law_226 dL_law_228 dL_law_229 dL_law_230 rfl rfl (by omega) e2 ?_
  refine y_arg C Z 0 4 3 i dL_law_231 dL_law_232 dL_law_234 dL_law_235 dL_law_236 rfl rfl (by omega) e3 ?_
  refine y_arg C Z 0 4 4 i dL_law_237 dL_law_238 dL_law_240 dL_law_241 dL_law_242 rfl rfl (by omega) e4 ?_
  refine y_arg C Z 0 4 5 i dL_law_243 dL_law_244 dL_law_246 dL_law_247 dL_law_248 rfl rfl (by omega) e5 ?_
  refine y_callXr (wa := lwo (yDA Γ) o g :: xwld aX (yDA Γ) m1 0 lay_X) (wb := T) (st := [.int (Int32.ofInt r)]) (av := [.inl z1, .inl z2, .inl z3, .inl z4, .inl z5]) (b := 0) (layY := lay_M) C aM dL_law_249 (xin_10 _ (List.mem_of_getElem? (i := 4) rfl)) xy_X11_feed xi_X11_feed xs_X11_feed (by omega) (by decide) rfl ⟨_, _, rfl⟩ rfl (Nat.le_of_ble_eq_true rfl) q2 (by omega) (by omega) hS.2 rfl ?_
  refine y_icmpeq C 1638 dL_law_252 (by decide) rfl ?_
  exact Gk _ _ _ ⟨m1, M1, g, T, G, q4, hT, rfl⟩ (by omega) (by omega)
set_option maxRecDepth 100000 in
set_option maxHeartbeats 8000000 in
theorem lc_1 {Γ : yG} {b Ln : Nat} {xs : Nat → Int32} (C : yC Γ RL cL_law 9 100 601024 7293034) (Z : lC Γ b Ln xs) (hst : Γ.1.2.1.stackTraces = false) {aX aM : Nat → Nat} (hS : lS Γ aX aM) (o i : Nat) (hi : i + 6 ≤ Ln) {ws : va_W} {k n : Nat} (hk : k + 4 ≤ 601024) (hn : n + 200 ≤ 7293034) (hI : lI (yDA Γ) aX aM o ws) (Gk : ∀ (ws' : va_W) (k' n' : Nat), lI (yDA Γ) aX aM o ws' → k' ≤ k + 4 → n' ≤ n + 200 → yW Γ 9 1638 (lL b aX aM o i) [] ws' k' n') : yW Γ 9 257 (lL b aX aM o i) [] ws k n := by
  obtain ⟨m, M, g, T, G, hX, hT, rfl⟩ := hI
  obtain ⟨z1, e1, i1⟩ := l_int (xs (i + 1))
  rcases ls_load _ hst z1 m M hX i1 with ⟨r, m1, M1, q1, q2, q3, q4⟩ | ⟨r, M1, q1, q2, q3, q4⟩
  · skip
    refine y_aload C 1 dL_law_257 rfl rfl ?_
    refine y_arg C Z 0 4 1 i dL_law_258 dL_law_259 dL_law_261 dL_law_262 dL_law_263 rfl rfl (by omega) e1 ?_
    refine y_aload C 3 dL_law_264 rfl rfl ?_
    refine y_callW (st := []) (ws1 := lwo (yDA Γ) o g :: xwld aX (yDA Γ) m 0 lay_X) (ws1' := lwo (yDA Γ) o (fun j => if j = 0 then (Int32.ofInt r).toInt64 else g j) :: xwld aX (yDA Γ) m1 0 lay_X) (wb := T ++ xwld aM (yDA Γ) M 0 lay_M) (r := 0) (nP := 3) C Z dL_law_265 (xin_10 _ (List.mem_of_getElem? (i := 10) rfl)) (xin_10 _ (List.mem_of_getElem? (i := 11) rfl)) (xin_10 _ (List.mem_of_getElem? (i := 12) rfl)) (xin_10 _ (List.mem_of_getElem? (i := 13) rfl)) ⟨by decide +kernel, by decide +kernel, by decide +kernel⟩ (by omega) (by decide) rfl (Nat.le_of_ble_eq_true rfl) aX hS.1 (fun dC dI sz => r_L_load hst (by decide) q1 dC dI (yDA Γ) aX o g sz) (lw_addr _ _ _ _ _ _ _) (by omega) (by omega) rfl ?_
    refine y_istorew C dL_law_268 (by omega) rfl ?_
    refine y_aload C 3 dL_law_270 rfl rfl ?_
    refine y_arg C Z 1 5 1 i dL_law_271 dL_law_272 dL_law_274 dL_law_275 dL_law_276 rfl rfl (by omega) e1 ?_
    refine y_callXr (wa := lwo (yDA Γ) o (fun j => if j = 0 then (Int32.ofInt r).toInt64 else g j) :: xwld aX (yDA Γ) m1 0 lay_X) (wb := T) (st := []) (av := [.inl z1]) (b := 0) (layY := lay_M) C aM dL_law_277 (xin_18 _ (List.mem_of_getElem? (i := 12) rfl)) xy_X11_load xi_X11_load xs_X11_load (by omega) (by decide) rfl ⟨_, _, rfl⟩ rfl (Nat.le_of_ble_eq_true rfl) q2 (by omega) (by omega) hS.2 rfl ?_
    refine y_istorew C dL_law_280 (by omega) rfl ?_
    refine y_aload C 4 dL_law_282 rfl rfl ?_
    refine y_callXr (wa := lwo (yDA Γ) o (fun j => if j = 0 then (Int32.ofInt r).toInt64 else g j) :: xwld aX (yDA Γ) m1 0 lay_X) (wb := T) (st := []) (av := []) (b := 0) (layY := lay_M) C aM dL_law_283 (xin_23 _ (List.mem_of_getElem? (i := 19) rfl)) xy_X11_thrown xi_X11_thrown xs_X11_thrown (by omega) (by decide) rfl ⟨_, _, rfl⟩ rfl (Nat.le_of_ble_eq_true rfl) (c_m_thrown _ _ 0 (by unfold f_m_thrown; rw [q3])) (by omega) (by omega) hS.2 rfl ?_
    refine y_iloadw C 1 dL_law_286 rfl ?_
    refine y_icmpeq C 293 dL_law_288 (by decide) (by decide) ?_
    refine y_iloadw C 1 dL_law_293 rfl ?_
    refine y_ifne0 C 310 dL_law_295 (by decide) ?_
    refine y_aload C 5 dL_law_298 rfl rfl ?_
    refine y_iconst (v := 0) C dL_law_299 (by decide) ?_
    refine y_laload0 (g := fun j => if j = 0 then (Int32.ofInt r).toInt64 else g j) C 0 dL_law_300 rfl ?_
    refine y_iloadw C 0 dL_law_301 rfl ?_
    refine y_i2l C dL_law_303 rfl ?_
    refine y_lcmp0 C dL_law_304 rfl ?_
    refine y_ifeq0 C 310 dL_law_305 (by decide) ?_
    refine y_goto C 1638 dL_law_310 (by decide) ?_
    refine y_sub [2, 3, 4, 5, 6] rfl ?_
    exact Gk _ _ _ ⟨m1, M1, _, T, G, q4, hT, rfl⟩ (by omega) (by omega)
  · skip
    refine y_aload C 1 dL_law_257 rfl rfl ?_
    refine y_arg C Z 0 4 1 i dL_law_258 dL_law_259 dL_law_261 dL_law_262 dL_law_263 rfl rfl (by omega) e1 ?_
    refine y_aload C 3 dL_law_264 rfl rfl ?_
    refine y_callW (st := []) (ws1 := lwo (yDA Γ) o g :: xwld aX (yDA Γ) m 0 lay_X) (ws1' := lwo (yDA Γ) o g :: xwld aX (yDA Γ) m 0 lay_X) (wb := T ++ xwld aM (yDA Γ) M 0 lay_M) (r := 1) (nP := 3) C Z dL_law_265 (xin_10 _ (List.mem_of_getElem? (i := 10) rfl)) (xin_10 _ (List.mem_of_getElem? (i := 11) rfl)) (xin_10 _ (List.mem_of_getElem? (i := 12) rfl)) (xin_10 _ (List.mem_of_getElem? (i := 13) rfl)) ⟨by decide +kernel, by decide +kernel, by decide +kernel⟩ (by omega) (by decide) rfl (Nat.le_of_ble_eq_true rfl) aX hS.1 (fun dC dI sz => s1_L_load hst (by decide) q1 dC dI (yDA Γ) aX o g sz) (lw_addr _ _ _ _ _ _ _) (by omega) (by omega) rfl ?_
    refine y_istorew C dL_law_268 (by omega) rfl ?_
    refine y_aload C 3 dL_law_270 rfl rfl ?_
    refine y_arg C Z 1 5 1 i dL_law_271 dL_law_272 dL_law_274 dL_law_275 dL_law_276 rfl rfl (by omega) e1 ?_
    refine y_callXr (wa := lwo (yDA Γ) o g :: xwld aX (yDA Γ) m 0 lay_X) (wb := T) (st := []) (av := [.inl z1]) (b := 0) (layY := lay_M) C aM dL_law_277 (xin_18 _ (List.mem_of_getElem? (i := 12) rfl)) xy_X11_load xi_X11_load xs_X11_load (by omega) (by decide) rfl ⟨_, _, rfl⟩ rfl (Nat.le_of_ble_eq_true rfl) q2 (by omega) (by omega) hS.2 rfl ?_
    refine y_istorew C dL_law_280 (by omega) rfl ?_
    refine y_aload C 4 dL_law_282 rfl rfl ?_
    refine y_callXr (wa := lwo (yDA Γ) o g :: xwld aX (yDA Γ) m 0 lay_X) (wb := T) (st := []) (av := []) (b := 0) (layY := lay_M) C aM dL_law_283 (xin_23 _ (List.mem_of_getElem? (i := 19) rfl)) xy_X11_thrown xi_X11_thrown xs_X11_thrown (by omega) (by decide) rfl ⟨_, _, rfl⟩ rfl (Nat.le_of_ble_eq_true rfl) (c_m_thrown _ _ 1 (by unfold f_m_thrown; rw [q3])) (by omega) (by omega) hS.2 rfl ?_
    refine y_iloadw C 1 dL_law_286 rfl ?_
    refine y_icmpeq C 293 dL_law_288 (by decide) (by decide) ?_
    refine y_iloadw C 1 dL_law_293 rfl ?_
    refine y_ifne1 C 310 dL_law_295 (by decide) (by decide) ?_
    refine y_goto C 1638 dL_law_310 (by decide) ?_
    refine y_sub [2, 3, 4, 5, 6] rfl ?_
    exact Gk _ _ _ ⟨m, M1, _, T, G, q4, hT, rfl⟩ (by omega) (by omega)
set_option maxRecDepth 100000 in
set_option maxHeartbeats 8000000 in
theorem lc_2 {Γ : yG} {b Ln : Nat} {xs : Nat → Int32} (C : yC Γ RL cL_law 9 100 601024 7293034) (Z : lC Γ b Ln xs) (hst : Γ.1.2.1.stackTraces = false) {aX aM : Nat → Nat} (hS : lS Γ aX aM) (o i : Nat) (hi : i + 6 ≤ Ln) {ws : va_W} {k n : Nat} (hk : k + 4 ≤ 601024) (hn : n + 200 ≤ 7293034) (hI : lI (yDA Γ) aX aM o ws) (Gk : ∀ (ws' : va_W) (k' n' : Nat), lI (yDA Γ) aX aM o ws' → k' ≤ k + 4 → n' ≤ n + 200 → yW Γ 9 1638 (lL b aX aM o i) [] ws' k' n') : yW Γ 9 313 (lL b aX aM o i) [] ws k n := by
  obtain ⟨m, M, g, T, G, hX, hT, rfl⟩ := hI
  obtain ⟨r, m1, M1, q1, q2, q3, q4⟩ := ls_errorPosition _ hst  m M hX
  refine y_aload C 1 dL_law_313 rfl rfl ?_
  refine y_callXm (wa := [lwo (yDA Γ) o g]) (wb := T ++ xwld aM (yDA Γ) M 0 lay_M) (st := []) (av := []) (b := 0) (layY := lay_X) (m := m) C aX dL_law_314 (xin_23 _ (List.mem_of_getElem? (i := 23) rfl)) xy_X10_errorPosition xi_X10_errorPosition xs_X10_errorPosition (by omega) (by decide) rfl ⟨_, _, rfl⟩ rfl (Nat.le_of_ble_eq_true rfl) q1 (by omega) (by omega) hS.1 rfl ?_
  refine y_aload C 2 dL_law_317 rfl rfl ?_
  refine y_callXr (wa := lwo (yDA Γ) o g :: xwld aX (yDA Γ) m1 0 lay_X) (wb := T) (st := [.int (Int32.ofInt r)]) (av := []) (b := 0) (layY := lay_M) C aM dL_law_318 (xin_24 _ (List.mem_of_getElem? (i := 3) rfl)) xy_X11_errorPosition xi_X11_errorPosition xs_X11_errorPosition (by omega) (by decide) rfl ⟨_, _, rfl⟩ rfl (Nat.le_of_ble_eq_true rfl) q2 (by omega) (by omega) hS.2 rfl ?_
  refine y_icmpeq C 1638 dL_law_321 (by decide) rfl ?_
  exact Gk _ _ _ ⟨m1, M1, g, T, G, q4, hT, rfl⟩ (by omega) (by omega)
set_option maxRecDepth 100000 in
set_option maxHeartbeats 8000000 in
theorem lc_3 {Γ : yG} {b Ln : Nat} {xs : Nat → Int32} (C : yC Γ RL cL_law 9 100 601024 7293034) (Z : lC Γ b Ln xs) (hst : Γ.1.2.1.stackTraces = false) {aX aM : Nat → Nat} (hS : lS Γ aX aM) (o i : Nat) (hi : i + 6 ≤ Ln) {ws : va_W} {k n : Nat} (hk : k + 4 ≤ 601024) (hn : n + 200 ≤ 7293034) (hI : lI (yDA Γ) aX aM o ws) (Gk : ∀ (ws' : va_W) (k' n' : Nat), lI (yDA Γ) aX aM o ws' → k' ≤ k + 4 → n' ≤ n + 200 → yW Γ 9 1638 (lL b aX aM o i) [] ws' k' n') : yW Γ 9 326 (lL b aX aM o i) [] ws k n := by
  obtain ⟨m, M, g, T, G, hX, hT, rfl⟩ := hI
  obtain ⟨z1, e1, i1⟩ := l_int (xs (i + 1))
  rcases ls_size _ hst z1 m M hX i1 with ⟨r, m1, M1, q1, q2, q3, q4⟩ | ⟨r, M1, q1, q2, q3, q4⟩
  · skip
    refine y_aload C 1 dL_law_326 rfl rfl ?_
    refine y_arg C Z 0 4 1 i dL_law_327 dL_law_328 dL_law_330 dL_law_331 dL_law_332 rfl rfl (by omega) e1 ?_
    refine y_aload C 3 dL_law_333 rfl rfl ?_
    refine y_callW (st := []) (ws1 := lwo (yDA Γ) o g :: xwld aX (yDA Γ) m 0 lay_X) (ws1' := lwo (yDA Γ) o (fun j => if j = 0 then (Int32.ofInt r).toInt64 else g j) :: xwld aX (yDA Γ) m1 0 lay_X) (wb := T ++ xwld aM (yDA Γ) M 0 lay_M) (r := 0) (nP := 3) C Z dL_law_334 (xin_24 _ (List.mem_of_getElem? (i := 7) rfl)) (xin_24 _ (List.mem_of_getElem? (i := 8) rfl)) (xin_10 _ (List.mem_of_getElem? (i := 12) rfl)) (xin_24 _ (List.mem_of_getElem? (i := 9) rfl)) ⟨by decide +kernel, by decide +kernel, by decide +kernel⟩ (by omega) (by decide) rfl (Nat.le_of_ble_eq_true rfl) aX hS.1 (fun dC dI sz => r_L_size hst (by decide) q1 dC dI (yDA Γ) aX o g sz) (lw_addr _ _ _ _ _ _ _) (by omega) (by omega) rfl ?_
    refine y_istorew C dL_law_337 (by omega) rfl ?_
    refine y_aload C 3 dL_law_339 rfl rfl ?_
    refine y_arg C Z 1 5 1 i dL_law_340 dL_law_341 dL_law_343 dL_law_344 dL_law_345 rfl rfl (by omega) e1 ?_
    refine y_callXr (wa := lwo (yDA Γ) o (fun j => if j = 0 then (Int32.ofInt r).toInt64 else g j) :: xwld aX (yDA Γ) m1 0 lay_X) (wb := T) (st := []) (av := [.inl z1]) (b := 0) (layY := lay_M) C aM dL_law_346 (xin_25 _ (List.mem_of_getElem? (i := 4) rfl)) xy_X11_size xi_X11_size xs_X11_size (by omega) (by decide) rfl ⟨_, _, rfl⟩ rfl (Nat.le_of_ble_eq_true rfl) q2 (by omega) (by omega) hS.2 rfl ?_
    refine y_istorew C dL_law_349 (by omega) rfl ?_
    refine y_aload C 4 dL_law_351 rfl rfl ?_
    refine y_callXr (wa := lwo (yDA Γ) o (fun j => if j = 0 then (Int32.ofInt r).toInt64 else g j) :: xwld aX (yDA Γ) m1 0 lay_X) (wb := T) (st := []) (av := []) (b := 0) (layY := lay_M) C aM dL_law_352 (xin_23 _ (List.mem_of_getElem? (i := 19) rfl)) xy_X11_thrown xi_X11_thrown xs_X11_thrown (by omega) (by decide) rfl ⟨_, _, rfl⟩ rfl (Nat.le_of_ble_eq_true rfl) (c_m_thrown _ _ 0 (by unfold f_m_thrown; rw [q3])) (by omega) (by omega) hS.2 rfl ?_
    refine y_iloadw C 1 dL_law_355 rfl ?_
    refine y_icmpeq C 362 dL_law_357 (by decide) (by decide) ?_
    refine y_iloadw C 1 dL_law_362 rfl ?_
    refine y_ifne0 C 379 dL_law_364 (by decide) ?_
    refine y_aload C 5 dL_law_367 rfl rfl ?_
    refine y_iconst (v := 0) C dL_law_368 (by decide) ?_
    refine y_laload0 (g := fun j => if j = 0 then (Int32.ofInt r).toInt64 else g j) C 0 dL_law_369 rfl ?_
    refine y_iloadw C 0 dL_law_370 rfl ?_
    refine y_i2l C dL_law_372 rfl ?_
    refine y_lcmp0 C dL_law_373 rfl ?_
    refine y_ifeq0 C 379 dL_law_374 (by decide) ?_
    refine y_goto C 1638 dL_law_379 (by decide) ?_
    refine y_sub [2, 3, 4, 5, 6] rfl ?_
    exact Gk _ _ _ ⟨m1, M1, _, T, G, q4, hT, rfl⟩ (by omega) (by omega)
  · skip
    refine y_aload C 1 dL_law_326 rfl rfl ?_
    refine y_arg C Z 0 4 1 i dL_law_327 dL_law_328 dL_law_330 dL_law_331 dL_law_332 rfl rfl (by omega) e1 ?_
    refine y_aload C 3 dL_law_333 rfl rfl ?_
    refine y_callW (st := []) (ws1 := lwo (yDA Γ) o g :: xwld aX (yDA Γ) m 0 lay_X) (ws1' := lwo (yDA Γ) o g :: xwld aX (yDA Γ) m 0 lay_X) (wb := T ++ xwld aM (yDA Γ) M 0 lay_M) (r := 1) (nP := 3) C Z dL_law_334 (xin_24 _ (List.mem_of_getElem? (i := 7) rfl)) (xin_24 _ (List.mem_of_getElem? (i := 8) rfl)) (xin_10 _ (List.mem_of_getElem? (i := 12) rfl)) (xin_24 _ (List.mem_of_getElem? (i := 9) rfl)) ⟨by decide +kernel, by decide +kernel, by decide +kernel⟩ (by omega) (by decide) rfl (Nat.le_of_ble_eq_true rfl) aX hS.1 (fun dC dI sz => s2_L_size hst (by decide) q1 dC dI (yDA Γ) aX o g sz) (lw_addr _ _ _ _ _ _ _) (by omega) (by omega) rfl ?_
    refine y_istorew C dL_law_337 (by omega) rfl ?_
    refine y_aload C 3 dL_law_339 rfl rfl ?_
    refine y_arg C Z 1 5 1 i dL_law_340 dL_law_341 dL_law_343 dL_law_344 dL_law_345 rfl rfl (by omega) e1 ?_
    refine y_callXr (wa := lwo (yDA Γ) o g :: xwld aX (yDA Γ) m 0 lay_X) (wb := T) (st := []) (av := [.inl z1]) (b := 0) (layY := lay_M) C aM dL_law_346 (xin_25 _ (List.mem_of_getElem? (i := 4) rfl)) xy_X11_size xi_X11_size xs_X11_size (by omega) (by decide) rfl ⟨_, _, rfl⟩ rfl (Nat.le_of_ble_eq_true rfl) q2 (by omega) (by omega) hS.2 rfl ?_
    refine y_istorew C dL_law_349 (by omega) rfl ?_
    refine y_aload C 4 dL_law_351 rfl rfl ?_
    refine y_callXr (wa := lwo (yDA Γ) o g :: xwld aX (yDA Γ) m 0 lay_X) (wb := T) (st := []) (av := []) (b := 0) (layY := lay_M) C aM dL_law_352 (xin_23 _ (List.mem_of_getElem? (i := 19) rfl)) xy_X11_thrown xi_X11_thrown xs_X11_thrown (by omega) (by decide) rfl ⟨_, _, rfl⟩ rfl (Nat.le_of_ble_eq_true rfl) (c_m_thrown _ _ 1 (by unfold f_m_thrown; rw [q3])) (by omega) (by omega) hS.2 rfl ?_
    refine y_iloadw C 1 dL_law_355 rfl ?_
    refine y_icmpeq C 362 dL_law_357 (by decide) (by decide) ?_
    refine y_iloadw C 1 dL_law_362 rfl ?_
    refine y_ifne1 C 379 dL_law_364 (by decide) (by decide) ?_
    refine y_goto C 1638 dL_law_379 (by decide) ?_
    refine y_sub [2, 3, 4, 5, 6] rfl ?_
    exact Gk _ _ _ ⟨m, M1, _, T, G, q4, hT, rfl⟩ (by omega) (by omega)
set_option maxRecDepth 100000 in
set_option maxHeartbeats 8000000 in
theorem lc_4 {Γ : yG} {b Ln : Nat} {xs : Nat → Int32} (C : yC Γ RL cL_law 9 100 601024 7293034) (Z : lC Γ b Ln xs) (hst : Γ.1.2.1.stackTraces = false) {aX aM : Nat → Nat} (hS : lS Γ aX aM) (o i : Nat) (hi : i + 6 ≤ Ln) {ws : va_W} {k n : Nat} (hk : k + 4 ≤ 601024) (hn : n + 200 ≤ 7293034) (hI : lI (yDA Γ) aX aM o ws) (Gk : ∀ (ws' : va_W) (k' n' : Nat), lI (yDA Γ) aX aM o ws' → k' ≤ k + 4 → n' ≤ n + 200 → yW Γ 9 1638 (lL b aX aM o i) [] ws' k' n') : yW Γ 9 382 (lL b aX aM o i) [] ws k n := by
  obtain ⟨m, M, g, T, G, hX, hT, rfl⟩ := hI
  obtain ⟨z1, e1, i1⟩ := l_int (xs (i + 1))
  rcases ls_total _ hst z1 m M hX i1 with ⟨r, m1, M1, q1, q2, q3, q4⟩ | ⟨r, M1, q1, q2, q3, q4⟩
  · skip
    refine y_aload C 1 dL_law_382 rfl rfl ?_
    refine y_arg C Z 0 4 1 i dL_law_383 dL_law_384 dL_law_386 dL_law_387 dL_law_388 rfl rfl (by omega) e1 ?_
    refine y_aload C 3 dL_law_389 rfl rfl ?_
    refine y_callW (st := []) (ws1 := lwo (yDA Γ) o g :: xwld aX (yDA Γ) m 0 lay_X) (ws1' := lwo (yDA Γ) o (fun j => if j = 0 then (Int32.ofInt r).toInt64 else g j) :: xwld aX (yDA Γ) m1 0 lay_X) (wb := T ++ xwld aM (yDA Γ) M 0 lay_M) (r := 0) (nP := 3) C Z dL_law_390 (xin_25 _ (List.mem_of_getElem? (i := 16) rfl)) (xin_25 _ (List.mem_of_getElem? (i := 17) rfl)) (xin_10 _ (List.mem_of_getElem? (i := 12) rfl)) (xin_25 _ (List.mem_of_getElem? (i := 18) rfl)) ⟨by decide +kernel, by decide +kernel, by decide +kernel⟩ (by omega) (by decide) rfl (Nat.le_of_ble_eq_true rfl) aX hS.1 (fun dC dI sz => r_L_total hst (by decide) q1 dC dI (yDA Γ) aX o g sz) (lw_addr _ _ _ _ _ _ _) (by omega) (by omega) rfl ?_
    refine y_istorew C dL_law_393 (by omega) rfl ?_
    refine y_aload C 3 dL_law_395 rfl rfl ?_
    refine y_arg C Z 1 5 1 i dL_law_396 dL_law_397 dL_law_399 dL_law_400 dL_law_401 rfl rfl (by omega) e1 ?_
    refine y_callXr (wa := lwo (yDA Γ) o (fun j => if j = 0 then (Int32.ofInt r).toInt64 else g j) :: xwld aX (yDA Γ) m1 0 lay_X) (wb := T) (st := []) (av := [.inl z1]) (b := 0) (layY := lay_M) C aM dL_law_402 (xin_26 _ (List.mem_of_getElem? (i := 0) rfl)) xy_X11_total xi_X11_total xs_X11_total (by omega) (by decide) rfl ⟨_, _, rfl⟩ rfl (Nat.le_of_ble_eq_true rfl) q2 (by omega) (by omega) hS.2 rfl ?_
    refine y_istorew C dL_law_405 (by omega) rfl ?_
    refine y_aload C 4 dL_law_407 rfl rfl ?_
    refine y_callXr (wa := lwo (yDA Γ) o (fun j => if j = 0 then (Int32.ofInt r).toInt64 else g j) :: xwld aX (yDA Γ) m1 0 lay_X) (wb := T) (st := []) (av := []) (b := 0) (layY := lay_M) C aM dL_law_408 (xin_23 _ (List.mem_of_getElem? (i := 19) rfl)) xy_X11_thrown xi_X11_thrown xs_X11_thrown (by omega) (by decide) rfl ⟨_, _, rfl⟩ rfl (Nat.le_of_ble_eq_true rfl) (c_m_thrown _ _ 0 (by unfold f_m_thrown; rw [q3])) (by omega) (by omega) hS.2 rfl ?_
    refine y_iloadw C 1 dL_law_411 rfl ?_
    refine y_icmpeq C 418 dL_law_413 (by decide) (by decide) ?_
    refine y_iloadw C 1 dL_law_418 rfl ?_
    refine y_ifne0 C 435 dL_law_420 (by decide) ?_
    refine y_aload C 5 dL_law_423 rfl rfl ?_
    refine y_iconst (v := 0) C dL_law_424 (by decide) ?_
    refine y_laload0 (g := fun j => if j = 0 then (Int32.ofInt r).toInt64 else g j) C 0 dL_law_425 rfl ?_
    refine y_iloadw C 0 dL_law_426 rfl ?_
    refine y_i2l C dL_law_428 rfl ?_
    refine y_lcmp0 C dL_law_429 rfl ?_
    refine y_ifeq0 C 435 dL_law_430 (by decide) ?_
    refine y_goto C 1638 dL_law_435 (by decide) ?_
    refine y_sub [2, 3, 4, 5, 6] rfl ?_
    exact Gk _ _ _ ⟨m1, M1, _, T, G, q4, hT, rfl⟩ (by omega) (by omega)
  · skip
    refine y_aload C 1 dL_law_382 rfl rfl ?_
    refine y_arg C Z 0 4 1 i dL_law_383 dL_law_384 dL_law_386 dL_law_387 dL_law_388 rfl rfl (by omega) e1 ?_
    refine y_aload C 3 dL_law_389 rfl rfl ?_
    refine y_callW (st := []) (ws1 := lwo (yDA Γ) o g :: xwld aX (yDA Γ) m 0 lay_X) (ws1' := lwo (yDA Γ) o g :: xwld aX (yDA Γ) m 0 lay_X) (wb := T ++ xwld aM (yDA Γ) M 0 lay_M) (r := 1) (nP := 3) C Z dL_law_390 (xin_25 _ (List.mem_of_getElem? (i := 16) rfl)) (xin_25 _ (List.mem_of_getElem? (i := 17) rfl)) (xin_10 _ (List.mem_of_getElem? (i := 12) rfl)) (xin_25 _ (List.mem_of_getElem? (i := 18) rfl)) ⟨by decide +kernel, by decide +kernel, by decide +kernel⟩ (by omega) (by decide) rfl (Nat.le_of_ble_eq_true rfl) aX hS.1 (fun dC dI sz => s2_L_total hst (by decide) q1 dC dI (yDA Γ) aX o g sz) (lw_addr _ _ _ _ _ _ _) (by omega) (by omega) rfl ?_
    refine y_istorew C dL_law_393 (by omega) rfl ?_
    refine y_aload C 3 dL_law_395 rfl rfl ?_
    refine y_arg C Z 1 5 1 i dL_law_396 dL_law_397 dL_law_399 dL_law_400 dL_law_401 rfl rfl (by omega) e1 ?_
    refine y_callXr (wa := lwo (yDA Γ) o g :: xwld aX (yDA Γ) m 0 lay_X) (wb := T) (st := []) (av := [.inl z1]) (b := 0) (layY := lay_M) C aM dL_law_402 (xin_26 _ (List.mem_of_getElem? (i := 0) rfl)) xy_X11_total xi_X11_total xs_X11_total (by omega) (by decide) rfl ⟨_, _, rfl⟩ rfl (Nat.le_of_ble_eq_true rfl) q2 (by omega) (by omega) hS.2 rfl ?_
    refine y_istorew C dL_law_405 (by omega) rfl ?_
    refine y_aload C 4 dL_law_407 rfl rfl ?_
    refine y_callXr (wa := lwo (yDA Γ) o g :: xwld aX (yDA Γ) m 0 lay_X) (wb := T) (st := []) (av := []) (b := 0) (layY := lay_M) C aM dL_law_408 (xin_23 _ (List.mem_of_getElem? (i := 19) rfl)) xy_X11_thrown xi_X11_thrown xs_X11_thrown (by omega) (by decide) rfl ⟨_, _, rfl⟩ rfl (Nat.le_of_ble_eq_true rfl) (c_m_thrown _ _ 1 (by unfold f_m_thrown; rw [q3])) (by omega) (by omega) hS.2 rfl ?_
    refine y_iloadw C 1 dL_law_411 rfl ?_
    refine y_icmpeq C 418 dL_law_413 (by decide) (by decide) ?_
    refine y_iloadw C 1 dL_law_418 rfl ?_
    refine y_ifne1 C 435 dL_law_420 (by decide) (by decide) ?_
    refine y_goto C 1638 dL_law_435 (by decide) ?_
    refine y_sub [2, 3, 4, 5, 6] rfl ?_
    exact Gk _ _ _ ⟨m, M1, _, T, G, q4, hT, rfl⟩ (by omega) (by omega)
set_option maxRecDepth 100000 in
set_option maxHeartbeats 8000000 in
theorem lc_5 {Γ : yG} {b Ln : Nat} {xs : Nat → Int32} (C : yC Γ RL cL_law 9 100 601024 7293034) (Z : lC Γ b Ln xs) (hst : Γ.1.2.1.stackTraces = false) {aX aM : Nat → Nat} (hS : lS Γ aX aM) (o i : Nat) (hi : i + 6 ≤ Ln) {ws : va_W} {k n : Nat} (hk : k + 4 ≤ 601024) (hn : n + 200 ≤ 7293034) (hI : lI (yDA Γ) aX aM o ws) (Gk : ∀ (ws' : va_W) (k' n' : Nat), lI (yDA Γ) aX aM o ws' → k' ≤ k + 4 → n' ≤ n + 200 → yW Γ 9 1638 (lL b aX aM o i) [] ws' k' n') : yW Γ 9 438 (lL b aX aM o i) [] ws k n := by
  obtain ⟨m, M, g, T, G, hX, hT, rfl⟩ := hI
  obtain ⟨z1, e1, i1⟩ := l_int (xs (i + 1))
  obtain ⟨z2, e2, i2⟩ := l_int (xs (i + 2))
  rcases ls_end _ hst z1 z2 m M hX i1 i2 with ⟨r, m1, M1, q1, q2, q3, q4⟩ | ⟨r, M1, q1, q2, q3, q4⟩
  · skip
    refine y_aload C 1 dL_law_438 rfl rfl ?_
    refine y_arg C Z 0 4 1 i dL_law_439 dL_law_440 dL_law_442 dL_law_443 dL_law_444 rfl rfl (by omega) e1 ?_
    refine y_arg C Z 0 4 2 i dL_law_445 dL_law_446 dL_law_448 dL_law_449 dL_law_450 rfl rfl (by omega) e2 ?_
    refine y_aload C 3 dL_law_451 rfl rfl ?_
    refine y_callW (st := []) (ws1 := lwo (yDA Γ) o g :: xwld aX (yDA Γ) m 0 lay_X) (ws1' := lwo (yDA Γ) o (fun j => if j = 0 then (Int32.ofInt r).toInt64 else g j) :: xwld aX (yDA Γ) m1 0 lay_X) (wb := T ++ xwld aM (yDA Γ) M 0 lay_M) (r := 0) (nP := 4) C Z dL_law_452 (xin_26 _ (List.mem_of_getElem? (i := 4) rfl)) (xin_26 _ (List.mem_of_getElem? (i := 5) rfl)) (xin_10 _ (List.mem_of_getElem? (i := 12) rfl)) (xin_26 _ (List.mem_of_getElem? (i := 6) rfl)) ⟨by decide +kernel, by decide +kernel, by decide +kernel⟩ (by omega) (by decide) rfl (Nat.le_of_ble_eq_true rfl) aX hS.1 (fun dC dI sz => r_L_end hst (by decide) q1 dC dI (yDA Γ) aX o g sz) (lw_addr _ _ _ _ _ _ _) (by omega) (by omega) rfl ?_
    refine y_istorew C dL_law_455 (by omega) rfl ?_
    refine y_aload C 3 dL_law_457 rfl rfl ?_
    refine y_arg C Z 1 5 1 i dL_law_458 dL_law_459 dL_law_461 dL_law_462 dL_law_463 rfl rfl (by omega) e1 ?_
    refine y_arg C Z 1 5 2 i dL_law_464 dL_law_465 dL_law_467 dL_law_468 dL_law_469 rfl rfl (by omega) e2 ?_
    refine y_callXr (wa := lwo (yDA Γ) o (fun j => if j = 0 then (Int32.ofInt r).toInt64 else g j) :: xwld aX (yDA Γ) m1 0 lay_X) (wb := T) (st := []) (av := [.inl z1, .inl z2]) (b := 0) (layY := lay_M) C aM dL_law_470 (xin_27 _ (List.mem_of_getElem? (i := 7) rfl)) xy_X11_end xi_X11_end xs_X11_end (by omega) (by decide) rfl ⟨_, _, rfl⟩ rfl (Nat.le_of_ble_eq_true rfl) q2 (by omega) (by omega) hS.2 rfl ?_
    refine y_istorew C dL_law_473 (by omega) rfl ?_
    refine y_aload C 4 dL_law_475 rfl rfl ?_
    refine y_callXr (wa := lwo (yDA Γ) o (fun j => if j = 0 then (Int32.ofInt r).toInt64 else g j) :: xwld aX (yDA Γ) m1 0 lay_X) (wb := T) (st := []) (av := []) (b := 0) (layY := lay_M) C aM dL_law_476 (xin_23 _ (List.mem_of_getElem? (i := 19) rfl)) xy_X11_thrown xi_X11_thrown xs_X11_thrown (by omega) (by decide) rfl ⟨_, _, rfl⟩ rfl (Nat.le_of_ble_eq_true rfl) (c_m_thrown _ _ 0 (by unfold f_m_thrown; rw [q3])) (by omega) (by omega) hS.2 rfl ?_
    refine y_iloadw C 1 dL_law_479 rfl ?_
    refine y_icmpeq C 486 dL_law_481 (by decide) (by decide) ?_
    refine y_iloadw C 1 dL_law_486 rfl ?_
    refine y_ifne0 C 503 dL_law_488 (by decide) ?_
    refine y_aload C 5 dL_law_491 rfl rfl ?_
    refine y_iconst (v := 0) C dL_law_492 (by decide) ?_
    refine y_laload0 (g := fun j => if j = 0 then (Int32.ofInt r).toInt64 else g j) C 0 dL_law_493 rfl ?_
    refine y_iloadw C 0 dL_law_494 rfl ?_
    refine y_i2l C dL_law_496 rfl ?_
    refine y_lcmp0 C dL_law_497 rfl ?_
    refine y_ifeq0 C 503 dL_law_498 (by decide) ?_
    refine y_goto C 1638 dL_law_503 (by decide) ?_
    refine y_sub [2, 3, 4, 5, 6] rfl ?_
    exact Gk _ _ _ ⟨m1, M1, _, T, G, q4, hT, rfl⟩ (by omega) (by omega)
  · skip
    refine y_aload C 1 dL_law_438 rfl rfl ?_
    refine y_arg C Z 0 4 1 i dL_law_439 dL_law_440 dL_law_442 dL_law_443 dL_law_444 rfl rfl (by omega) e1 ?_
    refine y_arg C Z 0 4 2 i dL_law_445 dL_law_446 dL_law_448 dL_law_449 dL_law_450 rfl rfl (by omega) e2 ?_
    refine y_aload C 3 dL_law_451 rfl rfl ?_
    refine y_callW (st := []) (ws1 := lwo (yDA Γ) o g :: xwld aX (yDA Γ) m 0 lay_X) (ws1' := lwo (yDA Γ) o g :: xwld aX (yDA Γ) m 0 lay_X) (wb := T ++ xwld aM (yDA Γ) M 0 lay_M) (r := 1) (nP := 4) C Z dL_law_452 (xin_26 _ (List.mem_of_getElem? (i := 4) rfl)) (xin_26 _ (List.mem_of_getElem? (i := 5) rfl)) (xin_10 _ (List.mem_of_getElem? (i := 12) rfl)) (xin_26 _ (List.mem_of_getElem? (i := 6) rfl)) ⟨by decide +kernel, by decide +kernel, by decide +kernel⟩ (by omega) (by decide) rfl (Nat.le_of_ble_eq_true rfl) aX hS.1 (fun dC dI sz => s2_L_end hst (by decide) q1 dC dI (yDA Γ) aX o g sz) (lw_addr _ _ _ _ _ _ _) (by omega) (by omega) rfl ?_
    refine y_istorew C dL_law_455 (by omega) rfl ?_
    refine y_aload C 3 dL_law_457 rfl rfl ?_
    refine y_arg C Z 1 5 1 i dL_law_458 dL_law_459 dL_law_461 dL_law_462 dL_law_463 rfl rfl (by omega) e1 ?_
    refine y_arg C Z 1 5 2 i dL_law_464 dL_law_465 dL_law_467 dL_law_468 dL_law_469 rfl rfl (by omega) e2 ?_
    refine y_callXr (wa := lwo (yDA Γ) o g :: xwld aX (yDA Γ) m 0 lay_X) (wb := T) (st := []) (av := [.inl z1, .inl z2]) (b := 0) (layY := lay_M) C aM dL_law_470 (xin_27 _ (List.mem_of_getElem? (i := 7) rfl)) xy_X11_end xi_X11_end xs_X11_end (by omega) (by decide) rfl ⟨_, _, rfl⟩ rfl (Nat.le_of_ble_eq_true rfl) q2 (by omega) (by omega) hS.2 rfl ?_
    refine y_istorew C dL_law_473 (by omega) rfl ?_
    refine y_aload C 4 dL_law_475 rfl rfl ?_
    refine y_callXr (wa := lwo (yDA Γ) o g :: xwld aX (yDA Γ) m 0 lay_X) (wb := T) (st := []) (av := []) (b := 0) (layY := lay_M) C aM dL_law_476 (xin_23 _ (List.mem_of_getElem? (i := 19) rfl)) xy_X11_thrown xi_X11_thrown xs_X11_thrown (by omega) (by decide) rfl ⟨_, _, rfl⟩ rfl (Nat.le_of_ble_eq_true rfl) (c_m_thrown _ _ 1 (by unfold f_m_thrown; rw [q3])) (by omega) (by omega) hS.2 rfl ?_
    refine y_iloadw C 1 dL_law_479 rfl ?_
    refine y_icmpeq C 486 dL_law_481 (by decide) (by decide) ?_
    refine y_iloadw C 1 dL_law_486 rfl ?_
    refine y_ifne1 C 503 dL_law_488 (by decide) (by decide) ?_
    refine y_goto C 1638 dL_law_503 (by decide) ?_
    refine y_sub [2, 3, 4, 5, 6] rfl ?_
    exact Gk _ _ _ ⟨m, M1, _, T, G, q4, hT, rfl⟩ (by omega) (by omega)
set_option maxRecDepth 100000 in
set_option maxHeartbeats 8000000 in
theorem lc_6 {Γ : yG} {b Ln : Nat} {xs : Nat → Int32} (C : yC Γ RL cL_law 9 100 601024 7293034) (Z : lC Γ b Ln xs) (hst : Γ.1.2.1.stackTraces = false) {aX aM : Nat → Nat} (hS : lS Γ aX aM) (o i : Nat) (hi : i + 6 ≤ Ln) {ws : va_W} {k n : Nat} (hk : k + 4 ≤ 601024) (hn : n + 200 ≤ 7293034) (hI : lI (yDA Γ) aX aM o ws) (Gk : ∀ (ws' : va_W) (k' n' : Nat), lI (yDA Γ) aX aM o ws' → k' ≤ k + 4 → n' ≤ n + 200 → yW Γ 9 1638 (lL b aX aM o i) [] ws' k' n') : yW Γ 9 506 (lL b aX aM o i) [] ws k n := by
  obtain ⟨m, M, g, T, G, hX, hT, rfl⟩ := hI
  obtain ⟨z1, e1, i1⟩ := l_int (xs (i + 1))
  obtain ⟨z2, e2, i2⟩ := l_int (xs (i + 2))
  rcases ls_rate _ hst z1 z2 m M hX i1 i2 with ⟨r, m1, M1, q1, q2, q3, q4⟩ | ⟨r, M1, q1, q2, q3, q4⟩
  · skip
    refine y_aload C 1 dL_law_506 rfl rfl ?_
    refine y_arg C Z 0 4 1 i dL_law_507 dL_law_508 dL_law_510 dL_law_511 dL_law_512 rfl rfl (by omega) e1 ?_
    refine y_arg C Z 0 4 2 i dL_law_513 dL_law_514 dL_law_516 dL_law_517 dL_law_518 rfl rfl (by omega) e2 ?_
    refine y_aload C 3 dL_law_519 rfl rfl ?_
    refine y_callW (st := []) (ws1 := lwo (yDA Γ) o g :: xwld aX (yDA Γ) m 0 lay_X) (ws1' := lwo (yDA Γ) o (fun j => if j = 0 then (Int32.ofInt r).toInt64 else g j) :: xwld aX (yDA Γ) m1 0 lay_X) (wb := T ++ xwld aM (yDA Γ) M 0 lay_M) (r := 0) (nP := 4) C Z dL_law_520 (xin_28 _ (List.mem_of_getElem? (i := 8) rfl)) (xin_28 _ (List.mem_of_getElem? (i := 9) rfl)) (xin_10 _ (List.mem_of_getElem? (i := 12) rfl)) (xin_28 _ (List.mem_of_getElem? (i := 10) rfl)) ⟨by decide +kernel, by decide +kernel, by decide +kernel⟩ (by omega) (by decide) rfl (Nat.le_of_ble_eq_true rfl) aX hS.1 (fun dC dI sz => r_L_rate hst (by decide) q1 dC dI (yDA Γ) aX o g sz) (lw_addr _ _ _ _ _ _ _) (by omega) (by omega) rfl ?_
    refine y_istorew C dL_law_523 (by omega) rfl ?_
    refine y_aload C 3 dL_law_525 rfl rfl ?_
    refine y_arg C Z 1 5 1 i dL_law_526 dL_law_527 dL_law_529 dL_law_530 dL_law_531 rfl rfl (by omega) e1 ?_
    refine y_arg C Z 1 5 2 i dL_law_532 dL_law_533 dL_law_535 dL_law_536 dL_law_537 rfl rfl (by omega) e2 ?_
    refine y_callXr (wa := lwo (yDA Γ) o (fun j => if j = 0 then (Int32.ofInt r).toInt64 else g j) :: xwld aX (yDA Γ) m1 0 lay_X) (wb := T) (st := []) (av := [.inl z1, .inl z2]) (b := 0) (layY := lay_M) C aM dL_law_538 (xin_28 _ (List.mem_of_getElem? (i := 17) rfl)) xy_X11_rate xi_X11_rate xs_X11_rate (by omega) (by decide) rfl ⟨_, _, rfl⟩ rfl (Nat.le_of_ble_eq_true rfl) q2 (by omega) (by omega) hS.2 rfl ?_
    refine y_istorew C dL_law_541 (by omega) rfl ?_
    refine y_aload C 4 dL_law_543 rfl rfl ?_
    refine y_callXr (wa := lwo (yDA Γ) o (fun j => if j = 0 then (Int32.ofInt r).toInt64 else g j) :: xwld aX (yDA Γ) m1 0 lay_X) (wb := T) (st := []) (av := []) (b := 0) (layY := lay_M) C aM dL_law_544 (xin_23 _ (List.mem_of_getElem? (i := 19) rfl)) xy_X11_thrown xi_X11_thrown xs_X11_thrown (by omega) (by decide) rfl ⟨_, _, rfl⟩ rfl (Nat.le_of_ble_eq_true rfl) (c_m_thrown _ _ 0 (by unfold f_m_thrown; rw [q3])) (by omega) (by omega) hS.2 rfl ?_
    refine y_iloadw C 1 dL_law_547 rfl ?_
    refine y_icmpeq C 554 dL_law_549 (by decide) (by decide) ?_
    refine y_iloadw C 1 dL_law_554 rfl ?_
    refine y_ifne0 C 571 dL_law_556 (by decide) ?_
    refine y_aload C 5 dL_law_559 rfl rfl ?_
    refine y_iconst (v := 0) C dL_law_560 (by decide) ?_
    refine y_laload0 (g := fun j => if j = 0 then (Int32.ofInt r).toInt64 else g j) C 0 dL_law_561 rfl ?_
    refine y_iloadw C 0 dL_law_562 rfl ?_
    refine y_i2l C dL_law_564 rfl ?_
    refine y_lcmp0 C dL_law_565 rfl ?_
    refine y_ifeq0 C 571 dL_law_566 (by decide) ?_
    refine y_goto C 1638 dL_law_571 (by decide) ?_
    refine y_sub [2, 3, 4, 5, 6] rfl ?_
    exact Gk _ _ _ ⟨m1, M1, _, T, G, q4, hT, rfl⟩ (by omega) (by omega)
  · skip
    refine y_aload C 1 dL_law_506 rfl rfl ?_
    refine y_arg C Z 0 4 1 i dL_law_507 dL_law_508 dL_law_510 dL_law_511 dL_law_512 rfl rfl (by omega) e1 ?_
    refine y_arg C Z 0 4 2 i dL_law_513 dL_law_514 dL_law_516 dL_law_517 dL_law_518 rfl rfl (by omega) e2 ?_
    refine y_aload C 3 dL_law_519 rfl rfl ?_
    refine y_callW (st := []) (ws1 := lwo (yDA Γ) o g :: xwld aX (yDA Γ) m 0 lay_X) (ws1' := lwo (yDA Γ) o g :: xwld aX (yDA Γ) m 0 lay_X) (wb := T ++ xwld aM (yDA Γ) M 0 lay_M) (r := 1) (nP := 4) C Z dL_law_520 (xin_28 _ (List.mem_of_getElem? (i := 8) rfl)) (xin_28 _ (List.mem_of_getElem? (i := 9) rfl)) (xin_10 _ (List.mem_of_getElem? (i := 12) rfl)) (xin_28 _ (List.mem_of_getElem? (i := 10) rfl)) ⟨by decide +kernel, by decide +kernel, by decide +kernel⟩ (by omega) (by decide) rfl (Nat.le_of_ble_eq_true rfl) aX hS.1 (fun dC dI sz => s2_L_rate hst (by decide) q1 dC dI (yDA Γ) aX o g sz) (lw_addr _ _ _ _ _ _ _) (by omega) (by omega) rfl ?_
    refine y_istorew C dL_law_523 (by omega) rfl ?_
    refine y_aload C 3 dL_law_525 rfl rfl ?_
    refine y_arg C Z 1 5 1 i dL_law_526 dL_law_527 dL_law_529 dL_law_530 dL_law_531 rfl rfl (by omega) e1 ?_
    refine y_arg C Z 1 5 2 i dL_law_532 dL_law_533 dL_law_535 dL_law_536 dL_law_537 rfl rfl (by omega) e2 ?_
    refine y_callXr (wa := lwo (yDA Γ) o g :: xwld aX (yDA Γ) m 0 lay_X) (wb := T) (st := []) (av := [.inl z1, .inl z2]) (b := 0) (layY := lay_M) C aM dL_law_538 (xin_28 _ (List.mem_of_getElem? (i := 17) rfl)) xy_X11_rate xi_X11_rate xs_X11_rate (by omega) (by decide) rfl ⟨_, _, rfl⟩ rfl (Nat.le_of_ble_eq_true rfl) q2 (by omega) (by omega) hS.2 rfl ?_
    refine y_istorew C dL_law_541 (by omega) rfl ?_
    refine y_aload C 4 dL_law_543 rfl rfl ?_
    refine y_callXr (wa := lwo (yDA Γ) o g :: xwld aX (yDA Γ) m 0 lay_X) (wb := T) (st := []) (av := []) (b := 0) (layY := lay_M) C aM dL_law_544 (xin_23 _ (List.mem_of_getElem? (i := 19) rfl)) xy_X11_thrown xi_X11_thrown xs_X11_thrown (by omega) (by decide) rfl ⟨_, _, rfl⟩ rfl (Nat.le_of_ble_eq_true rfl) (c_m_thrown _ _ 1 (by unfold f_m_thrown; rw [q3])) (by omega) (by omega) hS.2 rfl ?_
    refine y_iloadw C 1 dL_law_547 rfl ?_
    refine y_icmpeq C 554 dL_law_549 (by decide) (by decide) ?_
    refine y_iloadw C 1 dL_law_554 rfl ?_
    refine y_ifne1 C 571 dL_law_556 (by decide) (by decide) ?_
    refine y_goto C 1638 dL_law_571 (by decide) ?_
    refine y_sub [2, 3, 4, 5, 6] rfl ?_
    exact Gk _ _ _ ⟨m, M1, _, T, G, q4, hT, rfl⟩ (by omega) (by omega)
set_option maxRecDepth 100000 in
set_option maxHeartbeats 8000000 in
theorem lc_7 {Γ : yG} {b Ln : Nat} {xs : Nat → Int32} (C : yC Γ RL cL_law 9 100 601024 7293034) (Z : lC Γ b Ln xs) (hst : Γ.1.2.1.stackTraces = false) {aX aM : Nat → Nat} (hS : lS Γ aX aM) (o i : Nat) (hi : i + 6 ≤ Ln) {ws : va_W} {k n : Nat} (hk : k + 4 ≤ 601024) (hn : n + 200 ≤ 7293034) (hI : lI (yDA Γ) aX aM o ws) (Gk : ∀ (ws' : va_W) (k' n' : Nat), lI (yDA Γ) aX aM o ws' → k' ≤ k + 4 → n' ≤ n + 200 → yW Γ 9 1638 (lL b aX aM o i) [] ws' k' n') : yW Γ 9 574 (lL b aX aM o i) [] ws k n := by
  obtain ⟨m, M, g, T, G, hX, hT, rfl⟩ := hI
  obtain ⟨z1, e1, i1⟩ := l_int (xs (i + 1))
  obtain ⟨z2, e2, i2⟩ := l_int (xs (i + 2))
  obtain ⟨z3, e3, i3⟩ := l_int (xs (i + 3))
  rcases ls_frame _ hst z1 z2 z3 m M hX i1 i2 i3 with ⟨r, m1, M1, q1, q2, q3, q4⟩ | ⟨r, M1, q1, q2, q3, q4⟩
  · skip
    refine y_aload C 1 dL_law_574 rfl rfl ?_
    refine y_arg C Z 0 4 1 i dL_law_575 dL_law_576 dL_law_578 dL_law_579 dL_law_580 rfl rfl (by omega) e1 ?_
    refine y_arg C Z 0 4 2 i dL_law_581 dL_law_582 dL_law_584 dL_law_585 dL_law_586 rfl rfl (by omega) e2 ?_
    refine y_arg C Z 0 4 3 i dL_law_587 dL_law_588 dL_law_590 dL_law_591 dL_law_592 rfl rfl (by omega) e3 ?_
    refine y_aload C 3 dL_law_593 rfl rfl ?_
    refine y_callW (st := []) (ws1 := lwo (yDA Γ) o g :: xwld aX (yDA Γ) m 0 lay_X) (ws1' := lwo (yDA Γ) o (fun j => if j = 0 then (Int32.ofInt r).toInt64 else g j) :: xwld aX (yDA Γ) m1 0 lay_X) (wb := T ++ xwld aM (yDA Γ) M 0 lay_M) (r := 0) (nP := 5) C Z dL_law_594 (xin_29 _ (List.mem_of_getElem? (i := 1) rfl)) (xin_29 _ (List.mem_of_getElem? (i := 2) rfl)) (xin_10 _ (List.mem_of_getElem? (i := 12) rfl)) (xin_29 _ (List.mem_of_getElem? (i := 3) rfl)) ⟨by decide +kernel, by decide +kernel, by decide +kernel⟩ (by omega) (by decide) rfl (Nat.le_of_ble_eq_true rfl) aX hS.1 (fun dC dI sz => r_L_frame hst (by decide) q1 dC dI (yDA Γ) aX o g sz) (lw_addr _ _ _ _ _ _ _) (by omega) (by omega) rfl ?_
    refine y_istorew C dL_law_597 (by omega) rfl ?_
    refine y_aload C 3 dL_law_599 rfl rfl ?_
    refine y_arg C Z 1 5 1 i dL_law_600 dL_law_601 dL_law_603 dL_law_604 dL_law_605 rfl rfl (by omega) e1 ?_
    refine y_arg C Z 1 5 2 i dL_law_606 dL_law_607 dL_law_609 dL_law_610 dL_law_611 rfl rfl (by omega) e2 ?_
    refine y_arg C Z 1 5 3 i dL_law_612 dL_law_613 dL_law_615 dL_law_616 dL_law_617 rfl rfl (by omega) e3 ?_
    refine y_callXr (wa := lwo (yDA Γ) o (fun j => if j = 0 then (Int32.ofInt r).toInt64 else g j) :: xwld aX (yDA Γ) m1 0 lay_X) (wb := T) (st := []) (av := [.inl z1, .inl z2, .inl z3]) (b := 0) (layY := lay_M) C aM dL_law_618 (xin_29 _ (List.mem_of_getElem? (i := 18) rfl)) xy_X11_frame xi_X11_frame xs_X11_frame (by omega) (by decide) rfl ⟨_, _, rfl⟩ rfl (Nat.le_of_ble_eq_true rfl) q2 (by omega) (by omega) hS.2 rfl ?_
    refine y_istorew C dL_law_621 (by omega) rfl ?_
    refine y_aload C 4 dL_law_623 rfl rfl ?_
    refine y_callXr (wa := lwo (yDA Γ) o (fun j => if j = 0 then (Int32.ofInt r).toInt64 else g j) :: xwld aX (yDA Γ) m1 0 lay_X) (wb := T) (st := []) (av := []) (b := 0) (layY := lay_M) C aM dL_law_624 (xin_23 _ (List.mem_of_getElem? (i := 19) rfl)) xy_X11_thrown xi_X11_thrown xs_X11_thrown (by omega) (by decide) rfl ⟨_, _, rfl⟩ rfl (Nat.le_of_ble_eq_true rfl) (c_m_thrown _ _ 0 (by unfold f_m_thrown; rw [q3])) (by omega) (by omega) hS.2 rfl ?_
    refine y_iloadw C 1 dL_law_627 rfl ?_
    refine y_icmpeq C 634 dL_law_629 (by decide) (by decide) ?_
    refine y_iloadw C 1 dL_law_634 rfl ?_
    refine y_ifne0 C 651 dL_law_636 (by decide) ?_
    refine y_aload C 5 dL_law_639 rfl rfl ?_
    refine y_iconst (v := 0) C dL_law_640 (by decide) ?_
    refine y_laload0 (g := fun j => if j = 0 then (Int32.ofInt r).toInt64 else g j) C 0 dL_law_641 rfl ?_
    refine y_iloadw C 0 dL_law_642 rfl ?_
    refine y_i2l C dL_law_644 rfl ?_
    refine y_lcmp0 C dL_law_645 rfl ?_
    refine y_ifeq0 C 651 dL_law_646 (by decide) ?_
    refine y_goto C 1638 dL_law_651 (by decide) ?_
    refine y_sub [2, 3, 4, 5, 6] rfl ?_
    exact Gk _ _ _ ⟨m1, M1, _, T, G, q4, hT, rfl⟩ (by omega) (by omega)
  · skip
    refine y_aload C 1 dL_law_574 rfl rfl ?_
    refine y_arg C Z 0 4 1 i dL_law_575 dL_law_576 dL_law_578 dL_law_579 dL_law_580 rfl rfl (by omega) e1 ?_
    refine y_arg C Z 0 4 2 i dL_law_581 dL_law_582 dL_law_584 dL_law_585 dL_law_586 rfl rfl (by omega) e2 ?_
    refine y_arg C Z 0 4 3 i dL_law_587 dL_law_588 dL_law_590 dL_law_591 dL_law_592 rfl rfl (by omega) e3 ?_
    refine y_aload C 3 dL_law_593 rfl rfl ?_
    refine y_callW (st := []) (ws1 := lwo (yDA Γ) o g :: xwld aX (yDA Γ) m 0 lay_X) (ws1' := lwo (yDA Γ) o g :: xwld aX (yDA Γ) m 0 lay_X) (wb := T ++ xwld aM (yDA Γ) M 0 lay_M) (r := 1) (nP := 5) C Z dL_law_594 (xin_29 _ (List.mem_of_getElem? (i := 1) rfl)) (xin_29 _ (List.mem_of_getElem? (i := 2) rfl)) (xin_10 _ (List.mem_of_getElem? (i := 12) rfl)) (xin_29 _ (List.mem_of_getElem? (i := 3) rfl)) ⟨by decide +kernel, by decide +kernel, by decide +kernel⟩ (by omega) (by decide) rfl (Nat.le_of_ble_eq_true rfl) aX hS.1 (fun dC dI sz => s2_L_frame hst (by decide) q1 dC dI (yDA Γ) aX o g sz) (lw_addr _ _ _ _ _ _ _) (by omega) (by omega) rfl ?_
    refine y_istorew C dL_law_597 (by omega) rfl ?_
    refine y_aload C 3 dL_law_599 rfl rfl ?_
    refine y_arg C Z 1 5 1 i dL_law_600 dL_law_601 dL_law_603 dL_law_604 dL_law_605 rfl rfl (by omega) e1 ?_
    refine y_arg C Z 1 5 2 i dL_law_606 dL_law_607 dL_law_609 dL_law_610 dL_law_611 rfl rfl (by omega) e2 ?_
    refine y_arg C Z 1 5 3 i dL_law_612 dL_law_613 dL_law_615 dL_law_616 dL_law_617 rfl rfl (by omega) e3 ?_
    refine y_callXr (wa := lwo (yDA Γ) o g :: xwld aX (yDA Γ) m 0 lay_X) (wb := T) (st := []) (av := [.inl z1, .inl z2, .inl z3]) (b := 0) (layY := lay_M) C aM dL_law_618 (xin_29 _ (List.mem_of_getElem? (i := 18) rfl)) xy_X11_frame xi_X11_frame xs_X11_frame (by omega) (by decide) rfl ⟨_, _, rfl⟩ rfl (Nat.le_of_ble_eq_true rfl) q2 (by omega) (by omega) hS.2 rfl ?_
    refine y_istorew C dL_law_621 (by omega) rfl ?_
    refine y_aload C 4 dL_law_623 rfl rfl ?_
    refine y_callXr (wa := lwo (yDA Γ) o g :: xwld aX (yDA Γ) m 0 lay_X) (wb := T) (st := []) (av := []) (b := 0) (layY := lay_M) C aM dL_law_624 (xin_23 _ (List.mem_of_getElem? (i := 19) rfl)) xy_X11_thrown xi_X11_thrown xs_X11_thrown (by omega) (by decide) rfl ⟨_, _, rfl⟩ rfl (Nat.le_of_ble_eq_true rfl) (c_m_thrown _ _ 1 (by unfold f_m_thrown; rw [q3])) (by omega) (by omega) hS.2 rfl ?_
    refine y_iloadw C 1 dL_law_627 rfl ?_
    refine y_icmpeq C 634 dL_law_629 (by decide) (by decide) ?_
    refine y_iloadw C 1 dL_law_634 rfl ?_
    refine y_ifne1 C 651 dL_law_636 (by decide) (by decide) ?_
    refine y_goto C 1638 dL_law_651 (by decide) ?_
    refine y_sub [2, 3, 4, 5, 6] rfl ?_
    exact Gk _ _ _ ⟨m, M1, _, T, G, q4, hT, rfl⟩ (by omega) (by omega)
set_option maxRecDepth 100000 in
set_option maxHeartbeats 8000000 in
theorem lc_8 {Γ : yG} {b Ln : Nat} {xs : Nat → Int32} (C : yC Γ RL cL_law 9 100 601024 7293034) (Z : lC Γ b Ln xs) (hst : Γ.1.2.1.stackTraces = false) {aX aM : Nat → Nat} (hS : lS Γ aX aM) (o i : Nat) (hi : i + 6 ≤ Ln) {ws : va_W} {k n : Nat} (hk : k + 4 ≤ 601024) (hn : n + 200 ≤ 7293034) (hI : lI (yDA Γ) aX aM o ws) (Gk : ∀ (ws' : va_W) (k' n' : Nat), lI (yDA Γ) aX aM o ws' → k' ≤ k + 4 → n' ≤ n + 200 → yW Γ 9 1638 (lL b aX aM o i) [] ws' k' n') : yW Γ 9 654 (lL b aX aM o i) [] ws k n := by
  obtain ⟨m, M, g, T, G, hX, hT, rfl⟩ := hI
  obtain ⟨z1, e1, i1⟩ := l_int (xs (i + 1))
  obtain ⟨z2, e2, i2⟩ := l_int (xs (i + 2))
  rcases ls_received _ hst z1 z2 m M hX i1 i2 with ⟨r, m1, M1, q1, q2, q3, q4⟩ | ⟨r, M1, q1, q2, q3, q4⟩
  · skip
    refine y_aload C 1 dL_law_654 rfl rfl ?_
    refine y_arg C Z 0 4 1 i dL_law_655 dL_law_656 dL_law_658 dL_law_659 dL_law_660 rfl rfl (by omega) e1 ?_
    refine y_arg C Z 0 4 2 i dL_law_661 dL_law_662 dL_law_664 dL_law_665 dL_law_666 rfl rfl (by omega) e2 ?_
    refine y_aload C 3 dL_law_667 rfl rfl ?_
    refine y_callW (st := []) (ws1 := lwo (yDA Γ) o g :: xwld aX (yDA Γ) m 0 lay_X) (ws1' := lwo (yDA Γ) o (fun j => if j = 0 then (Int32.ofInt r).toInt64 else g j) :: xwld aX (yDA Γ) m1 0 lay_X) (wb := T ++ xwld aM (yDA Γ) M 0 lay_M) (r := 0) (nP := 4) C Z dL_law_668 (xin_29 _ (List.mem_of_getElem? (i := 22) rfl)) (xin_29 _ (List.mem_of_getElem? (i := 23) rfl)) (xin_10 _ (List.mem_of_getElem? (i := 12) rfl)) (xin_30 _ (List.mem_of_getElem? (i := 0) rfl)) ⟨by decide +kernel, by decide +kernel, by decide +kernel⟩ (by omega) (by decide) rfl (Nat.le_of_ble_eq_true rfl) aX hS.1 (fun dC dI sz => r_L_received hst (by decide) q1 dC dI (yDA Γ) aX o g sz) (lw_addr _ _ _ _ _ _ _) (by omega) (by omega) rfl ?_
    refine y_istorew C dL_law_671 (by omega) rfl ?_
    refine y_aload C 3 dL_law_673 rfl rfl ?_
    refine y_arg C Z 1 5 1 i dL_law_674 dL_law_675 dL_law_677 dL_law_678 dL_law_679 rfl rfl (by omega) e1 ?_
    refine y_arg C Z 1 5 2 i dL_law_680 dL_law_681 dL_law_683 dL_law_684 dL_law_685 rfl rfl (by omega) e2 ?_
    refine y_callXr (wa := lwo (yDA Γ) o (fun j => if j = 0 then (Int32.ofInt r).toInt64 else g j) :: xwld aX (yDA Γ) m1 0 lay_X) (wb := T) (st := []) (av := [.inl z1, .inl z2]) (b := 0) (layY := lay_M) C aM dL_law_686 (xin_30 _ (List.mem_of_getElem? (i := 11) rfl)) xy_X11_received xi_X11_received xs_X11_received (by omega) (by decide) rfl ⟨_, _, rfl⟩ rfl (Nat.le_of_ble_eq_true rfl) q2 (by omega) (by omega) hS.2 rfl ?_
    refine y_istorew C dL_law_689 (by omega) rfl ?_
    refine y_aload C 4 dL_law_691 rfl rfl ?_
    refine y_callXr (wa := lwo (yDA Γ) o (fun j => if j = 0 then (Int32.ofInt r).toInt64 else g j) :: xwld aX (yDA Γ) m1 0 lay_X) (wb := T) (st := []) (av := []) (b := 0) (layY := lay_M) C aM dL_law_692 (xin_23 _ (List.mem_of_getElem? (i := 19) rfl)) xy_X11_thrown xi_X11_thrown xs_X11_thrown (by omega) (by decide) rfl ⟨_, _, rfl⟩ rfl (Nat.le_of_ble_eq_true rfl) (c_m_thrown _ _ 0 (by unfold f_m_thrown; rw [q3])) (by omega) (by omega) hS.2 rfl ?_
    refine y_iloadw C 1 dL_law_695 rfl ?_
    refine y_icmpeq C 702 dL_law_697 (by decide) (by decide) ?_
    refine y_iloadw C 1 dL_law_702 rfl ?_
    refine y_ifne0 C 719 dL_law_704 (by decide) ?_
    refine y_aload C 5 dL_law_707 rfl rfl ?_
    refine y_iconst (v := 0) C dL_law_708 (by decide) ?_
    refine y_laload0 (g := fun j => if j = 0 then (Int32.ofInt r).toInt64 else g j) C 0 dL_law_709 rfl ?_
    refine y_iloadw C 0 dL_law_710 rfl ?_
    refine y_i2l C dL_law_712 rfl ?_
    refine y_lcmp0 C dL_law_713 rfl ?_
    refine y_ifeq0 C 719 dL_law_714 (by decide) ?_
    refine y_goto C 1638 dL_law_719 (by decide) ?_
    refine y_sub [2, 3, 4, 5, 6] rfl ?_
    exact Gk _ _ _ ⟨m1, M1, _, T, G, q4, hT, rfl⟩ (by omega) (by omega)
  · skip
    refine y_aload C 1 dL_law_654 rfl rfl ?_
    refine y_arg C Z 0 4 1 i dL_law_655 dL_law_656 dL_law_658 dL_law_659 dL_law_660 rfl rfl (by omega) e1 ?_
    refine y_arg C Z 0 4 2 i dL_law_661 dL_law_662 dL_law_664 dL_law_665 dL_law_666 rfl rfl (by omega) e2 ?_
    refine y_aload C 3 dL_law_667 rfl rfl ?_
    refine y_callW (st := []) (ws1 := lwo (yDA Γ) o g :: xwld aX (yDA Γ) m 0 lay_X) (ws1' := lwo (yDA Γ) o g :: xwld aX (yDA Γ) m 0 lay_X) (wb := T ++ xwld aM (yDA Γ) M 0 lay_M) (r := 1) (nP := 4) C Z dL_law_668 (xin_29 _ (List.mem_of_getElem? (i := 22) rfl)) (xin_29 _ (List.mem_of_getElem? (i := 23) rfl)) (xin_10 _ (List.mem_of_getElem? (i := 12) rfl)) (xin_30 _ (List.mem_of_getElem? (i := 0) rfl)) ⟨by decide +kernel, by decide +kernel, by decide +kernel⟩ (by omega) (by decide) rfl (Nat.le_of_ble_eq_true rfl) aX hS.1 (fun dC dI sz => s2_L_received hst (by decide) q1 dC dI (yDA Γ) aX o g sz) (lw_addr _ _ _ _ _ _ _) (by omega) (by omega) rfl ?_
    refine y_istorew C dL_law_671 (by omega) rfl ?_
    refine y_aload C 3 dL_law_673 rfl rfl ?_
    refine y_arg C Z 1 5 1 i dL_law_674 dL_law_675 dL_law_677 dL_law_678 dL_law_679 rfl rfl (by omega) e1 ?_
    refine y_arg C Z 1 5 2 i dL_law_680 dL_law_681 dL_law_683 dL_law_684 dL_law_685 rfl rfl (by omega) e2 ?_
    refine y_callXr (wa := lwo (yDA Γ) o g :: xwld aX (yDA Γ) m 0 lay_X) (wb := T) (st := []) (av := [.inl z1, .inl z2]) (b := 0) (layY := lay_M) C aM dL_law_686 (xin_30 _ (List.mem_of_getElem? (i := 11) rfl)) xy_X11_received xi_X11_received xs_X11_received (by omega) (by decide) rfl ⟨_, _, rfl⟩ rfl (Nat.le_of_ble_eq_true rfl) q2 (by omega) (by omega) hS.2 rfl ?_
    refine y_istorew C dL_law_689 (by omega) rfl ?_
    refine y_aload C 4 dL_law_691 rfl rfl ?_
    refine y_callXr (wa := lwo (yDA Γ) o g :: xwld aX (yDA Γ) m 0 lay_X) (wb := T) (st := []) (av := []) (b := 0) (layY := lay_M) C aM dL_law_692 (xin_23 _ (List.mem_of_getElem? (i := 19) rfl)) xy_X11_thrown xi_X11_thrown xs_X11_thrown (by omega) (by decide) rfl ⟨_, _, rfl⟩ rfl (Nat.le_of_ble_eq_true rfl) (c_m_thrown _ _ 1 (by unfold f_m_thrown; rw [q3])) (by omega) (by omega) hS.2 rfl ?_
    refine y_iloadw C 1 dL_law_695 rfl ?_
    refine y_icmpeq C 702 dL_law_697 (by decide) (by decide) ?_
    refine y_iloadw C 1 dL_law_702 rfl ?_
    refine y_ifne1 C 719 dL_law_704 (by decide) (by decide) ?_
    refine y_goto C 1638 dL_law_719 (by decide) ?_
    refine y_sub [2, 3, 4, 5, 6] rfl ?_
    exact Gk _ _ _ ⟨m, M1, _, T, G, q4, hT, rfl⟩ (by omega) (by omega)

/-! ===== the law, call by call (3) ===== -/
set_option maxRecDepth 100000 in
set_option maxHeartbeats 8000000 in
theorem lc_20 {Γ : yG} {b Ln : Nat} {xs : Nat → Int32} (C : yC Γ RL cL_law 9 100 601024 7293034) (Z : lC Γ b Ln xs) (hst : Γ.1.2.1.stackTraces = false) {aX aM : Nat → Nat} (hS : lS Γ aX aM) (o i : Nat) (hi : i + 6 ≤ Ln) {ws : va_W} {k n : Nat} (hk : k + 4 ≤ 601024) (hn : n + 200 ≤ 7293034) (hI : lI (yDA Γ) aX aM o ws) (Gk : ∀ (ws' : va_W) (k' n' : Nat), lI (yDA Γ) aX aM o ws' → k' ≤ k + 4 → n' ≤ n + 200 → yW Γ 9 1638 (lL b aX aM o i) [] ws' k' n') : yW Γ 9 1245 (lL b aX aM o i) [] ws k n := by
  obtain ⟨m, M, g, T, G, hX, hT, rfl⟩ := hI
  obtain ⟨r, m1, M1, q1, q2, q3, q4⟩ := ls_hangUp _ hst  m M hX
  refine y_aload C 1 dL_law_1245 rfl rfl ?_
  refine y_callXm (wa := [lwo (yDA Γ) o g]) (wb := T ++ xwld aM (yDA Γ) M 0 lay_M) (st := []) (av := []) (b := 0) (layY := lay_X) (m := m) C aX dL_law_1246 (xin_52 _ (List.mem_of_getElem? (i := 10) rfl)) xy_X10_hangUp xi_X10_hangUp xs_X10_hangUp (by omega) (by decide) rfl ⟨_, _, rfl⟩ rfl (Nat.le_of_ble_eq_true rfl) q1 (by omega) (by omega) hS.1 rfl ?_
  refine y_aload C 2 dL_law_1249 rfl rfl ?_
  refine y_callXr (wa := lwo (yDA Γ) o g :: xwld aX (yDA Γ) m1 0 lay_X) (wb := T) (st := [.int (Int32.ofInt r)]) (av := []) (b := 0) (layY := lay_M) C aM dL_law_1250 (xin_53 _ (List.mem_of_getElem? (i := 0) rfl)) xy_X11_hangUp xi_X11_hangUp xs_X11_hangUp (by omega) (by decide) rfl ⟨_, _, rfl⟩ rfl (Nat.le_of_ble_eq_true rfl) q2 (by omega) (by omega) hS.2 rfl ?_
  refine y_icmpeq C 1638 dL_law_1253 (by decide) rfl ?_
  exact Gk _ _ _ ⟨m1, M1, g, T, G, q4, hT, rfl⟩ (by omega) (by omega)
set_option maxRecDepth 100000 in
set_option maxHeartbeats 8000000 in
theorem lc_21 {Γ : yG} {b Ln : Nat} {xs : Nat → Int32} (C : yC Γ RL cL_law 9 100 601024 7293034) (Z : lC Γ b Ln xs) (hst : Γ.1.2.1.stackTraces = false) {aX aM : Nat → Nat} (hS : lS Γ aX aM) (o i : Nat) (hi : i + 6 ≤ Ln) {ws : va_W} {k n : Nat} (hk : k + 4 ≤ 601024) (hn : n + 200 ≤ 7293034) (hI : lI (yDA Γ) aX aM o ws) (Gk : ∀ (ws' : va_W) (k' n' : Nat), lI (yDA Γ) aX aM o ws' → k' ≤ k + 4 → n' ≤ n + 200 → yW Γ 9 1638 (lL b aX aM o i) [] ws' k' n') : yW Γ 9 1258 (lL b aX aM o i) [] ws k n := by
  obtain ⟨m, M, g, T, G, hX, hT, rfl⟩ := hI
  obtain ⟨z1, e1, i1⟩ := l_int (xs (i + 1))
  rcases ls_escape _ hst z1 m M hX i1 with ⟨r, m1, M1, q1, q2, q3, q4⟩ | ⟨r, M1, q1, q2, q3, q4⟩
  · skip
    refine y_aload C 1 dL_law_1258 rfl rfl ?_
    refine y_arg C Z 0 4 1 i dL_law_1259 dL_law_1260 dL_law_1262 dL_law_1263 dL_law_1264 rfl rfl (by omega) e1 ?_
    refine y_aload C 3 dL_law_1265 rfl rfl ?_
    refine y_callW (st := []) (ws1 := lwo (yDA Γ) o g :: xwld aX (yDA Γ) m 0 lay_X) (ws1' := lwo (yDA Γ) o (fun j => if j = 0 then (Int32.ofInt r).toInt64 else g j) :: xwld aX (yDA Γ) m1 0 lay_X) (wb := T ++ xwld aM (yDA Γ) M 0 lay_M) (r := 0) (nP := 3) C Z dL_law_1266 (xin_53 _ (List.mem_of_getElem? (i := 8) rfl)) (xin_53 _ (List.mem_of_getElem? (i := 9) rfl)) (xin_10 _ (List.mem_of_getElem? (i := 12) rfl)) (xin_53 _ (List.mem_of_getElem? (i := 10) rfl)) ⟨by decide +kernel, by decide +kernel, by decide +kernel⟩ (by omega) (by decide) rfl (Nat.le_of_ble_eq_true rfl) aX hS.1 (fun dC dI sz => r_L_escape hst (by decide) q1 dC dI (yDA Γ) aX o g sz) (lw_addr _ _ _ _ _ _ _) (by omega) (by omega) rfl ?_
    refine y_istorew C dL_law_1269 (by omega) rfl ?_
    refine y_aload C 3 dL_law_1271 rfl rfl ?_
    refine y_arg C Z 1 5 1 i dL_law_1272 dL_law_1273 dL_law_1275 dL_law_1276 dL_law_1277 rfl rfl (by omega) e1 ?_
    refine y_callXr (wa := lwo (yDA Γ) o (fun j => if j = 0 then (Int32.ofInt r).toInt64 else g j) :: xwld aX (yDA Γ) m1 0 lay_X) (wb := T) (st := []) (av := [.inl z1]) (b := 0) (layY := lay_M) C aM dL_law_1278 (xin_53 _ (List.mem_of_getElem? (i := 19) rfl)) xy_X11_escape xi_X11_escape xs_X11_escape (by omega) (by decide) rfl ⟨_, _, rfl⟩ rfl (Nat.le_of_ble_eq_true rfl) q2 (by omega) (by omega) hS.2 rfl ?_
    refine y_istorew C dL_law_1281 (by omega) rfl ?_
    refine y_aload C 4 dL_law_1283 rfl rfl ?_
    refine y_callXr (wa := lwo (yDA Γ) o (fun j => if j = 0 then (Int32.ofInt r).toInt64 else g j) :: xwld aX (yDA Γ) m1 0 lay_X) (wb := T) (st := []) (av := []) (b := 0) (layY := lay_M) C aM dL_law_1284 (xin_23 _ (List.mem_of_getElem? (i := 19) rfl)) xy_X11_thrown xi_X11_thrown xs_X11_thrown (by omega) (by decide) rfl ⟨_, _, rfl⟩ rfl (Nat.le_of_ble_eq_true rfl) (c_m_thrown _ _ 0 (by unfold f_m_thrown; rw [q3])) (by omega) (by omega) hS.2 rfl ?_
    refine y_iloadw C 1 dL_law_1287 rfl ?_
    refine y_icmpeq C 1294 dL_law_1289 (by decide) (by decide) ?_
    refine y_iloadw C 1 dL_law_1294 rfl ?_
    refine y_ifne0 C 1311 dL_law_1296 (by decide) ?_
    refine y_aload C 5 dL_law_1299 rfl rfl ?_
    refine y_iconst (v := 0) C dL_law_1300 (by decide) ?_
    refine y_laload0 (g := fun j => if j = 0 then (Int32.ofInt r).toInt64 else g j) C 0 dL_law_1301 rfl ?_
    refine y_iloadw C 0 dL_law_1302 rfl ?_
    refine y_i2l C dL_law_1304 rfl ?_
    refine y_lcmp0 C dL_law_1305 rfl ?_
    refine y_ifeq0 C 1311 dL_law_1306 (by decide) ?_
    refine y_goto C 1638 dL_law_1311 (by decide) ?_
    refine y_sub [2, 3, 4, 5, 6] rfl ?_
    exact Gk _ _ _ ⟨m1, M1, _, T, G, q4, hT, rfl⟩ (by omega) (by omega)
  · skip
    refine y_aload C 1 dL_law_1258 rfl rfl ?_
    refine y_arg C Z 0 4 1 i dL_law_1259 dL_law_1260 dL_law_1262 dL_law_1263 dL_law_1264 rfl rfl (by omega) e1 ?_
    refine y_aload C 3 dL_law_1265 rfl rfl ?_
    refine y_callW (st := []) (ws1 := lwo (yDA Γ) o g :: xwld aX (yDA Γ) m 0 lay_X) (ws1' := lwo (yDA Γ) o g :: xwld aX (yDA Γ) m 0 lay_X) (wb := T ++ xwld aM (yDA Γ) M 0 lay_M) (r := 1) (nP := 3) C Z dL_law_1266 (xin_53 _ (List.mem_of_getElem? (i := 8) rfl)) (xin_53 _ (List.mem_of_getElem? (i := 9) rfl)) (xin_10 _ (List.mem_of_getElem? (i := 12) rfl)) (xin_53 _ (List.mem_of_getElem? (i := 10) rfl)) ⟨by decide +kernel, by decide +kernel, by decide +kernel⟩ (by omega) (by decide) rfl (Nat.le_of_ble_eq_true rfl) aX hS.1 (fun dC dI sz => s2_L_escape hst (by decide) q1 dC dI (yDA Γ) aX o g sz) (lw_addr _ _ _ _ _ _ _) (by omega) (by omega) rfl ?_
    refine y_istorew C dL_law_1269 (by omega) rfl ?_
    refine y_aload C 3 dL_law_1271 rfl rfl ?_
    refine y_arg C Z 1 5 1 i dL_law_1272 dL_law_1273 dL_law_1275 dL_law_1276 dL_law_1277 rfl rfl (by omega) e1 ?_
    refine y_callXr (wa := lwo (yDA Γ) o g :: xwld aX (yDA Γ) m 0 lay_X) (wb := T) (st := []) (av := [.inl z1]) (b := 0) (layY := lay_M) C aM dL_law_1278 (xin_53 _ (List.mem_of_getElem? (i := 19) rfl)) xy_X11_escape xi_X11_escape xs_X11_escape (by omega) (by decide) rfl ⟨_, _, rfl⟩ rfl (Nat.le_of_ble_eq_true rfl) q2 (by omega) (by omega) hS.2 rfl ?_
    refine y_istorew C dL_law_1281 (by omega) rfl ?_
    refine y_aload C 4 dL_law_1283 rfl rfl ?_
    refine y_callXr (wa := lwo (yDA Γ) o g :: xwld aX (yDA Γ) m 0 lay_X) (wb := T) (st := []) (av := []) (b := 0) (layY := lay_M) C aM dL_law_1284 (xin_23 _ (List.mem_of_getElem? (i := 19) rfl)) xy_X11_thrown xi_X11_thrown xs_X11_thrown (by omega) (by decide) rfl ⟨_, _, rfl⟩ rfl (Nat.le_of_ble_eq_true rfl) (c_m_thrown _ _ 1 (by unfold f_m_thrown; rw [q3])) (by omega) (by omega) hS.2 rfl ?_
    refine y_iloadw C 1 dL_law_1287 rfl ?_
    refine y_icmpeq C 1294 dL_law_1289 (by decide) (by decide) ?_
    refine y_iloadw C 1 dL_law_1294 rfl ?_
    refine y_ifne1 C 1311 dL_law_1296 (by decide) (by decide) ?_
    refine y_goto C 1638 dL_law_1311 (by decide) ?_
    refine y_sub [2, 3, 4, 5, 6] rfl ?_
    exact Gk _ _ _ ⟨m, M1, _, T, G, q4, hT, rfl⟩ (by omega) (by omega)
set_option maxRecDepth 100000 in
set_option maxHeartbeats 8000000 in
theorem lc_22 {Γ : yG} {b Ln : Nat} {xs : Nat → Int32} (C : yC Γ RL cL_law 9 100 601024 7293034) (Z : lC Γ b Ln xs) (hst : Γ.1.2.1.stackTraces = false) {aX aM : Nat → Nat} (hS : lS Γ aX aM) (o i : Nat) (hi : i + 6 ≤ Ln) {ws : va_W} {k n : Nat} (hk : k + 4 ≤ 601024) (hn : n + 200 ≤ 7293034) (hI : lI (yDA Γ) aX aM o ws) (Gk : ∀ (ws' : va_W) (k' n' : Nat), lI (yDA Γ) aX aM o ws' → k' ≤ k + 4 → n' ≤ n + 200 → yW Γ 9 1638 (lL b aX aM o i) [] ws' k' n') : yW Γ 9 1314 (lL b aX aM o i) [] ws k n := by
  obtain ⟨m, M, g, T, G, hX, hT, rfl⟩ := hI
  obtain ⟨z1, e1, i1⟩ := l_int (xs (i + 1))
  rcases ls_resume _ hst z1 m M hX i1 with ⟨r, m1, M1, q1, q2, q3, q4⟩ | ⟨r, M1, q1, q2, q3, q4⟩
  · skip
    refine y_aload C 1 dL_law_1314 rfl rfl ?_
    refine y_arg C Z 0 4 1 i dL_law_1315 dL_law_1316 dL_law_1318 dL_law_1319 dL_law_1320 rfl rfl (by omega) e1 ?_
    refine y_aload C 3 dL_law_1321 rfl rfl ?_
    refine y_callW (st := []) (ws1 := lwo (yDA Γ) o g :: xwld aX (yDA Γ) m 0 lay_X) (ws1' := lwo (yDA Γ) o (fun j => if j = 0 then (Int32.ofInt r).toInt64 else g j) :: xwld aX (yDA Γ) m1 0 lay_X) (wb := T ++ xwld aM (yDA Γ) M 0 lay_M) (r := 0) (nP := 3) C Z dL_law_1322 (xin_54 _ (List.mem_of_getElem? (i := 3) rfl)) (xin_54 _ (List.mem_of_getElem? (i := 4) rfl)) (xin_10 _ (List.mem_of_getElem? (i := 12) rfl)) (xin_54 _ (List.mem_of_getElem? (i := 5) rfl)) ⟨by decide +kernel, by decide +kernel, by decide +kernel⟩ (by omega) (by decide) rfl (Nat.le_of_ble_eq_true rfl) aX hS.1 (fun dC dI sz => r_L_resume hst (by decide) q1 dC dI (yDA Γ) aX o g sz) (lw_addr _ _ _ _ _ _ _) (by omega) (by omega) rfl ?_
    refine y_istorew C dL_law_1325 (by omega) rfl ?_
    refine y_aload C 3 dL_law_1327 rfl rfl ?_
    refine y_arg C Z 1 5 1 i dL_law_1328 dL_law_1329 dL_law_1331 dL_law_1332 dL_law_1333 rfl rfl (by omega) e1 ?_
    refine y_callXr (wa := lwo (yDA Γ) o (fun j => if j = 0 then (Int32.ofInt r).toInt64 else g j) :: xwld aX (yDA Γ) m1 0 lay_X) (wb := T) (st := []) (av := [.inl z1]) (b := 0) (layY := lay_M) C aM dL_law_1334 (xin_54 _ (List.mem_of_getElem? (i := 10) rfl)) xy_X11_resume xi_X11_resume xs_X11_resume (by omega) (by decide) rfl ⟨_, _, rfl⟩ rfl (Nat.le_of_ble_eq_true rfl) q2 (by omega) (by omega) hS.2 rfl ?_
    refine y_istorew C dL_law_1337 (by omega) rfl ?_
    refine y_aload C 4 dL_law_1339 rfl rfl ?_
    refine y_callXr (wa := lwo (yDA Γ) o (fun j => if j = 0 then (Int32.ofInt r).toInt64 else g j) :: xwld aX (yDA Γ) m1 0 lay_X) (wb := T) (st := []) (av := []) (b := 0) (layY := lay_M) C aM dL_law_1340 (xin_23 _ (List.mem_of_getElem? (i := 19) rfl)) xy_X11_thrown xi_X11_thrown xs_X11_thrown (by omega) (by decide) rfl ⟨_, _, rfl⟩ rfl (Nat.le_of_ble_eq_true rfl) (c_m_thrown _ _ 0 (by unfold f_m_thrown; rw [q3])) (by omega) (by omega) hS.2 rfl ?_
    refine y_iloadw C 1 dL_law_1343 rfl ?_
    refine y_icmpeq C 1350 dL_law_1345 (by decide) (by decide) ?_
    refine y_iloadw C 1 dL_law_1350 rfl ?_
    refine y_ifne0 C 1367 dL_law_1352 (by decide) ?_
    refine y_aload C 5 dL_law_1355 rfl rfl ?_
    refine y_iconst (v := 0) C dL_law_1356 (by decide) ?_
    refine y_laload0 (g := fun j => if j = 0 then (Int32.ofInt r).toInt64 else g j) C 0 dL_law_1357 rfl ?_
    refine y_iloadw C 0 dL_law_1358 rfl ?_
    refine y_i2l C dL_law_1360 rfl ?_
    refine y_lcmp0 C dL_law_1361 rfl ?_
    refine y_ifeq0 C 1367 dL_law_1362 (by decide) ?_
    refine y_goto C 1638 dL_law_1367 (by decide) ?_
    refine y_sub [2, 3, 4, 5, 6] rfl ?_
    exact Gk _ _ _ ⟨m1, M1, _, T, G, q4, hT, rfl⟩ (by omega) (by omega)
  · skip
    refine y_aload C 1 dL_law_1314 rfl rfl ?_
    refine y_arg C Z 0 4 1 i dL_law_1315 dL_law_1316 dL_law_1318 dL_law_1319 dL_law_1320 rfl rfl (by omega) e1 ?_
    refine y_aload C 3 dL_law_1321 rfl rfl ?_
    refine y_callW (st := []) (ws1 := lwo (yDA Γ) o g :: xwld aX (yDA Γ) m 0 lay_X) (ws1' := lwo (yDA Γ) o g :: xwld aX (yDA Γ) m 0 lay_X) (wb := T ++ xwld aM (yDA Γ) M 0 lay_M) (r := 1) (nP := 3) C Z dL_law_1322 (xin_54 _ (List.mem_of_getElem? (i := 3) rfl)) (xin_54 _ (List.mem_of_getElem? (i := 4) rfl)) (xin_10 _ (List.mem_of_getElem? (i := 12) rfl)) (xin_54 _ (List.mem_of_getElem? (i := 5) rfl)) ⟨by decide +kernel, by decide +kernel, by decide +kernel⟩ (by omega) (by decide) rfl (Nat.le_of_ble_eq_true rfl) aX hS.1 (fun dC dI sz => s2_L_resume hst (by decide) q1 dC dI (yDA Γ) aX o g sz) (lw_addr _ _ _ _ _ _ _) (by omega) (by omega) rfl ?_
    refine y_istorew C dL_law_1325 (by omega) rfl ?_
    refine y_aload C 3 dL_law_1327 rfl rfl ?_
    refine y_arg C Z 1 5 1 i dL_law_1328 dL_law_1329 dL_law_1331 dL_law_1332 dL_law_1333 rfl rfl (by omega) e1 ?_
    refine y_callXr (wa := lwo (yDA Γ) o g :: xwld aX (yDA Γ) m 0 lay_X) (wb := T) (st := []) (av := [.inl z1]) (b := 0) (layY := lay_M) C aM dL_law_1334 (xin_54 _ (List.mem_of_getElem? (i := 10) rfl)) xy_X11_resume xi_X11_resume xs_X11_resume (by omega) (by decide) rfl ⟨_, _, rfl⟩ rfl (Nat.le_of_ble_eq_true rfl) q2 (by omega) (by omega) hS.2 rfl ?_
    refine y_istorew C dL_law_1337 (by omega) rfl ?_
    refine y_aload C 4 dL_law_1339 rfl rfl ?_
    refine y_callXr (wa := lwo (yDA Γ) o g :: xwld aX (yDA Γ) m 0 lay_X) (wb := T) (st := []) (av := []) (b := 0) (layY := lay_M) C aM dL_law_1340 (xin_23 _ (List.mem_of_getElem? (i := 19) rfl)) xy_X11_thrown xi_X11_thrown xs_X11_thrown (by omega) (by decide) rfl ⟨_, _, rfl⟩ rfl (Nat.le_of_ble_eq_true rfl) (c_m_thrown _ _ 1 (by unfold f_m_thrown; rw [q3])) (by omega) (by omega) hS.2 rfl ?_
    refine y_iloadw C 1 dL_law_1343 rfl ?_
    refine y_icmpeq C 1350 dL_law_1345 (by decide) (by decide) ?_
    refine y_iloadw C 1 dL_law_1350 rfl ?_
    refine y_ifne1 C 1367 dL_law_1352 (by decide) (by decide) ?_
    refine y_goto C 1638 dL_law_1367 (by decide) ?_
    refine y_sub [2, 3, 4, 5, 6] rfl ?_
    exact Gk _ _ _ ⟨m, M1, _, T, G, q4, hT, rfl⟩ (by omega) (by omega)
set_option maxRecDepth 100000 in
set_option maxHeartbeats 8000000 in
theorem lc_23 {Γ : yG} {b Ln : Nat} {xs : Nat → Int32} (C : yC Γ RL cL_law 9 100 601024 7293034) (Z : lC Γ b Ln xs) (hst : Γ.1.2.1.stackTraces = false) {aX aM : Nat → Nat} (hS : lS Γ aX aM) (o i : Nat) (hi : i + 6 ≤ Ln) {ws : va_W} {k n : Nat} (hk : k + 4 ≤ 601024) (hn : n + 200 ≤ 7293034) (hI : lI (yDA Γ) aX aM o ws) (Gk : ∀ (ws' : va_W) (k' n' : Nat), lI (yDA Γ) aX aM o ws' → k' ≤ k + 4 → n' ≤ n + 200 → yW Γ 9 1638 (lL b aX aM o i) [] ws' k' n') : yW Γ 9 1370 (lL b aX aM o i) [] ws k n := by
  obtain ⟨m, M, g, T, G, hX, hT, rfl⟩ := hI
  obtain ⟨z1, e1, i1⟩ := l_int (xs (i + 1))
  obtain ⟨z2, e2, i2⟩ := l_int (xs (i + 2))
  rcases ls_send _ hst z1 z2 m M hX i1 i2 with ⟨r, m1, M1, q1, q2, q3, q4⟩ | ⟨r, M1, q1, q2, q3, q4⟩ | ⟨r, M1, q1, q2, q3, q4⟩
  · skip
    refine y_aload C 1 dL_law_1370 rfl rfl ?_
    refine y_arg C Z 0 4 1 i dL_law_1371 dL_law_1372 dL_law_1374 dL_law_1375 dL_law_1376 rfl rfl (by omega) e1 ?_
    refine y_arg C Z 0 4 2 i dL_law_1377 dL_law_1378 dL_law_1380 dL_law_1381 dL_law_1382 rfl rfl (by omega) e2 ?_
    refine y_aload C 3 dL_law_1383 rfl rfl ?_
    refine y_callW (st := []) (ws1 := lwo (yDA Γ) o g :: xwld aX (yDA Γ) m 0 lay_X) (ws1' := lwo (yDA Γ) o (fun j => if j = 0 then (Int32.ofInt r).toInt64 else g j) :: xwld aX (yDA Γ) m1 0 lay_X) (wb := T ++ xwld aM (yDA Γ) M 0 lay_M) (r := 0) (nP := 4) C Z dL_law_1384 (xin_54 _ (List.mem_of_getElem? (i := 14) rfl)) (xin_54 _ (List.mem_of_getElem? (i := 15) rfl)) (xin_10 _ (List.mem_of_getElem? (i := 12) rfl)) (xin_54 _ (List.mem_of_getElem? (i := 16) rfl)) ⟨by decide +kernel, by decide +kernel, by decide +kernel⟩ (by omega) (by decide) rfl (Nat.le_of_ble_eq_true rfl) aX hS.1 (fun dC dI sz => r_L_send hst (by decide) q1 dC dI (yDA Γ) aX o g sz) (lw_addr _ _ _ _ _ _ _) (by omega) (by omega) rfl ?_
    refine y_istorew C dL_law_1387 (by omega) rfl ?_
    refine y_aload C 3 dL_law_1389 rfl rfl ?_
    refine y_arg C Z 1 5 1 i dL_law_1390 dL_law_1391 dL_law_1393 dL_law_1394 dL_law_1395 rfl rfl (by omega) e1 ?_
    refine y_arg C Z 1 5 2 i dL_law_1396 dL_law_1397 dL_law_1399 dL_law_1400 dL_law_1401 rfl rfl (by omega) e2 ?_
    refine y_callXr (wa := lwo (yDA Γ) o (fun j => if j = 0 then (Int32.ofInt r).toInt64 else g j) :: xwld aX (yDA Γ) m1 0 lay_X) (wb := T) (st := []) (av := [.inl z1, .inl z2]) (b := 0) (layY := lay_M) C aM dL_law_1402 (xin_55 _ (List.mem_of_getElem? (i := 1) rfl)) xy_X11_send xi_X11_send xs_X11_send (by omega) (by decide) rfl ⟨_, _, rfl⟩ rfl (Nat.le_of_ble_eq_true rfl) q2 (by omega) (by omega) hS.2 rfl ?_
    refine y_istorew C dL_law_1405 (by omega) rfl ?_
    refine y_aload C 4 dL_law_1407 rfl rfl ?_
    refine y_callXr (wa := lwo (yDA Γ) o (fun j => if j = 0 then (Int32.ofInt r).toInt64 else g j) :: xwld aX (yDA Γ) m1 0 lay_X) (wb := T) (st := []) (av := []) (b := 0) (layY := lay_M) C aM dL_law_1408 (xin_23 _ (List.mem_of_getElem? (i := 19) rfl)) xy_X11_thrown xi_X11_thrown xs_X11_thrown (by omega) (by decide) rfl ⟨_, _, rfl⟩ rfl (Nat.le_of_ble_eq_true rfl) (c_m_thrown _ _ 0 (by unfold f_m_thrown; rw [q3])) (by omega) (by omega) hS.2 rfl ?_
    refine y_iloadw C 1 dL_law_1411 rfl ?_
    refine y_icmpeq C 1418 dL_law_1413 (by decide) (by decide) ?_
    refine y_iloadw C 1 dL_law_1418 rfl ?_
    refine y_ifne0 C 1435 dL_law_1420 (by decide) ?_
    refine y_aload C 5 dL_law_1423 rfl rfl ?_
    refine y_iconst (v := 0) C dL_law_1424 (by decide) ?_
    refine y_laload0 (g := fun j => if j = 0 then (Int32.ofInt r).toInt64 else g j) C 0 dL_law_1425 rfl ?_
    refine y_iloadw C 0 dL_law_1426 rfl ?_
    refine y_i2l C dL_law_1428 rfl ?_
    refine y_lcmp0 C dL_law_1429 rfl ?_
    refine y_ifeq0 C 1435 dL_law_1430 (by decide) ?_
    refine y_goto C 1638 dL_law_1435 (by decide) ?_
    refine y_sub [2, 3, 4, 5, 6] rfl ?_
    exact Gk _ _ _ ⟨m1, M1, _, T, G, q4, hT, rfl⟩ (by omega) (by omega)
  · skip
    refine y_aload C 1 dL_law_1370 rfl rfl ?_
    refine y_arg C Z 0 4 1 i dL_law_1371 dL_law_1372 dL_law_1374 dL_law_1375 dL_law_1376 rfl rfl (by omega) e1 ?_
    refine y_arg C Z 0 4 2 i dL_law_1377 dL_law_1378 dL_law_1380 dL_law_1381 dL_law_1382 rfl rfl (by omega) e2 ?_
    refine y_aload C 3 dL_law_1383 rfl rfl ?_
    refine y_callW (st := []) (ws1 := lwo (yDA Γ) o g :: xwld aX (yDA Γ) m 0 lay_X) (ws1' := lwo (yDA Γ) o g :: xwld aX (yDA Γ) m 0 lay_X) (wb := T ++ xwld aM (yDA Γ) M 0 lay_M) (r := 1) (nP := 4) C Z dL_law_1384 (xin_54 _ (List.mem_of_getElem? (i := 14) rfl)) (xin_54 _ (List.mem_of_getElem? (i := 15) rfl)) (xin_10 _ (List.mem_of_getElem? (i := 12) rfl)) (xin_54 _ (List.mem_of_getElem? (i := 16) rfl)) ⟨by decide +kernel, by decide +kernel, by decide +kernel⟩ (by omega) (by decide) rfl (Nat.le_of_ble_eq_true rfl) aX hS.1 (fun dC dI sz => s2_L_send hst (by decide) q1 dC dI (yDA Γ) aX o g sz) (lw_addr _ _ _ _ _ _ _) (by omega) (by omega) rfl ?_
    refine y_istorew C dL_law_1387 (by omega) rfl ?_
    refine y_aload C 3 dL_law_1389 rfl rfl ?_
    refine y_arg C Z 1 5 1 i dL_law_1390 dL_law_1391 dL_law_1393 dL_law_1394 dL_law_1395 rfl rfl (by omega) e1 ?_
    refine y_arg C Z 1 5 2 i dL_law_1396 dL_law_1397 dL_law_1399 dL_law_1400 dL_law_1401 rfl rfl (by omega) e2 ?_
    refine y_callXr (wa := lwo (yDA Γ) o g :: xwld aX (yDA Γ) m 0 lay_X) (wb := T) (st := []) (av := [.inl z1, .inl z2]) (b := 0) (layY := lay_M) C aM dL_law_1402 (xin_55 _ (List.mem_of_getElem? (i := 1) rfl)) xy_X11_send xi_X11_send xs_X11_send (by omega) (by decide) rfl ⟨_, _, rfl⟩ rfl (Nat.le_of_ble_eq_true rfl) q2 (by omega) (by omega) hS.2 rfl ?_
    refine y_istorew C dL_law_1405 (by omega) rfl ?_
    refine y_aload C 4 dL_law_1407 rfl rfl ?_
    refine y_callXr (wa := lwo (yDA Γ) o g :: xwld aX (yDA Γ) m 0 lay_X) (wb := T) (st := []) (av := []) (b := 0) (layY := lay_M) C aM dL_law_1408 (xin_23 _ (List.mem_of_getElem? (i := 19) rfl)) xy_X11_thrown xi_X11_thrown xs_X11_thrown (by omega) (by decide) rfl ⟨_, _, rfl⟩ rfl (Nat.le_of_ble_eq_true rfl) (c_m_thrown _ _ 1 (by unfold f_m_thrown; rw [q3])) (by omega) (by omega) hS.2 rfl ?_
    refine y_iloadw C 1 dL_law_1411 rfl ?_
    refine y_icmpeq C 1418 dL_law_1413 (by decide) (by decide) ?_
    refine y_iloadw C 1 dL_law_1418 rfl ?_
    refine y_ifne1 C 1435 dL_law_1420 (by decide) (by decide) ?_
    refine y_goto C 1638 dL_law_1435 (by decide) ?_
    refine y_sub [2, 3, 4, 5, 6] rfl ?_
    exact Gk _ _ _ ⟨m, M1, _, T, G, q4, hT, rfl⟩ (by omega) (by omega)
  · skip
    refine y_aload C 1 dL_law_1370 rfl rfl ?_
    refine y_arg C Z 0 4 1 i dL_law_1371 dL_law_1372 dL_law_1374 dL_law_1375 dL_law_1376 rfl rfl (by omega) e1 ?_
    refine y_arg C Z 0 4 2 i dL_law_1377 dL_law_1378 dL_law_1380 dL_law_1381 dL_law_1382 rfl rfl (by omega) e2 ?_
    refine y_aload C 3 dL_law_1383 rfl rfl ?_
    refine y_callW (st := []) (ws1 := lwo (yDA Γ) o g :: xwld aX (yDA Γ) m 0 lay_X) (ws1' := lwo (yDA Γ) o g :: xwld aX (yDA Γ) m 0 lay_X) (wb := T ++ xwld aM (yDA Γ) M 0 lay_M) (r := 2) (nP := 4) C Z dL_law_1384 (xin_54 _ (List.mem_of_getElem? (i := 14) rfl)) (xin_54 _ (List.mem_of_getElem? (i := 15) rfl)) (xin_10 _ (List.mem_of_getElem? (i := 12) rfl)) (xin_54 _ (List.mem_of_getElem? (i := 16) rfl)) ⟨by decide +kernel, by decide +kernel, by decide +kernel⟩ (by omega) (by decide) rfl (Nat.le_of_ble_eq_true rfl) aX hS.1 (fun dC dI sz => s1_L_send hst (by decide) q1 dC dI (yDA Γ) aX o g sz) (lw_addr _ _ _ _ _ _ _) (by omega) (by omega) rfl ?_
    refine y_istorew C dL_law_1387 (by omega) rfl ?_
    refine y_aload C 3 dL_law_1389 rfl rfl ?_
    refine y_arg C Z 1 5 1 i dL_law_1390 dL_law_1391 dL_law_1393 dL_law_1394 dL_law_1395 rfl rfl (by omega) e1 ?_
    refine y_arg C Z 1 5 2 i dL_law_1396 dL_law_1397 dL_law_1399 dL_law_1400 dL_law_1401 rfl rfl (by omega) e2 ?_
    refine y_callXr (wa := lwo (yDA Γ) o g :: xwld aX (yDA Γ) m 0 lay_X) (wb := T) (st := []) (av := [.inl z1, .inl z2]) (b := 0) (layY := lay_M) C aM dL_law_1402 (xin_55 _ (List.mem_of_getElem? (i := 1) rfl)) xy_X11_send xi_X11_send xs_X11_send (by omega) (by decide) rfl ⟨_, _, rfl⟩ rfl (Nat.le_of_ble_eq_true rfl) q2 (by omega) (by omega) hS.2 rfl ?_
    refine y_istorew C dL_law_1405 (by omega) rfl ?_
    refine y_aload C 4 dL_law_1407 rfl rfl ?_
    refine y_callXr (wa := lwo (yDA Γ) o g :: xwld aX (yDA Γ) m 0 lay_X) (wb := T) (st := []) (av := []) (b := 0) (layY := lay_M) C aM dL_law_1408 (xin_23 _ (List.mem_of_getElem? (i := 19) rfl)) xy_X11_thrown xi_X11_thrown xs_X11_thrown (by omega) (by decide) rfl ⟨_, _, rfl⟩ rfl (Nat.le_of_ble_eq_true rfl) (c_m_thrown _ _ 2 (by unfold f_m_thrown; rw [q3])) (by omega) (by omega) hS.2 rfl ?_
    refine y_iloadw C 1 dL_law_1411 rfl ?_
    refine y_icmpeq C 1418 dL_law_1413 (by decide) (by decide) ?_
    refine y_iloadw C 1 dL_law_1418 rfl ?_
    refine y_ifne1 C 1435 dL_law_1420 (by decide) (by decide) ?_
    refine y_goto C 1638 dL_law_1435 (by decide) ?_
    refine y_sub [2, 3, 4, 5, 6] rfl ?_
    exact Gk _ _ _ ⟨m, M1, _, T, G, q4, hT, rfl⟩ (by omega) (by omega)
set_option maxRecDepth 100000 in
set_option maxHeartbeats 8000000 in
theorem lc_24 {Γ : yG} {b Ln : Nat} {xs : Nat → Int32} (C : yC Γ RL cL_law 9 100 601024 7293034) (Z : lC Γ b Ln xs) (hst : Γ.1.2.1.stackTraces = false) {aX aM : Nat → Nat} (hS : lS Γ aX aM) (o i : Nat) (hi : i + 6 ≤ Ln) {ws : va_W} {k n : Nat} (hk : k + 4 ≤ 601024) (hn : n + 200 ≤ 7293034) (hI : lI (yDA Γ) aX aM o ws) (Gk : ∀ (ws' : va_W) (k' n' : Nat), lI (yDA Γ) aX aM o ws' → k' ≤ k + 4 → n' ≤ n + 200 → yW Γ 9 1638 (lL b aX aM o i) [] ws' k' n') : yW Γ 9 1438 (lL b aX aM o i) [] ws k n := by
  obtain ⟨m, M, g, T, G, hX, hT, rfl⟩ := hI
  obtain ⟨z1, e1, i1⟩ := l_int (xs (i + 1))
  rcases ls_setQuality _ hst z1 m M hX i1 with ⟨r, m1, M1, q1, q2, q3, q4⟩ | ⟨r, M1, q1, q2, q3, q4⟩
  · skip
    refine y_aload C 1 dL_law_1438 rfl rfl ?_
    refine y_arg C Z 0 4 1 i dL_law_1439 dL_law_1440 dL_law_1442 dL_law_1443 dL_law_1444 rfl rfl (by omega) e1 ?_
    refine y_aload C 3 dL_law_1445 rfl rfl ?_
    refine y_callW (st := []) (ws1 := lwo (yDA Γ) o g :: xwld aX (yDA Γ) m 0 lay_X) (ws1' := lwo (yDA Γ) o (fun j => if j = 0 then (Int32.ofInt r).toInt64 else g j) :: xwld aX (yDA Γ) m1 0 lay_X) (wb := T ++ xwld aM (yDA Γ) M 0 lay_M) (r := 0) (nP := 3) C Z dL_law_1446 (xin_55 _ (List.mem_of_getElem? (i := 5) rfl)) (xin_55 _ (List.mem_of_getElem? (i := 6) rfl)) (xin_10 _ (List.mem_of_getElem? (i := 12) rfl)) (xin_55 _ (List.mem_of_getElem? (i := 7) rfl)) ⟨by decide +kernel, by decide +kernel, by decide +kernel⟩ (by omega) (by decide) rfl (Nat.le_of_ble_eq_true rfl) aX hS.1 (fun dC dI sz => r_L_setQuality hst (by decide) q1 dC dI (yDA Γ) aX o g sz) (lw_addr _ _ _ _ _ _ _) (by omega) (by omega) rfl ?_
    refine y_istorew C dL_law_1449 (by omega) rfl ?_
    refine y_aload C 3 dL_law_1451 rfl rfl ?_
    refine y_arg C Z 1 5 1 i dL_law_1452 dL_law_1453 dL_law_1455 dL_law_1456 dL_law_1457 rfl rfl (by omega) e1 ?_
    refine y_callXr (wa := lwo (yDA Γ) o (fun j => if j = 0 then (Int32.ofInt r).toInt64 else g j) :: xwld aX (yDA Γ) m1 0 lay_X) (wb := T) (st := []) (av := [.inl z1]) (b := 0) (layY := lay_M) C aM dL_law_1458 (xin_55 _ (List.mem_of_getElem? (i := 12) rfl)) xy_X11_setQuality xi_X11_setQuality xs_X11_setQuality (by omega) (by decide) rfl ⟨_, _, rfl⟩ rfl (Nat.le_of_ble_eq_true rfl) q2 (by omega) (by omega) hS.2 rfl ?_
    refine y_istorew C dL_law_1461 (by omega) rfl ?_
    refine y_aload C 4 dL_law_1463 rfl rfl ?_
    refine y_callXr (wa := lwo (yDA Γ) o (fun j => if j = 0 then (Int32.ofInt r).toInt64 else g j) :: xwld aX (yDA Γ) m1 0 lay_X) (wb := T) (st := []) (av := []) (b := 0) (layY := lay_M) C aM dL_law_1464 (xin_23 _ (List.mem_of_getElem? (i := 19) rfl)) xy_X11_thrown xi_X11_thrown xs_X11_thrown (by omega) (by decide) rfl ⟨_, _, rfl⟩ rfl (Nat.le_of_ble_eq_true rfl) (c_m_thrown _ _ 0 (by unfold f_m_thrown; rw [q3])) (by omega) (by omega) hS.2 rfl ?_
    refine y_iloadw C 1 dL_law_1467 rfl ?_
    refine y_icmpeq C 1474 dL_law_1469 (by decide) (by decide) ?_
    refine y_iloadw C 1 dL_law_1474 rfl ?_
    refine y_ifne0 C 1491 dL_law_1476 (by decide) ?_
    refine y_aload C 5 dL_law_1479 rfl rfl ?_
    refine y_iconst (v := 0) C dL_law_1480 (by decide) ?_
    refine y_laload0 (g := fun j => if j = 0 then (Int32.ofInt r).toInt64 else g j) C 0 dL_law_1481 rfl ?_
    refine y_iloadw C 0 dL_law_1482 rfl ?_
    refine y_i2l C dL_law_1484 rfl ?_
    refine y_lcmp0 C dL_law_1485 rfl ?_
    refine y_ifeq0 C 1491 dL_law_1486 (by decide) ?_
    refine y_goto C 1638 dL_law_1491 (by decide) ?_
    refine y_sub [2, 3, 4, 5, 6] rfl ?_
    exact Gk _ _ _ ⟨m1, M1, _, T, G, q4, hT, rfl⟩ (by omega) (by omega)
  · skip
    refine y_aload C 1 dL_law_1438 rfl rfl ?_
    refine y_arg C Z 0 4 1 i dL_law_1439 dL_law_1440 dL_law_1442 dL_law_1443 dL_law_1444 rfl rfl (by omega) e1 ?_
    refine y_aload C 3 dL_law_1445 rfl rfl ?_
    refine y_callW (st := []) (ws1 := lwo (yDA Γ) o g :: xwld aX (yDA Γ) m 0 lay_X) (ws1' := lwo (yDA Γ) o g :: xwld aX (yDA Γ) m 0 lay_X) (wb := T ++ xwld aM (yDA Γ) M 0 lay_M) (r := 1) (nP := 3) C Z dL_law_1446 (xin_55 _ (List.mem_of_getElem? (i := 5) rfl)) (xin_55 _ (List.mem_of_getElem? (i := 6) rfl)) (xin_10 _ (List.mem_of_getElem? (i := 12) rfl)) (xin_55 _ (List.mem_of_getElem? (i := 7) rfl)) ⟨by decide +kernel, by decide +kernel, by decide +kernel⟩ (by omega) (by decide) rfl (Nat.le_of_ble_eq_true rfl) aX hS.1 (fun dC dI sz => s1_L_setQuality hst (by decide) q1 dC dI (yDA Γ) aX o g sz) (lw_addr _ _ _ _ _ _ _) (by omega) (by omega) rfl ?_
    refine y_istorew C dL_law_1449 (by omega) rfl ?_
    refine y_aload C 3 dL_law_1451 rfl rfl ?_
    refine y_arg C Z 1 5 1 i dL_law_1452 dL_law_1453 dL_law_1455 dL_law_1456 dL_law_1457 rfl rfl (by omega) e1 ?_
    refine y_callXr (wa := lwo (yDA Γ) o g :: xwld aX (yDA Γ) m 0 lay_X) (wb := T) (st := []) (av := [.inl z1]) (b := 0) (layY := lay_M) C aM dL_law_1458 (xin_55 _ (List.mem_of_getElem? (i := 12) rfl)) xy_X11_setQuality xi_X11_setQuality xs_X11_setQuality (by omega) (by decide) rfl ⟨_, _, rfl⟩ rfl (Nat.le_of_ble_eq_true rfl) q2 (by omega) (by omega) hS.2 rfl ?_
    refine y_istorew C dL_law_1461 (by omega) rfl ?_
    refine y_aload C 4 dL_law_1463 rfl rfl ?_
    refine y_callXr (wa := lwo (yDA Γ) o g :: xwld aX (yDA Γ) m 0 lay_X) (wb := T) (st := []) (av := []) (b := 0) (layY := lay_M) C aM dL_law_1464 (xin_23 _ (List.mem_of_getElem? (i := 19) rfl)) xy_X11_thrown xi_X11_thrown xs_X11_thrown (by omega) (by decide) rfl ⟨_, _, rfl⟩ rfl (Nat.le_of_ble_eq_true rfl) (c_m_thrown _ _ 1 (by unfold f_m_thrown; rw [q3])) (by omega) (by omega) hS.2 rfl ?_
    refine y_iloadw C 1 dL_law_1467 rfl ?_
    refine y_icmpeq C 1474 dL_law_1469 (by decide) (by decide) ?_
    refine y_iloadw C 1 dL_law_1474 rfl ?_
    refine y_ifne1 C 1491 dL_law_1476 (by decide) (by decide) ?_
    refine y_goto C 1638 dL_law_1491 (by decide) ?_
    refine y_sub [2, 3, 4, 5, 6] rfl ?_
    exact Gk _ _ _ ⟨m, M1, _, T, G, q4, hT, rfl⟩ (by omega) (by omega)
set_option maxRecDepth 100000 in
set_option maxHeartbeats 8000000 in
theorem lc_27 {Γ : yG} {b Ln : Nat} {xs : Nat → Int32} (C : yC Γ RL cL_law 9 100 601024 7293034) (Z : lC Γ b Ln xs) (hst : Γ.1.2.1.stackTraces = false) {aX aM : Nat → Nat} (hS : lS Γ aX aM) (o i : Nat) (hi : i + 6 ≤ Ln) {ws : va_W} {k n : Nat} (hk : k + 4 ≤ 601024) (hn : n + 200 ≤ 7293034) (hI : lI (yDA Γ) aX aM o ws) (Gk : ∀ (ws' : va_W) (k' n' : Nat), lI (yDA Γ) aX aM o ws' → k' ≤ k + 4 → n' ≤ n + 200 → yW Γ 9 1638 (lL b aX aM o i) [] ws' k' n') : yW Γ 9 1532 (lL b aX aM o i) [] ws k n := by
  obtain ⟨m, M, g, T, G, hX, hT, rfl⟩ := hI
  obtain ⟨r, m1, M1, q1, q2, q3, q4⟩ := ls_undoCount _ hst  m M hX
  refine y_aload C 1 dL_law_1532 rfl rfl ?_
  refine y_callXm (wa := [lwo (yDA Γ) o g]) (wb := T ++ xwld aM (yDA Γ) M 0 lay_M) (st := []) (av := []) (b := 0) (layY := lay_X) (m := m) C aX dL_law_1533 (xin_64 _ (List.mem_of_getElem? (i := 21) rfl)) xy_X10_undoCount xi_X10_undoCount xs_X10_undoCount (by omega) (by decide) rfl ⟨_, _, rfl⟩ rfl (Nat.le_of_ble_eq_true rfl) q1 (by omega) (by omega) hS.1 rfl ?_
  refine y_aload C 2 dL_law_1536 rfl rfl ?_
  refine y_callXr (wa := lwo (yDA Γ) o g :: xwld aX (yDA Γ) m1 0 lay_X) (wb := T) (st := [.int (Int32.ofInt r)]) (av := []) (b := 0) (layY := lay_M) C aM dL_law_1537 (xin_65 _ (List.mem_of_getElem? (i := 1) rfl)) xy_X11_undoCount xi_X11_undoCount xs_X11_undoCount (by omega) (by decide) rfl ⟨_, _, rfl⟩ rfl (Nat.le_of_ble_eq_true rfl) q2 (by omega) (by omega) hS.2 rfl ?_
  refine y_icmpeq C 1638 dL_law_1540 (by decide) rfl ?_
  exact Gk _ _ _ ⟨m1, M1, g, T, G, q4, hT, rfl⟩ (by omega) (by omega)
set_option maxRecDepth 100000 in
set_option maxHeartbeats 8000000 in
theorem lc_28 {Γ : yG} {b Ln : Nat} {xs : Nat → Int32} (C : yC Γ RL cL_law 9 100 601024 7293034) (Z : lC Γ b Ln xs) (hst : Γ.1.2.1.stackTraces = false) {aX aM : Nat → Nat} (hS : lS Γ aX aM) (o i : Nat) (hi : i + 6 ≤ Ln) {ws : va_W} {k n : Nat} (hk : k + 4 ≤ 601024) (hn : n + 200 ≤ 7293034) (hI : lI (yDA Γ) aX aM o ws) (Gk : ∀ (ws' : va_W) (k' n' : Nat), lI (yDA Γ) aX aM o ws' → k' ≤ k + 4 → n' ≤ n + 200 → yW Γ 9 1638 (lL b aX aM o i) [] ws' k' n') : yW Γ 9 1545 (lL b aX aM o i) [] ws k n := by
  obtain ⟨m, M, g, T, G, hX, hT, rfl⟩ := hI
  obtain ⟨r, m1, M1, q1, q2, q3, q4⟩ := ls_undo _ hst  m M hX
  refine y_aload C 1 dL_law_1545 rfl rfl ?_
  refine y_callXm (wa := [lwo (yDA Γ) o g]) (wb := T ++ xwld aM (yDA Γ) M 0 lay_M) (st := []) (av := []) (b := 0) (layY := lay_X) (m := m) C aX dL_law_1546 (xin_65 _ (List.mem_of_getElem? (i := 5) rfl)) xy_X10_undo xi_X10_undo xs_X10_undo (by omega) (by decide) rfl ⟨_, _, rfl⟩ rfl (Nat.le_of_ble_eq_true rfl) q1 (by omega) (by omega) hS.1 rfl ?_
  refine y_aload C 2 dL_law_1549 rfl rfl ?_
  refine y_callXr (wa := lwo (yDA Γ) o g :: xwld aX (yDA Γ) m1 0 lay_X) (wb := T) (st := [.int (Int32.ofInt r)]) (av := []) (b := 0) (layY := lay_M) C aM dL_law_1550 (xin_65 _ (List.mem_of_getElem? (i := 9) rfl)) xy_X11_undo xi_X11_undo xs_X11_undo (by omega) (by decide) rfl ⟨_, _, rfl⟩ rfl (Nat.le_of_ble_eq_true rfl) q2 (by omega) (by omega) hS.2 rfl ?_
  refine y_icmpeq C 1638 dL_law_1553 (by decide) rfl ?_
  exact Gk _ _ _ ⟨m1, M1, g, T, G, q4, hT, rfl⟩ (by omega) (by omega)
set_option maxRecDepth 100000 in
set_option maxHeartbeats 8000000 in
theorem lc_29 {Γ : yG} {b Ln : Nat} {xs : Nat → Int32} (C : yC Γ RL cL_law 9 100 601024 7293034) (Z : lC Γ b Ln xs) (hst : Γ.1.2.1.stackTraces = false) {aX aM : Nat → Nat} (hS : lS Γ aX aM) (o i : Nat) (hi : i + 6 ≤ Ln) {ws : va_W} {k n : Nat} (hk : k + 4 ≤ 601024) (hn : n + 200 ≤ 7293034) (hI : lI (yDA Γ) aX aM o ws) (Gk : ∀ (ws' : va_W) (k' n' : Nat), lI (yDA Γ) aX aM o ws' → k' ≤ k + 4 → n' ≤ n + 200 → yW Γ 9 1638 (lL b aX aM o i) [] ws' k' n') : yW Γ 9 1558 (lL b aX aM o i) [] ws k n := by
  obtain ⟨m, M, g, T, G, hX, hT, rfl⟩ := hI
  obtain ⟨m1, M1, q1, q2, q4⟩ := ls_saveSnapshot Γ.1.2.1 m M hX
  refine y_aload C 1 dL_law_1558 rfl rfl ?_
  refine y_callXm (wa := [lwo (yDA Γ) o g]) (wb := T ++ xwld aM (yDA Γ) M 0 lay_M) (st := []) (av := []) (b := 0) (layY := lay_X) (m := m) C aX dL_law_1559 (xin_65 _ (List.mem_of_getElem? (i := 13) rfl)) xy_X10_saveSnapshot xi_X10_saveSnapshot xs_X10_saveSnapshot (by omega) (by decide) rfl ⟨_, _, rfl⟩ rfl (Nat.le_of_ble_eq_true rfl) q1 (by omega) (by omega) hS.1 rfl ?_
  refine y_aload C 2 dL_law_1562 rfl rfl ?_
  refine y_callXr (wa := lwo (yDA Γ) o g :: xwld aX (yDA Γ) m1 0 lay_X) (wb := T) (st := []) (av := []) (b := 0) (layY := lay_M) C aM dL_law_1563 (xin_65 _ (List.mem_of_getElem? (i := 17) rfl)) xy_X11_saveSnapshot xi_X11_saveSnapshot xs_X11_saveSnapshot (by omega) (by decide) rfl ⟨_, _, rfl⟩ rfl (Nat.le_of_ble_eq_true rfl) q2 (by omega) (by omega) hS.2 rfl ?_
  refine y_goto C 1638 dL_law_1566 (by decide) ?_
  exact Gk _ _ _ ⟨m1, M1, g, T, G, q4, hT, rfl⟩ (by omega) (by omega)
set_option maxRecDepth 100000 in
set_option maxHeartbeats 8000000 in
theorem lc_30 {Γ : yG} {b Ln : Nat} {xs : Nat → Int32} (C : yC Γ RL cL_law 9 100 601024 7293034) (Z : lC Γ b Ln xs) (hst : Γ.1.2.1.stackTraces = false) {aX aM : Nat → Nat} (hS : lS Γ aX aM) (o i : Nat) (hi : i + 6 ≤ Ln) {ws : va_W} {k n : Nat} (hk : k + 4 ≤ 601024) (hn : n + 200 ≤ 7293034) (hI : lI (yDA Γ) aX aM o ws) (Gk : ∀ (ws' : va_W) (k' n' : Nat), lI (yDA Γ) aX aM o ws' → k' ≤ k + 4 → n' ≤ n + 200 → yW Γ 9 1638 (lL b aX aM o i) [] ws' k' n') : yW Γ 9 1569 (lL b aX aM o i) [] ws k n := by
  obtain ⟨m, M, g, T, G, hX, hT, rfl⟩ := hI
  obtain ⟨r, m1, M1, q1, q2, q4⟩ := ls_restoreSnapshot Γ.1.2.1 m M hX
  refine y_aload C 1 dL_law_1569 rfl rfl ?_
  refine y_callXm (wa := [lwo (yDA Γ) o g]) (wb := T ++ xwld aM (yDA Γ) M 0 lay_M) (st := []) (av := []) (b := 0) (layY := lay_X) (m := m) C aX dL_law_1570 (xin_65 _ (List.mem_of_getElem? (i := 21) rfl)) xy_X10_restoreSnapshot xi_X10_restoreSnapshot xs_X10_restoreSnapshot (by omega) (by decide) rfl ⟨_, _, rfl⟩ rfl (Nat.le_of_ble_eq_true rfl) q1 (by omega) (by omega) hS.1 rfl ?_
  refine y_aload C 2 dL_law_1573 rfl rfl ?_
  refine y_callXr (wa := lwo (yDA Γ) o g :: xwld aX (yDA Γ) m1 0 lay_X) (wb := T) (st := [.int (Int32.ofInt r)]) (av := []) (b := 0) (layY := lay_M) C aM dL_law_1574 (xin_66 _ (List.mem_of_getElem? (i := 1) rfl)) xy_X11_restoreSnapshot xi_X11_restoreSnapshot xs_X11_restoreSnapshot (by omega) (by decide) rfl ⟨_, _, rfl⟩ rfl (Nat.le_of_ble_eq_true rfl) q2 (by omega) (by omega) hS.2 rfl ?_
  refine y_icmpeq C 1638 dL_law_1577 (by decide) rfl ?_
  exact Gk _ _ _ ⟨m1, M1, g, T, G, q4, hT, rfl⟩ (by omega) (by omega)

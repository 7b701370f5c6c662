/-! ===== format and formattedByte, by the class ===== -/
theorem y_ldcSW {Γ : yG} {own : String} {cc : ByteArray} {nL d pc K N k n : Nat} {L : List (Nat × Value)} {st : List Value} {ws : va_W} (C : yC Γ own cc nL d K N) {idx : Nat} (tx : String) (i : Nat) (hd : decode cc pc = .ok (.ldc_w idx, 3)) (hr : (own, idx, tx, i) ∈ xSref) (h : yW Γ nL (pc + 3) L (.ref (ySA Γ (1000 + i)) :: st) ws k n) : yW Γ nL pc L st ws k n := by
  obtain ⟨⟨p, l, e, R, s, m0, args, below, meth, c⟩, ⟨A, dC, dI, dA, sa⟩, Q⟩ := Γ
  obtain ⟨hx, hb, hml, hown, hts, hK, hA, hfr, hce, hT, hX⟩ := C
  intro H locs ls hP hD hS hv T hT9 X
  obtain ⟨t, a1, b1⟩ := h H locs ls hP hD hS hv T hT9 X
  exact ⟨t, X.ldcStringW hx hown (text := tx) (a := sa (1000 + i)) (hX.1.2.1 _ hr).1 (hX.1.2.1 _ hr).2 (g := F0 m0 pc ls st) rfl (by rw [hb]; exact hd) t a1, b1⟩
theorem y_tableOut {Γ : yG} {own : String} {cc : ByteArray} {nL d pc K N k n : Nat} {L : List (Nat × Value)} {st : List Value} {ws : va_W} (C : yC Γ own cc nL d K N) {dflt lo hi : Int} {offs : Array Int} {len : Nat} {x : Int32} (tgt : Nat) (hd : decode cc pc = .ok (.tableswitch dflt lo hi offs, len)) (hx9 : x.toInt < lo ∨ hi < x.toInt) (ht : (pc : Int) + dflt = (tgt : Int)) (h : yW Γ nL tgt L st ws k n) : yW Γ nL pc L (.int x :: st) ws k n := by
  obtain ⟨⟨p, l, e, R, s, m0, args, below, meth, c⟩, ⟨A, dC, dI, dA, sa⟩, Q⟩ := Γ
  obtain ⟨hx, hb, -⟩ := C
  intro H locs ls hP hD hS hv
  exact lv_tableOut hx hb hd hx9 ht (h H locs ls hP hD hS hv)
theorem t_cell {ad : Nat → Nat} {dA : Nat → ClassId} {m : xM} {w : va_W} {k : Nat} {s : xS} (h : lay_X[k]? = some s) : (xwld ad dA m 0 lay_X ++ w)[k]? = some (ad k, xent ad dA (m k) s) := by
  have h1 := xwld_at (ad := ad) (dA := dA) (m := m) h
  rw [List.getElem?_append_left (List.getElem?_eq_some_iff.mp h1).1]
  exact h1
/-- the first n letters of G, in the bytes f -/
def tS (f : Nat → Int32) (n : Nat) (G : Nat → Int) : Prop := ∀ j, j < n → (32 ≤ G j ∧ G j ≤ 126) ∧ f j = Int32.ofInt (G j)
theorem tS.c {f f2 : Nat → Int32} {n : Nat} {G : Nat → Int} {c : Int} (h : tS f n G) (h1 : ∀ j, j < n → f2 j = f j) (h2 : f2 n = Int32.ofInt c) (hG : G n = c) (hc : 32 ≤ c ∧ c ≤ 126) : tS f2 (n + 1) G := fun j hj => by
  by_cases g : j = n
  · rw [g, hG, h2]; exact ⟨hc, rfl⟩
  · rw [h1 j (by omega)]; exact h j (by omega)
theorem xsc_rng : ∀ i, i < 26 → ∀ j, j < (xSby.getD i []).length → 32 ≤ xsc i j ∧ xsc i j ≤ 126 := by decide +kernel
theorem tS.w {f f2 : Nat → Int32} {n : Nat} {G : Nat → Int} {i : Nat} (hi : i < 26) (h : tS f n G) (h1 : ∀ j, j < n → f2 j = f j) (h2 : ∀ j, j < (xSby.getD i []).length → f2 (n + j) = (xSby.getD i []).getD j 0) (hG : ∀ j, j < (xSby.getD i []).length → G (n + j) = xsc i j) : tS f2 (n + (xSby.getD i []).length) G := fun j hj => by
  by_cases g : j < n
  · rw [h1 j g]; exact h j g
  · obtain ⟨k, hk⟩ : ∃ k, j = n + k := ⟨j - n, by omega⟩
    have hkl : k < (xSby.getD i []).length := by omega
    rw [hk, hG k hkl, h2 k hkl]
    refine ⟨xsc_rng i hi k hkl, ?_⟩
    unfold xsc
    rw [Int32.ofInt_toInt]
theorem tS.d {f f2 : Nat → Int32} {n c N : Nat} {G : Nat → Int} (h : tS f n G) (h1 : ∀ j, j < n → f2 j = f j) (h2 : ∀ j, j < c → f2 (n + j) = Int32.ofInt (dgt N (c - 1 - j))) (hG : ∀ j, j < c → G (n + j) = dgt N (c - 1 - j)) : tS f2 (n + c) G := fun j hj => by
  by_cases g : j < n
  · rw [h1 j g]; exact h j g
  · obtain ⟨k, hk⟩ : ∃ k, j = n + k := ⟨j - n, by omega⟩
    have := dgt_in N (c - 1 - k)
    rw [hk, hG k (by omega), h2 k (by omega)]
    exact ⟨by omega, rfl⟩
theorem dX10_appendEnd_0 : decode cX10_appendEnd 0 = .ok (.aload_n 0, 1) := by decide +kernel
theorem dX10_appendEnd_1 : decode cX10_appendEnd 1 = .ok (.getfield 83, 3) := by decide +kernel
theorem dX10_appendEnd_4 : decode cX10_appendEnd 4 = .ok (.bipush 32, 2) := by decide +kernel
theorem dX10_appendEnd_6 : decode cX10_appendEnd 6 = .ok (.invokevirtual 355, 3) := by decide +kernel
theorem dX10_appendEnd_9 : decode cX10_appendEnd 9 = .ok (.aload_n 1, 1) := by decide +kernel
theorem dX10_appendEnd_10 : decode cX10_appendEnd 10 = .ok (.getfield 188, 3) := by decide +kernel
theorem dX10_appendEnd_13 : decode cX10_appendEnd 13 = .ok (.invokevirtual 339, 3) := by decide +kernel
theorem dX10_appendEnd_16 : decode cX10_appendEnd 16 = .ok (.pop, 1) := by decide +kernel
theorem dX10_appendEnd_17 : decode cX10_appendEnd 17 = .ok (.aload_n 0, 1) := by decide +kernel
theorem dX10_appendEnd_18 : decode cX10_appendEnd 18 = .ok (.getfield 83, 3) := by decide +kernel
theorem dX10_appendEnd_21 : decode cX10_appendEnd 21 = .ok (.bipush 47, 2) := by decide +kernel
theorem dX10_appendEnd_23 : decode cX10_appendEnd 23 = .ok (.invokevirtual 355, 3) := by decide +kernel
theorem dX10_appendEnd_26 : decode cX10_appendEnd 26 = .ok (.aload_n 1, 1) := by decide +kernel
theorem dX10_appendEnd_27 : decode cX10_appendEnd 27 = .ok (.getfield 193, 3) := by decide +kernel
theorem dX10_appendEnd_30 : decode cX10_appendEnd 30 = .ok (.getfield 202, 3) := by decide +kernel
theorem dX10_appendEnd_33 : decode cX10_appendEnd 33 = .ok (.invokevirtual 339, 3) := by decide +kernel
theorem dX10_appendEnd_36 : decode cX10_appendEnd 36 = .ok (.pop, 1) := by decide +kernel
theorem dX10_appendEnd_37 : decode cX10_appendEnd 37 = .ok (.aload_n 0, 1) := by decide +kernel
theorem dX10_appendEnd_38 : decode cX10_appendEnd 38 = .ok (.getfield 83, 3) := by decide +kernel
theorem dX10_appendEnd_41 : decode cX10_appendEnd 41 = .ok (.bipush 47, 2) := by decide +kernel
theorem dX10_appendEnd_43 : decode cX10_appendEnd 43 = .ok (.invokevirtual 355, 3) := by decide +kernel
theorem dX10_appendEnd_46 : decode cX10_appendEnd 46 = .ok (.aload_n 1, 1) := by decide +kernel
theorem dX10_appendEnd_47 : decode cX10_appendEnd 47 = .ok (.getfield 209, 3) := by decide +kernel
theorem dX10_appendEnd_50 : decode cX10_appendEnd 50 = .ok (.invokevirtual 339, 3) := by decide +kernel
theorem dX10_appendEnd_53 : decode cX10_appendEnd 53 = .ok (.pop, 1) := by decide +kernel
theorem dX10_appendEnd_54 : decode cX10_appendEnd 54 = .ok (.return_, 1) := by decide +kernel
theorem xy_J4_append_cf468 : xY yJ4_append_cf468 cJ4_append_cf468 2 (some (.object "java/lang/StringBuilder")) 1 := ⟨(xin_62 _ (List.mem_of_getElem? (i := 14) rfl)), (xin_2 _ (List.mem_of_getElem? (i := 19) rfl)), by decide +kernel, by decide +kernel, by decide +kernel⟩
theorem xy_J4_append_bf812 : xY yJ4_append_bf812 cJ4_append_bf812 2 (some (.object "java/lang/StringBuilder")) 1 := ⟨(xin_61 _ (List.mem_of_getElem? (i := 9) rfl)), (xin_2 _ (List.mem_of_getElem? (i := 19) rfl)), by decide +kernel, by decide +kernel, by decide +kernel⟩
set_option maxRecDepth 100000 in
set_option maxHeartbeats 4000000 in
theorem k_appEnd12 {l : Launch} {dA : Nat → ClassId} {ad aX : Nat → Nat} {m : xM} {t1 cap n : Nat} {ml : Int32} {f : Nat → Int32} {G : Nat → Int} {q fr rc cq cf cr : Nat} (hq : m 12 5 = q) (hfr : m 15 4 = fr) (hrc : m 12 6 = rc) (Hq : q ≤ 1000000000 ∧ isL q cq) (Hf : fr ≤ 1000000000 ∧ isL fr cf) (Hr : rc ≤ 1000000000 ∧ isL rc cr) (hn : n ≤ cap) (h60 : (n + 1 + cq + 1 + cf + 1 + cr) ≤ 60) (hc : cap ≤ 500) (hf : ∀ j, (f j).toInt8.toInt32 = f j) (hS : tS f n G) (g1 : G n = 32) (g2 : ∀ j, j < cq → G (n + 1 + j) = dgt q (cq - 1 - j)) (g3 : G (n + 1 + cq) = 47) (g4 : ∀ j, j < cf → G (n + 1 + cq + 1 + j) = dgt fr (cf - 1 - j)) (g5 : G (n + 1 + cq + 1 + cf) = 47) (g6 : ∀ j, j < cr → G (n + 1 + cq + 1 + cf + 1 + j) = dgt rc (cr - 1 - j)) : tMet l yX10_appendEnd cX10_appendEnd 2 none 6 6 720 [.ref (aX 0), .ref (aX 12)] dA ad (xwld aX dA m 0 lay_X ++ tB dA (aX 445) t1 cap n ml f) (fun r w => r = none ∧ ∃ (t2 c2 : Nat) (f2 : Nat → Int32), w = xwld aX dA m 0 lay_X ++ tB dA (aX 445) t2 c2 (n + 1 + cq + 1 + cf + 1 + cr) ml f2 ∧ (n + 1 + cq + 1 + cf + 1 + cr) ≤ c2 ∧ c2 ≤ 500 ∧ (∀ j, (f2 j).toInt8.toInt32 = f2 j) ∧ tS f2 (n + 1 + cq + 1 + cf + 1 + cr) G) := by
  refine tMet_v (Or.inl (by decide +kernel)) (Nat.le_of_ble_eq_true rfl) (fun Γ C hG hsa hda hR hl9 => ?_)
  subst hl9; subst hda; subst hsa
  refine y_aload C 0 dX10_appendEnd_0 rfl rfl ?_
  refine y_get (v := .ref (aX 445)) C 0 dX10_appendEnd_1 fF_X10_83 (t_cell (s := .inl (12, [some 1, some 6, some 11, some 44, some 77, none, some 440, none, none, some 441, none, none, some 442, some 443, some 444, some 445])) rfl) rfl ?_
  refine y_bipush (v := Int32.ofInt (32)) C dX10_appendEnd_4 (by decide) ?_
  refine t_callV (wa := xwld aX (yDA Γ) m 0 lay_X) (av := [.int (Int32.ofInt 32)]) C hG dX10_appendEnd_6 (xin_62 _ (List.mem_of_getElem? (i := 11) rfl)) (xin_62 _ (List.mem_of_getElem? (i := 13) rfl)) (xin_62 _ (List.mem_of_getElem? (i := 12) rfl)) xy_J4_append_cf468 (by omega) (by omega) 0 rfl ⟨TJ4, 4, rfl⟩ rfl (Nat.le_of_ble_eq_true rfl) (k_appC (c := 32) (by omega) (by decide) hn (by omega) hc hf) (by omega) (by omega) rfl (fun rv w9 hw9 => ?_)
  obtain ⟨rfl, t1, c1, f1, rfl, x1, y1, z1, u1, v1⟩ := hw9
  have s1 := tS.c hS u1 v1 g1 (by omega)
  refine y_aload C 1 dX10_appendEnd_9 rfl rfl ?_
  refine y_get (v := .int (Int32.ofInt (m 12 5))) C 12 dX10_appendEnd_10 fF_X10_188 (t_cell (s := .inl (3, [some 13, some 14, some 15, some 19, some 21, none, none, none, none, none, none])) rfl) rfl ?_
  rw [hq]
  refine t_callV (wa := xwld aX (yDA Γ) m 0 lay_X) (av := [.int (Int32.ofInt (q : Int))]) C hG dX10_appendEnd_13 (xin_61 _ (List.mem_of_getElem? (i := 6) rfl)) (xin_61 _ (List.mem_of_getElem? (i := 8) rfl)) (xin_61 _ (List.mem_of_getElem? (i := 7) rfl)) xy_J4_append_bf812 (by omega) (by omega) 0 rfl ⟨TJ4, 4, rfl⟩ rfl (Nat.le_of_ble_eq_true rfl) (k_appI Hq.1 Hq.2 x1 (by omega) y1 z1) (by omega) (by omega) rfl (fun rv w9 hw9 => ?_)
  obtain ⟨rfl, t2, c2, f2, rfl, x2, y2, z2, u2, v2⟩ := hw9
  have s2 := tS.d s1 u2 v2 g2
  refine t_pop C dX10_appendEnd_16 rfl ?_
  refine y_aload C 0 dX10_appendEnd_17 rfl rfl ?_
  refine y_get (v := .ref (aX 445)) C 0 dX10_appendEnd_18 fF_X10_83 (t_cell (s := .inl (12, [some 1, some 6, some 11, some 44, some 77, none, some 440, none, none, some 441, none, none, some 442, some 443, some 444, some 445])) rfl) rfl ?_
  refine y_bipush (v := Int32.ofInt (47)) C dX10_appendEnd_21 (by decide) ?_
  refine t_callV (wa := xwld aX (yDA Γ) m 0 lay_X) (av := [.int (Int32.ofInt 47)]) C hG dX10_appendEnd_23 (xin_62 _ (List.mem_of_getElem? (i := 11) rfl)) (xin_62 _ (List.mem_of_getElem? (i := 13) rfl)) (xin_62 _ (List.mem_of_getElem? (i := 12) rfl)) xy_J4_append_cf468 (by omega) (by omega) 0 rfl ⟨TJ4, 4, rfl⟩ rfl (Nat.le_of_ble_eq_true rfl) (k_appC (c := 47) (by omega) (by decide) x2 (by omega) y2 z2) (by omega) (by omega) rfl (fun rv w9 hw9 => ?_)
  obtain ⟨rfl, t3, c3, f3, rfl, x3, y3, z3, u3, v3⟩ := hw9
  have s3 := tS.c s2 u3 v3 g3 (by omega)
  refine y_aload C 1 dX10_appendEnd_26 rfl rfl ?_
  refine y_get (v := .ref (aX 15)) C 12 dX10_appendEnd_27 fF_X10_193 (t_cell (s := .inl (3, [some 13, some 14, some 15, some 19, some 21, none, none, none, none, none, none])) rfl) rfl ?_
  refine y_get (v := .int (Int32.ofInt (m 15 4))) C 15 dX10_appendEnd_30 fF_X10_202 (t_cell (s := .inl (4, [some 16, some 17, some 18, none, none, none])) rfl) rfl ?_
  rw [hfr]
  refine t_callV (wa := xwld aX (yDA Γ) m 0 lay_X) (av := [.int (Int32.ofInt (fr : Int))]) C hG dX10_appendEnd_33 (xin_61 _ (List.mem_of_getElem? (i := 6) rfl)) (xin_61 _ (List.mem_of_getElem? (i := 8) rfl)) (xin_61 _ (List.mem_of_getElem? (i := 7) rfl)) xy_J4_append_bf812 (by omega) (by omega) 0 rfl ⟨TJ4, 4, rfl⟩ rfl (Nat.le_of_ble_eq_true rfl) (k_appI Hf.1 Hf.2 x3 (by omega) y3 z3) (by omega) (by omega) rfl (fun rv w9 hw9 => ?_)
  obtain ⟨rfl, t4, c4, f4, rfl, x4, y4, z4, u4, v4⟩ := hw9
  have s4 := tS.d s3 u4 v4 g4
  refine t_pop C dX10_appendEnd_36 rfl ?_
  refine y_aload C 0 dX10_appendEnd_37 rfl rfl ?_
  refine y_get (v := .ref (aX 445)) C 0 dX10_appendEnd_38 fF_X10_83 (t_cell (s := .inl (12, [some 1, some 6, some 11, some 44, some 77, none, some 440, none, none, some 441, none, none, some 442, some 443, some 444, some 445])) rfl) rfl ?_
  refine y_bipush (v := Int32.ofInt (47)) C dX10_appendEnd_41 (by decide) ?_
  refine t_callV (wa := xwld aX (yDA Γ) m 0 lay_X) (av := [.int (Int32.ofInt 47)]) C hG dX10_appendEnd_43 (xin_62 _ (List.mem_of_getElem? (i := 11) rfl)) (xin_62 _ (List.mem_of_getElem? (i := 13) rfl)) (xin_62 _ (List.mem_of_getElem? (i := 12) rfl)) xy_J4_append_cf468 (by omega) (by omega) 0 rfl ⟨TJ4, 4, rfl⟩ rfl (Nat.le_of_ble_eq_true rfl) (k_appC (c := 47) (by omega) (by decide) x4 (by omega) y4 z4) (by omega) (by omega) rfl (fun rv w9 hw9 => ?_)
  obtain ⟨rfl, t5, c5, f5, rfl, x5, y5, z5, u5, v5⟩ := hw9
  have s5 := tS.c s4 u5 v5 g5 (by omega)
  refine y_aload C 1 dX10_appendEnd_46 rfl rfl ?_
  refine y_get (v := .int (Int32.ofInt (m 12 6))) C 12 dX10_appendEnd_47 fF_X10_209 (t_cell (s := .inl (3, [some 13, some 14, some 15, some 19, some 21, none, none, none, none, none, none])) rfl) rfl ?_
  rw [hrc]
  refine t_callV (wa := xwld aX (yDA Γ) m 0 lay_X) (av := [.int (Int32.ofInt (rc : Int))]) C hG dX10_appendEnd_50 (xin_61 _ (List.mem_of_getElem? (i := 6) rfl)) (xin_61 _ (List.mem_of_getElem? (i := 8) rfl)) (xin_61 _ (List.mem_of_getElem? (i := 7) rfl)) xy_J4_append_bf812 (by omega) (by omega) 0 rfl ⟨TJ4, 4, rfl⟩ rfl (Nat.le_of_ble_eq_true rfl) (k_appI Hr.1 Hr.2 x5 (by omega) y5 z5) (by omega) (by omega) rfl (fun rv w9 hw9 => ?_)
  obtain ⟨rfl, t6, c6, f6, rfl, x6, y6, z6, u6, v6⟩ := hw9
  have s6 := tS.d s5 u6 v6 g6
  refine t_pop C dX10_appendEnd_53 rfl ?_
  exact t_ret hR dX10_appendEnd_54 (by omega) (by omega) ⟨rfl, t6, c6, f6, rfl, x6, y6, z6, s6⟩
set_option maxRecDepth 100000 in
set_option maxHeartbeats 4000000 in
theorem k_appEnd23 {l : Launch} {dA : Nat → ClassId} {ad aX : Nat → Nat} {m : xM} {t1 cap n : Nat} {ml : Int32} {f : Nat → Int32} {G : Nat → Int} {q fr rc cq cf cr : Nat} (hq : m 23 5 = q) (hfr : m 26 4 = fr) (hrc : m 23 6 = rc) (Hq : q ≤ 1000000000 ∧ isL q cq) (Hf : fr ≤ 1000000000 ∧ isL fr cf) (Hr : rc ≤ 1000000000 ∧ isL rc cr) (hn : n ≤ cap) (h60 : (n + 1 + cq + 1 + cf + 1 + cr) ≤ 60) (hc : cap ≤ 500) (hf : ∀ j, (f j).toInt8.toInt32 = f j) (hS : tS f n G) (g1 : G n = 32) (g2 : ∀ j, j < cq → G (n + 1 + j) = dgt q (cq - 1 - j)) (g3 : G (n + 1 + cq) = 47) (g4 : ∀ j, j < cf → G (n + 1 + cq + 1 + j) = dgt fr (cf - 1 - j)) (g5 : G (n + 1 + cq + 1 + cf) = 47) (g6 : ∀ j, j < cr → G (n + 1 + cq + 1 + cf + 1 + j) = dgt rc (cr - 1 - j)) : tMet l yX10_appendEnd cX10_appendEnd 2 none 6 6 720 [.ref (aX 0), .ref (aX 23)] dA ad (xwld aX dA m 0 lay_X ++ tB dA (aX 445) t1 cap n ml f) (fun r w => r = none ∧ ∃ (t2 c2 : Nat) (f2 : Nat → Int32), w = xwld aX dA m 0 lay_X ++ tB dA (aX 445) t2 c2 (n + 1 + cq + 1 + cf + 1 + cr) ml f2 ∧ (n + 1 + cq + 1 + cf + 1 + cr) ≤ c2 ∧ c2 ≤ 500 ∧ (∀ j, (f2 j).toInt8.toInt32 = f2 j) ∧ tS f2 (n + 1 + cq + 1 + cf + 1 + cr) G) := by
  refine tMet_v (Or.inl (by decide +kernel)) (Nat.le_of_ble_eq_true rfl) (fun Γ C hG hsa hda hR hl9 => ?_)
  subst hl9; subst hda; subst hsa
  refine y_aload C 0 dX10_appendEnd_0 rfl rfl ?_
  refine y_get (v := .ref (aX 445)) C 0 dX10_appendEnd_1 fF_X10_83 (t_cell (s := .inl (12, [some 1, some 6, some 11, some 44, some 77, none, some 440, none, none, some 441, none, none, some 442, some 443, some 444, some 445])) rfl) rfl ?_
  refine y_bipush (v := Int32.ofInt (32)) C dX10_appendEnd_4 (by decide) ?_
  refine t_callV (wa := xwld aX (yDA Γ) m 0 lay_X) (av := [.int (Int32.ofInt 32)]) C hG dX10_appendEnd_6 (xin_62 _ (List.mem_of_getElem? (i := 11) rfl)) (xin_62 _ (List.mem_of_getElem? (i := 13) rfl)) (xin_62 _ (List.mem_of_getElem? (i := 12) rfl)) xy_J4_append_cf468 (by omega) (by omega) 0 rfl ⟨TJ4, 4, rfl⟩ rfl (Nat.le_of_ble_eq_true rfl) (k_appC (c := 32) (by omega) (by decide) hn (by omega) hc hf) (by omega) (by omega) rfl (fun rv w9 hw9 => ?_)
  obtain ⟨rfl, t1, c1, f1, rfl, x1, y1, z1, u1, v1⟩ := hw9
  have s1 := tS.c hS u1 v1 g1 (by omega)
  refine y_aload C 1 dX10_appendEnd_9 rfl rfl ?_
  refine y_get (v := .int (Int32.ofInt (m 23 5))) C 23 dX10_appendEnd_10 fF_X10_188 (t_cell (s := .inl (3, [some 24, some 25, some 26, some 30, some 32, none, none, none, none, none, none])) rfl) rfl ?_
  rw [hq]
  refine t_callV (wa := xwld aX (yDA Γ) m 0 lay_X) (av := [.int (Int32.ofInt (q : Int))]) C hG dX10_appendEnd_13 (xin_61 _ (List.mem_of_getElem? (i := 6) rfl)) (xin_61 _ (List.mem_of_getElem? (i := 8) rfl)) (xin_61 _ (List.mem_of_getElem? (i := 7) rfl)) xy_J4_append_bf812 (by omega) (by omega) 0 rfl ⟨TJ4, 4, rfl⟩ rfl (Nat.le_of_ble_eq_true rfl) (k_appI Hq.1 Hq.2 x1 (by omega) y1 z1) (by omega) (by omega) rfl (fun rv w9 hw9 => ?_)
  obtain ⟨rfl, t2, c2, f2, rfl, x2, y2, z2, u2, v2⟩ := hw9
  have s2 := tS.d s1 u2 v2 g2
  refine t_pop C dX10_appendEnd_16 rfl ?_
  refine y_aload C 0 dX10_appendEnd_17 rfl rfl ?_
  refine y_get (v := .ref (aX 445)) C 0 dX10_appendEnd_18 fF_X10_83 (t_cell (s := .inl (12, [some 1, some 6, some 11, some 44, some 77, none, some 440, none, none, some 441, none, none, some 442, some 443, some 444, some 445])) rfl) rfl ?_
  refine y_bipush (v := Int32.ofInt (47)) C dX10_appendEnd_21 (by decide) ?_
  refine t_callV (wa := xwld aX (yDA Γ) m 0 lay_X) (av := [.int (Int32.ofInt 47)]) C hG dX10_appendEnd_23 (xin_62 _ (List.mem_of_getElem? (i := 11) rfl)) (xin_62 _ (List.mem_of_getElem? (i := 13) rfl)) (xin_62 _ (List.mem_of_getElem? (i := 12) rfl)) xy_J4_append_cf468 (by omega) (by omega) 0 rfl ⟨TJ4, 4, rfl⟩ rfl (Nat.le_of_ble_eq_true rfl) (k_appC (c := 47) (by omega) (by decide) x2 (by omega) y2 z2) (by omega) (by omega) rfl (fun rv w9 hw9 => ?_)
  obtain ⟨rfl, t3, c3, f3, rfl, x3, y3, z3, u3, v3⟩ := hw9
  have s3 := tS.c s2 u3 v3 g3 (by omega)
  refine y_aload C 1 dX10_appendEnd_26 rfl rfl ?_
  refine y_get (v := .ref (aX 26)) C 23 dX10_appendEnd_27 fF_X10_193 (t_cell (s := .inl (3, [some 24, some 25, some 26, some 30, some 32, none, none, none, none, none, none])) rfl) rfl ?_
  refine y_get (v := .int (Int32.ofInt (m 26 4))) C 26 dX10_appendEnd_30 fF_X10_202 (t_cell (s := .inl (4, [some 27, some 28, some 29, none, none, none])) rfl) rfl ?_
  rw [hfr]
  refine t_callV (wa := xwld aX (yDA Γ) m 0 lay_X) (av := [.int (Int32.ofInt (fr : Int))]) C hG dX10_appendEnd_33 (xin_61 _ (List.mem_of_getElem? (i := 6) rfl)) (xin_61 _ (List.mem_of_getElem? (i := 8) rfl)) (xin_61 _ (List.mem_of_getElem? (i := 7) rfl)) xy_J4_append_bf812 (by omega) (by omega) 0 rfl ⟨TJ4, 4, rfl⟩ rfl (Nat.le_of_ble_eq_true rfl) (k_appI Hf.1 Hf.2 x3 (by omega) y3 z3) (by omega) (by omega) rfl (fun rv w9 hw9 => ?_)
  obtain ⟨rfl, t4, c4, f4, rfl, x4, y4, z4, u4, v4⟩ := hw9
  have s4 := tS.d s3 u4 v4 g4
  refine t_pop C dX10_appendEnd_36 rfl ?_
  refine y_aload C 0 dX10_appendEnd_37 rfl rfl ?_
  refine y_get (v := .ref (aX 445)) C 0 dX10_appendEnd_38 fF_X10_83 (t_cell (s := .inl (12, [some 1, some 6, some 11, some 44, some 77, none, some 440, none, none, some 441, none, none, some 442, some 443, some 444, some 445])) rfl) rfl ?_
  refine y_bipush (v := Int32.ofInt (47)) C dX10_appendEnd_41 (by decide) ?_
  refine t_callV (wa := xwld aX (yDA Γ) m 0 lay_X) (av := [.int (Int32.ofInt 47)]) C hG dX10_appendEnd_43 (xin_62 _ (List.mem_of_getElem? (i := 11) rfl)) (xin_62 _ (List.mem_of_getElem? (i := 13) rfl)) (xin_62 _ (List.mem_of_getElem? (i := 12) rfl)) xy_J4_append_cf468 (by omega) (by omega) 0 rfl ⟨TJ4, 4, rfl⟩ rfl (Nat.le_of_ble_eq_true rfl) (k_appC (c := 47) (by omega) (by decide) x4 (by omega) y4 z4) (by omega) (by omega) rfl (fun rv w9 hw9 => ?_)
  obtain ⟨rfl, t5, c5, f5, rfl, x5, y5, z5, u5, v5⟩ := hw9
  have s5 := tS.c s4 u5 v5 g5 (by omega)
  refine y_aload C 1 dX10_appendEnd_46 rfl rfl ?_
  refine y_get (v := .int (Int32.ofInt (m 23 6))) C 23 dX10_appendEnd_47 fF_X10_209 (t_cell (s := .inl (3, [some 24, some 25, some 26, some 30, some 32, none, none, none, none, none, none])) rfl) rfl ?_
  rw [hrc]
  refine t_callV (wa := xwld aX (yDA Γ) m 0 lay_X) (av := [.int (Int32.ofInt (rc : Int))]) C hG dX10_appendEnd_50 (xin_61 _ (List.mem_of_getElem? (i := 6) rfl)) (xin_61 _ (List.mem_of_getElem? (i := 8) rfl)) (xin_61 _ (List.mem_of_getElem? (i := 7) rfl)) xy_J4_append_bf812 (by omega) (by omega) 0 rfl ⟨TJ4, 4, rfl⟩ rfl (Nat.le_of_ble_eq_true rfl) (k_appI Hr.1 Hr.2 x5 (by omega) y5 z5) (by omega) (by omega) rfl (fun rv w9 hw9 => ?_)
  obtain ⟨rfl, t6, c6, f6, rfl, x6, y6, z6, u6, v6⟩ := hw9
  have s6 := tS.d s5 u6 v6 g6
  refine t_pop C dX10_appendEnd_53 rfl ?_
  exact t_ret hR dX10_appendEnd_54 (by omega) (by omega) ⟨rfl, t6, c6, f6, rfl, x6, y6, z6, s6⟩
set_option maxRecDepth 100000 in
set_option maxHeartbeats 4000000 in
theorem k_endOf0 {l : Launch} {dA : Nat → ClassId} {ad aX : Nat → Nat} {m : xM} {t1 cap n : Nat} {ml : Int32} {f : Nat → Int32} : tMet l yX3_endOf cX3_endOf 2 (some (.object "ModemLink$End")) 0 0 0 [.ref (aX 11), .int 0] dA ad (xwld aX dA m 0 lay_X ++ tB dA (aX 445) t1 cap n ml f) (fun r w => r = some (.ref (aX 12)) ∧ w = xwld aX dA m 0 lay_X ++ tB dA (aX 445) t1 cap n ml f) := by
  refine tMet_a (Or.inl ⟨_, rfl⟩) (Or.inl (by decide +kernel)) (Nat.le_of_ble_eq_true rfl) (fun Γ C hG hsa hda hR hl9 => ?_)
  subst hl9; subst hda; subst hsa
  refine y_iload C 1 dX3_endOf_0 rfl rfl ?_
  refine y_ifne0 C 11 dX3_endOf_1 (by decide) ?_
  refine y_aload C 0 dX3_endOf_4 rfl rfl ?_
  refine y_get (v := .ref (aX 12)) C 11 dX3_endOf_5 fF_X3_12 (t_cell (s := .inl (5, [some 1, some 12, some 23, some 34, some 39, some 41, some 42, none, none, none, none, none, none, none, none, none, none])) rfl) rfl ?_
  refine y_goto C 15 dX3_endOf_8 (by decide) ?_
  exact t_aret hR dX3_endOf_15 (by omega) (by omega) ⟨rfl, rfl⟩
set_option maxRecDepth 100000 in
set_option maxHeartbeats 4000000 in
theorem k_endOf1 {l : Launch} {dA : Nat → ClassId} {ad aX : Nat → Nat} {m : xM} {t1 cap n : Nat} {ml : Int32} {f : Nat → Int32} : tMet l yX3_endOf cX3_endOf 2 (some (.object "ModemLink$End")) 0 0 0 [.ref (aX 11), .int (Int32.ofInt 1)] dA ad (xwld aX dA m 0 lay_X ++ tB dA (aX 445) t1 cap n ml f) (fun r w => r = some (.ref (aX 23)) ∧ w = xwld aX dA m 0 lay_X ++ tB dA (aX 445) t1 cap n ml f) := by
  refine tMet_a (Or.inl ⟨_, rfl⟩) (Or.inl (by decide +kernel)) (Nat.le_of_ble_eq_true rfl) (fun Γ C hG hsa hda hR hl9 => ?_)
  subst hl9; subst hda; subst hsa
  refine y_iload C 1 dX3_endOf_0 rfl rfl ?_
  refine y_ifne1 C 11 dX3_endOf_1 (by decide) (by decide) ?_
  refine y_aload C 0 dX3_endOf_11 rfl rfl ?_
  refine y_get (v := .ref (aX 23)) C 11 dX3_endOf_12 fF_X3_18 (t_cell (s := .inl (5, [some 1, some 12, some 23, some 34, some 39, some 41, some 42, none, none, none, none, none, none, none, none, none, none])) rfl) rfl ?_
  exact t_aret hR dX3_endOf_15 (by omega) (by omega) ⟨rfl, rfl⟩
theorem dX10_formattedByte_0 : decode cX10_formattedByte 0 = .ok (.iload_n 1, 1) := by decide +kernel
theorem dX10_formattedByte_1 : decode cX10_formattedByte 1 = .ok (.ifCond .lt 25, 3) := by decide +kernel
theorem dX10_formattedByte_4 : decode cX10_formattedByte 4 = .ok (.iload_n 1, 1) := by decide +kernel
theorem dX10_formattedByte_5 : decode cX10_formattedByte 5 = .ok (.aload_n 0, 1) := by decide +kernel
theorem dX10_formattedByte_6 : decode cX10_formattedByte 6 = .ok (.getfield 83, 3) := by decide +kernel
theorem dX10_formattedByte_9 : decode cX10_formattedByte 9 = .ok (.invokevirtual 352, 3) := by decide +kernel
theorem dX10_formattedByte_12 : decode cX10_formattedByte 12 = .ok (.if_icmp .ge 14, 3) := by decide +kernel
theorem dX10_formattedByte_15 : decode cX10_formattedByte 15 = .ok (.aload_n 0, 1) := by decide +kernel
theorem dX10_formattedByte_16 : decode cX10_formattedByte 16 = .ok (.getfield 83, 3) := by decide +kernel
theorem dX10_formattedByte_19 : decode cX10_formattedByte 19 = .ok (.iload_n 1, 1) := by decide +kernel
theorem dX10_formattedByte_20 : decode cX10_formattedByte 20 = .ok (.invokevirtual 358, 3) := by decide +kernel
theorem dX10_formattedByte_23 : decode cX10_formattedByte 23 = .ok (.goto 4, 3) := by decide +kernel
theorem dX10_formattedByte_26 : decode cX10_formattedByte 26 = .ok (.iconst (-1), 1) := by decide +kernel
theorem dX10_formattedByte_27 : decode cX10_formattedByte 27 = .ok (.ireturn, 1) := by decide +kernel
theorem xy_J4_length_8abf5 : xY yJ4_length_8abf5 cJ4_length_8abf5 1 (some .int) 0 := ⟨(xin_63 _ (List.mem_of_getElem? (i := 4) rfl)), (xin_2 _ (List.mem_of_getElem? (i := 19) rfl)), by decide +kernel, by decide +kernel, by decide +kernel⟩
theorem xy_J4_charAt_5068e : xY yJ4_charAt_5068e cJ4_charAt_5068e 2 (some .char) 1 := ⟨(xin_64 _ (List.mem_of_getElem? (i := 9) rfl)), (xin_2 _ (List.mem_of_getElem? (i := 19) rfl)), by decide +kernel, by decide +kernel, by decide +kernel⟩
set_option maxRecDepth 100000 in
set_option maxHeartbeats 4000000 in
theorem k_fbyte {l : Launch} {dA : Nat → ClassId} {ad aX : Nat → Nat} {m : xM} {t1 cap n : Nat} {ml : Int32} {f : Nat → Int32} {G : Nat → Int} {p : Int} (hp : -2147483648 ≤ p ∧ p < 2147483648) (hn : n ≤ cap) (hn6 : n ≤ 60) (hc : cap ≤ 500) (hS : tS f n G) : tMet l yX10_formattedByte cX10_formattedByte 2 (some .int) 4 0 0 [.ref (aX 0), .int (Int32.ofInt p)] dA ad (xwld aX dA m 0 lay_X ++ tB dA (aX 445) t1 cap n ml f) (fun r w => r = some (.int (Int32.ofInt (if 0 ≤ p ∧ p < (n : Int) then G p.toNat else -1))) ∧ w = xwld aX dA m 0 lay_X ++ tB dA (aX 445) t1 cap n ml f) := by
  refine tMet_ii (Or.inl (by decide +kernel)) (Nat.le_of_ble_eq_true rfl) (fun Γ C hG hsa hda hR hl9 => ?_)
  subst hl9; subst hda; subst hsa
  refine y_iload C 1 dX10_formattedByte_0 rfl rfl ?_
  refine t_iflt C 26 dX10_formattedByte_1 (by decide) (fun h9 => ?_) (fun h9 => ?_)
  · have h8 : p < 0 := by rw [b_xw hp] at h9; exact h9
    refine y_iconst (v := Int32.ofInt (-1)) C dX10_formattedByte_26 rfl ?_
    exact t_iret hR dX10_formattedByte_27 (by omega) (by omega) ⟨by rw [if_neg (by omega)], rfl⟩
  obtain ⟨k9, rfl⟩ : ∃ k9 : Nat, p = k9 := ⟨p.toNat, by rw [b_xw hp] at h9; omega⟩
  refine y_iload C 1 dX10_formattedByte_4 rfl rfl ?_
  refine y_aload C 0 dX10_formattedByte_5 rfl rfl ?_
  refine y_get (v := .ref (aX 445)) C 0 dX10_formattedByte_6 fF_X10_83 (t_cell (s := .inl (12, [some 1, some 6, some 11, some 44, some 77, none, some 440, none, none, some 441, none, none, some 442, some 443, some 444, some 445])) rfl) rfl ?_
  refine t_callV (wa := xwld aX (yDA Γ) m 0 lay_X) (av := []) C hG dX10_formattedByte_9 (xin_63 _ (List.mem_of_getElem? (i := 1) rfl)) (xin_63 _ (List.mem_of_getElem? (i := 3) rfl)) (xin_63 _ (List.mem_of_getElem? (i := 2) rfl)) xy_J4_length_8abf5 (by omega) (by omega) 0 rfl ⟨TJ4, 4, rfl⟩ rfl (Nat.le_of_ble_eq_true rfl) k_len (by omega) (by omega) rfl (fun rv w9 hw9 => ?_)
  obtain ⟨rfl, rfl⟩ := hw9
  refine t_icmpge C 26 dX10_formattedByte_12 (by decide) (fun h8 => ?_) (fun h8 => ?_)
  · have h7 : ¬ (k9 : Int) < (n : Int) := by rw [b_xw (by omega), b_xw hp] at h8; omega
    refine y_iconst (v := Int32.ofInt (-1)) C dX10_formattedByte_26 rfl ?_
    exact t_iret hR dX10_formattedByte_27 (by omega) (by omega) ⟨by rw [if_neg (fun z => h7 z.2)], rfl⟩
  have h7 : k9 < n := by rw [b_xw (by omega), b_xw hp] at h8; omega
  obtain ⟨hg1, hg2⟩ := hS k9 h7
  obtain ⟨g, hg⟩ : ∃ g : Nat, G k9 = g := ⟨(G k9).toNat, by omega⟩
  refine y_aload C 0 dX10_formattedByte_15 rfl rfl ?_
  refine y_get (v := .ref (aX 445)) C 0 dX10_formattedByte_16 fF_X10_83 (t_cell (s := .inl (12, [some 1, some 6, some 11, some 44, some 77, none, some 440, none, none, some 441, none, none, some 442, some 443, some 444, some 445])) rfl) rfl ?_
  refine y_iload C 1 dX10_formattedByte_19 rfl rfl ?_
  refine t_callV (wa := xwld aX (yDA Γ) m 0 lay_X) (av := [.int (Int32.ofInt (k9 : Int))]) C hG dX10_formattedByte_20 (xin_64 _ (List.mem_of_getElem? (i := 6) rfl)) (xin_64 _ (List.mem_of_getElem? (i := 8) rfl)) (xin_64 _ (List.mem_of_getElem? (i := 7) rfl)) xy_J4_charAt_5068e (by omega) (by omega) 0 rfl ⟨TJ4, 4, rfl⟩ rfl (Nat.le_of_ble_eq_true rfl) (k_charAt (g := g) h7 hn hc (by omega) (by rw [hg2, hg])) (by omega) (by omega) rfl (fun rv w9 hw9 => ?_)
  obtain ⟨rfl, rfl⟩ := hw9
  refine y_goto C 27 dX10_formattedByte_23 (by decide) ?_
  refine t_iret hR dX10_formattedByte_27 (by omega) (by omega) ⟨?_, rfl⟩
  rw [if_pos ⟨by omega, by omega⟩, Int.toNat_natCast, hg]

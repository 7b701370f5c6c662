/-! ===== the start, put together ===== -/
theorem l_compact {args : Array Value} {s : State} (g : ∀ w ∈ l_flat, w.before args s = true) (t : ∀ w ∈ lw_tbl, w.before args s = true) {A : Nat → Prop} (hA : ∀ a : Nat, a < s.heap.size → ¬ A a) : va_Z "java/lang/String" "COMPACT_STRINGS" "Z" (.int 1) A s s.heap := va_Zof (t _ (List.mem_of_getElem? (i := 508) (by decide +kernel))) (t _ (List.mem_of_getElem? (i := 103) (by decide +kernel))) (va_eqt (g _ (List.mem_of_getElem? (i := 4) (by decide +kernel)))) hA
theorem l_texts {args : Array Value} {s : State} (g : ∀ w ∈ l_flat, w.before args s = true) (t : ∀ w ∈ lw_tbl, w.before args s = true) {A : Nat → Prop} (hA : ∀ a : Nat, a < s.heap.size → ¬ A a) : ∃ sa : Nat → Nat, xStr sa A s s.heap ∧ xDg sa A s s.heap := by
  obtain ⟨a0, e0, p0, c0, q0, v0, t0⟩ := l_str_0 g hA
  obtain ⟨a1, e1, p1, c1, q1, v1, t1⟩ := l_str_1 g hA
  obtain ⟨a2, e2, p2, c2, q2, v2, t2⟩ := l_str_2 g hA
  obtain ⟨a3, e3, p3, c3, q3, v3, t3⟩ := l_str_3 g hA
  obtain ⟨a4, e4, p4, c4, q4, v4, t4⟩ := l_str_4 g hA
  obtain ⟨a5, e5, p5, c5, q5, v5, t5⟩ := l_str_5 g hA
  obtain ⟨a6, e6, p6, c6, q6, v6, t6⟩ := l_str_6 g hA
  obtain ⟨a7, e7, p7, c7, q7, v7, t7⟩ := l_str_7 g hA
  obtain ⟨a8, e8, p8, c8, q8, v8, t8⟩ := l_str_8 g hA
  obtain ⟨a9, e9, p9, c9, q9, v9, t9⟩ := l_str_9 g hA
  obtain ⟨a10, e10, p10, c10, q10, v10, t10⟩ := l_str_10 g hA
  obtain ⟨a11, e11, p11, c11, q11, v11, t11⟩ := l_str_11 g hA
  obtain ⟨a12, e12, p12, c12, q12, v12, t12⟩ := l_str_12 g hA
  obtain ⟨a13, e13, p13, c13, q13, v13, t13⟩ := l_str_13 g hA
  obtain ⟨a14, e14, p14, c14, q14, v14, t14⟩ := l_str_14 g hA
  obtain ⟨a15, e15, p15, c15, q15, v15, t15⟩ := l_str_15 g hA
  obtain ⟨a16, e16, p16, c16, q16, v16, t16⟩ := l_str_16 g hA
  obtain ⟨a17, e17, p17, c17, q17, v17, t17⟩ := l_str_17 g hA
  obtain ⟨a18, e18, p18, c18, q18, v18, t18⟩ := l_str_18 g hA
  obtain ⟨a19, e19, p19, c19, q19, v19, t19⟩ := l_str_19 g hA
  obtain ⟨a20, e20, p20, c20, q20, v20, t20⟩ := l_str_20 g hA
  obtain ⟨a21, e21, p21, c21, q21, v21, t21⟩ := l_str_21 g hA
  obtain ⟨a22, e22, p22, c22, q22, v22, t22⟩ := l_str_22 g hA
  obtain ⟨a23, e23, p23, c23, q23, v23, t23⟩ := l_str_23 g hA
  obtain ⟨a24, e24, p24, c24, q24, v24, t24⟩ := l_str_24 g hA
  obtain ⟨a25, e25, p25, c25, q25, v25, t25⟩ := l_str_25 g hA
  obtain ⟨z, hz⟩ : ∃ z : Nat, va_Z "jdk/internal/util/Preconditions" "SIOOBE_FORMATTER" "Ljava/util/function/BiFunction;" .null A s s.heap ∨ va_Z "jdk/internal/util/Preconditions" "SIOOBE_FORMATTER" "Ljava/util/function/BiFunction;" (.ref z) A s s.heap := by
    rcases (vx_Zqof (C := "jdk/internal/util/Preconditions") (n := "SIOOBE_FORMATTER") (d := "Ljava/util/function/BiFunction;") (t _ (List.mem_of_getElem? (i := 995) (by decide +kernel))) (t _ (List.mem_of_getElem? (i := 112) (by decide +kernel))) (g _ (List.mem_of_getElem? (i := 7) (by decide +kernel))) hA).1 with h | ⟨z, h⟩
    · exact ⟨0, Or.inl h⟩
    · exact ⟨z, Or.inr h⟩
  obtain ⟨d1, y1, z1⟩ := l_ones g t hA
  obtain ⟨d2, y2, z2⟩ := l_tens g t hA
  refine ⟨fun w => (([[a0, a1, a2, a3, a4, a5, a6, a7, a8, a9, a10, a11, a12, a13, a14, a15, a16, a17, a18, a19, a20, a21, a22, a23, a24, a25], [q0, q1, q2, q3, q4, q5, q6, q7, q8, q9, q10, q11, q12, q13, q14, q15, q16, q17, q18, q19, q20, q21, q22, q23, q24, q25], [z], [d1, d2]] : List (List Nat)).getD ((w - 1000) / 100) []).getD ((w - 1000) % 100) 0, ⟨fun i hi => ?_, ?_, l_compact g t hA, hz⟩, y1, y2, z1, z2⟩
  · rcases (show i = 0 ∨ i = 1 ∨ i = 2 ∨ i = 3 ∨ i = 4 ∨ i = 5 ∨ i = 6 ∨ i = 7 ∨ i = 8 ∨ i = 9 ∨ i = 10 ∨ i = 11 ∨ i = 12 ∨ i = 13 ∨ i = 14 ∨ i = 15 ∨ i = 16 ∨ i = 17 ∨ i = 18 ∨ i = 19 ∨ i = 20 ∨ i = 21 ∨ i = 22 ∨ i = 23 ∨ i = 24 ∨ i = 25 by omega) with rfl | rfl | rfl | rfl | rfl | rfl | rfl | rfl | rfl | rfl | rfl | rfl | rfl | rfl | rfl | rfl | rfl | rfl | rfl | rfl | rfl | rfl | rfl | rfl | rfl | rfl
    · exact ⟨p0, c0, v0, t0⟩
    · exact ⟨p1, c1, v1, t1⟩
    · exact ⟨p2, c2, v2, t2⟩
    · exact ⟨p3, c3, v3, t3⟩
    · exact ⟨p4, c4, v4, t4⟩
    · exact ⟨p5, c5, v5, t5⟩
    · exact ⟨p6, c6, v6, t6⟩
    · exact ⟨p7, c7, v7, t7⟩
    · exact ⟨p8, c8, v8, t8⟩
    · exact ⟨p9, c9, v9, t9⟩
    · exact ⟨p10, c10, v10, t10⟩
    · exact ⟨p11, c11, v11, t11⟩
    · exact ⟨p12, c12, v12, t12⟩
    · exact ⟨p13, c13, v13, t13⟩
    · exact ⟨p14, c14, v14, t14⟩
    · exact ⟨p15, c15, v15, t15⟩
    · exact ⟨p16, c16, v16, t16⟩
    · exact ⟨p17, c17, v17, t17⟩
    · exact ⟨p18, c18, v18, t18⟩
    · exact ⟨p19, c19, v19, t19⟩
    · exact ⟨p20, c20, v20, t20⟩
    · exact ⟨p21, c21, v21, t21⟩
    · exact ⟨p22, c22, v22, t22⟩
    · exact ⟨p23, c23, v23, t23⟩
    · exact ⟨p24, c24, v24, t24⟩
    · exact ⟨p25, c25, v25, t25⟩
  · intro r hr
    simp only [xSref, List.mem_cons, List.not_mem_nil, or_false] at hr
    rcases hr with rfl | rfl | rfl | rfl | rfl | rfl | rfl | rfl | rfl | rfl | rfl | rfl | rfl | rfl | rfl | rfl | rfl | rfl | rfl | rfl | rfl | rfl | rfl | rfl | rfl | rfl | rfl | rfl | rfl | rfl | rfl | rfl | rfl | rfl | rfl | rfl | rfl | rfl | rfl | rfl | rfl | rfl | rfl | rfl | rfl | rfl | rfl | rfl
    · exact vk_R.of (t _ (List.mem_of_getElem? (i := 1168) (by decide +kernel))) e25
    · exact vk_R.of (t _ (List.mem_of_getElem? (i := 1171) (by decide +kernel))) e24
    · exact vk_R.of (t _ (List.mem_of_getElem? (i := 1172) (by decide +kernel))) e23
    · exact vk_R.of (t _ (List.mem_of_getElem? (i := 1173) (by decide +kernel))) e20
    · exact vk_R.of (t _ (List.mem_of_getElem? (i := 1265) (by decide +kernel))) e10
    · exact vk_R.of (t _ (List.mem_of_getElem? (i := 1314) (by decide +kernel))) e11
    · exact vk_R.of (t _ (List.mem_of_getElem? (i := 1336) (by decide +kernel))) e12
    · exact vk_R.of (t _ (List.mem_of_getElem? (i := 1343) (by decide +kernel))) e16
    · exact vk_R.of (t _ (List.mem_of_getElem? (i := 1348) (by decide +kernel))) e19
    · exact vk_R.of (t _ (List.mem_of_getElem? (i := 1357) (by decide +kernel))) e13
    · exact vk_R.of (t _ (List.mem_of_getElem? (i := 1358) (by decide +kernel))) e14
    · exact vk_R.of (t _ (List.mem_of_getElem? (i := 1359) (by decide +kernel))) e15
    · exact vk_R.of (t _ (List.mem_of_getElem? (i := 1360) (by decide +kernel))) e17
    · exact vk_R.of (t _ (List.mem_of_getElem? (i := 1361) (by decide +kernel))) e18
    · exact vk_R.of (t _ (List.mem_of_getElem? (i := 1551) (by decide +kernel))) e6
    · exact vk_R.of (t _ (List.mem_of_getElem? (i := 1553) (by decide +kernel))) e5
    · exact vk_R.of (t _ (List.mem_of_getElem? (i := 1568) (by decide +kernel))) e9
    · exact vk_R.of (t _ (List.mem_of_getElem? (i := 1580) (by decide +kernel))) e0
    · exact vk_R.of (t _ (List.mem_of_getElem? (i := 1581) (by decide +kernel))) e1
    · exact vk_R.of (t _ (List.mem_of_getElem? (i := 1582) (by decide +kernel))) e2
    · exact vk_R.of (t _ (List.mem_of_getElem? (i := 1583) (by decide +kernel))) e3
    · exact vk_R.of (t _ (List.mem_of_getElem? (i := 1584) (by decide +kernel))) e4
    · exact vk_R.of (t _ (List.mem_of_getElem? (i := 1595) (by decide +kernel))) e8
    · exact vk_R.of (t _ (List.mem_of_getElem? (i := 1596) (by decide +kernel))) e7
    · exact vk_R.of (t _ (List.mem_of_getElem? (i := 1620) (by decide +kernel))) (l_eqr (g _ (List.mem_of_getElem? (i := 768) (by decide +kernel))) e0)
    · exact vk_R.of (t _ (List.mem_of_getElem? (i := 1621) (by decide +kernel))) (l_eqr (g _ (List.mem_of_getElem? (i := 777) (by decide +kernel))) e1)
    · exact vk_R.of (t _ (List.mem_of_getElem? (i := 1622) (by decide +kernel))) (l_eqr (g _ (List.mem_of_getElem? (i := 786) (by decide +kernel))) e2)
    · exact vk_R.of (t _ (List.mem_of_getElem? (i := 1623) (by decide +kernel))) (l_eqr (g _ (List.mem_of_getElem? (i := 794) (by decide +kernel))) e3)
    · exact vk_R.of (t _ (List.mem_of_getElem? (i := 1624) (by decide +kernel))) (l_eqr (g _ (List.mem_of_getElem? (i := 803) (by decide +kernel))) e4)
    · exact vk_R.of (t _ (List.mem_of_getElem? (i := 1998) (by decide +kernel))) (l_eqr (g _ (List.mem_of_getElem? (i := 812) (by decide +kernel))) e20)
    · exact vk_R.of (t _ (List.mem_of_getElem? (i := 1999) (by decide +kernel))) e21
    · exact vk_R.of (t _ (List.mem_of_getElem? (i := 2000) (by decide +kernel))) e22
    · exact vk_R.of (t _ (List.mem_of_getElem? (i := 2001) (by decide +kernel))) (l_eqr (g _ (List.mem_of_getElem? (i := 843) (by decide +kernel))) e23)
    · exact vk_R.of (t _ (List.mem_of_getElem? (i := 2072) (by decide +kernel))) (l_eqr (g _ (List.mem_of_getElem? (i := 852) (by decide +kernel))) e10)
    · exact vk_R.of (t _ (List.mem_of_getElem? (i := 2119) (by decide +kernel))) (l_eqr (g _ (List.mem_of_getElem? (i := 862) (by decide +kernel))) e11)
    · exact vk_R.of (t _ (List.mem_of_getElem? (i := 2132) (by decide +kernel))) (l_eqr (g _ (List.mem_of_getElem? (i := 872) (by decide +kernel))) e12)
    · exact vk_R.of (t _ (List.mem_of_getElem? (i := 2141) (by decide +kernel))) (l_eqr (g _ (List.mem_of_getElem? (i := 884) (by decide +kernel))) e13)
    · exact vk_R.of (t _ (List.mem_of_getElem? (i := 2142) (by decide +kernel))) (l_eqr (g _ (List.mem_of_getElem? (i := 893) (by decide +kernel))) e14)
    · exact vk_R.of (t _ (List.mem_of_getElem? (i := 2143) (by decide +kernel))) (l_eqr (g _ (List.mem_of_getElem? (i := 904) (by decide +kernel))) e15)
    · exact vk_R.of (t _ (List.mem_of_getElem? (i := 2144) (by decide +kernel))) (l_eqr (g _ (List.mem_of_getElem? (i := 914) (by decide +kernel))) e16)
    · exact vk_R.of (t _ (List.mem_of_getElem? (i := 2149) (by decide +kernel))) (l_eqr (g _ (List.mem_of_getElem? (i := 924) (by decide +kernel))) e17)
    · exact vk_R.of (t _ (List.mem_of_getElem? (i := 2150) (by decide +kernel))) (l_eqr (g _ (List.mem_of_getElem? (i := 937) (by decide +kernel))) e18)
    · exact vk_R.of (t _ (List.mem_of_getElem? (i := 2151) (by decide +kernel))) (l_eqr (g _ (List.mem_of_getElem? (i := 947) (by decide +kernel))) e19)
    · exact vk_R.of (t _ (List.mem_of_getElem? (i := 2164) (by decide +kernel))) (l_eqr (g _ (List.mem_of_getElem? (i := 957) (by decide +kernel))) e5)
    · exact vk_R.of (t _ (List.mem_of_getElem? (i := 2165) (by decide +kernel))) (l_eqr (g _ (List.mem_of_getElem? (i := 966) (by decide +kernel))) e6)
    · exact vk_R.of (t _ (List.mem_of_getElem? (i := 2178) (by decide +kernel))) (l_eqr (g _ (List.mem_of_getElem? (i := 974) (by decide +kernel))) e9)
    · exact vk_R.of (t _ (List.mem_of_getElem? (i := 2191) (by decide +kernel))) (l_eqr (g _ (List.mem_of_getElem? (i := 982) (by decide +kernel))) e8)
    · exact vk_R.of (t _ (List.mem_of_getElem? (i := 2192) (by decide +kernel))) (l_eqr (g _ (List.mem_of_getElem? (i := 989) (by decide +kernel))) e7)
theorem l_th {args : Array Value} {s : State} (g : ∀ w ∈ l_flat, w.before args s = true) (t : ∀ w ∈ lw_tbl, w.before args s = true) {A : Nat → Prop} (hA : ∀ a : Nat, a < s.heap.size → ¬ A a) : xTh A s s.heap := by
  refine ⟨vx_Zqof (t _ (List.mem_of_getElem? (i := 955) (by decide +kernel))) (t _ (List.mem_of_getElem? (i := 106) (by decide +kernel))) (g _ (List.mem_of_getElem? (i := 5) (by decide +kernel))) hA, vx_Zqof (t _ (List.mem_of_getElem? (i := 957) (by decide +kernel))) (t _ (List.mem_of_getElem? (i := 106) (by decide +kernel))) (g _ (List.mem_of_getElem? (i := 6) (by decide +kernel))) hA, ?_, ?_⟩
  · intro w hw
    simp only [xTb, List.mem_cons, List.not_mem_nil, or_false] at hw
    rcases hw with rfl | rfl | rfl | rfl | rfl
    · exact va_Nw.of rfl (t _ (List.mem_of_getElem? (i := 930) (by decide +kernel)))
    · exact va_Nw.of rfl (t _ (List.mem_of_getElem? (i := 1381) (by decide +kernel)))
    · exact va_Nw.of rfl (t _ (List.mem_of_getElem? (i := 932) (by decide +kernel)))
    · exact va_Nw.of rfl (t _ (List.mem_of_getElem? (i := 934) (by decide +kernel)))
    · exact va_Nw.of rfl (t _ (List.mem_of_getElem? (i := 936) (by decide +kernel)))
  · intro r hr
    simp only [xTref, List.mem_cons, List.not_mem_nil, or_false] at hr
    rcases hr with rfl | rfl | rfl | rfl | rfl | rfl | rfl | rfl | rfl | rfl | rfl
    · obtain ⟨a, _, _, _, q1, -⟩ := Cond.exactly_spec (args := args) (first := s) (o := none) (s := s) (idx := []) (t := .string "ModemLink" 128) (cls := "java/lang/String") (g _ (List.mem_of_getElem? (i := 329) (by decide +kernel)))
      exact ⟨a, vk_R.of (t _ (List.mem_of_getElem? (i := 1245) (by decide +kernel))) q1⟩
    · obtain ⟨a, _, _, _, q1, -⟩ := Cond.exactly_spec (args := args) (first := s) (o := none) (s := s) (idx := []) (t := .string "ModemLink" 173) (cls := "java/lang/String") (g _ (List.mem_of_getElem? (i := 441) (by decide +kernel)))
      exact ⟨a, vk_R.of (t _ (List.mem_of_getElem? (i := 1388) (by decide +kernel))) q1⟩
    · obtain ⟨a, _, _, _, q1, -⟩ := Cond.exactly_spec (args := args) (first := s) (o := none) (s := s) (idx := []) (t := .string "ModemLink" 176) (cls := "java/lang/String") (g _ (List.mem_of_getElem? (i := 471) (by decide +kernel)))
      exact ⟨a, vk_R.of (t _ (List.mem_of_getElem? (i := 1402) (by decide +kernel))) q1⟩
    · obtain ⟨a, _, _, _, q1, -⟩ := Cond.exactly_spec (args := args) (first := s) (o := none) (s := s) (idx := []) (t := .string "ModemLink" 228) (cls := "java/lang/String") (g _ (List.mem_of_getElem? (i := 503) (by decide +kernel)))
      exact ⟨a, vk_R.of (t _ (List.mem_of_getElem? (i := 1415) (by decide +kernel))) q1⟩
    · obtain ⟨a, _, _, _, q1, -⟩ := Cond.exactly_spec (args := args) (first := s) (o := none) (s := s) (idx := []) (t := .string "ModemLink" 230) (cls := "java/lang/String") (g _ (List.mem_of_getElem? (i := 488) (by decide +kernel)))
      exact ⟨a, vk_R.of (t _ (List.mem_of_getElem? (i := 1414) (by decide +kernel))) q1⟩
    · obtain ⟨a, _, _, _, q1, -⟩ := Cond.exactly_spec (args := args) (first := s) (o := none) (s := s) (idx := []) (t := .string "ModemLink" 232) (cls := "java/lang/String") (g _ (List.mem_of_getElem? (i := 531) (by decide +kernel)))
      exact ⟨a, vk_R.of (t _ (List.mem_of_getElem? (i := 1423) (by decide +kernel))) q1⟩
    · obtain ⟨a, _, _, _, q1, -⟩ := Cond.exactly_spec (args := args) (first := s) (o := none) (s := s) (idx := []) (t := .string "ModemLink" 240) (cls := "java/lang/String") (g _ (List.mem_of_getElem? (i := 559) (by decide +kernel)))
      exact ⟨a, vk_R.of (t _ (List.mem_of_getElem? (i := 1431) (by decide +kernel))) q1⟩
    · obtain ⟨a, _, _, _, q1, -⟩ := Cond.exactly_spec (args := args) (first := s) (o := none) (s := s) (idx := []) (t := .string "ModemLink" 252) (cls := "java/lang/String") (g _ (List.mem_of_getElem? (i := 576) (by decide +kernel)))
      exact ⟨a, vk_R.of (t _ (List.mem_of_getElem? (i := 1433) (by decide +kernel))) q1⟩
    · obtain ⟨a, _, _, _, q1, -⟩ := Cond.exactly_spec (args := args) (first := s) (o := none) (s := s) (idx := []) (t := .string "ModemLink" 264) (cls := "java/lang/String") (g _ (List.mem_of_getElem? (i := 607) (by decide +kernel)))
      exact ⟨a, vk_R.of (t _ (List.mem_of_getElem? (i := 1456) (by decide +kernel))) q1⟩
    · obtain ⟨a, _, _, _, q1, -⟩ := Cond.exactly_spec (args := args) (first := s) (o := none) (s := s) (idx := []) (t := .string "ModemLink" 276) (cls := "java/lang/String") (g _ (List.mem_of_getElem? (i := 636) (by decide +kernel)))
      exact ⟨a, vk_R.of (t _ (List.mem_of_getElem? (i := 1473) (by decide +kernel))) q1⟩
    · obtain ⟨a, _, _, _, q1, -⟩ := Cond.exactly_spec (args := args) (first := s) (o := none) (s := s) (idx := []) (t := .string "ModemLink" 294) (cls := "java/lang/String") (g _ (List.mem_of_getElem? (i := 655) (by decide +kernel)))
      exact ⟨a, vk_R.of (t _ (List.mem_of_getElem? (i := 1491) (by decide +kernel))) q1⟩
theorem l_nc {args : Array Value} {s : State} (g : ∀ w ∈ l_flat, w.before args s = true) : va_Nc xE1 xE2 s := va_Nc.of (g _ (List.mem_of_getElem? (i := 245) (by decide +kernel)))
theorem l_tab {args : Array Value} {s : State} (t : ∀ w ∈ lw_tbl, w.before args s = true) : yTab s := by
  refine ⟨?_, va_AO.of (t _ (List.mem_of_getElem? (i := 441) (by decide +kernel))), va_AO.of (t _ (List.mem_of_getElem? (i := 1619) (by decide +kernel)))⟩
  intro w hw
  simp only [yTb, List.mem_cons, List.not_mem_nil, or_false] at hw
  rcases hw with rfl | rfl | rfl | rfl | rfl | rfl | rfl
  · exact va_Nw.of rfl (t _ (List.mem_of_getElem? (i := 130) (by decide +kernel)))
  · exact va_Nw.of rfl (t _ (List.mem_of_getElem? (i := 215) (by decide +kernel)))
  · exact va_Nw.of rfl (t _ (List.mem_of_getElem? (i := 221) (by decide +kernel)))
  · exact va_Nw.of rfl (t _ (List.mem_of_getElem? (i := 258) (by decide +kernel)))
  · exact va_Nw.of rfl (t _ (List.mem_of_getElem? (i := 328) (by decide +kernel)))
  · exact va_Nw.of rfl (t _ (List.mem_of_getElem? (i := 357) (by decide +kernel)))
  · exact va_Nw.of rfl (t _ (List.mem_of_getElem? (i := 376) (by decide +kernel)))
theorem l_kn {args : Array Value} {s : State} (t : ∀ w ∈ lw_tbl, w.before args s = true) (h : ∀ w ∈ wsL_law, w.before args s = true) : ∃ (dC : Nat → ClassId) (dI : Nat → Nat → Nat), ∀ (k : Nat) (q : vw_C), vwCl[k]? = some q → u_Kn s q.1 q.2.1 q.2.2 (dC k) (dI k) := by
  obtain ⟨c0, i0, k0⟩ := u_known (C := RJ0) (T := TJ0) (N := 4) (n := 4) h inlJ0 (t _ (List.mem_of_getElem? (i := 1083) (by decide +kernel)))
  obtain ⟨c1, i1, k1⟩ := u_known (C := RJ4) (T := TJ4) (N := 4) (n := 4) h inlJ4 (t _ (List.mem_of_getElem? (i := 499) (by decide +kernel)))
  obtain ⟨c2, i2, k2⟩ := u_known (C := RX0) (T := TX0) (N := 2) (n := 2) h inlX0 (t _ (List.mem_of_getElem? (i := 257) (by decide +kernel)))
  obtain ⟨c3, i3, k3⟩ := u_known (C := RX1) (T := TX1) (N := 11) (n := 11) h inlX1 (t _ (List.mem_of_getElem? (i := 214) (by decide +kernel)))
  obtain ⟨c4, i4, k4⟩ := u_known (C := RX2) (T := TX2) (N := 6) (n := 6) h inlX2 (t _ (List.mem_of_getElem? (i := 220) (by decide +kernel)))
  obtain ⟨c5, i5, k5⟩ := u_known (C := RX3) (T := TX3) (N := 17) (n := 17) h inlX3 (t _ (List.mem_of_getElem? (i := 208) (by decide +kernel)))
  obtain ⟨c6, i6, k6⟩ := u_known (C := RX4) (T := TX4) (N := 3) (n := 3) h inlX4 (t _ (List.mem_of_getElem? (i := 356) (by decide +kernel)))
  obtain ⟨c7, i7, k7⟩ := u_known (C := RX5) (T := TX5) (N := 2) (n := 2) h inlX5 (t _ (List.mem_of_getElem? (i := 486) (by decide +kernel)))
  obtain ⟨c8, i8, k8⟩ := u_known (C := RX6) (T := TX6) (N := 14) (n := 14) h inlX6 (t _ (List.mem_of_getElem? (i := 129) (by decide +kernel)))
  obtain ⟨c9, i9, k9⟩ := u_known (C := RX7) (T := TX7) (N := 1) (n := 1) h inlX7 (t _ (List.mem_of_getElem? (i := 476) (by decide +kernel)))
  obtain ⟨c10, i10, k10⟩ := u_known (C := RX8) (T := TX8) (N := 7) (n := 7) h inlX8 (t _ (List.mem_of_getElem? (i := 443) (by decide +kernel)))
  obtain ⟨c11, i11, k11⟩ := u_known (C := RX9) (T := TX9) (N := 6) (n := 6) h inlX9 (t _ (List.mem_of_getElem? (i := 327) (by decide +kernel)))
  obtain ⟨c12, i12, k12⟩ := u_known (C := RX10) (T := TX10) (N := 16) (n := 16) h inlX10 (t _ (List.mem_of_getElem? (i := 121) (by decide +kernel)))
  obtain ⟨c13, i13, k13⟩ := u_known (C := RX11) (T := TX11) (N := 26) (n := 26) h inlX11 (t _ (List.mem_of_getElem? (i := 1612) (by decide +kernel)))
  refine ⟨fun k => [c0, c1, c2, c3, c4, c5, c6, c7, c8, c9, c10, c11, c12, c13].getD k c0, fun k => [i0, i1, i2, i3, i4, i5, i6, i7, i8, i9, i10, i11, i12, i13].getD k i0, fun k q hq => ?_⟩
  have hk : k < 14 := (List.getElem?_eq_some_iff.mp hq).1
  rcases (show k = 0 ∨ k = 1 ∨ k = 2 ∨ k = 3 ∨ k = 4 ∨ k = 5 ∨ k = 6 ∨ k = 7 ∨ k = 8 ∨ k = 9 ∨ k = 10 ∨ k = 11 ∨ k = 12 ∨ k = 13 by omega) with rfl | rfl | rfl | rfl | rfl | rfl | rfl | rfl | rfl | rfl | rfl | rfl | rfl | rfl
  · cases hq; exact k0
  · cases hq; exact k1
  · cases hq; exact k2
  · cases hq; exact k3
  · cases hq; exact k4
  · cases hq; exact k5
  · cases hq; exact k6
  · cases hq; exact k7
  · cases hq; exact k8
  · cases hq; exact k9
  · cases hq; exact k10
  · cases hq; exact k11
  · cases hq; exact k12
  · cases hq; exact k13
theorem l_arr {args : Array Value} {s : State} (t : ∀ w ∈ lw_tbl, w.before args s = true) : ∃ dA : Nat → ClassId, ∀ (k : Nat) (q : ClassId × FieldType), (ytys dA)[k]? = some q → ArrOfT s q.1 q.2 ∧ va_RA s q.1 q.2 := by
  obtain ⟨c0, k0, p0, x0, y0, w0⟩ := Cond.arrayClass_spec (type := .int) (args := args) (first := s) (o := none) (s := s) (idx := []) (t _ (List.mem_of_getElem? (i := 202) (by decide +kernel)))
  obtain ⟨c1, k1, p1, x1, y1, w1⟩ := Cond.arrayClass_spec (type := .long) (args := args) (first := s) (o := none) (s := s) (idx := []) (t _ (List.mem_of_getElem? (i := 1707) (by decide +kernel)))
  obtain ⟨c4, k4, p4, x4, y4, w4⟩ := Cond.arrayClass_spec (type := .byte) (args := args) (first := s) (o := none) (s := s) (idx := []) (t _ (List.mem_of_getElem? (i := 530) (by decide +kernel)))
  obtain ⟨p2, c2, k2, v2, _, y2, w2, x2⟩ := Cond.arrayOver_spec (n := "ModemLink$Line") (args := args) (first := s) (o := none) (s := s) (idx := []) (t _ (List.mem_of_getElem? (i := 441) (by decide +kernel)))
  obtain ⟨p3, c3, k3, v3, _, y3, w3, x3⟩ := Cond.arrayOver_spec (n := "java/lang/String") (args := args) (first := s) (o := none) (s := s) (idx := []) (t _ (List.mem_of_getElem? (i := 1619) (by decide +kernel)))
  refine ⟨fun k => [c0, c1, c2, c3, c4].getD k c0, fun k q hq => ?_⟩
  have hk : k < 5 := (List.getElem?_eq_some_iff.mp hq).1
  rcases (show k = 0 ∨ k = 1 ∨ k = 2 ∨ k = 3 ∨ k = 4 by omega) with rfl | rfl | rfl | rfl | rfl
  · cases hq; exact ⟨fun n z => ⟨fun k h => (by cases h), k0, y0, p0, w0⟩, x0⟩
  · cases hq; exact ⟨fun n z => ⟨fun k h => (by cases h), k1, y1, p1, w1⟩, x1⟩
  · cases hq; exact ⟨fun n z => ⟨fun k h => (by cases h), k2, y2, p2, w2⟩, k2, p2, y2, w2, v2, x2⟩
  · cases hq; exact ⟨fun n z => ⟨fun k h => (by cases h), k3, y3, p3, w3⟩, k3, p3, y3, w3, v3, x3⟩
  · cases hq; exact ⟨fun n z => ⟨fun k h => (by cases h), k4, y4, p4, w4⟩, x4⟩

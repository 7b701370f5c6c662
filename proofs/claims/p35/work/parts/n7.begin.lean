/-! ===== the start, put together ===== -/
theorem l_compact {args : Array Value} {s : State} (g : ∀ w ∈ l_flat, w.before args s = true) (t : ∀ w ∈ lw_tbl, w.before args s = true) {A : Nat → Prop} (hA : ∀ a : Nat, a < s.heap.size → ¬ A a) : va_Z "java/lang/String" "COMPACT_STRINGS" "Z" (.int 1) A s s.heap := va_Zof (t _ (List.mem_of_getElem? (i := 433) (by decide +kernel))) (t _ (List.mem_of_getElem? (i := 37) (by decide +kernel))) (va_eqt (g _ (List.mem_of_getElem? (i := 4) (by decide +kernel)))) hA
theorem l_texts {args : Array Value} {s : State} (g : ∀ w ∈ l_flat, w.before args s = true) (t : ∀ w ∈ lw_tbl, w.before args s = true) {A : Nat → Prop} (hA : ∀ a : Nat, a < s.heap.size → ¬ A a) : ∃ sa : Nat → Nat, xStr sa A s s.heap := by
  obtain ⟨a10, e10, p10, c10, q10, v10, t10⟩ := l_str_10 g hA
  obtain ⟨a11, e11, p11, c11, q11, v11, t11⟩ := l_str_11 g hA
  obtain ⟨a12, e12, p12, c12, q12, v12, t12⟩ := l_str_12 g hA
  obtain ⟨a13, e13, p13, c13, q13, v13, t13⟩ := l_str_13 g hA
  obtain ⟨a14, e14, p14, c14, q14, v14, t14⟩ := l_str_14 g hA
  obtain ⟨a15, e15, p15, c15, q15, v15, t15⟩ := l_str_15 g hA
  obtain ⟨a16, e16, p16, c16, q16, v16, t16⟩ := l_str_16 g hA
  obtain ⟨a17, e17, p17, c17, q17, v17, t17⟩ := l_str_17 g hA
  obtain ⟨a18, e18, p18, c18, q18, v18, t18⟩ := l_str_18 g hA
  obtain ⟨a19, e19, p19, c19, q19, v19, t19⟩ := l_str_19 g hA
  obtain ⟨a26, e26, p26, c26, q26, v26, t26⟩ := l_str_26 g hA
  obtain ⟨a27, e27, p27, c27, q27, v27, t27⟩ := l_str_27 g hA
  obtain ⟨z, hz⟩ : ∃ z : Nat, va_Z "jdk/internal/util/Preconditions" "SIOOBE_FORMATTER" "Ljava/util/function/BiFunction;" .null A s s.heap ∨ va_Z "jdk/internal/util/Preconditions" "SIOOBE_FORMATTER" "Ljava/util/function/BiFunction;" (.ref z) A s s.heap := by
    rcases (va_Zqof (C := "jdk/internal/util/Preconditions") (n := "SIOOBE_FORMATTER") (d := "Ljava/util/function/BiFunction;") (t _ (List.mem_of_getElem? (i := 641) (by decide +kernel))) (t _ (List.mem_of_getElem? (i := 40) (by decide +kernel))) (g _ (List.mem_of_getElem? (i := 7) (by decide +kernel))) hA) with h | ⟨z, h⟩
    · exact ⟨0, Or.inl h⟩
    · exact ⟨z, Or.inr h⟩
  refine ⟨fun w => (([[0, 0, 0, 0, 0, 0, 0, 0, 0, 0, a10, a11, a12, a13, a14, a15, a16, a17, a18, a19, 0, 0, 0, 0, 0, 0, a26, a27], [0, 0, 0, 0, 0, 0, 0, 0, 0, 0, q10, q11, q12, q13, q14, q15, q16, q17, q18, q19, 0, 0, 0, 0, 0, 0, q26, q27], [z]] : List (List Nat)).getD ((w - 1000) / 100) []).getD ((w - 1000) % 100) 0, fun i hi => ?_, ?_, l_compact g t hA, hz⟩
  · rcases (show i = 10 ∨ i = 11 ∨ i = 12 ∨ i = 13 ∨ i = 14 ∨ i = 15 ∨ i = 16 ∨ i = 17 ∨ i = 18 ∨ i = 19 ∨ i = 26 ∨ i = 27 by rcases hi with hi | hi | hi <;> omega) with rfl | rfl | rfl | rfl | rfl | rfl | rfl | rfl | rfl | rfl | rfl | rfl
    · exact ⟨p10, c10, v10, t10⟩
    · exact ⟨p11, c11, v11, t11⟩
    · exact ⟨p12, c12, v12, t12⟩
    · exact ⟨p13, c13, v13, t13⟩
    · exact ⟨p14, c14, v14, t14⟩
    · exact ⟨p15, c15, v15, t15⟩
    · exact ⟨p16, c16, v16, t16⟩
    · exact ⟨p17, c17, v17, t17⟩
    · exact ⟨p18, c18, v18, t18⟩
    · exact ⟨p19, c19, v19, t19⟩
    · exact ⟨p26, c26, v26, t26⟩
    · exact ⟨p27, c27, v27, t27⟩
  · intro r hr
    simp only [xSref, List.mem_cons, List.not_mem_nil, or_false] at hr
    rcases hr with rfl | rfl | rfl | rfl | rfl | rfl | rfl | rfl | rfl | rfl | rfl | rfl | rfl | rfl | rfl | rfl | rfl | rfl | rfl | rfl | rfl | rfl
    · exact vk_R.of (t _ (List.mem_of_getElem? (i := 608) (by decide +kernel))) e10
    · exact vk_R.of (t _ (List.mem_of_getElem? (i := 688) (by decide +kernel))) e11
    · exact vk_R.of (t _ (List.mem_of_getElem? (i := 710) (by decide +kernel))) e12
    · exact vk_R.of (t _ (List.mem_of_getElem? (i := 717) (by decide +kernel))) e16
    · exact vk_R.of (t _ (List.mem_of_getElem? (i := 722) (by decide +kernel))) e19
    · exact vk_R.of (t _ (List.mem_of_getElem? (i := 731) (by decide +kernel))) e13
    · exact vk_R.of (t _ (List.mem_of_getElem? (i := 732) (by decide +kernel))) e14
    · exact vk_R.of (t _ (List.mem_of_getElem? (i := 733) (by decide +kernel))) e15
    · exact vk_R.of (t _ (List.mem_of_getElem? (i := 734) (by decide +kernel))) e17
    · exact vk_R.of (t _ (List.mem_of_getElem? (i := 735) (by decide +kernel))) e18
    · exact vk_R.of (t _ (List.mem_of_getElem? (i := 1241) (by decide +kernel))) (l_eqr (g _ (List.mem_of_getElem? (i := 279) (by decide +kernel))) e10)
    · exact vk_R.of (t _ (List.mem_of_getElem? (i := 1248) (by decide +kernel))) (l_eqr (g _ (List.mem_of_getElem? (i := 289) (by decide +kernel))) e11)
    · exact vk_R.of (t _ (List.mem_of_getElem? (i := 1249) (by decide +kernel))) (l_eqr (g _ (List.mem_of_getElem? (i := 299) (by decide +kernel))) e12)
    · exact vk_R.of (t _ (List.mem_of_getElem? (i := 1250) (by decide +kernel))) (l_eqr (g _ (List.mem_of_getElem? (i := 311) (by decide +kernel))) e13)
    · exact vk_R.of (t _ (List.mem_of_getElem? (i := 1251) (by decide +kernel))) (l_eqr (g _ (List.mem_of_getElem? (i := 320) (by decide +kernel))) e14)
    · exact vk_R.of (t _ (List.mem_of_getElem? (i := 1252) (by decide +kernel))) (l_eqr (g _ (List.mem_of_getElem? (i := 331) (by decide +kernel))) e15)
    · exact vk_R.of (t _ (List.mem_of_getElem? (i := 1253) (by decide +kernel))) (l_eqr (g _ (List.mem_of_getElem? (i := 341) (by decide +kernel))) e16)
    · exact vk_R.of (t _ (List.mem_of_getElem? (i := 1254) (by decide +kernel))) (l_eqr (g _ (List.mem_of_getElem? (i := 351) (by decide +kernel))) e17)
    · exact vk_R.of (t _ (List.mem_of_getElem? (i := 1255) (by decide +kernel))) (l_eqr (g _ (List.mem_of_getElem? (i := 364) (by decide +kernel))) e18)
    · exact vk_R.of (t _ (List.mem_of_getElem? (i := 1256) (by decide +kernel))) (l_eqr (g _ (List.mem_of_getElem? (i := 374) (by decide +kernel))) e19)
    · exact vk_R.of (t _ (List.mem_of_getElem? (i := 1393) (by decide +kernel))) e26
    · exact vk_R.of (t _ (List.mem_of_getElem? (i := 1394) (by decide +kernel))) e27
theorem l_tab {args : Array Value} {s : State} (t : ∀ w ∈ lw_tbl, w.before args s = true) : yTab s := by
  refine ⟨?_, va_AO.of (t _ (List.mem_of_getElem? (i := 367) (by decide +kernel)))⟩
  intro w hw
  simp only [yTb, List.mem_cons, List.not_mem_nil, or_false] at hw
  rcases hw with rfl | rfl | rfl | rfl | rfl | rfl | rfl
  · exact va_Nw.of rfl (t _ (List.mem_of_getElem? (i := 59) (by decide +kernel)))
  · exact va_Nw.of rfl (t _ (List.mem_of_getElem? (i := 142) (by decide +kernel)))
  · exact va_Nw.of rfl (t _ (List.mem_of_getElem? (i := 148) (by decide +kernel)))
  · exact va_Nw.of rfl (t _ (List.mem_of_getElem? (i := 185) (by decide +kernel)))
  · exact va_Nw.of rfl (t _ (List.mem_of_getElem? (i := 255) (by decide +kernel)))
  · exact va_Nw.of rfl (t _ (List.mem_of_getElem? (i := 284) (by decide +kernel)))
  · exact va_Nw.of rfl (t _ (List.mem_of_getElem? (i := 302) (by decide +kernel)))
theorem l_kn {args : Array Value} {s : State} (t : ∀ w ∈ lw_tbl, w.before args s = true) (h : ∀ w ∈ wsL_law, w.before args s = true) : ∃ (dC : Nat → ClassId) (dI : Nat → Nat → Nat), ∀ (k : Nat) (q : vw_C), vwCl[k]? = some q → u_Kn s q.1 q.2.1 q.2.2 (dC k) (dI k) := by
  obtain ⟨c0, i0, k0⟩ := u_known (C := RJ4) (T := TJ4) (N := 4) (n := 4) h inlJ4 (t _ (List.mem_of_getElem? (i := 424) (by decide +kernel)))
  obtain ⟨c1, i1, k1⟩ := u_known (C := RX0) (T := TX0) (N := 2) (n := 2) h inlX0 (t _ (List.mem_of_getElem? (i := 184) (by decide +kernel)))
  obtain ⟨c2, i2, k2⟩ := u_known (C := RX1) (T := TX1) (N := 11) (n := 11) h inlX1 (t _ (List.mem_of_getElem? (i := 141) (by decide +kernel)))
  obtain ⟨c3, i3, k3⟩ := u_known (C := RX2) (T := TX2) (N := 6) (n := 6) h inlX2 (t _ (List.mem_of_getElem? (i := 147) (by decide +kernel)))
  obtain ⟨c4, i4, k4⟩ := u_known (C := RX3) (T := TX3) (N := 17) (n := 17) h inlX3 (t _ (List.mem_of_getElem? (i := 135) (by decide +kernel)))
  obtain ⟨c5, i5, k5⟩ := u_known (C := RX4) (T := TX4) (N := 3) (n := 3) h inlX4 (t _ (List.mem_of_getElem? (i := 283) (by decide +kernel)))
  obtain ⟨c6, i6, k6⟩ := u_known (C := RX5) (T := TX5) (N := 2) (n := 2) h inlX5 (t _ (List.mem_of_getElem? (i := 411) (by decide +kernel)))
  obtain ⟨c7, i7, k7⟩ := u_known (C := RX6) (T := TX6) (N := 14) (n := 14) h inlX6 (t _ (List.mem_of_getElem? (i := 58) (by decide +kernel)))
  obtain ⟨c8, i8, k8⟩ := u_known (C := RX7) (T := TX7) (N := 1) (n := 1) h inlX7 (t _ (List.mem_of_getElem? (i := 401) (by decide +kernel)))
  obtain ⟨c9, i9, k9⟩ := u_known (C := RX8) (T := TX8) (N := 7) (n := 7) h inlX8 (t _ (List.mem_of_getElem? (i := 369) (by decide +kernel)))
  obtain ⟨c10, i10, k10⟩ := u_known (C := RX9) (T := TX9) (N := 6) (n := 6) h inlX9 (t _ (List.mem_of_getElem? (i := 254) (by decide +kernel)))
  obtain ⟨c11, i11, k11⟩ := u_known (C := RX10) (T := TX10) (N := 16) (n := 16) h inlX10 (t _ (List.mem_of_getElem? (i := 50) (by decide +kernel)))
  obtain ⟨c12, i12, k12⟩ := u_known (C := RX11) (T := TX11) (N := 31) (n := 31) h inlX11 (t _ (List.mem_of_getElem? (i := 1113) (by decide +kernel)))
  refine ⟨fun k => [c0, c1, c2, c3, c4, c5, c6, c7, c8, c9, c10, c11, c12].getD k c0, fun k => [i0, i1, i2, i3, i4, i5, i6, i7, i8, i9, i10, i11, i12].getD k i0, fun k q hq => ?_⟩
  have hk : k < 13 := (List.getElem?_eq_some_iff.mp hq).1
  rcases (show k = 0 ∨ k = 1 ∨ k = 2 ∨ k = 3 ∨ k = 4 ∨ k = 5 ∨ k = 6 ∨ k = 7 ∨ k = 8 ∨ k = 9 ∨ k = 10 ∨ k = 11 ∨ k = 12 by omega) with rfl | rfl | rfl | rfl | rfl | rfl | rfl | rfl | rfl | rfl | rfl | rfl | rfl
  · cases hq; exact k0
  · cases hq; exact k1
  · cases hq; exact k2
  · cases hq; exact k3
  · cases hq; exact k4
  · cases hq; exact k5
  · cases hq; exact k6
  · cases hq; exact k7
  · cases hq; exact k8
  · cases hq; exact k9
  · cases hq; exact k10
  · cases hq; exact k11
  · cases hq; exact k12
theorem l_overA {args : Array Value} {s : State} {t : FieldType} (h : (Cond.arrayOver (.array t)).before args s = true) : ∃ comp c k, s.vm.classes[c]? = some k ∧ k.kind = .array comp (.array t) ∧ s.vm.findClass ("[" ++ (FieldType.array t).toString) = some c := by
  unfold Cond.before at h
  simp only [Cond.holds, Cond.value, beq_iff_eq] at h
  cases hc : s.vm.findClass (FieldType.array t).toString with
  | none => simp [hc] at h
  | some comp =>
    simp only [hc, Option.bind_some, Option.bind_eq_some_iff, Option.map_eq_some_iff] at h
    obtain ⟨c, hi, k, hk, hb⟩ := h
    obtain ⟨hlt, hp, -⟩ := Array.findIdx?_eq_some_iff_getElem.mp hi
    have hkk : s.vm.classes[c] = k := (Array.getElem?_eq_some_iff.mp hk).2
    rw [hkk] at hp
    cases hkind : k.kind with
    | array component ty =>
      rw [hkind] at hb hp
      simp at hb hp
      exact ⟨comp, c, k, hk, by rw [hkind, hp, hb.1], hb.2⟩
    | _ => rw [hkind] at hb; simp at hb
theorem l_arr {args : Array Value} {s : State} (t : ∀ w ∈ lw_tbl, w.before args s = true) : ∃ dA : Nat → ClassId, ∀ (k : Nat) (q : ClassId × FieldType), (ytys dA)[k]? = some q → ArrOfT s q.1 q.2 ∧ va_RA s q.1 q.2 := by
  obtain ⟨c0, k0, p0, x0, y0, w0⟩ := Cond.arrayClass_spec (type := .int) (args := args) (first := s) (o := none) (s := s) (idx := []) (t _ (List.mem_of_getElem? (i := 129) (by decide +kernel)))
  obtain ⟨c1, k1, p1, x1, y1, w1⟩ := Cond.arrayClass_spec (type := .long) (args := args) (first := s) (o := none) (s := s) (idx := []) (t _ (List.mem_of_getElem? (i := 1395) (by decide +kernel)))
  obtain ⟨p2, c2, k2, v2, _, y2, w2, x2⟩ := Cond.arrayOver_spec (n := "ModemLink$Line") (args := args) (first := s) (o := none) (s := s) (idx := []) (t _ (List.mem_of_getElem? (i := 367) (by decide +kernel)))
  obtain ⟨c3, k3, p3, x3, y3, w3⟩ := Cond.arrayClass_spec (type := .boolean) (args := args) (first := s) (o := none) (s := s) (idx := []) (t _ (List.mem_of_getElem? (i := 1232) (by decide +kernel)))
  obtain ⟨p4, c4, k4, y4, w4, x4⟩ := l_overA (t := .int) (args := args) (t _ (List.mem_of_getElem? (i := 1119) (by decide +kernel)))
  obtain ⟨p5, c5, k5, y5, w5, x5⟩ := l_overA (t := .array .int) (args := args) (t _ (List.mem_of_getElem? (i := 1121) (by decide +kernel)))
  obtain ⟨c6, k6, p6, x6, y6, w6⟩ := Cond.arrayClass_spec (type := .byte) (args := args) (first := s) (o := none) (s := s) (idx := []) (t _ (List.mem_of_getElem? (i := 452) (by decide +kernel)))
  refine ⟨fun k => [c0, c1, c2, c3, c4, c5, c6].getD k c0, fun k q hq => ?_⟩
  have hk : k < 7 := (List.getElem?_eq_some_iff.mp hq).1
  rcases (show k = 0 ∨ k = 1 ∨ k = 2 ∨ k = 3 ∨ k = 4 ∨ k = 5 ∨ k = 6 by omega) with rfl | rfl | rfl | rfl | rfl | rfl | rfl
  · cases hq; exact ⟨fun n z => ⟨fun k h => (by cases h), k0, y0, p0, w0⟩, x0⟩
  · cases hq; exact ⟨fun n z => ⟨fun k h => (by cases h), k1, y1, p1, w1⟩, x1⟩
  · cases hq; exact ⟨fun n z => ⟨fun k h => (by cases h), k2, y2, p2, w2⟩, k2, p2, y2, w2, v2, x2⟩
  · cases hq; exact ⟨fun n z => ⟨fun k h => (by cases h), k3, y3, p3, w3⟩, x3⟩
  · cases hq; exact ⟨fun n z => ⟨fun k h => (by cases h), k4, y4, p4, w4⟩, x4⟩
  · cases hq; exact ⟨fun n z => ⟨fun k h => (by cases h), k5, y5, p5, w5⟩, x5⟩
  · cases hq; exact ⟨fun n z => ⟨fun k h => (by cases h), k6, y6, p6, w6⟩, x6⟩

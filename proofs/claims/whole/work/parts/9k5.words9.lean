/-! ===== the words of the law's list hold where the tables hold ===== -/
theorem lwt_wsX100 : ∀ w ∈ wsX100, w ∈ lw_tbl := by decide +kernel
theorem lwt_wsX110 : ∀ w ∈ wsX110, w ∈ lw_tbl := by decide +kernel
theorem lwt_wsX60 : ∀ w ∈ wsX60, w ∈ lw_tbl := by decide +kernel
theorem lwt_wsX30 : ∀ w ∈ wsX30, w ∈ lw_tbl := by decide +kernel
theorem lwt_wsX80 : ∀ w ∈ wsX80, w ∈ lw_tbl := by decide +kernel
theorem lwt_wsX70 : ∀ w ∈ wsX70, w ∈ lw_tbl := by decide +kernel
theorem lwt_wsX50 : ∀ w ∈ wsX50, w ∈ lw_tbl := by decide +kernel
theorem lwt_wsJ40 : ∀ w ∈ wsJ40, w ∈ lw_tbl := by decide +kernel
theorem lwt_wsX10 : ∀ w ∈ wsX10, w ∈ lw_tbl := by decide +kernel
theorem lwt_wsX90 : ∀ w ∈ wsX90, w ∈ lw_tbl := by decide +kernel
theorem lwt_wsX40 : ∀ w ∈ wsX40, w ∈ lw_tbl := by decide +kernel
theorem lwt_wsX00 : ∀ w ∈ wsX00, w ∈ lw_tbl := by decide +kernel
theorem lwt_wsX20 : ∀ w ∈ wsX20, w ∈ lw_tbl := by decide +kernel
theorem lwt_wsJ00 : ∀ w ∈ wsJ00, w ∈ lw_tbl := by decide +kernel
set_option maxRecDepth 100000 in
theorem lwi_0 : ∀ w ∈ wsL_law0, w ∈ lw_tbl ∨ w ∈ lw_six := (List.forall_mem_append.mpr ⟨(List.forall_mem_append.mpr ⟨(List.forall_mem_append.mpr ⟨(List.forall_mem_append.mpr ⟨(List.forall_mem_append.mpr ⟨(List.forall_mem_append.mpr ⟨(List.forall_mem_append.mpr ⟨(List.forall_mem_append.mpr ⟨(List.forall_mem_append.mpr ⟨(List.forall_mem_append.mpr ⟨(List.forall_mem_append.mpr ⟨(List.forall_mem_append.mpr ⟨(List.forall_mem_append.mpr ⟨(List.forall_mem_append.mpr ⟨(List.forall_mem_append.mpr ⟨(List.forall_mem_append.mpr ⟨(fun w h => Or.inl (lwi_1 w h)), (List.forall_mem_append.mpr ⟨(fun w h => Or.inl (lwi_2 w h)), (List.forall_mem_append.mpr ⟨(fun w h => Or.inl (lwi_3 w h)), (List.forall_mem_append.mpr ⟨(fun w h => Or.inl (lwi_4 w h)), (List.forall_mem_append.mpr ⟨(fun w h => Or.inl (lwi_5 w h)), (List.forall_mem_append.mpr ⟨(fun w h => Or.inl (lwi_6 w h)), (List.forall_mem_append.mpr ⟨(fun w h => Or.inl (lwi_7 w h)), (List.forall_mem_append.mpr ⟨(fun w h => Or.inl (lwi_8 w h)), (List.forall_mem_append.mpr ⟨(fun w h => Or.inl (lwi_9 w h)), (List.forall_mem_append.mpr ⟨(fun w h => Or.inl (lwi_10 w h)), (List.forall_mem_append.mpr ⟨(fun w h => Or.inl (lwi_11 w h)), (List.forall_mem_append.mpr ⟨(fun w h => Or.inl (lwi_12 w h)), (List.forall_mem_append.mpr ⟨(fun w h => Or.inl (lwi_13 w h)), (List.forall_mem_append.mpr ⟨(fun w h => Or.inl (lwi_14 w h)), (List.forall_mem_append.mpr ⟨(fun w h => Or.inl (lwi_15 w h)), (List.forall_mem_append.mpr ⟨(fun w h => Or.inl (lwi_16 w h)), (List.forall_mem_append.mpr ⟨(fun w h => Or.inl (lwi_17 w h)), (List.forall_mem_append.mpr ⟨(fun w h => Or.inl (lwi_18 w h)), (List.forall_mem_append.mpr ⟨(fun w h => Or.inl (lwi_19 w h)), (List.forall_mem_append.mpr ⟨(fun w h => Or.inl (lwi_20 w h)), (List.forall_mem_append.mpr ⟨(fun w h => Or.inl (lwi_21 w h)), (List.forall_mem_append.mpr ⟨(fun w h => Or.inl (lwi_22 w h)), (List.forall_mem_append.mpr ⟨(fun w h => Or.inl (lwi_23 w h)), (List.forall_mem_append.mpr ⟨(fun w h => Or.inl (lwi_24 w h)), (List.forall_mem_append.mpr ⟨(fun w h => Or.inl (lwi_25 w h)), (List.forall_mem_append.mpr ⟨(fun w h => Or.inl (lwi_26 w h)), (List.forall_mem_append.mpr ⟨(fun w h => Or.inl (lwi_27 w h)), (List.forall_mem_append.mpr ⟨(fun w h => Or.inl (lwi_28 w h)), (List.forall_mem_append.mpr ⟨(fun w h => Or.inl (lwi_29 w h)), (List.forall_mem_append.mpr ⟨(fun w h => Or.inl (lwi_30 w h)), (List.forall_mem_append.mpr ⟨(fun w h => Or.inl (lwi_31 w h)), (List.forall_mem_append.mpr ⟨(fun w h => Or.inl (lwi_32 w h)), (List.forall_mem_append.mpr ⟨(fun w h => Or.inl (lwi_33 w h)), (List.forall_mem_append.mpr ⟨(fun w h => Or.inl (lwi_34 w h)), (List.forall_mem_append.mpr ⟨(fun w h => Or.inl (lwi_35 w h)), (List.forall_mem_append.mpr ⟨(fun w h => Or.inl (lwi_36 w h)), (List.forall_mem_append.mpr ⟨(fun w h => Or.inl (lwi_37 w h)), (List.forall_mem_append.mpr ⟨(fun w h => Or.inl (lwi_38 w h)), (List.forall_mem_append.mpr ⟨(fun w h => Or.inl (lwi_39 w h)), (List.forall_mem_append.mpr ⟨(fun w h => Or.inl (lwi_40 w h)), (List.forall_mem_append.mpr ⟨(fun w h => Or.inl (lwi_41 w h)), (List.forall_mem_append.mpr ⟨(fun w h => Or.inl (lwi_42 w h)), (List.forall_mem_append.mpr ⟨(fun w h => Or.inl (lwi_43 w h)), (List.forall_mem_append.mpr ⟨(fun w h => Or.inl (lwi_44 w h)), (List.forall_mem_append.mpr ⟨(fun w h => Or.inl (lwi_45 w h)), (List.forall_mem_append.mpr ⟨(fun w h => Or.inl (lwi_46 w h)), (List.forall_mem_append.mpr ⟨(fun w h => Or.inl (lwi_47 w h)), (List.forall_mem_append.mpr ⟨(fun w h => Or.inl (lwi_48 w h)), (List.forall_mem_append.mpr ⟨(fun w h => Or.inl (lwi_49 w h)), (List.forall_mem_append.mpr ⟨(fun w h => Or.inl (lwi_50 w h)), (List.forall_mem_append.mpr ⟨(fun w h => Or.inl (lwi_51 w h)), (List.forall_mem_append.mpr ⟨(fun w h => Or.inl (lwi_52 w h)), (List.forall_mem_append.mpr ⟨(fun w h => Or.inl (lwi_53 w h)), (List.forall_mem_append.mpr ⟨(fun w h => Or.inl (lwi_54 w h)), (List.forall_mem_append.mpr ⟨(fun w h => Or.inl (lwi_55 w h)), (List.forall_mem_append.mpr ⟨lwi_56, (List.forall_mem_append.mpr ⟨(fun w h => Or.inl (lwi_57 w h)), (List.forall_mem_append.mpr ⟨lwi_58, (List.forall_mem_append.mpr ⟨lwi_59, (List.forall_mem_append.mpr ⟨lwi_60, (List.forall_mem_append.mpr ⟨(fun w h => Or.inl (lwi_61 w h)), (List.forall_mem_append.mpr ⟨(fun w h => Or.inl (lwi_62 w h)), (List.forall_mem_append.mpr ⟨(fun w h => Or.inl (lwi_63 w h)), (List.forall_mem_append.mpr ⟨(fun w h => Or.inl (lwi_64 w h)), (List.forall_mem_append.mpr ⟨(fun w h => Or.inl (lwi_65 w h)), (List.forall_mem_append.mpr ⟨(fun w h => Or.inl (lwi_66 w h)), (List.forall_mem_append.mpr ⟨(fun w h => Or.inl (lwi_67 w h)), (List.forall_mem_append.mpr ⟨(fun w h => Or.inl (lwi_68 w h)), (List.forall_mem_append.mpr ⟨(fun w h => Or.inl (lwi_69 w h)), (fun w h => Or.inl (lwi_70 w h))⟩)⟩)⟩)⟩)⟩)⟩)⟩)⟩)⟩)⟩)⟩)⟩)⟩)⟩)⟩)⟩)⟩)⟩)⟩)⟩)⟩)⟩)⟩)⟩)⟩)⟩)⟩)⟩)⟩)⟩)⟩)⟩)⟩)⟩)⟩)⟩)⟩)⟩)⟩)⟩)⟩)⟩)⟩)⟩)⟩)⟩)⟩)⟩)⟩)⟩)⟩)⟩)⟩)⟩)⟩)⟩)⟩)⟩)⟩)⟩)⟩)⟩)⟩)⟩)⟩)⟩)⟩)⟩)⟩), (fun w h => Or.inl (lwt_wsX100 w h))⟩), (fun w h => Or.inl (lwt_wsX110 w h))⟩), (fun w h => Or.inl (lwt_wsX60 w h))⟩), (fun w h => Or.inl (lwt_wsX30 w h))⟩), (fun w h => Or.inl (lwt_wsX80 w h))⟩), (fun w h => Or.inl (lwt_wsX70 w h))⟩), (fun w h => Or.inl (lwt_wsX50 w h))⟩), (fun w h => Or.inl (lwt_wsJ40 w h))⟩), (fun w h => Or.inl (lwt_wsX10 w h))⟩), (fun w h => Or.inl (lwt_wsX90 w h))⟩), (fun w h => Or.inl (lwt_wsX40 w h))⟩), (fun w h => Or.inl (lwt_wsX00 w h))⟩), (fun w h => Or.inl (lwt_wsX20 w h))⟩), (fun w h => Or.inl (lwt_wsJ00 w h))⟩), (fun w h => absurd h List.not_mem_nil)⟩)
theorem lwi_x0 : ∀ w ∈ (vx_atS RX10 130 "java/lang/IllegalArgumentException" ["java/lang/RuntimeException", "java/lang/Exception"]).filter goodWord, w ∈ lw_tbl := by decide +kernel
/-- the words of a throw of NoSuchElementException, whose constructor has its own index -/
theorem lwi_x1 : ∀ w ∈ (vx_atX RX10 175 "java/util/NoSuchElementException" 13 prog_36_method_4_code ["java/lang/RuntimeException", "java/lang/Exception"]).filter goodWord, w ∈ lw_tbl := by decide +kernel
theorem lwi_law : ∀ w ∈ wsL_law, w ∈ lw_tbl ∨ w ∈ lw_six := fun w h => (List.mem_append.mp h).elim (fun h => (List.mem_append.mp h).elim (fun h => lwi_0 w h) (fun h => Or.inl (lwi_x0 w h))) (fun h => Or.inl (lwi_x1 w h))
/-- a private method of the builder's superclass -/
theorem l_sel {y z : MethodName} {s : State} {args : Array Value} (hy : y.cls ≠ "java/lang/invoke/MethodHandle" ∧ y.cls ≠ "java/lang/invoke/VarHandle") (hyz : y.cls = z.cls) (hpriv : (Cond.privateMethod y).before args s = true) (hinst : (Cond.instanceMethod y).before args s = true) (hz : (Cond.selects RJ4 z z).before args s = true) : (Cond.selects RJ4 y y).before args s = true := by
  obtain ⟨mk, methM, hnamed, hmethM, -, -⟩ := Cond.instanceMethod_spec hinst
  have hfound : s.methodFound? y.cls y.name y.desc = some mk := State.methodFound?_of_named hnamed hy
  simp only [Cond.before, Cond.holds, Cond.value] at hz ⊢
  cases hc : s.vm.findClass RJ4 with
  | none => rw [hc] at hz; simp at hz
  | some c =>
    rw [hc] at hz
    rw [hfound, hnamed]
    have hsel : selectMethod {} s.vm c mk = .method mk := selectMethod_private hmethM (Cond.privateMethod_at hpriv mk methM hnamed hmethM)
    cases h2 : s.methodFound? z.cls z.name z.desc with
    | none => rw [h2] at hz; simp at hz
    | some r =>
      cases h3 : s.methodNamed? z with
      | none => rw [h2, h3] at hz; simp at hz
      | some m9 =>
        rw [h2, h3] at hz
        have hcls : mk.cls = m9.cls := by
          have a := findClass_of_methodNamed hnamed
          have b := findClass_of_methodNamed h3
          rw [hyz] at a
          exact Option.some.inj (a.symm.trans b)
        dsimp only at hz ⊢
        rw [hsel, hcls]
        cases h4 : selectMethod {} s.vm c r with
        | method m' =>
          rw [h4] at hz
          simp at hz ⊢
          exact hz.2
        | _ => rw [h4] at hz; simp at hz
theorem l_six {s : State} {args : Array Value} (h : ∀ w ∈ lw_tbl, w.before args s = true) : ∀ w ∈ lw_six, w.before args s = true := by
  intro w hw
  simp only [lw_six, List.mem_cons, List.not_mem_nil, or_false] at hw
  rcases hw with rfl | rfl | rfl | rfl | rfl | rfl
  · exact l_sel (y := yJ5_ensureCapacityInternal_d00df) (z := yJ5_isLatin1_aae02) (by decide +kernel) rfl (h _ (List.mem_of_getElem? (i := 884) (by decide +kernel))) (h _ (List.mem_of_getElem? (i := 885) (by decide +kernel))) (h _ (List.mem_of_getElem? (i := 917) (by decide +kernel)))
  · exact l_sel (y := yJ5_newCapacity_0f7a4) (z := yJ5_isLatin1_aae02) (by decide +kernel) rfl (h _ (List.mem_of_getElem? (i := 888) (by decide +kernel))) (h _ (List.mem_of_getElem? (i := 889) (by decide +kernel))) (h _ (List.mem_of_getElem? (i := 917) (by decide +kernel)))
  · exact l_sel (y := yJ5_appendNull_278bc) (z := yJ5_isLatin1_aae02) (by decide +kernel) rfl (h _ (List.mem_of_getElem? (i := 979) (by decide +kernel))) (h _ (List.mem_of_getElem? (i := 980) (by decide +kernel))) (h _ (List.mem_of_getElem? (i := 917) (by decide +kernel)))
  · exact l_sel (y := yJ5_putStringAt_47b60) (z := yJ5_isLatin1_aae02) (by decide +kernel) rfl (h _ (List.mem_of_getElem? (i := 1018) (by decide +kernel))) (h _ (List.mem_of_getElem? (i := 1019) (by decide +kernel))) (h _ (List.mem_of_getElem? (i := 917) (by decide +kernel)))
  · exact l_sel (y := yJ5_inflateIfNeededFor_a7421) (z := yJ5_isLatin1_aae02) (by decide +kernel) rfl (h _ (List.mem_of_getElem? (i := 1022) (by decide +kernel))) (h _ (List.mem_of_getElem? (i := 1023) (by decide +kernel))) (h _ (List.mem_of_getElem? (i := 917) (by decide +kernel)))
  · exact l_sel (y := yJ5_inflate_da8c8) (z := yJ5_isLatin1_aae02) (by decide +kernel) rfl (h _ (List.mem_of_getElem? (i := 1027) (by decide +kernel))) (h _ (List.mem_of_getElem? (i := 1028) (by decide +kernel))) (h _ (List.mem_of_getElem? (i := 917) (by decide +kernel)))
theorem l_words {s : State} {args : Array Value} (h : ∀ w ∈ lw_tbl, w.before args s = true) : ∀ w ∈ wsL_law, w.before args s = true := fun w hw => (lwi_law w hw).elim (h w) (l_six h w)

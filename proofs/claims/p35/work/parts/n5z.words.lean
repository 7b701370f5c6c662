/-! ===== the words of the law's list hold where the tables hold ===== -/
theorem lwt_wsX100 : ∀ w ∈ wsX100, w ∈ lw_tbl := by decide +kernel
theorem lwt_wsX110 : ∀ w ∈ wsX110, w ∈ lw_tbl := by decide +kernel
theorem lwt_wsX60 : ∀ w ∈ wsX60, w ∈ lw_tbl := by decide +kernel
theorem lwt_wsX30 : ∀ w ∈ wsX30, w ∈ lw_tbl := by decide +kernel
theorem lwt_wsX80 : ∀ w ∈ wsX80, w ∈ lw_tbl := by decide +kernel
theorem lwt_wsX70 : ∀ w ∈ wsX70, w ∈ lw_tbl := by decide +kernel
theorem lwt_wsX50 : ∀ w ∈ wsX50, w ∈ lw_tbl := by decide +kernel
theorem lwt_wsJ40 : ∀ w ∈ wsJ40, w ∈ lw_tbl := by decide +kernel
theorem lwt_wsX10 : ∀ w ∈ wsX10, w ∈ lw_tbl := by decide +kernel
theorem lwt_wsX90 : ∀ w ∈ wsX90, w ∈ lw_tbl := by decide +kernel
theorem lwt_wsX40 : ∀ w ∈ wsX40, w ∈ lw_tbl := by decide +kernel
theorem lwt_wsX00 : ∀ w ∈ wsX00, w ∈ lw_tbl := by decide +kernel
theorem lwt_wsX20 : ∀ w ∈ wsX20, w ∈ lw_tbl := by decide +kernel
set_option maxRecDepth 100000 in
theorem lwi_0 : ∀ w ∈ wsL_law0, w ∈ lw_tbl := (List.forall_mem_append.mpr ⟨(List.forall_mem_append.mpr ⟨(List.forall_mem_append.mpr ⟨(List.forall_mem_append.mpr ⟨(List.forall_mem_append.mpr ⟨(List.forall_mem_append.mpr ⟨(List.forall_mem_append.mpr ⟨(List.forall_mem_append.mpr ⟨(List.forall_mem_append.mpr ⟨(List.forall_mem_append.mpr ⟨(List.forall_mem_append.mpr ⟨(List.forall_mem_append.mpr ⟨(List.forall_mem_append.mpr ⟨(List.forall_mem_append.mpr ⟨(List.forall_mem_append.mpr ⟨lwi_1, (List.forall_mem_append.mpr ⟨lwi_2, (List.forall_mem_append.mpr ⟨lwi_3, (List.forall_mem_append.mpr ⟨lwi_4, (List.forall_mem_append.mpr ⟨lwi_5, (List.forall_mem_append.mpr ⟨lwi_6, (List.forall_mem_append.mpr ⟨lwi_7, (List.forall_mem_append.mpr ⟨lwi_8, (List.forall_mem_append.mpr ⟨lwi_9, (List.forall_mem_append.mpr ⟨lwi_10, (List.forall_mem_append.mpr ⟨lwi_11, (List.forall_mem_append.mpr ⟨lwi_12, (List.forall_mem_append.mpr ⟨lwi_13, (List.forall_mem_append.mpr ⟨lwi_14, (List.forall_mem_append.mpr ⟨lwi_15, (List.forall_mem_append.mpr ⟨lwi_16, (List.forall_mem_append.mpr ⟨lwi_17, (List.forall_mem_append.mpr ⟨lwi_18, (List.forall_mem_append.mpr ⟨lwi_19, (List.forall_mem_append.mpr ⟨lwi_20, (List.forall_mem_append.mpr ⟨lwi_21, (List.forall_mem_append.mpr ⟨lwi_22, (List.forall_mem_append.mpr ⟨lwi_23, (List.forall_mem_append.mpr ⟨lwi_24, (List.forall_mem_append.mpr ⟨lwi_25, (List.forall_mem_append.mpr ⟨lwi_26, (List.forall_mem_append.mpr ⟨lwi_27, (List.forall_mem_append.mpr ⟨lwi_28, (List.forall_mem_append.mpr ⟨lwi_29, (List.forall_mem_append.mpr ⟨lwi_30, (List.forall_mem_append.mpr ⟨lwi_31, (List.forall_mem_append.mpr ⟨lwi_32, (List.forall_mem_append.mpr ⟨lwi_33, (List.forall_mem_append.mpr ⟨lwi_34, (List.forall_mem_append.mpr ⟨lwi_35, (List.forall_mem_append.mpr ⟨lwi_36, (List.forall_mem_append.mpr ⟨lwi_37, (List.forall_mem_append.mpr ⟨lwi_38, (List.forall_mem_append.mpr ⟨lwi_39, (List.forall_mem_append.mpr ⟨lwi_40, lwi_41⟩)⟩)⟩)⟩)⟩)⟩)⟩)⟩)⟩)⟩)⟩)⟩)⟩)⟩)⟩)⟩)⟩)⟩)⟩)⟩)⟩)⟩)⟩)⟩)⟩)⟩)⟩)⟩)⟩)⟩)⟩)⟩)⟩)⟩)⟩)⟩)⟩)⟩)⟩)⟩), lwt_wsX100⟩), lwt_wsX110⟩), lwt_wsX60⟩), lwt_wsX30⟩), lwt_wsX80⟩), lwt_wsX70⟩), lwt_wsX50⟩), lwt_wsJ40⟩), lwt_wsX10⟩), lwt_wsX90⟩), lwt_wsX40⟩), lwt_wsX00⟩), lwt_wsX20⟩), (fun w h => absurd h List.not_mem_nil)⟩)
theorem lwi_law : ∀ w ∈ wsL_law, w ∈ lw_tbl := fun w h => (List.mem_append.mp h).elim (fun h => (List.mem_append.mp h).elim (fun h => lwi_0 w h) (fun h => absurd h List.not_mem_nil)) (fun h => absurd h List.not_mem_nil)
theorem l_words {s : State} {args : Array Value} (h : ∀ w ∈ lw_tbl, w.before args s = true) : ∀ w ∈ wsL_law, w.before args s = true := fun w hw => h w (lwi_law w hw)
theorem lw_gTb : ∀ w ∈ gTb, w ∈ lw_tbl := by decide +kernel
theorem lw_gNb : ∀ w ∈ gNb, w ∈ lw_tbl := by decide +kernel
theorem l_gT {s : State} {args : Array Value} (h : ∀ w ∈ lw_tbl, w.before args s = true) : gT s := by
  refine ⟨fun w hw => ?_, fun w hw => va_Nw.of (gNb_on w hw) (h w (lw_gNb w hw))⟩
  have h0 := h w (lw_gTb w hw)
  simp only [gTb, List.mem_cons, List.not_mem_nil, or_false] at hw
  rcases hw with rfl | rfl <;> exact h0

/-! ===== rows of the layer g that touch no cell ===== -/
section GR
variable {P : gG → Prop} {lay : List xS} {own : String} {cc : ByteArray} {nL d pc : Nat} {L : List (Nat × xV)} {st : List xV} {m : xM} {hp h9 : gH}
theorem g_iload_n (C : ∀ Γ, P Γ → gX Γ lay own cc nL d h9) {k : Fin 4} (hd : decode cc pc = .ok (.iload_n k, 1)) {x : Int} (hl : xas L (k : Nat) = some (.inl x)) (h : gJ P lay nL (pc + 1) L (.inl x :: st) m hp h9) : gJ P lay nL pc L st m hp h9 := by
  refine ⟨h.1, ?_⟩
  intro Γ hΓ
  have C := C Γ hΓ
  obtain ⟨⟨p, l, e, R, s, m0, args, below, meth, c⟩, ⟨A, ad, dC, dI, dA⟩, n0, s0, n1, s1, Q⟩ := Γ
  obtain ⟨hx, hb, -⟩ := C
  intro H locs ls kk nn hs hP hD hS hv
  exact lv_iload_n hx hb hd rfl (xlv_get hv hl) (h.2 _ hΓ H locs ls kk nn hs hP hD hS hv)
theorem g_iload (C : ∀ Γ, P Γ → gX Γ lay own cc nL d h9) {k : Nat} (hd : decode cc pc = .ok (.iload k, 2)) {x : Int} (hl : xas L k = some (.inl x)) (h : gJ P lay nL (pc + 2) L (.inl x :: st) m hp h9) : gJ P lay nL pc L st m hp h9 := by
  refine ⟨h.1, ?_⟩
  intro Γ hΓ
  have C := C Γ hΓ
  obtain ⟨⟨p, l, e, R, s, m0, args, below, meth, c⟩, ⟨A, ad, dC, dI, dA⟩, n0, s0, n1, s1, Q⟩ := Γ
  obtain ⟨hx, hb, -⟩ := C
  intro H locs ls kk nn hs hP hD hS hv
  exact lv_iload hx hb hd (xlv_get hv hl) (h.2 _ hΓ H locs ls kk nn hs hP hD hS hv)
theorem g_lload_n (C : ∀ Γ, P Γ → gX Γ lay own cc nL d h9) {k : Fin 4} (hd : decode cc pc = .ok (.lload_n k, 1)) {x : Int} (hl : xas L (k : Nat) = some (.inr (.inl x))) (h : gJ P lay nL (pc + 1) L (.inr (.inl x) :: st) m hp h9) : gJ P lay nL pc L st m hp h9 := by
  refine ⟨h.1, ?_⟩
  intro Γ hΓ
  have C := C Γ hΓ
  obtain ⟨⟨p, l, e, R, s, m0, args, below, meth, c⟩, ⟨A, ad, dC, dI, dA⟩, n0, s0, n1, s1, Q⟩ := Γ
  obtain ⟨hx, hb, -⟩ := C
  intro H locs ls kk nn hs hP hD hS hv
  exact lv_lload_n hx hb hd rfl (xlv_get hv hl) (h.2 _ hΓ H locs ls kk nn hs hP hD hS hv)
theorem g_lload (C : ∀ Γ, P Γ → gX Γ lay own cc nL d h9) {k : Nat} (hd : decode cc pc = .ok (.lload k, 2)) {x : Int} (hl : xas L k = some (.inr (.inl x))) (h : gJ P lay nL (pc + 2) L (.inr (.inl x) :: st) m hp h9) : gJ P lay nL pc L st m hp h9 := by
  refine ⟨h.1, ?_⟩
  intro Γ hΓ
  have C := C Γ hΓ
  obtain ⟨⟨p, l, e, R, s, m0, args, below, meth, c⟩, ⟨A, ad, dC, dI, dA⟩, n0, s0, n1, s1, Q⟩ := Γ
  obtain ⟨hx, hb, -⟩ := C
  intro H locs ls kk nn hs hP hD hS hv
  exact lv_lload hx hb hd (xlv_get hv hl) (h.2 _ hΓ H locs ls kk nn hs hP hD hS hv)
theorem g_istore_n (C : ∀ Γ, P Γ → gX Γ lay own cc nL d h9) {k : Fin 4} (hd : decode cc pc = .ok (.istore_n k, 1)) (hn : (k : Nat) < nL) {x : Int} (h : gJ P lay nL (pc + 1) (xs1 L (k : Nat) (.inl x)) st m hp h9) : gJ P lay nL pc L (.inl x :: st) m hp h9 := by
  refine ⟨h.1, ?_⟩
  intro Γ hΓ
  have C := C Γ hΓ
  obtain ⟨⟨p, l, e, R, s, m0, args, below, meth, c⟩, ⟨A, ad, dC, dI, dA⟩, n0, s0, n1, s1, Q⟩ := Γ
  obtain ⟨hx, hb, -⟩ := C
  intro H locs ls kk nn hs hP hD hS hv
  exact lv_istore_n hx hb hd rfl hv hn (xs1_lv ad L (k : Nat) (.inl x)) (fun ls' hv' => h.2 _ hΓ H locs ls' kk nn hs hP hD hS hv')
theorem g_istore (C : ∀ Γ, P Γ → gX Γ lay own cc nL d h9) {k : Nat} (hd : decode cc pc = .ok (.istore k, 2)) (hn : k < nL) {x : Int} (h : gJ P lay nL (pc + 2) (xs1 L k (.inl x)) st m hp h9) : gJ P lay nL pc L (.inl x :: st) m hp h9 := by
  refine ⟨h.1, ?_⟩
  intro Γ hΓ
  have C := C Γ hΓ
  obtain ⟨⟨p, l, e, R, s, m0, args, below, meth, c⟩, ⟨A, ad, dC, dI, dA⟩, n0, s0, n1, s1, Q⟩ := Γ
  obtain ⟨hx, hb, -⟩ := C
  intro H locs ls kk nn hs hP hD hS hv
  exact lv_istore hx hb hd hv hn (xs1_lv ad L k (.inl x)) (fun ls' hv' => h.2 _ hΓ H locs ls' kk nn hs hP hD hS hv')
theorem g_lstore_n (C : ∀ Γ, P Γ → gX Γ lay own cc nL d h9) {k : Fin 4} (hd : decode cc pc = .ok (.lstore_n k, 1)) (hn : (k : Nat) + 1 < nL) {x : Int} (h : gJ P lay nL (pc + 1) (xs2 L (k : Nat) (.inr (.inl x))) st m hp h9) : gJ P lay nL pc L (.inr (.inl x) :: st) m hp h9 := by
  refine ⟨h.1, ?_⟩
  intro Γ hΓ
  have C := C Γ hΓ
  obtain ⟨⟨p, l, e, R, s, m0, args, below, meth, c⟩, ⟨A, ad, dC, dI, dA⟩, n0, s0, n1, s1, Q⟩ := Γ
  obtain ⟨hx, hb, -⟩ := C
  intro H locs ls kk nn hs hP hD hS hv
  exact lv_lstore_n hx hb hd rfl hv hn (xs2_lv ad L (k : Nat) (.inr (.inl x))) (fun ls' hv' => h.2 _ hΓ H locs ls' kk nn hs hP hD hS hv')
theorem g_lstore (C : ∀ Γ, P Γ → gX Γ lay own cc nL d h9) {k : Nat} (hd : decode cc pc = .ok (.lstore k, 2)) (hn : k + 1 < nL) {x : Int} (h : gJ P lay nL (pc + 2) (xs2 L k (.inr (.inl x))) st m hp h9) : gJ P lay nL pc L (.inr (.inl x) :: st) m hp h9 := by
  refine ⟨h.1, ?_⟩
  intro Γ hΓ
  have C := C Γ hΓ
  obtain ⟨⟨p, l, e, R, s, m0, args, below, meth, c⟩, ⟨A, ad, dC, dI, dA⟩, n0, s0, n1, s1, Q⟩ := Γ
  obtain ⟨hx, hb, -⟩ := C
  intro H locs ls kk nn hs hP hD hS hv
  exact lv_lstore hx hb hd hv hn (xs2_lv ad L k (.inr (.inl x))) (fun ls' hv' => h.2 _ hΓ H locs ls' kk nn hs hP hD hS hv')
theorem g_iinc (C : ∀ Γ, P Γ → gX Γ lay own cc nL d h9) {k : Nat} {n : Int} (hd : decode cc pc = .ok (.iinc k n, 3)) (hn : k < nL) {x : Int} (hl : xas L k = some (.inl x)) (h : gJ P lay nL (pc + 3) (xs1 L k (.inl (x + n))) st m hp h9) : gJ P lay nL pc L st m hp h9 := by
  refine ⟨h.1, ?_⟩
  intro Γ hΓ
  have C := C Γ hΓ
  obtain ⟨⟨p, l, e, R, s, m0, args, below, meth, c⟩, ⟨A, ad, dC, dI, dA⟩, n0, s0, n1, s1, Q⟩ := Γ
  obtain ⟨hx, hb, -⟩ := C
  intro H locs ls kk nn hs hP hD hS hv
  obtain ⟨j, hj⟩ := List.getElem?_of_mem (List.mem_map.mpr ⟨(k, .inl x), xas_mem hl, rfl⟩ : ((k, xval ad (.inl x)) : Nat × Value) ∈ xlv ad L)
  exact lv_iinc (v := Int32.ofInt (x + n)) hx hb hd hv hj (Int32.ofInt_add x n).symm hn (xs1_lv ad L k (.inl (x + n))) (fun ls' hv' => h.2 _ hΓ H locs ls' kk nn hs hP hD hS hv')
theorem g_iconst (C : ∀ Γ, P Γ → gX Γ lay own cc nL d h9) {n : Int} (hd : decode cc pc = .ok (.iconst n, 1)) (h : gJ P lay nL (pc + 1) L (.inl n :: st) m hp h9) : gJ P lay nL pc L st m hp h9 := by
  refine ⟨h.1, ?_⟩
  intro Γ hΓ
  have C := C Γ hΓ
  obtain ⟨⟨p, l, e, R, s, m0, args, below, meth, c⟩, ⟨A, ad, dC, dI, dA⟩, n0, s0, n1, s1, Q⟩ := Γ
  obtain ⟨hx, hb, -⟩ := C
  intro H locs ls kk nn hs hP hD hS hv
  exact lv_iconst hx hb hd rfl (h.2 _ hΓ H locs ls kk nn hs hP hD hS hv)
theorem g_bipush (C : ∀ Γ, P Γ → gX Γ lay own cc nL d h9) {n : Int} (hd : decode cc pc = .ok (.bipush n, 2)) (hn : (Int8.ofInt n).toInt32 = Int32.ofInt n) (h : gJ P lay nL (pc + 2) L (.inl n :: st) m hp h9) : gJ P lay nL pc L st m hp h9 := by
  refine ⟨h.1, ?_⟩
  intro Γ hΓ
  have C := C Γ hΓ
  obtain ⟨⟨p, l, e, R, s, m0, args, below, meth, c⟩, ⟨A, ad, dC, dI, dA⟩, n0, s0, n1, s1, Q⟩ := Γ
  obtain ⟨hx, hb, -⟩ := C
  intro H locs ls kk nn hs hP hD hS hv
  exact lv_bipush hx hb hd hn (h.2 _ hΓ H locs ls kk nn hs hP hD hS hv)
theorem g_sipush (C : ∀ Γ, P Γ → gX Γ lay own cc nL d h9) {n : Int} (hd : decode cc pc = .ok (.sipush n, 3)) (hn : (Int16.ofInt n).toInt32 = Int32.ofInt n) (h : gJ P lay nL (pc + 3) L (.inl n :: st) m hp h9) : gJ P lay nL pc L st m hp h9 := by
  refine ⟨h.1, ?_⟩
  intro Γ hΓ
  have C := C Γ hΓ
  obtain ⟨⟨p, l, e, R, s, m0, args, below, meth, c⟩, ⟨A, ad, dC, dI, dA⟩, n0, s0, n1, s1, Q⟩ := Γ
  obtain ⟨hx, hb, -⟩ := C
  intro H locs ls kk nn hs hP hD hS hv
  exact lv_sipush hx hb hd hn (h.2 _ hΓ H locs ls kk nn hs hP hD hS hv)
theorem g_ldc (C : ∀ Γ, P Γ → gX Γ lay own cc nL d h9) {i : Nat} {v : Int32} (n : Int) (hd : decode cc pc = .ok (.ldc i, 2)) (hw : Cond.constant own i v ∈ wsL_law) (hn : v = Int32.ofInt n) (h : gJ P lay nL (pc + 2) L (.inl n :: st) m hp h9) : gJ P lay nL pc L st m hp h9 := by
  subst hn
  refine ⟨h.1, ?_⟩
  intro Γ hΓ
  have C := C Γ hΓ
  obtain ⟨⟨p, l, e, R, s, m0, args, below, meth, c⟩, ⟨A, ad, dC, dI, dA⟩, n0, s0, n1, s1, Q⟩ := Γ
  obtain ⟨hx, hb, -, hown, hts, -⟩ := C
  intro H locs ls kk nn hs hP hD hS hv
  exact lv_ldc hx hb hown (hts _ hw) hd (h.2 _ hΓ H locs ls kk nn hs hP hD hS hv)
theorem g_ldc_w (C : ∀ Γ, P Γ → gX Γ lay own cc nL d h9) {i : Nat} {v : Int32} (n : Int) (hd : decode cc pc = .ok (.ldc_w i, 3)) (hw : Cond.constant own i v ∈ wsL_law) (hn : v = Int32.ofInt n) (h : gJ P lay nL (pc + 3) L (.inl n :: st) m hp h9) : gJ P lay nL pc L st m hp h9 := by
  subst hn
  refine ⟨h.1, ?_⟩
  intro Γ hΓ
  have C := C Γ hΓ
  obtain ⟨⟨p, l, e, R, s, m0, args, below, meth, c⟩, ⟨A, ad, dC, dI, dA⟩, n0, s0, n1, s1, Q⟩ := Γ
  obtain ⟨hx, hb, -, hown, hts, -⟩ := C
  intro H locs ls kk nn hs hP hD hS hv
  exact lv_ldcw hx hb hown (hts _ hw) hd (h.2 _ hΓ H locs ls kk nn hs hP hD hS hv)
theorem g_ldc2 (C : ∀ Γ, P Γ → gX Γ lay own cc nL d h9) {i : Nat} {v : Int64} (n : Int) (hd : decode cc pc = .ok (.ldc2_w i, 3)) (hw : Cond.constantLong own i v ∈ wsL_law) (hn : v = Int64.ofInt n) (h : gJ P lay nL (pc + 3) L (.inr (.inl n) :: st) m hp h9) : gJ P lay nL pc L st m hp h9 := by
  subst hn
  refine ⟨h.1, ?_⟩
  intro Γ hΓ
  have C := C Γ hΓ
  obtain ⟨⟨p, l, e, R, s, m0, args, below, meth, c⟩, ⟨A, ad, dC, dI, dA⟩, n0, s0, n1, s1, Q⟩ := Γ
  obtain ⟨hx, hb, -, hown, hts, -⟩ := C
  intro H locs ls kk nn hs hP hD hS hv
  exact lv_ldc2 hx hb hown (hts _ hw) hd (h.2 _ hΓ H locs ls kk nn hs hP hD hS hv)
theorem g_lconst (C : ∀ Γ, P Γ → gX Γ lay own cc nL d h9) {n : Fin 2} (hd : decode cc pc = .ok (.lconst n, 1)) (h : gJ P lay nL (pc + 1) L (.inr (.inl ((n : Nat) : Int)) :: st) m hp h9) : gJ P lay nL pc L st m hp h9 := by
  refine ⟨h.1, ?_⟩
  intro Γ hΓ
  have C := C Γ hΓ
  obtain ⟨⟨p, l, e, R, s, m0, args, below, meth, c⟩, ⟨A, ad, dC, dI, dA⟩, n0, s0, n1, s1, Q⟩ := Γ
  obtain ⟨hx, hb, -⟩ := C
  intro H locs ls kk nn hs hP hD hS hv
  exact lv_lconst hx hb hd (by rw [Int64.ofInt_eq_ofNat]) (h.2 _ hΓ H locs ls kk nn hs hP hD hS hv)
theorem g_iadd (C : ∀ Γ, P Γ → gX Γ lay own cc nL d h9) {x y : Int} (hd : decode cc pc = .ok (.iadd, 1)) (h : gJ P lay nL (pc + 1) L (.inl (x + y) :: st) m hp h9) : gJ P lay nL pc L (.inl y :: .inl x :: st) m hp h9 := by
  refine ⟨h.1, ?_⟩
  intro Γ hΓ
  have C := C Γ hΓ
  obtain ⟨⟨p, l, e, R, s, m0, args, below, meth, c⟩, ⟨A, ad, dC, dI, dA⟩, n0, s0, n1, s1, Q⟩ := Γ
  obtain ⟨hx, hb, -⟩ := C
  intro H locs ls kk nn hs hP hD hS hv
  have h1 := h.2 _ hΓ H locs ls kk nn hs hP hD hS hv
  refine lv_iadd hx hb hd ?_
  rw [← Int32.ofInt_add]
  exact h1
theorem g_isub (C : ∀ Γ, P Γ → gX Γ lay own cc nL d h9) {x y : Int} (hd : decode cc pc = .ok (.isub, 1)) (h : gJ P lay nL (pc + 1) L (.inl (x - y) :: st) m hp h9) : gJ P lay nL pc L (.inl y :: .inl x :: st) m hp h9 := by
  refine ⟨h.1, ?_⟩
  intro Γ hΓ
  have C := C Γ hΓ
  obtain ⟨⟨p, l, e, R, s, m0, args, below, meth, c⟩, ⟨A, ad, dC, dI, dA⟩, n0, s0, n1, s1, Q⟩ := Γ
  obtain ⟨hx, hb, -⟩ := C
  intro H locs ls kk nn hs hP hD hS hv
  have h1 := h.2 _ hΓ H locs ls kk nn hs hP hD hS hv
  refine lv_isub hx hb hd ?_
  rw [← Int32.ofInt_sub]
  exact h1
theorem g_imul (C : ∀ Γ, P Γ → gX Γ lay own cc nL d h9) {x y : Int} (hd : decode cc pc = .ok (.imul, 1)) (h : gJ P lay nL (pc + 1) L (.inl (x * y) :: st) m hp h9) : gJ P lay nL pc L (.inl y :: .inl x :: st) m hp h9 := by
  refine ⟨h.1, ?_⟩
  intro Γ hΓ
  have C := C Γ hΓ
  obtain ⟨⟨p, l, e, R, s, m0, args, below, meth, c⟩, ⟨A, ad, dC, dI, dA⟩, n0, s0, n1, s1, Q⟩ := Γ
  obtain ⟨hx, hb, -⟩ := C
  intro H locs ls kk nn hs hP hD hS hv
  have h1 := h.2 _ hΓ H locs ls kk nn hs hP hD hS hv
  refine lv_imul hx hb hd ?_
  rw [← Int32.ofInt_mul]
  exact h1
theorem g_dup (C : ∀ Γ, P Γ → gX Γ lay own cc nL d h9) {v : xV} (hd : decode cc pc = .ok (.dup, 1)) (hv1 : xcat v = 1) (h : gJ P lay nL (pc + 1) L (v :: v :: st) m hp h9) : gJ P lay nL pc L (v :: st) m hp h9 := by
  refine ⟨h.1, ?_⟩
  intro Γ hΓ
  have C := C Γ hΓ
  obtain ⟨⟨p, l, e, R, s, m0, args, below, meth, c⟩, ⟨A, ad, dC, dI, dA⟩, n0, s0, n1, s1, Q⟩ := Γ
  obtain ⟨hx, hb, -⟩ := C
  intro H locs ls kk nn hs hP hD hS hv
  exact lv_dup hx hb hd ((xcat_val ad v).trans hv1) (h.2 _ hΓ H locs ls kk nn hs hP hD hS hv)
theorem g_dup2 (C : ∀ Γ, P Γ → gX Γ lay own cc nL d h9) {v v2 : xV} (hd : decode cc pc = .ok (.dup2, 1)) (hv1 : xcat v = 1) (hv2 : xcat v2 = 1) (h : gJ P lay nL (pc + 1) L (v :: v2 :: v :: v2 :: st) m hp h9) : gJ P lay nL pc L (v :: v2 :: st) m hp h9 := by
  refine ⟨h.1, ?_⟩
  intro Γ hΓ
  have C := C Γ hΓ
  obtain ⟨⟨p, l, e, R, s, m0, args, below, meth, c⟩, ⟨A, ad, dC, dI, dA⟩, n0, s0, n1, s1, Q⟩ := Γ
  obtain ⟨hx, hb, -⟩ := C
  intro H locs ls kk nn hs hP hD hS hv
  exact lv_dup2_11 hx hb hd ((xcat_val ad v).trans hv1) ((xcat_val ad v2).trans hv2) (h.2 _ hΓ H locs ls kk nn hs hP hD hS hv)
theorem g_pop (C : ∀ Γ, P Γ → gX Γ lay own cc nL d h9) {v : xV} (hd : decode cc pc = .ok (.pop, 1)) (hv1 : xcat v = 1) (h : gJ P lay nL (pc + 1) L st m hp h9) : gJ P lay nL pc L (v :: st) m hp h9 := by
  refine ⟨h.1, ?_⟩
  intro Γ hΓ
  have C := C Γ hΓ
  obtain ⟨⟨p, l, e, R, s, m0, args, below, meth, c⟩, ⟨A, ad, dC, dI, dA⟩, n0, s0, n1, s1, Q⟩ := Γ
  obtain ⟨hx, hb, -⟩ := C
  intro H locs ls kk nn hs hP hD hS hv
  exact lv_pop hx hb hd ((xcat_val ad v).trans hv1) (h.2 _ hΓ H locs ls kk nn hs hP hD hS hv)
theorem g_goto (C : ∀ Γ, P Γ → gX Γ lay own cc nL d h9) {off : Int} (tgt : Nat) (hd : decode cc pc = .ok (.goto off, 3)) (ht : (pc : Int) + off = (tgt : Int)) (h : gJ P lay nL tgt L st m hp h9) : gJ P lay nL pc L st m hp h9 := by
  refine ⟨h.1, ?_⟩
  intro Γ hΓ
  have C := C Γ hΓ
  obtain ⟨⟨p, l, e, R, s, m0, args, below, meth, c⟩, ⟨A, ad, dC, dI, dA⟩, n0, s0, n1, s1, Q⟩ := Γ
  obtain ⟨hx, hb, -⟩ := C
  intro H locs ls kk nn hs hP hD hS hv
  exact lv_goto hx hb hd ht (h.2 _ hΓ H locs ls kk nn hs hP hD hS hv)
theorem g_loc (L' : List (Nat × xV)) (he : xsame L L') (h : gJ P lay nL pc L' st m hp h9) : gJ P lay nL pc L st m hp h9 := by
  refine ⟨h.1, ?_⟩
  intro Γ hΓ
  obtain ⟨⟨p, l, e, R, s, m0, args, below, meth, c⟩, ⟨A, ad, dC, dI, dA⟩, n0, s0, n1, s1, Q⟩ := Γ
  intro H locs ls kk nn hs hP hD hS hv
  refine h.2 _ hΓ H locs ls kk nn hs hP hD hS ⟨hv.1, hv.2.1, fun q hq => ?_⟩
  obtain ⟨q2, h2, rfl⟩ := List.mem_map.mp hq
  exact xlv_get hv (xsame_at he q2 h2)
theorem g_if_eq (C : ∀ Γ, P Γ → gX Γ lay own cc nL d h9) {off : Int} (tgt : Nat) (hd : decode cc pc = .ok (.ifCond .eq off, 3)) (ht : (pc : Int) + off = (tgt : Int)) {x : Int} {α : Type} {a b : Option α} {r : α} (h : (if xw x = 0 then a else b) = some r) (kt : a = some r → gJ P lay nL tgt L st m hp h9) (kf : b = some r → gJ P lay nL (pc + 3) L st m hp h9) : gJ P lay nL pc L (.inl x :: st) m hp h9 := by
  refine ⟨?_, ?_⟩
  · by_cases hc : xw x = 0
    · exact (kt (by rw [if_pos hc] at h; exact h)).1
    · exact (kf (by rw [if_neg hc] at h; exact h)).1
  intro Γ hΓ
  have C := C Γ hΓ
  obtain ⟨⟨p, l, e, R, s, m0, args, below, meth, c⟩, ⟨A, ad, dC, dI, dA⟩, n0, s0, n1, s1, Q⟩ := Γ
  obtain ⟨hx, hb, -⟩ := C
  intro H locs ls kk nn hs hP hD hS hv
  exact lv_if_eq hx hb hd ht (fun hc => (kt (by rw [if_pos (xz_eq.mp hc)] at h; exact h)).2 _ hΓ H locs ls kk nn hs hP hD hS hv) (fun hc => (kf (by rw [if_neg (fun q => hc (xz_eq.mpr q))] at h; exact h)).2 _ hΓ H locs ls kk nn hs hP hD hS hv)
theorem g_if_eqT (C : ∀ Γ, P Γ → gX Γ lay own cc nL d h9) {off : Int} (tgt : Nat) (hd : decode cc pc = .ok (.ifCond .eq off, 3)) (ht : (pc : Int) + off = (tgt : Int)) {x : Int} (hk : xw x = 0) (k : gJ P lay nL tgt L st m hp h9) : gJ P lay nL pc L (.inl x :: st) m hp h9 := by
  refine ⟨k.1, ?_⟩
  intro Γ hΓ
  have C := C Γ hΓ
  obtain ⟨⟨p, l, e, R, s, m0, args, below, meth, c⟩, ⟨A, ad, dC, dI, dA⟩, n0, s0, n1, s1, Q⟩ := Γ
  obtain ⟨hx, hb, -⟩ := C
  intro H locs ls kk nn hs hP hD hS hv
  exact lv_if_eq hx hb hd ht (fun hc => k.2 _ hΓ H locs ls kk nn hs hP hD hS hv) (fun hc => absurd (xz_eq.mpr hk) hc)
theorem g_if_eqN (C : ∀ Γ, P Γ → gX Γ lay own cc nL d h9) {off : Int} (tgt : Nat) (hd : decode cc pc = .ok (.ifCond .eq off, 3)) (ht : (pc : Int) + off = (tgt : Int)) {x : Int} (hk : ¬ (xw x = 0)) (k : gJ P lay nL (pc + 3) L st m hp h9) : gJ P lay nL pc L (.inl x :: st) m hp h9 := by
  refine ⟨k.1, ?_⟩
  intro Γ hΓ
  have C := C Γ hΓ
  obtain ⟨⟨p, l, e, R, s, m0, args, below, meth, c⟩, ⟨A, ad, dC, dI, dA⟩, n0, s0, n1, s1, Q⟩ := Γ
  obtain ⟨hx, hb, -⟩ := C
  intro H locs ls kk nn hs hP hD hS hv
  exact lv_if_eq hx hb hd ht (fun hc => absurd (xz_eq.mp hc) hk) (fun hc => k.2 _ hΓ H locs ls kk nn hs hP hD hS hv)
theorem g_if_ne (C : ∀ Γ, P Γ → gX Γ lay own cc nL d h9) {off : Int} (tgt : Nat) (hd : decode cc pc = .ok (.ifCond .ne off, 3)) (ht : (pc : Int) + off = (tgt : Int)) {x : Int} {α : Type} {a b : Option α} {r : α} (h : (if xw x = 0 then a else b) = some r) (kt : b = some r → gJ P lay nL tgt L st m hp h9) (kf : a = some r → gJ P lay nL (pc + 3) L st m hp h9) : gJ P lay nL pc L (.inl x :: st) m hp h9 := by
  refine ⟨?_, ?_⟩
  · by_cases hc : xw x = 0
    · exact (kf (by rw [if_pos hc] at h; exact h)).1
    · exact (kt (by rw [if_neg hc] at h; exact h)).1
  intro Γ hΓ
  have C := C Γ hΓ
  obtain ⟨⟨p, l, e, R, s, m0, args, below, meth, c⟩, ⟨A, ad, dC, dI, dA⟩, n0, s0, n1, s1, Q⟩ := Γ
  obtain ⟨hx, hb, -⟩ := C
  intro H locs ls kk nn hs hP hD hS hv
  exact lv_if_ne hx hb hd ht (fun hc => (kt (by rw [if_neg (fun q => hc (xz_eq.mpr q))] at h; exact h)).2 _ hΓ H locs ls kk nn hs hP hD hS hv) (fun hc => (kf (by rw [if_pos (xz_eq.mp hc)] at h; exact h)).2 _ hΓ H locs ls kk nn hs hP hD hS hv)
theorem g_if_neT (C : ∀ Γ, P Γ → gX Γ lay own cc nL d h9) {off : Int} (tgt : Nat) (hd : decode cc pc = .ok (.ifCond .ne off, 3)) (ht : (pc : Int) + off = (tgt : Int)) {x : Int} (hk : ¬ (xw x = 0)) (k : gJ P lay nL tgt L st m hp h9) : gJ P lay nL pc L (.inl x :: st) m hp h9 := by
  refine ⟨k.1, ?_⟩
  intro Γ hΓ
  have C := C Γ hΓ
  obtain ⟨⟨p, l, e, R, s, m0, args, below, meth, c⟩, ⟨A, ad, dC, dI, dA⟩, n0, s0, n1, s1, Q⟩ := Γ
  obtain ⟨hx, hb, -⟩ := C
  intro H locs ls kk nn hs hP hD hS hv
  exact lv_if_ne hx hb hd ht (fun hc => k.2 _ hΓ H locs ls kk nn hs hP hD hS hv) (fun hc => absurd (xz_eq.mp hc) hk)
theorem g_if_neN (C : ∀ Γ, P Γ → gX Γ lay own cc nL d h9) {off : Int} (tgt : Nat) (hd : decode cc pc = .ok (.ifCond .ne off, 3)) (ht : (pc : Int) + off = (tgt : Int)) {x : Int} (hk : xw x = 0) (k : gJ P lay nL (pc + 3) L st m hp h9) : gJ P lay nL pc L (.inl x :: st) m hp h9 := by
  refine ⟨k.1, ?_⟩
  intro Γ hΓ
  have C := C Γ hΓ
  obtain ⟨⟨p, l, e, R, s, m0, args, below, meth, c⟩, ⟨A, ad, dC, dI, dA⟩, n0, s0, n1, s1, Q⟩ := Γ
  obtain ⟨hx, hb, -⟩ := C
  intro H locs ls kk nn hs hP hD hS hv
  exact lv_if_ne hx hb hd ht (fun hc => absurd (xz_eq.mpr hk) hc) (fun hc => k.2 _ hΓ H locs ls kk nn hs hP hD hS hv)
theorem g_if_lt (C : ∀ Γ, P Γ → gX Γ lay own cc nL d h9) {off : Int} (tgt : Nat) (hd : decode cc pc = .ok (.ifCond .lt off, 3)) (ht : (pc : Int) + off = (tgt : Int)) {x : Int} {α : Type} {a b : Option α} {r : α} (h : (if xw x < 0 then a else b) = some r) (kt : a = some r → gJ P lay nL tgt L st m hp h9) (kf : b = some r → gJ P lay nL (pc + 3) L st m hp h9) : gJ P lay nL pc L (.inl x :: st) m hp h9 := by
  refine ⟨?_, ?_⟩
  · by_cases hc : xw x < 0
    · exact (kt (by rw [if_pos hc] at h; exact h)).1
    · exact (kf (by rw [if_neg hc] at h; exact h)).1
  intro Γ hΓ
  have C := C Γ hΓ
  obtain ⟨⟨p, l, e, R, s, m0, args, below, meth, c⟩, ⟨A, ad, dC, dI, dA⟩, n0, s0, n1, s1, Q⟩ := Γ
  obtain ⟨hx, hb, -⟩ := C
  intro H locs ls kk nn hs hP hD hS hv
  exact lv_if_lt hx hb hd ht (fun hc => (kt (by rw [if_pos (xz_lt.mp hc)] at h; exact h)).2 _ hΓ H locs ls kk nn hs hP hD hS hv) (fun hc => (kf (by rw [if_neg (fun q => hc (xz_lt.mpr q))] at h; exact h)).2 _ hΓ H locs ls kk nn hs hP hD hS hv)
theorem g_if_ltT (C : ∀ Γ, P Γ → gX Γ lay own cc nL d h9) {off : Int} (tgt : Nat) (hd : decode cc pc = .ok (.ifCond .lt off, 3)) (ht : (pc : Int) + off = (tgt : Int)) {x : Int} (hk : xw x < 0) (k : gJ P lay nL tgt L st m hp h9) : gJ P lay nL pc L (.inl x :: st) m hp h9 := by
  refine ⟨k.1, ?_⟩
  intro Γ hΓ
  have C := C Γ hΓ
  obtain ⟨⟨p, l, e, R, s, m0, args, below, meth, c⟩, ⟨A, ad, dC, dI, dA⟩, n0, s0, n1, s1, Q⟩ := Γ
  obtain ⟨hx, hb, -⟩ := C
  intro H locs ls kk nn hs hP hD hS hv
  exact lv_if_lt hx hb hd ht (fun hc => k.2 _ hΓ H locs ls kk nn hs hP hD hS hv) (fun hc => absurd (xz_lt.mpr hk) hc)
theorem g_if_ltN (C : ∀ Γ, P Γ → gX Γ lay own cc nL d h9) {off : Int} (tgt : Nat) (hd : decode cc pc = .ok (.ifCond .lt off, 3)) (ht : (pc : Int) + off = (tgt : Int)) {x : Int} (hk : ¬ (xw x < 0)) (k : gJ P lay nL (pc + 3) L st m hp h9) : gJ P lay nL pc L (.inl x :: st) m hp h9 := by
  refine ⟨k.1, ?_⟩
  intro Γ hΓ
  have C := C Γ hΓ
  obtain ⟨⟨p, l, e, R, s, m0, args, below, meth, c⟩, ⟨A, ad, dC, dI, dA⟩, n0, s0, n1, s1, Q⟩ := Γ
  obtain ⟨hx, hb, -⟩ := C
  intro H locs ls kk nn hs hP hD hS hv
  exact lv_if_lt hx hb hd ht (fun hc => absurd (xz_lt.mp hc) hk) (fun hc => k.2 _ hΓ H locs ls kk nn hs hP hD hS hv)
theorem g_if_ge (C : ∀ Γ, P Γ → gX Γ lay own cc nL d h9) {off : Int} (tgt : Nat) (hd : decode cc pc = .ok (.ifCond .ge off, 3)) (ht : (pc : Int) + off = (tgt : Int)) {x : Int} {α : Type} {a b : Option α} {r : α} (h : (if xw x < 0 then a else b) = some r) (kt : b = some r → gJ P lay nL tgt L st m hp h9) (kf : a = some r → gJ P lay nL (pc + 3) L st m hp h9) : gJ P lay nL pc L (.inl x :: st) m hp h9 := by
  refine ⟨?_, ?_⟩
  · by_cases hc : xw x < 0
    · exact (kf (by rw [if_pos hc] at h; exact h)).1
    · exact (kt (by rw [if_neg hc] at h; exact h)).1
  intro Γ hΓ
  have C := C Γ hΓ
  obtain ⟨⟨p, l, e, R, s, m0, args, below, meth, c⟩, ⟨A, ad, dC, dI, dA⟩, n0, s0, n1, s1, Q⟩ := Γ
  obtain ⟨hx, hb, -⟩ := C
  intro H locs ls kk nn hs hP hD hS hv
  exact lv_if_ge hx hb hd ht (fun hc => (kt (by rw [if_neg (xz_ge.mp hc)] at h; exact h)).2 _ hΓ H locs ls kk nn hs hP hD hS hv) (fun hc => (kf (by rw [if_pos (Decidable.not_not.mp (fun q => hc (xz_ge.mpr q)))] at h; exact h)).2 _ hΓ H locs ls kk nn hs hP hD hS hv)
theorem g_if_geT (C : ∀ Γ, P Γ → gX Γ lay own cc nL d h9) {off : Int} (tgt : Nat) (hd : decode cc pc = .ok (.ifCond .ge off, 3)) (ht : (pc : Int) + off = (tgt : Int)) {x : Int} (hk : ¬ (xw x < 0)) (k : gJ P lay nL tgt L st m hp h9) : gJ P lay nL pc L (.inl x :: st) m hp h9 := by
  refine ⟨k.1, ?_⟩
  intro Γ hΓ
  have C := C Γ hΓ
  obtain ⟨⟨p, l, e, R, s, m0, args, below, meth, c⟩, ⟨A, ad, dC, dI, dA⟩, n0, s0, n1, s1, Q⟩ := Γ
  obtain ⟨hx, hb, -⟩ := C
  intro H locs ls kk nn hs hP hD hS hv
  exact lv_if_ge hx hb hd ht (fun hc => k.2 _ hΓ H locs ls kk nn hs hP hD hS hv) (fun hc => absurd (xz_ge.mpr hk) hc)
theorem g_if_geN (C : ∀ Γ, P Γ → gX Γ lay own cc nL d h9) {off : Int} (tgt : Nat) (hd : decode cc pc = .ok (.ifCond .ge off, 3)) (ht : (pc : Int) + off = (tgt : Int)) {x : Int} (hk : xw x < 0) (k : gJ P lay nL (pc + 3) L st m hp h9) : gJ P lay nL pc L (.inl x :: st) m hp h9 := by
  refine ⟨k.1, ?_⟩
  intro Γ hΓ
  have C := C Γ hΓ
  obtain ⟨⟨p, l, e, R, s, m0, args, below, meth, c⟩, ⟨A, ad, dC, dI, dA⟩, n0, s0, n1, s1, Q⟩ := Γ
  obtain ⟨hx, hb, -⟩ := C
  intro H locs ls kk nn hs hP hD hS hv
  exact lv_if_ge hx hb hd ht (fun hc => absurd hk (xz_ge.mp hc)) (fun hc => k.2 _ hΓ H locs ls kk nn hs hP hD hS hv)
theorem g_if_gt (C : ∀ Γ, P Γ → gX Γ lay own cc nL d h9) {off : Int} (tgt : Nat) (hd : decode cc pc = .ok (.ifCond .gt off, 3)) (ht : (pc : Int) + off = (tgt : Int)) {x : Int} {α : Type} {a b : Option α} {r : α} (h : (if 0 < xw x then a else b) = some r) (kt : a = some r → gJ P lay nL tgt L st m hp h9) (kf : b = some r → gJ P lay nL (pc + 3) L st m hp h9) : gJ P lay nL pc L (.inl x :: st) m hp h9 := by
  refine ⟨?_, ?_⟩
  · by_cases hc : 0 < xw x
    · exact (kt (by rw [if_pos hc] at h; exact h)).1
    · exact (kf (by rw [if_neg hc] at h; exact h)).1
  intro Γ hΓ
  have C := C Γ hΓ
  obtain ⟨⟨p, l, e, R, s, m0, args, below, meth, c⟩, ⟨A, ad, dC, dI, dA⟩, n0, s0, n1, s1, Q⟩ := Γ
  obtain ⟨hx, hb, -⟩ := C
  intro H locs ls kk nn hs hP hD hS hv
  exact lv_if_gt hx hb hd ht (fun hc => (kt (by rw [if_pos (xz_gt.mp hc)] at h; exact h)).2 _ hΓ H locs ls kk nn hs hP hD hS hv) (fun hc => (kf (by rw [if_neg (fun q => hc (xz_gt.mpr q))] at h; exact h)).2 _ hΓ H locs ls kk nn hs hP hD hS hv)
theorem g_if_gtT (C : ∀ Γ, P Γ → gX Γ lay own cc nL d h9) {off : Int} (tgt : Nat) (hd : decode cc pc = .ok (.ifCond .gt off, 3)) (ht : (pc : Int) + off = (tgt : Int)) {x : Int} (hk : 0 < xw x) (k : gJ P lay nL tgt L st m hp h9) : gJ P lay nL pc L (.inl x :: st) m hp h9 := by
  refine ⟨k.1, ?_⟩
  intro Γ hΓ
  have C := C Γ hΓ
  obtain ⟨⟨p, l, e, R, s, m0, args, below, meth, c⟩, ⟨A, ad, dC, dI, dA⟩, n0, s0, n1, s1, Q⟩ := Γ
  obtain ⟨hx, hb, -⟩ := C
  intro H locs ls kk nn hs hP hD hS hv
  exact lv_if_gt hx hb hd ht (fun hc => k.2 _ hΓ H locs ls kk nn hs hP hD hS hv) (fun hc => absurd (xz_gt.mpr hk) hc)
theorem g_if_gtN (C : ∀ Γ, P Γ → gX Γ lay own cc nL d h9) {off : Int} (tgt : Nat) (hd : decode cc pc = .ok (.ifCond .gt off, 3)) (ht : (pc : Int) + off = (tgt : Int)) {x : Int} (hk : ¬ (0 < xw x)) (k : gJ P lay nL (pc + 3) L st m hp h9) : gJ P lay nL pc L (.inl x :: st) m hp h9 := by
  refine ⟨k.1, ?_⟩
  intro Γ hΓ
  have C := C Γ hΓ
  obtain ⟨⟨p, l, e, R, s, m0, args, below, meth, c⟩, ⟨A, ad, dC, dI, dA⟩, n0, s0, n1, s1, Q⟩ := Γ
  obtain ⟨hx, hb, -⟩ := C
  intro H locs ls kk nn hs hP hD hS hv
  exact lv_if_gt hx hb hd ht (fun hc => absurd (xz_gt.mp hc) hk) (fun hc => k.2 _ hΓ H locs ls kk nn hs hP hD hS hv)
theorem g_if_le (C : ∀ Γ, P Γ → gX Γ lay own cc nL d h9) {off : Int} (tgt : Nat) (hd : decode cc pc = .ok (.ifCond .le off, 3)) (ht : (pc : Int) + off = (tgt : Int)) {x : Int} {α : Type} {a b : Option α} {r : α} (h : (if 0 < xw x then a else b) = some r) (kt : b = some r → gJ P lay nL tgt L st m hp h9) (kf : a = some r → gJ P lay nL (pc + 3) L st m hp h9) : gJ P lay nL pc L (.inl x :: st) m hp h9 := by
  refine ⟨?_, ?_⟩
  · by_cases hc : 0 < xw x
    · exact (kf (by rw [if_pos hc] at h; exact h)).1
    · exact (kt (by rw [if_neg hc] at h; exact h)).1
  intro Γ hΓ
  have C := C Γ hΓ
  obtain ⟨⟨p, l, e, R, s, m0, args, below, meth, c⟩, ⟨A, ad, dC, dI, dA⟩, n0, s0, n1, s1, Q⟩ := Γ
  obtain ⟨hx, hb, -⟩ := C
  intro H locs ls kk nn hs hP hD hS hv
  exact lv_if_le hx hb hd ht (fun hc => (kt (by rw [if_neg (xz_le.mp hc)] at h; exact h)).2 _ hΓ H locs ls kk nn hs hP hD hS hv) (fun hc => (kf (by rw [if_pos (Decidable.not_not.mp (fun q => hc (xz_le.mpr q)))] at h; exact h)).2 _ hΓ H locs ls kk nn hs hP hD hS hv)
theorem g_if_leT (C : ∀ Γ, P Γ → gX Γ lay own cc nL d h9) {off : Int} (tgt : Nat) (hd : decode cc pc = .ok (.ifCond .le off, 3)) (ht : (pc : Int) + off = (tgt : Int)) {x : Int} (hk : ¬ (0 < xw x)) (k : gJ P lay nL tgt L st m hp h9) : gJ P lay nL pc L (.inl x :: st) m hp h9 := by
  refine ⟨k.1, ?_⟩
  intro Γ hΓ
  have C := C Γ hΓ
  obtain ⟨⟨p, l, e, R, s, m0, args, below, meth, c⟩, ⟨A, ad, dC, dI, dA⟩, n0, s0, n1, s1, Q⟩ := Γ
  obtain ⟨hx, hb, -⟩ := C
  intro H locs ls kk nn hs hP hD hS hv
  exact lv_if_le hx hb hd ht (fun hc => k.2 _ hΓ H locs ls kk nn hs hP hD hS hv) (fun hc => absurd (xz_le.mpr hk) hc)
theorem g_if_leN (C : ∀ Γ, P Γ → gX Γ lay own cc nL d h9) {off : Int} (tgt : Nat) (hd : decode cc pc = .ok (.ifCond .le off, 3)) (ht : (pc : Int) + off = (tgt : Int)) {x : Int} (hk : 0 < xw x) (k : gJ P lay nL (pc + 3) L st m hp h9) : gJ P lay nL pc L (.inl x :: st) m hp h9 := by
  refine ⟨k.1, ?_⟩
  intro Γ hΓ
  have C := C Γ hΓ
  obtain ⟨⟨p, l, e, R, s, m0, args, below, meth, c⟩, ⟨A, ad, dC, dI, dA⟩, n0, s0, n1, s1, Q⟩ := Γ
  obtain ⟨hx, hb, -⟩ := C
  intro H locs ls kk nn hs hP hD hS hv
  exact lv_if_le hx hb hd ht (fun hc => absurd hk (xz_le.mp hc)) (fun hc => k.2 _ hΓ H locs ls kk nn hs hP hD hS hv)
theorem g_icmp_eq (C : ∀ Γ, P Γ → gX Γ lay own cc nL d h9) {off : Int} (tgt : Nat) (hd : decode cc pc = .ok (.if_icmp .eq off, 3)) (ht : (pc : Int) + off = (tgt : Int)) {x y : Int} {α : Type} {a b : Option α} {r : α} (h : (if xw x = xw y then a else b) = some r) (kt : a = some r → gJ P lay nL tgt L st m hp h9) (kf : b = some r → gJ P lay nL (pc + 3) L st m hp h9) : gJ P lay nL pc L (.inl y :: .inl x :: st) m hp h9 := by
  refine ⟨?_, ?_⟩
  · by_cases hc : xw x = xw y
    · exact (kt (by rw [if_pos hc] at h; exact h)).1
    · exact (kf (by rw [if_neg hc] at h; exact h)).1
  intro Γ hΓ
  have C := C Γ hΓ
  obtain ⟨⟨p, l, e, R, s, m0, args, below, meth, c⟩, ⟨A, ad, dC, dI, dA⟩, n0, s0, n1, s1, Q⟩ := Γ
  obtain ⟨hx, hb, -⟩ := C
  intro H locs ls kk nn hs hP hD hS hv
  exact lv_icmp_eq hx hb hd ht (fun hc => (kt (by rw [if_pos (xy_eq.mp hc)] at h; exact h)).2 _ hΓ H locs ls kk nn hs hP hD hS hv) (fun hc => (kf (by rw [if_neg (fun q => hc (xy_eq.mpr q))] at h; exact h)).2 _ hΓ H locs ls kk nn hs hP hD hS hv)
theorem g_icmp_eqT (C : ∀ Γ, P Γ → gX Γ lay own cc nL d h9) {off : Int} (tgt : Nat) (hd : decode cc pc = .ok (.if_icmp .eq off, 3)) (ht : (pc : Int) + off = (tgt : Int)) {x y : Int} (hk : xw x = xw y) (k : gJ P lay nL tgt L st m hp h9) : gJ P lay nL pc L (.inl y :: .inl x :: st) m hp h9 := by
  refine ⟨k.1, ?_⟩
  intro Γ hΓ
  have C := C Γ hΓ
  obtain ⟨⟨p, l, e, R, s, m0, args, below, meth, c⟩, ⟨A, ad, dC, dI, dA⟩, n0, s0, n1, s1, Q⟩ := Γ
  obtain ⟨hx, hb, -⟩ := C
  intro H locs ls kk nn hs hP hD hS hv
  exact lv_icmp_eq hx hb hd ht (fun hc => k.2 _ hΓ H locs ls kk nn hs hP hD hS hv) (fun hc => absurd (xy_eq.mpr hk) hc)
theorem g_icmp_eqN (C : ∀ Γ, P Γ → gX Γ lay own cc nL d h9) {off : Int} (tgt : Nat) (hd : decode cc pc = .ok (.if_icmp .eq off, 3)) (ht : (pc : Int) + off = (tgt : Int)) {x y : Int} (hk : ¬ (xw x = xw y)) (k : gJ P lay nL (pc + 3) L st m hp h9) : gJ P lay nL pc L (.inl y :: .inl x :: st) m hp h9 := by
  refine ⟨k.1, ?_⟩
  intro Γ hΓ
  have C := C Γ hΓ
  obtain ⟨⟨p, l, e, R, s, m0, args, below, meth, c⟩, ⟨A, ad, dC, dI, dA⟩, n0, s0, n1, s1, Q⟩ := Γ
  obtain ⟨hx, hb, -⟩ := C
  intro H locs ls kk nn hs hP hD hS hv
  exact lv_icmp_eq hx hb hd ht (fun hc => absurd (xy_eq.mp hc) hk) (fun hc => k.2 _ hΓ H locs ls kk nn hs hP hD hS hv)
theorem g_icmp_ne (C : ∀ Γ, P Γ → gX Γ lay own cc nL d h9) {off : Int} (tgt : Nat) (hd : decode cc pc = .ok (.if_icmp .ne off, 3)) (ht : (pc : Int) + off = (tgt : Int)) {x y : Int} {α : Type} {a b : Option α} {r : α} (h : (if xw x = xw y then a else b) = some r) (kt : b = some r → gJ P lay nL tgt L st m hp h9) (kf : a = some r → gJ P lay nL (pc + 3) L st m hp h9) : gJ P lay nL pc L (.inl y :: .inl x :: st) m hp h9 := by
  refine ⟨?_, ?_⟩
  · by_cases hc : xw x = xw y
    · exact (kf (by rw [if_pos hc] at h; exact h)).1
    · exact (kt (by rw [if_neg hc] at h; exact h)).1
  intro Γ hΓ
  have C := C Γ hΓ
  obtain ⟨⟨p, l, e, R, s, m0, args, below, meth, c⟩, ⟨A, ad, dC, dI, dA⟩, n0, s0, n1, s1, Q⟩ := Γ
  obtain ⟨hx, hb, -⟩ := C
  intro H locs ls kk nn hs hP hD hS hv
  exact lv_icmp_ne hx hb hd ht (fun hc => (kt (by rw [if_neg (fun q => hc (xy_eq.mpr q))] at h; exact h)).2 _ hΓ H locs ls kk nn hs hP hD hS hv) (fun hc => (kf (by rw [if_pos (xy_eq.mp hc)] at h; exact h)).2 _ hΓ H locs ls kk nn hs hP hD hS hv)
theorem g_icmp_neT (C : ∀ Γ, P Γ → gX Γ lay own cc nL d h9) {off : Int} (tgt : Nat) (hd : decode cc pc = .ok (.if_icmp .ne off, 3)) (ht : (pc : Int) + off = (tgt : Int)) {x y : Int} (hk : ¬ (xw x = xw y)) (k : gJ P lay nL tgt L st m hp h9) : gJ P lay nL pc L (.inl y :: .inl x :: st) m hp h9 := by
  refine ⟨k.1, ?_⟩
  intro Γ hΓ
  have C := C Γ hΓ
  obtain ⟨⟨p, l, e, R, s, m0, args, below, meth, c⟩, ⟨A, ad, dC, dI, dA⟩, n0, s0, n1, s1, Q⟩ := Γ
  obtain ⟨hx, hb, -⟩ := C
  intro H locs ls kk nn hs hP hD hS hv
  exact lv_icmp_ne hx hb hd ht (fun hc => k.2 _ hΓ H locs ls kk nn hs hP hD hS hv) (fun hc => absurd (xy_eq.mp hc) hk)
theorem g_icmp_neN (C : ∀ Γ, P Γ → gX Γ lay own cc nL d h9) {off : Int} (tgt : Nat) (hd : decode cc pc = .ok (.if_icmp .ne off, 3)) (ht : (pc : Int) + off = (tgt : Int)) {x y : Int} (hk : xw x = xw y) (k : gJ P lay nL (pc + 3) L st m hp h9) : gJ P lay nL pc L (.inl y :: .inl x :: st) m hp h9 := by
  refine ⟨k.1, ?_⟩
  intro Γ hΓ
  have C := C Γ hΓ
  obtain ⟨⟨p, l, e, R, s, m0, args, below, meth, c⟩, ⟨A, ad, dC, dI, dA⟩, n0, s0, n1, s1, Q⟩ := Γ
  obtain ⟨hx, hb, -⟩ := C
  intro H locs ls kk nn hs hP hD hS hv
  exact lv_icmp_ne hx hb hd ht (fun hc => absurd (xy_eq.mpr hk) hc) (fun hc => k.2 _ hΓ H locs ls kk nn hs hP hD hS hv)
theorem g_icmp_lt (C : ∀ Γ, P Γ → gX Γ lay own cc nL d h9) {off : Int} (tgt : Nat) (hd : decode cc pc = .ok (.if_icmp .lt off, 3)) (ht : (pc : Int) + off = (tgt : Int)) {x y : Int} {α : Type} {a b : Option α} {r : α} (h : (if xw x < xw y then a else b) = some r) (kt : a = some r → gJ P lay nL tgt L st m hp h9) (kf : b = some r → gJ P lay nL (pc + 3) L st m hp h9) : gJ P lay nL pc L (.inl y :: .inl x :: st) m hp h9 := by
  refine ⟨?_, ?_⟩
  · by_cases hc : xw x < xw y
    · exact (kt (by rw [if_pos hc] at h; exact h)).1
    · exact (kf (by rw [if_neg hc] at h; exact h)).1
  intro Γ hΓ
  have C := C Γ hΓ
  obtain ⟨⟨p, l, e, R, s, m0, args, below, meth, c⟩, ⟨A, ad, dC, dI, dA⟩, n0, s0, n1, s1, Q⟩ := Γ
  obtain ⟨hx, hb, -⟩ := C
  intro H locs ls kk nn hs hP hD hS hv
  exact lv_icmp_lt hx hb hd ht (fun hc => (kt (by rw [if_pos (xy_lt.mp hc)] at h; exact h)).2 _ hΓ H locs ls kk nn hs hP hD hS hv) (fun hc => (kf (by rw [if_neg (fun q => hc (xy_lt.mpr q))] at h; exact h)).2 _ hΓ H locs ls kk nn hs hP hD hS hv)
theorem g_icmp_ltT (C : ∀ Γ, P Γ → gX Γ lay own cc nL d h9) {off : Int} (tgt : Nat) (hd : decode cc pc = .ok (.if_icmp .lt off, 3)) (ht : (pc : Int) + off = (tgt : Int)) {x y : Int} (hk : xw x < xw y) (k : gJ P lay nL tgt L st m hp h9) : gJ P lay nL pc L (.inl y :: .inl x :: st) m hp h9 := by
  refine ⟨k.1, ?_⟩
  intro Γ hΓ
  have C := C Γ hΓ
  obtain ⟨⟨p, l, e, R, s, m0, args, below, meth, c⟩, ⟨A, ad, dC, dI, dA⟩, n0, s0, n1, s1, Q⟩ := Γ
  obtain ⟨hx, hb, -⟩ := C
  intro H locs ls kk nn hs hP hD hS hv
  exact lv_icmp_lt hx hb hd ht (fun hc => k.2 _ hΓ H locs ls kk nn hs hP hD hS hv) (fun hc => absurd (xy_lt.mpr hk) hc)
theorem g_icmp_ltN (C : ∀ Γ, P Γ → gX Γ lay own cc nL d h9) {off : Int} (tgt : Nat) (hd : decode cc pc = .ok (.if_icmp .lt off, 3)) (ht : (pc : Int) + off = (tgt : Int)) {x y : Int} (hk : ¬ (xw x < xw y)) (k : gJ P lay nL (pc + 3) L st m hp h9) : gJ P lay nL pc L (.inl y :: .inl x :: st) m hp h9 := by
  refine ⟨k.1, ?_⟩
  intro Γ hΓ
  have C := C Γ hΓ
  obtain ⟨⟨p, l, e, R, s, m0, args, below, meth, c⟩, ⟨A, ad, dC, dI, dA⟩, n0, s0, n1, s1, Q⟩ := Γ
  obtain ⟨hx, hb, -⟩ := C
  intro H locs ls kk nn hs hP hD hS hv
  exact lv_icmp_lt hx hb hd ht (fun hc => absurd (xy_lt.mp hc) hk) (fun hc => k.2 _ hΓ H locs ls kk nn hs hP hD hS hv)
theorem g_icmp_ge (C : ∀ Γ, P Γ → gX Γ lay own cc nL d h9) {off : Int} (tgt : Nat) (hd : decode cc pc = .ok (.if_icmp .ge off, 3)) (ht : (pc : Int) + off = (tgt : Int)) {x y : Int} {α : Type} {a b : Option α} {r : α} (h : (if xw x < xw y then a else b) = some r) (kt : b = some r → gJ P lay nL tgt L st m hp h9) (kf : a = some r → gJ P lay nL (pc + 3) L st m hp h9) : gJ P lay nL pc L (.inl y :: .inl x :: st) m hp h9 := by
  refine ⟨?_, ?_⟩
  · by_cases hc : xw x < xw y
    · exact (kf (by rw [if_pos hc] at h; exact h)).1
    · exact (kt (by rw [if_neg hc] at h; exact h)).1
  intro Γ hΓ
  have C := C Γ hΓ
  obtain ⟨⟨p, l, e, R, s, m0, args, below, meth, c⟩, ⟨A, ad, dC, dI, dA⟩, n0, s0, n1, s1, Q⟩ := Γ
  obtain ⟨hx, hb, -⟩ := C
  intro H locs ls kk nn hs hP hD hS hv
  exact lv_icmp_ge hx hb hd ht (fun hc => (kt (by rw [if_neg (xy_ge.mp hc)] at h; exact h)).2 _ hΓ H locs ls kk nn hs hP hD hS hv) (fun hc => (kf (by rw [if_pos (Decidable.not_not.mp (fun q => hc (xy_ge.mpr q)))] at h; exact h)).2 _ hΓ H locs ls kk nn hs hP hD hS hv)
theorem g_icmp_geT (C : ∀ Γ, P Γ → gX Γ lay own cc nL d h9) {off : Int} (tgt : Nat) (hd : decode cc pc = .ok (.if_icmp .ge off, 3)) (ht : (pc : Int) + off = (tgt : Int)) {x y : Int} (hk : ¬ (xw x < xw y)) (k : gJ P lay nL tgt L st m hp h9) : gJ P lay nL pc L (.inl y :: .inl x :: st) m hp h9 := by
  refine ⟨k.1, ?_⟩
  intro Γ hΓ
  have C := C Γ hΓ
  obtain ⟨⟨p, l, e, R, s, m0, args, below, meth, c⟩, ⟨A, ad, dC, dI, dA⟩, n0, s0, n1, s1, Q⟩ := Γ
  obtain ⟨hx, hb, -⟩ := C
  intro H locs ls kk nn hs hP hD hS hv
  exact lv_icmp_ge hx hb hd ht (fun hc => k.2 _ hΓ H locs ls kk nn hs hP hD hS hv) (fun hc => absurd (xy_ge.mpr hk) hc)
theorem g_icmp_geN (C : ∀ Γ, P Γ → gX Γ lay own cc nL d h9) {off : Int} (tgt : Nat) (hd : decode cc pc = .ok (.if_icmp .ge off, 3)) (ht : (pc : Int) + off = (tgt : Int)) {x y : Int} (hk : xw x < xw y) (k : gJ P lay nL (pc + 3) L st m hp h9) : gJ P lay nL pc L (.inl y :: .inl x :: st) m hp h9 := by
  refine ⟨k.1, ?_⟩
  intro Γ hΓ
  have C := C Γ hΓ
  obtain ⟨⟨p, l, e, R, s, m0, args, below, meth, c⟩, ⟨A, ad, dC, dI, dA⟩, n0, s0, n1, s1, Q⟩ := Γ
  obtain ⟨hx, hb, -⟩ := C
  intro H locs ls kk nn hs hP hD hS hv
  exact lv_icmp_ge hx hb hd ht (fun hc => absurd hk (xy_ge.mp hc)) (fun hc => k.2 _ hΓ H locs ls kk nn hs hP hD hS hv)
theorem g_icmp_gt (C : ∀ Γ, P Γ → gX Γ lay own cc nL d h9) {off : Int} (tgt : Nat) (hd : decode cc pc = .ok (.if_icmp .gt off, 3)) (ht : (pc : Int) + off = (tgt : Int)) {x y : Int} {α : Type} {a b : Option α} {r : α} (h : (if xw y < xw x then a else b) = some r) (kt : a = some r → gJ P lay nL tgt L st m hp h9) (kf : b = some r → gJ P lay nL (pc + 3) L st m hp h9) : gJ P lay nL pc L (.inl y :: .inl x :: st) m hp h9 := by
  refine ⟨?_, ?_⟩
  · by_cases hc : xw y < xw x
    · exact (kt (by rw [if_pos hc] at h; exact h)).1
    · exact (kf (by rw [if_neg hc] at h; exact h)).1
  intro Γ hΓ
  have C := C Γ hΓ
  obtain ⟨⟨p, l, e, R, s, m0, args, below, meth, c⟩, ⟨A, ad, dC, dI, dA⟩, n0, s0, n1, s1, Q⟩ := Γ
  obtain ⟨hx, hb, -⟩ := C
  intro H locs ls kk nn hs hP hD hS hv
  exact lv_icmp_gt hx hb hd ht (fun hc => (kt (by rw [if_pos (xy_gt.mp hc)] at h; exact h)).2 _ hΓ H locs ls kk nn hs hP hD hS hv) (fun hc => (kf (by rw [if_neg (fun q => hc (xy_gt.mpr q))] at h; exact h)).2 _ hΓ H locs ls kk nn hs hP hD hS hv)
theorem g_icmp_gtT (C : ∀ Γ, P Γ → gX Γ lay own cc nL d h9) {off : Int} (tgt : Nat) (hd : decode cc pc = .ok (.if_icmp .gt off, 3)) (ht : (pc : Int) + off = (tgt : Int)) {x y : Int} (hk : xw y < xw x) (k : gJ P lay nL tgt L st m hp h9) : gJ P lay nL pc L (.inl y :: .inl x :: st) m hp h9 := by
  refine ⟨k.1, ?_⟩
  intro Γ hΓ
  have C := C Γ hΓ
  obtain ⟨⟨p, l, e, R, s, m0, args, below, meth, c⟩, ⟨A, ad, dC, dI, dA⟩, n0, s0, n1, s1, Q⟩ := Γ
  obtain ⟨hx, hb, -⟩ := C
  intro H locs ls kk nn hs hP hD hS hv
  exact lv_icmp_gt hx hb hd ht (fun hc => k.2 _ hΓ H locs ls kk nn hs hP hD hS hv) (fun hc => absurd (xy_gt.mpr hk) hc)
theorem g_icmp_gtN (C : ∀ Γ, P Γ → gX Γ lay own cc nL d h9) {off : Int} (tgt : Nat) (hd : decode cc pc = .ok (.if_icmp .gt off, 3)) (ht : (pc : Int) + off = (tgt : Int)) {x y : Int} (hk : ¬ (xw y < xw x)) (k : gJ P lay nL (pc + 3) L st m hp h9) : gJ P lay nL pc L (.inl y :: .inl x :: st) m hp h9 := by
  refine ⟨k.1, ?_⟩
  intro Γ hΓ
  have C := C Γ hΓ
  obtain ⟨⟨p, l, e, R, s, m0, args, below, meth, c⟩, ⟨A, ad, dC, dI, dA⟩, n0, s0, n1, s1, Q⟩ := Γ
  obtain ⟨hx, hb, -⟩ := C
  intro H locs ls kk nn hs hP hD hS hv
  exact lv_icmp_gt hx hb hd ht (fun hc => absurd (xy_gt.mp hc) hk) (fun hc => k.2 _ hΓ H locs ls kk nn hs hP hD hS hv)
theorem g_icmp_le (C : ∀ Γ, P Γ → gX Γ lay own cc nL d h9) {off : Int} (tgt : Nat) (hd : decode cc pc = .ok (.if_icmp .le off, 3)) (ht : (pc : Int) + off = (tgt : Int)) {x y : Int} {α : Type} {a b : Option α} {r : α} (h : (if xw y < xw x then a else b) = some r) (kt : b = some r → gJ P lay nL tgt L st m hp h9) (kf : a = some r → gJ P lay nL (pc + 3) L st m hp h9) : gJ P lay nL pc L (.inl y :: .inl x :: st) m hp h9 := by
  refine ⟨?_, ?_⟩
  · by_cases hc : xw y < xw x
    · exact (kf (by rw [if_pos hc] at h; exact h)).1
    · exact (kt (by rw [if_neg hc] at h; exact h)).1
  intro Γ hΓ
  have C := C Γ hΓ
  obtain ⟨⟨p, l, e, R, s, m0, args, below, meth, c⟩, ⟨A, ad, dC, dI, dA⟩, n0, s0, n1, s1, Q⟩ := Γ
  obtain ⟨hx, hb, -⟩ := C
  intro H locs ls kk nn hs hP hD hS hv
  exact lv_icmp_le hx hb hd ht (fun hc => (kt (by rw [if_neg (xy_le.mp hc)] at h; exact h)).2 _ hΓ H locs ls kk nn hs hP hD hS hv) (fun hc => (kf (by rw [if_pos (Decidable.not_not.mp (fun q => hc (xy_le.mpr q)))] at h; exact h)).2 _ hΓ H locs ls kk nn hs hP hD hS hv)
theorem g_icmp_leT (C : ∀ Γ, P Γ → gX Γ lay own cc nL d h9) {off : Int} (tgt : Nat) (hd : decode cc pc = .ok (.if_icmp .le off, 3)) (ht : (pc : Int) + off = (tgt : Int)) {x y : Int} (hk : ¬ (xw y < xw x)) (k : gJ P lay nL tgt L st m hp h9) : gJ P lay nL pc L (.inl y :: .inl x :: st) m hp h9 := by
  refine ⟨k.1, ?_⟩
  intro Γ hΓ
  have C := C Γ hΓ
  obtain ⟨⟨p, l, e, R, s, m0, args, below, meth, c⟩, ⟨A, ad, dC, dI, dA⟩, n0, s0, n1, s1, Q⟩ := Γ
  obtain ⟨hx, hb, -⟩ := C
  intro H locs ls kk nn hs hP hD hS hv
  exact lv_icmp_le hx hb hd ht (fun hc => k.2 _ hΓ H locs ls kk nn hs hP hD hS hv) (fun hc => absurd (xy_le.mpr hk) hc)
theorem g_icmp_leN (C : ∀ Γ, P Γ → gX Γ lay own cc nL d h9) {off : Int} (tgt : Nat) (hd : decode cc pc = .ok (.if_icmp .le off, 3)) (ht : (pc : Int) + off = (tgt : Int)) {x y : Int} (hk : xw y < xw x) (k : gJ P lay nL (pc + 3) L st m hp h9) : gJ P lay nL pc L (.inl y :: .inl x :: st) m hp h9 := by
  refine ⟨k.1, ?_⟩
  intro Γ hΓ
  have C := C Γ hΓ
  obtain ⟨⟨p, l, e, R, s, m0, args, below, meth, c⟩, ⟨A, ad, dC, dI, dA⟩, n0, s0, n1, s1, Q⟩ := Γ
  obtain ⟨hx, hb, -⟩ := C
  intro H locs ls kk nn hs hP hD hS hv
  exact lv_icmp_le hx hb hd ht (fun hc => absurd hk (xy_le.mp hc)) (fun hc => k.2 _ hΓ H locs ls kk nn hs hP hD hS hv)
theorem g_iand (C : ∀ Γ, P Γ → gX Γ lay own cc nL d h9) {x y : Int} (hd : decode cc pc = .ok (.iand, 1)) (h : gJ P lay nL (pc + 1) L (.inl (xiand x y) :: st) m hp h9) : gJ P lay nL pc L (.inl y :: .inl x :: st) m hp h9 := by
  refine ⟨h.1, ?_⟩
  intro Γ hΓ
  have C := C Γ hΓ
  obtain ⟨⟨p, l, e, R, s, m0, args, below, meth, c⟩, ⟨A, ad, dC, dI, dA⟩, n0, s0, n1, s1, Q⟩ := Γ
  obtain ⟨hx, hb, -⟩ := C
  intro H locs ls kk nn hs hP hD hS hv
  have h1 := h.2 _ hΓ H locs ls kk nn hs hP hD hS hv
  refine lv_iand hx hb hd ?_
  have e : Int32.ofInt (xiand x y) = Int32.ofInt x &&& Int32.ofInt y := Int32.ofInt_toInt _
  rw [← e]; exact h1
theorem g_ior (C : ∀ Γ, P Γ → gX Γ lay own cc nL d h9) {x y : Int} (hd : decode cc pc = .ok (.ior, 1)) (h : gJ P lay nL (pc + 1) L (.inl (xior x y) :: st) m hp h9) : gJ P lay nL pc L (.inl y :: .inl x :: st) m hp h9 := by
  refine ⟨h.1, ?_⟩
  intro Γ hΓ
  have C := C Γ hΓ
  obtain ⟨⟨p, l, e, R, s, m0, args, below, meth, c⟩, ⟨A, ad, dC, dI, dA⟩, n0, s0, n1, s1, Q⟩ := Γ
  obtain ⟨hx, hb, -⟩ := C
  intro H locs ls kk nn hs hP hD hS hv
  have h1 := h.2 _ hΓ H locs ls kk nn hs hP hD hS hv
  refine lv_ior hx hb hd ?_
  have e : Int32.ofInt (xior x y) = Int32.ofInt x ||| Int32.ofInt y := Int32.ofInt_toInt _
  rw [← e]; exact h1
theorem g_ixor (C : ∀ Γ, P Γ → gX Γ lay own cc nL d h9) {x y : Int} (hd : decode cc pc = .ok (.ixor, 1)) (h : gJ P lay nL (pc + 1) L (.inl (xixor x y) :: st) m hp h9) : gJ P lay nL pc L (.inl y :: .inl x :: st) m hp h9 := by
  refine ⟨h.1, ?_⟩
  intro Γ hΓ
  have C := C Γ hΓ
  obtain ⟨⟨p, l, e, R, s, m0, args, below, meth, c⟩, ⟨A, ad, dC, dI, dA⟩, n0, s0, n1, s1, Q⟩ := Γ
  obtain ⟨hx, hb, -⟩ := C
  intro H locs ls kk nn hs hP hD hS hv
  have h1 := h.2 _ hΓ H locs ls kk nn hs hP hD hS hv
  refine lv_ixor hx hb hd ?_
  have e : Int32.ofInt (xixor x y) = Int32.ofInt x ^^^ Int32.ofInt y := Int32.ofInt_toInt _
  rw [← e]; exact h1
theorem g_ishr (C : ∀ Γ, P Γ → gX Γ lay own cc nL d h9) {x y : Int} (hd : decode cc pc = .ok (.ishr, 1)) (h : gJ P lay nL (pc + 1) L (.inl (xishr x y) :: st) m hp h9) : gJ P lay nL pc L (.inl y :: .inl x :: st) m hp h9 := by
  refine ⟨h.1, ?_⟩
  intro Γ hΓ
  have C := C Γ hΓ
  obtain ⟨⟨p, l, e, R, s, m0, args, below, meth, c⟩, ⟨A, ad, dC, dI, dA⟩, n0, s0, n1, s1, Q⟩ := Γ
  obtain ⟨hx, hb, -⟩ := C
  intro H locs ls kk nn hs hP hD hS hv
  have h1 := h.2 _ hΓ H locs ls kk nn hs hP hD hS hv
  refine lv_ishr hx hb hd ?_
  have e : Int32.ofInt (xishr x y) = Int32.ofInt x >>> (Int32.ofInt y &&& 31) := Int32.ofInt_toInt _
  rw [← e]; exact h1
theorem g_idiv (C : ∀ Γ, P Γ → gX Γ lay own cc nL d h9) {x y : Int} (hd : decode cc pc = .ok (.idiv, 1)) {α : Type} {a : Option α} {r : α} (h : (if xw y = 0 then none else a) = some r) (k : ¬ xw y = 0 → a = some r → gJ P lay nL (pc + 1) L (.inl (xidiv x y) :: st) m hp h9) : gJ P lay nL pc L (.inl y :: .inl x :: st) m hp h9 := by
  refine ⟨?_, ?_⟩
  · by_cases hy : xw y = 0
    · rw [if_pos hy] at h; cases h
    · rw [if_neg hy] at h; exact (k hy h).1
  intro Γ hΓ
  have C := C Γ hΓ
  obtain ⟨⟨p, l, e, R, s, m0, args, below, meth, c⟩, ⟨A, ad, dC, dI, dA⟩, n0, s0, n1, s1, Q⟩ := Γ
  obtain ⟨hx, hb, -⟩ := C
  intro H locs ls kk nn hs hP hD hS hv
  by_cases hy : xw y = 0
  · rw [if_pos hy] at h; cases h
  · rw [if_neg hy] at h
    have h1 := (k hy h).2 _ hΓ H locs ls kk nn hs hP hD hS hv
    refine lv_idiv hx hb hd (fun q => hy (xz_eq.mp q)) ?_
    have e : Int32.ofInt (xidiv x y) = Int32.ofInt x / Int32.ofInt y := Int32.ofInt_toInt _
    rw [← e]; exact h1
theorem g_irem (C : ∀ Γ, P Γ → gX Γ lay own cc nL d h9) {x y : Int} (hd : decode cc pc = .ok (.irem, 1)) {α : Type} {a : Option α} {r : α} (h : (if xw y = 0 then none else a) = some r) (k : ¬ xw y = 0 → a = some r → gJ P lay nL (pc + 1) L (.inl (xirem x y) :: st) m hp h9) : gJ P lay nL pc L (.inl y :: .inl x :: st) m hp h9 := by
  refine ⟨?_, ?_⟩
  · by_cases hy : xw y = 0
    · rw [if_pos hy] at h; cases h
    · rw [if_neg hy] at h; exact (k hy h).1
  intro Γ hΓ
  have C := C Γ hΓ
  obtain ⟨⟨p, l, e, R, s, m0, args, below, meth, c⟩, ⟨A, ad, dC, dI, dA⟩, n0, s0, n1, s1, Q⟩ := Γ
  obtain ⟨hx, hb, -⟩ := C
  intro H locs ls kk nn hs hP hD hS hv
  by_cases hy : xw y = 0
  · rw [if_pos hy] at h; cases h
  · rw [if_neg hy] at h
    have h1 := (k hy h).2 _ hΓ H locs ls kk nn hs hP hD hS hv
    refine lv_irem hx hb hd (fun q => hy (xz_eq.mp q)) ?_
    have e : Int32.ofInt (xirem x y) = Int32.ofInt x - Int32.ofInt x / Int32.ofInt y * Int32.ofInt y := Int32.ofInt_toInt _
    rw [← e]; exact h1
theorem g_ladd (C : ∀ Γ, P Γ → gX Γ lay own cc nL d h9) {x y : Int} (hd : decode cc pc = .ok (.ladd, 1)) (h : gJ P lay nL (pc + 1) L (.inr (.inl (x + y)) :: st) m hp h9) : gJ P lay nL pc L (.inr (.inl y) :: .inr (.inl x) :: st) m hp h9 := by
  refine ⟨h.1, ?_⟩
  intro Γ hΓ
  have C := C Γ hΓ
  obtain ⟨⟨p, l, e, R, s, m0, args, below, meth, c⟩, ⟨A, ad, dC, dI, dA⟩, n0, s0, n1, s1, Q⟩ := Γ
  obtain ⟨hx, hb, -⟩ := C
  intro H locs ls kk nn hs hP hD hS hv
  have h1 := h.2 _ hΓ H locs ls kk nn hs hP hD hS hv
  refine lv_ladd hx hb hd ?_
  rw [← Int64.ofInt_add]; exact h1
theorem g_lsub (C : ∀ Γ, P Γ → gX Γ lay own cc nL d h9) {x y : Int} (hd : decode cc pc = .ok (.lsub, 1)) (h : gJ P lay nL (pc + 1) L (.inr (.inl (x - y)) :: st) m hp h9) : gJ P lay nL pc L (.inr (.inl y) :: .inr (.inl x) :: st) m hp h9 := by
  refine ⟨h.1, ?_⟩
  intro Γ hΓ
  have C := C Γ hΓ
  obtain ⟨⟨p, l, e, R, s, m0, args, below, meth, c⟩, ⟨A, ad, dC, dI, dA⟩, n0, s0, n1, s1, Q⟩ := Γ
  obtain ⟨hx, hb, -⟩ := C
  intro H locs ls kk nn hs hP hD hS hv
  have h1 := h.2 _ hΓ H locs ls kk nn hs hP hD hS hv
  refine lv_lsub hx hb hd ?_
  rw [← Int64.ofInt_sub]; exact h1
theorem g_lmul (C : ∀ Γ, P Γ → gX Γ lay own cc nL d h9) {x y : Int} (hd : decode cc pc = .ok (.lmul, 1)) (h : gJ P lay nL (pc + 1) L (.inr (.inl (x * y)) :: st) m hp h9) : gJ P lay nL pc L (.inr (.inl y) :: .inr (.inl x) :: st) m hp h9 := by
  refine ⟨h.1, ?_⟩
  intro Γ hΓ
  have C := C Γ hΓ
  obtain ⟨⟨p, l, e, R, s, m0, args, below, meth, c⟩, ⟨A, ad, dC, dI, dA⟩, n0, s0, n1, s1, Q⟩ := Γ
  obtain ⟨hx, hb, -⟩ := C
  intro H locs ls kk nn hs hP hD hS hv
  have h1 := h.2 _ hΓ H locs ls kk nn hs hP hD hS hv
  refine lv_lmul hx hb hd ?_
  rw [← Int64.ofInt_mul]; exact h1
theorem g_land (C : ∀ Γ, P Γ → gX Γ lay own cc nL d h9) {x y : Int} (hd : decode cc pc = .ok (.land, 1)) (h : gJ P lay nL (pc + 1) L (.inr (.inl (xland x y)) :: st) m hp h9) : gJ P lay nL pc L (.inr (.inl y) :: .inr (.inl x) :: st) m hp h9 := by
  refine ⟨h.1, ?_⟩
  intro Γ hΓ
  have C := C Γ hΓ
  obtain ⟨⟨p, l, e, R, s, m0, args, below, meth, c⟩, ⟨A, ad, dC, dI, dA⟩, n0, s0, n1, s1, Q⟩ := Γ
  obtain ⟨hx, hb, -⟩ := C
  intro H locs ls kk nn hs hP hD hS hv
  have h1 := h.2 _ hΓ H locs ls kk nn hs hP hD hS hv
  refine lv_land hx hb hd ?_
  have e : Int64.ofInt (xland x y) = Int64.ofInt x &&& Int64.ofInt y := Int64.ofInt_toInt _
  rw [← e]; exact h1
theorem g_lor (C : ∀ Γ, P Γ → gX Γ lay own cc nL d h9) {x y : Int} (hd : decode cc pc = .ok (.lor, 1)) (h : gJ P lay nL (pc + 1) L (.inr (.inl (xlor x y)) :: st) m hp h9) : gJ P lay nL pc L (.inr (.inl y) :: .inr (.inl x) :: st) m hp h9 := by
  refine ⟨h.1, ?_⟩
  intro Γ hΓ
  have C := C Γ hΓ
  obtain ⟨⟨p, l, e, R, s, m0, args, below, meth, c⟩, ⟨A, ad, dC, dI, dA⟩, n0, s0, n1, s1, Q⟩ := Γ
  obtain ⟨hx, hb, -⟩ := C
  intro H locs ls kk nn hs hP hD hS hv
  have h1 := h.2 _ hΓ H locs ls kk nn hs hP hD hS hv
  refine lv_lor hx hb hd ?_
  have e : Int64.ofInt (xlor x y) = Int64.ofInt x ||| Int64.ofInt y := Int64.ofInt_toInt _
  rw [← e]; exact h1
theorem g_lxor (C : ∀ Γ, P Γ → gX Γ lay own cc nL d h9) {x y : Int} (hd : decode cc pc = .ok (.lxor, 1)) (h : gJ P lay nL (pc + 1) L (.inr (.inl (xlxor x y)) :: st) m hp h9) : gJ P lay nL pc L (.inr (.inl y) :: .inr (.inl x) :: st) m hp h9 := by
  refine ⟨h.1, ?_⟩
  intro Γ hΓ
  have C := C Γ hΓ
  obtain ⟨⟨p, l, e, R, s, m0, args, below, meth, c⟩, ⟨A, ad, dC, dI, dA⟩, n0, s0, n1, s1, Q⟩ := Γ
  obtain ⟨hx, hb, -⟩ := C
  intro H locs ls kk nn hs hP hD hS hv
  have h1 := h.2 _ hΓ H locs ls kk nn hs hP hD hS hv
  refine lv_lxor hx hb hd ?_
  have e : Int64.ofInt (xlxor x y) = Int64.ofInt x ^^^ Int64.ofInt y := Int64.ofInt_toInt _
  rw [← e]; exact h1
theorem g_lshl (C : ∀ Γ, P Γ → gX Γ lay own cc nL d h9) {x y : Int} (hd : decode cc pc = .ok (.lshl, 1)) (h : gJ P lay nL (pc + 1) L (.inr (.inl (xlshl x y)) :: st) m hp h9) : gJ P lay nL pc L (.inl y :: .inr (.inl x) :: st) m hp h9 := by
  refine ⟨h.1, ?_⟩
  intro Γ hΓ
  have C := C Γ hΓ
  obtain ⟨⟨p, l, e, R, s, m0, args, below, meth, c⟩, ⟨A, ad, dC, dI, dA⟩, n0, s0, n1, s1, Q⟩ := Γ
  obtain ⟨hx, hb, -⟩ := C
  intro H locs ls kk nn hs hP hD hS hv
  have h1 := h.2 _ hΓ H locs ls kk nn hs hP hD hS hv
  refine lv_lshl hx hb hd rfl ?_
  have e : Int64.ofInt (xlshl x y) = Int64.ofInt x <<< ((Int32.ofInt y).toInt64 &&& 63) := Int64.ofInt_toInt _
  rw [← e]; exact h1
theorem g_i2l (C : ∀ Γ, P Γ → gX Γ lay own cc nL d h9) {x : Int} (hd : decode cc pc = .ok (.i2l, 1)) (h : gJ P lay nL (pc + 1) L (.inr (.inl (xw x)) :: st) m hp h9) : gJ P lay nL pc L (.inl x :: st) m hp h9 := by
  refine ⟨h.1, ?_⟩
  intro Γ hΓ
  have C := C Γ hΓ
  obtain ⟨⟨p, l, e, R, s, m0, args, below, meth, c⟩, ⟨A, ad, dC, dI, dA⟩, n0, s0, n1, s1, Q⟩ := Γ
  obtain ⟨hx, hb, -⟩ := C
  intro H locs ls kk nn hs hP hD hS hv
  exact lv_i2l hx hb hd (Int64.ofInt_int32ToInt (Int32.ofInt x)).symm (h.2 _ hΓ H locs ls kk nn hs hP hD hS hv)
theorem g_l2i (C : ∀ Γ, P Γ → gX Γ lay own cc nL d h9) {x : Int} (hd : decode cc pc = .ok (.l2i, 1)) (h : gJ P lay nL (pc + 1) L (.inl x :: st) m hp h9) : gJ P lay nL pc L (.inr (.inl x) :: st) m hp h9 := by
  refine ⟨h.1, ?_⟩
  intro Γ hΓ
  have C := C Γ hΓ
  obtain ⟨⟨p, l, e, R, s, m0, args, below, meth, c⟩, ⟨A, ad, dC, dI, dA⟩, n0, s0, n1, s1, Q⟩ := Γ
  obtain ⟨hx, hb, -⟩ := C
  intro H locs ls kk nn hs hP hD hS hv
  exact lv_l2i hx hb hd Int64.toInt32_ofInt (h.2 _ hΓ H locs ls kk nn hs hP hD hS hv)
theorem g_lcmp (C : ∀ Γ, P Γ → gX Γ lay own cc nL d h9) {x y : Int} (hd : decode cc pc = .ok (.lcmp, 1)) (h : gJ P lay nL (pc + 1) L (.inl (xlcmp x y) :: st) m hp h9) : gJ P lay nL pc L (.inr (.inl y) :: .inr (.inl x) :: st) m hp h9 := by
  refine ⟨h.1, ?_⟩
  intro Γ hΓ
  have C := C Γ hΓ
  obtain ⟨⟨p, l, e, R, s, m0, args, below, meth, c⟩, ⟨A, ad, dC, dI, dA⟩, n0, s0, n1, s1, Q⟩ := Γ
  obtain ⟨hx, hb, -⟩ := C
  intro H locs ls kk nn hs hP hD hS hv
  have h1 := h.2 _ hΓ H locs ls kk nn hs hP hD hS hv
  refine W.lcmp hx hb hd ?_
  have e : Int32.ofInt (xlcmp x y) = lg_cmp (Int64.ofInt x) (Int64.ofInt y) := Int32.ofInt_toInt _
  rw [← e]; exact h1
theorem g_min (C : ∀ Γ, P Γ → gX Γ lay own cc nL d h9) {idx : Nat} {x y : Int} (hd : decode cc pc = .ok (.invokestatic idx, 3)) (hl : Cond.methodLink own idx Lib.Math.min.name ∈ wsL_law) (h1 : Cond.static Lib.Math.min.name ∈ wsL_law) (h2 : Cond.initialized "java/lang/Math" ∈ wsL_law) (h3 : Cond.code Lib.Math.min.name Lib.Math.min.code 2 (some .int) ∈ wsL_law) (hdd : 1 ≤ d) (hst : (st.map xcat).sum ≤ 8)
    (k : gJ P lay nL (pc + 3) L (.inl (if xw y < xw x then y else x) :: st) m hp h9) : gJ P lay nL pc L (.inl y :: .inl x :: st) m hp h9 := by
  refine ⟨k.1, ?_⟩
  intro Γ hΓ
  have C := C Γ hΓ
  obtain ⟨⟨p, l, e, R, s, m0, args, below, meth, c⟩, ⟨A, ad, dC, dI, dA⟩, n0, s0, n1, s1, Q⟩ := Γ
  obtain ⟨hx, hb, hml, hown, hts, hK, had, hA, hfr, hlo, hlim, hstr, -⟩ := C
  intro H locs ls kk nn hs hP hD hS hv
  have hk := k.2 _ hΓ H locs ls kk nn hs hP hD hS hv
  refine va_mmin hx hb (hml.trans hv.1.symm) hown (hts _ hl) (hts _ h1) (hts _ h2) (hts _ h3) (by omega) (by rw [xcat_sum]; omega) (by have := k.1.1; have := hlim.1; have := hs.1; omega) (by have := k.1.2; have := hlim.2; have := hs.2.1; omega) hd ?_
  have e : (if Int32.ofInt y < Int32.ofInt x then Int32.ofInt y else Int32.ofInt x) = Int32.ofInt (if xw y < xw x then y else x) := by
    by_cases hc : xw y < xw x
    · rw [if_pos hc, if_pos (xof_lt.mpr hc)]
    · rw [if_neg hc, if_neg (fun q => hc (xof_lt.mp q))]
  rw [e]
  exact hk
theorem g_tabIn (C : ∀ Γ, P Γ → gX Γ lay own cc nL d h9) {dflt lo hi off : Int} {offs : Array Int} {len : Nat} {x : Int} (tgt : Nat) (v : Int) (hd : decode cc pc = .ok (.tableswitch dflt lo hi offs, len)) (hx2 : xw x = v) (h1 : ¬ v < lo) (h2 : ¬ hi < v) (ho : offs[(v - lo).toNat]? = some off) (ht : (pc : Int) + off = (tgt : Int)) (h : gJ P lay nL tgt L st m hp h9) : gJ P lay nL pc L (.inl x :: st) m hp h9 := by
  subst hx2
  refine ⟨h.1, ?_⟩
  intro Γ hΓ
  have C := C Γ hΓ
  obtain ⟨⟨p, l, e, R, s, m0, args, below, meth, c⟩, ⟨A, ad, dC, dI, dA⟩, n0, s0, n1, s1, Q⟩ := Γ
  obtain ⟨hx, hb, -⟩ := C
  intro H locs ls kk nn hs hP hD hS hv
  exact lv_tableIn hx hb hd h1 h2 ho ht (h.2 _ hΓ H locs ls kk nn hs hP hD hS hv)
theorem g_tabOut (C : ∀ Γ, P Γ → gX Γ lay own cc nL d h9) {dflt lo hi : Int} {offs : Array Int} {len : Nat} {x : Int} (tgt : Nat) (hd : decode cc pc = .ok (.tableswitch dflt lo hi offs, len)) (hx2 : xw x < lo ∨ hi < xw x) (ht : (pc : Int) + dflt = (tgt : Int)) (h : gJ P lay nL tgt L st m hp h9) : gJ P lay nL pc L (.inl x :: st) m hp h9 := by
  refine ⟨h.1, ?_⟩
  intro Γ hΓ
  have C := C Γ hΓ
  obtain ⟨⟨p, l, e, R, s, m0, args, below, meth, c⟩, ⟨A, ad, dC, dI, dA⟩, n0, s0, n1, s1, Q⟩ := Γ
  obtain ⟨hx, hb, -⟩ := C
  intro H locs ls kk nn hs hP hD hS hv
  exact lv_tableOut hx hb hd hx2 ht (h.2 _ hΓ H locs ls kk nn hs hP hD hS hv)
theorem g_ldcS (C : ∀ Γ, P Γ → gX Γ lay own cc nL d h9) {idx : Nat} (tx : String) (i : Nat) (hd : decode cc pc = .ok (.ldc idx, 2)) (hr : (own, idx, tx, i) ∈ xSref) (h : gJ P lay nL (pc + 2) L (.inr (.inr (some (1000 + i))) :: st) m hp h9) : gJ P lay nL pc L st m hp h9 := by
  refine ⟨h.1, ?_⟩
  intro Γ hΓ
  have C := C Γ hΓ
  obtain ⟨⟨p, l, e, R, s, m0, args, below, meth, c⟩, ⟨A, ad, dC, dI, dA⟩, n0, s0, n1, s1, Q⟩ := Γ
  obtain ⟨hx, hb, hml, hown, hts, hK, had, hA, hfr, hlo, hlim, hstr, -⟩ := C
  intro H locs ls kk nn hs hP hD hS hv
  exact va_ldcS hx hb hown (hstr.2.1 _ hr) hd (h.2 _ hΓ H locs ls kk nn hs hP hD hS hv)

theorem g_aload_n (C : ∀ Γ, P Γ → gX Γ lay own cc nL d h9) {k : Fin 4} (hd : decode cc pc = .ok (.aload_n k, 1)) {r : Option Nat} (hl : xas L (k : Nat) = some (.inr (.inr r))) (h : gJ P lay nL (pc + 1) L (.inr (.inr r) :: st) m hp h9) : gJ P lay nL pc L st m hp h9 := by
  refine ⟨h.1, ?_⟩
  intro Γ hΓ
  have C := C Γ hΓ
  obtain ⟨⟨p, l, e, R, s, m0, args, below, meth, c⟩, ⟨A, ad, dC, dI, dA⟩, n0, s0, n1, s1, Q⟩ := Γ
  obtain ⟨hx, hb, -⟩ := C
  intro H locs ls kk nn hs hP hD hS hv
  have hk := h.2 _ hΓ H locs ls kk nn hs hP hD hS hv
  cases r with
  | none => exact lv_aload_nN hx hb hd rfl (xlv_get hv hl) hk
  | some x => exact lv_aload_n hx hb hd rfl (xlv_get hv hl) hk
theorem g_aload (C : ∀ Γ, P Γ → gX Γ lay own cc nL d h9) {k : Nat} (hd : decode cc pc = .ok (.aload k, 2)) {r : Option Nat} (hl : xas L k = some (.inr (.inr r))) (h : gJ P lay nL (pc + 2) L (.inr (.inr r) :: st) m hp h9) : gJ P lay nL pc L st m hp h9 := by
  refine ⟨h.1, ?_⟩
  intro Γ hΓ
  have C := C Γ hΓ
  obtain ⟨⟨p, l, e, R, s, m0, args, below, meth, c⟩, ⟨A, ad, dC, dI, dA⟩, n0, s0, n1, s1, Q⟩ := Γ
  obtain ⟨hx, hb, -⟩ := C
  intro H locs ls kk nn hs hP hD hS hv
  have hk := h.2 _ hΓ H locs ls kk nn hs hP hD hS hv
  cases r with
  | none => exact lv_aloadN hx hb hd (xlv_get hv hl) hk
  | some x => exact lv_aload hx hb hd (xlv_get hv hl) hk
theorem g_astore_n (C : ∀ Γ, P Γ → gX Γ lay own cc nL d h9) {k : Fin 4} (hd : decode cc pc = .ok (.astore_n k, 1)) (hn : (k : Nat) < nL) {r : Option Nat} (h : gJ P lay nL (pc + 1) (xs1 L (k : Nat) (.inr (.inr r))) st m hp h9) : gJ P lay nL pc L (.inr (.inr r) :: st) m hp h9 := by
  refine ⟨h.1, ?_⟩
  intro Γ hΓ
  have C := C Γ hΓ
  obtain ⟨⟨p, l, e, R, s, m0, args, below, meth, c⟩, ⟨A, ad, dC, dI, dA⟩, n0, s0, n1, s1, Q⟩ := Γ
  obtain ⟨hx, hb, -⟩ := C
  intro H locs ls kk nn hs hP hD hS hv
  cases r with
  | none => exact lv_astore_nN hx hb hd rfl hv hn (xs1_lv ad L (k : Nat) (.inr (.inr none))) (fun ls' hv' => h.2 _ hΓ H locs ls' kk nn hs hP hD hS hv')
  | some x => exact lv_astore_n hx hb hd rfl hv hn (xs1_lv ad L (k : Nat) (.inr (.inr (some x)))) (fun ls' hv' => h.2 _ hΓ H locs ls' kk nn hs hP hD hS hv')
theorem g_astore (C : ∀ Γ, P Γ → gX Γ lay own cc nL d h9) {k : Nat} (hd : decode cc pc = .ok (.astore k, 2)) (hn : k < nL) {r : Option Nat} (h : gJ P lay nL (pc + 2) (xs1 L k (.inr (.inr r))) st m hp h9) : gJ P lay nL pc L (.inr (.inr r) :: st) m hp h9 := by
  refine ⟨h.1, ?_⟩
  intro Γ hΓ
  have C := C Γ hΓ
  obtain ⟨⟨p, l, e, R, s, m0, args, below, meth, c⟩, ⟨A, ad, dC, dI, dA⟩, n0, s0, n1, s1, Q⟩ := Γ
  obtain ⟨hx, hb, -⟩ := C
  intro H locs ls kk nn hs hP hD hS hv
  cases r with
  | none => exact lv_astoreN hx hb hd hv hn (xs1_lv ad L k (.inr (.inr none))) (fun ls' hv' => h.2 _ hΓ H locs ls' kk nn hs hP hD hS hv')
  | some x => exact lv_astore hx hb hd hv hn (xs1_lv ad L k (.inr (.inr (some x)))) (fun ls' hv' => h.2 _ hΓ H locs ls' kk nn hs hP hD hS hv')
theorem g_null (C : ∀ Γ, P Γ → gX Γ lay own cc nL d h9) (hd : decode cc pc = .ok (.aconst_null, 1)) (h : gJ P lay nL (pc + 1) L (.inr (.inr none) :: st) m hp h9) : gJ P lay nL pc L st m hp h9 := by
  refine ⟨h.1, ?_⟩
  intro Γ hΓ
  have C := C Γ hΓ
  obtain ⟨⟨p, l, e, R, s, m0, args, below, meth, c⟩, ⟨A, ad, dC, dI, dA⟩, n0, s0, n1, s1, Q⟩ := Γ
  obtain ⟨hx, hb, -⟩ := C
  intro H locs ls kk nn hs hP hD hS hv
  exact lv_null hx hb hd (h.2 _ hΓ H locs ls kk nn hs hP hD hS hv)
theorem g_ifnull (C : ∀ Γ, P Γ → gX Γ lay own cc nL d h9) {off : Int} (tgt : Nat) (hd : decode cc pc = .ok (.ifnull off, 3)) (ht : (pc : Int) + off = (tgt : Int)) {x : Option Nat} {α : Type} {a b : Option α} {r : α} (h : (if x = none then a else b) = some r) (kt : a = some r → gJ P lay nL tgt L st m hp h9) (kf : b = some r → gJ P lay nL (pc + 3) L st m hp h9) : gJ P lay nL pc L (.inr (.inr x) :: st) m hp h9 := by
  cases x with
  | none =>
    rw [if_pos rfl] at h
    refine ⟨(kt h).1, ?_⟩
    intro Γ hΓ
    have C := C Γ hΓ
    obtain ⟨⟨p, l, e, R, s, m0, args, below, meth, c⟩, ⟨A, ad, dC, dI, dA⟩, n0, s0, n1, s1, Q⟩ := Γ
    obtain ⟨hx, hb, -⟩ := C
    intro H locs ls kk nn hs hP hD hS hv
    exact lv_ifnullN hx hb hd ht ((kt h).2 _ hΓ H locs ls kk nn hs hP hD hS hv)
  | some y =>
    rw [if_neg (fun q => by cases q)] at h
    refine ⟨(kf h).1, ?_⟩
    intro Γ hΓ
    have C := C Γ hΓ
    obtain ⟨⟨p, l, e, R, s, m0, args, below, meth, c⟩, ⟨A, ad, dC, dI, dA⟩, n0, s0, n1, s1, Q⟩ := Γ
    obtain ⟨hx, hb, -⟩ := C
    intro H locs ls kk nn hs hP hD hS hv
    exact lv_ifnull hx hb hd ((kf h).2 _ hΓ H locs ls kk nn hs hP hD hS hv)
theorem g_ifnonnull (C : ∀ Γ, P Γ → gX Γ lay own cc nL d h9) {off : Int} (tgt : Nat) (hd : decode cc pc = .ok (.ifnonnull off, 3)) (ht : (pc : Int) + off = (tgt : Int)) {x : Option Nat} {α : Type} {a b : Option α} {r : α} (h : (if x = none then a else b) = some r) (kt : b = some r → gJ P lay nL tgt L st m hp h9) (kf : a = some r → gJ P lay nL (pc + 3) L st m hp h9) : gJ P lay nL pc L (.inr (.inr x) :: st) m hp h9 := by
  cases x with
  | none =>
    rw [if_pos rfl] at h
    refine ⟨(kf h).1, ?_⟩
    intro Γ hΓ
    have C := C Γ hΓ
    obtain ⟨⟨p, l, e, R, s, m0, args, below, meth, c⟩, ⟨A, ad, dC, dI, dA⟩, n0, s0, n1, s1, Q⟩ := Γ
    obtain ⟨hx, hb, -⟩ := C
    intro H locs ls kk nn hs hP hD hS hv
    exact lv_ifnonnullN hx hb hd ((kf h).2 _ hΓ H locs ls kk nn hs hP hD hS hv)
  | some y =>
    rw [if_neg (fun q => by cases q)] at h
    refine ⟨(kt h).1, ?_⟩
    intro Γ hΓ
    have C := C Γ hΓ
    obtain ⟨⟨p, l, e, R, s, m0, args, below, meth, c⟩, ⟨A, ad, dC, dI, dA⟩, n0, s0, n1, s1, Q⟩ := Γ
    obtain ⟨hx, hb, -⟩ := C
    intro H locs ls kk nn hs hP hD hS hv
    exact lv_ifnonnull hx hb hd ht ((kt h).2 _ hΓ H locs ls kk nn hs hP hD hS hv)
end GR

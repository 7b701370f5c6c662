/-! ===== texts: single steps ===== -/
abbrev tB (dA : Nat → ClassId) (t0 t1 cap n : Nat) (ml : Int32) (f : Nat → Int32) : va_W := [(t0, .inr (1, [.ref t1, .int 0, .int ml, .int (Int32.ofInt (n : Int))])), (t1, .inl (dA 4, cap, .inl f))]
theorem t_nat : nativeFrameWords "java/lang/System" "arraycopy" 5 + 11 ≤ 40 := by decide
theorem t_fit {x : Int32} (h : x.toInt8.toInt32 = x) : fits .byte (.int x) = true := by
  rw [← h]
  exact pk_fb _
theorem xsby_fit : ∀ i, i < 26 → ∀ j, j < (xSby.getD i []).length → fits .byte (.int ((xSby.getD i []).getD j 0)) = true := by decide +kernel
section TS
variable {Γ : yG} {own : String} {cc : ByteArray} {nL d pc K N k n : Nat} {L : List (Nat × Value)} {st : List Value} {ws : va_W}
theorem tz_iadd (C : yC Γ own cc nL d K N) {x y : Int} (hd : decode cc pc = .ok (.iadd, 1)) (h : yW Γ nL (pc + 1) L (.int (Int32.ofInt (x + y)) :: st) ws k n) : yW Γ nL pc L (.int (Int32.ofInt y) :: .int (Int32.ofInt x) :: st) ws k n := by
  rw [Int32.ofInt_add] at h
  obtain ⟨⟨p, l, e, R, s, m0, args, below, meth, c⟩, ⟨A, dC, dI, dA, sa⟩, Q⟩ := Γ
  obtain ⟨hx, hb, -⟩ := C
  intro H locs ls hP hD hS hv
  exact lv_iadd hx hb hd (h H locs ls hP hD hS hv)
theorem tz_isub (C : yC Γ own cc nL d K N) {x y : Int} (hd : decode cc pc = .ok (.isub, 1)) (h : yW Γ nL (pc + 1) L (.int (Int32.ofInt (x - y)) :: st) ws k n) : yW Γ nL pc L (.int (Int32.ofInt y) :: .int (Int32.ofInt x) :: st) ws k n := by
  rw [Int32.ofInt_sub] at h
  obtain ⟨⟨p, l, e, R, s, m0, args, below, meth, c⟩, ⟨A, dC, dI, dA, sa⟩, Q⟩ := Γ
  obtain ⟨hx, hb, -⟩ := C
  intro H locs ls hP hD hS hv
  exact lv_isub hx hb hd (h H locs ls hP hD hS hv)
theorem tz_imul (C : yC Γ own cc nL d K N) {x y : Int} (hd : decode cc pc = .ok (.imul, 1)) (h : yW Γ nL (pc + 1) L (.int (Int32.ofInt (x * y)) :: st) ws k n) : yW Γ nL pc L (.int (Int32.ofInt y) :: .int (Int32.ofInt x) :: st) ws k n := by
  rw [Int32.ofInt_mul] at h
  obtain ⟨⟨p, l, e, R, s, m0, args, below, meth, c⟩, ⟨A, dC, dI, dA, sa⟩, Q⟩ := Γ
  obtain ⟨hx, hb, -⟩ := C
  intro H locs ls hP hD hS hv
  exact lv_imul hx hb hd (h H locs ls hP hD hS hv)
theorem tz_ineg (C : yC Γ own cc nL d K N) {x : Int} (hd : decode cc pc = .ok (.ineg, 1)) (h : yW Γ nL (pc + 1) L (.int (Int32.ofInt (-x)) :: st) ws k n) : yW Γ nL pc L (.int (Int32.ofInt x) :: st) ws k n := by
  rw [Int32.ofInt_neg] at h
  obtain ⟨⟨p, l, e, R, s, m0, args, below, meth, c⟩, ⟨A, dC, dI, dA, sa⟩, Q⟩ := Γ
  obtain ⟨hx, hb, -⟩ := C
  intro H locs ls hP hD hS hv
  exact lv_ineg hx hb hd (h H locs ls hP hD hS hv)
theorem t_idiv (C : yC Γ own cc nL d K N) {x y v : Int32} (hd : decode cc pc = .ok (.idiv, 1)) (hne : ¬ y = 0) (hv9 : x / y = v) (h : yW Γ nL (pc + 1) L (.int v :: st) ws k n) : yW Γ nL pc L (.int y :: .int x :: st) ws k n := by
  subst hv9
  obtain ⟨⟨p, l, e, R, s, m0, args, below, meth, c⟩, ⟨A, dC, dI, dA, sa⟩, Q⟩ := Γ
  obtain ⟨hx, hb, -⟩ := C
  intro H locs ls hP hD hS hv
  exact lv_idiv hx hb hd hne (h H locs ls hP hD hS hv)
theorem t_ishr0 (C : yC Γ own cc nL d K N) {v : Int32} (hd : decode cc pc = .ok (.ishr, 1)) (h : yW Γ nL (pc + 1) L (.int v :: st) ws k n) : yW Γ nL pc L (.int 0 :: .int v :: st) ws k n := by
  obtain ⟨⟨p, l, e, R, s, m0, args, below, meth, c⟩, ⟨A, dC, dI, dA, sa⟩, Q⟩ := Γ
  obtain ⟨hx, hb, -⟩ := C
  intro H locs ls hP hD hS hv
  refine lv_ishr hx hb hd ?_
  rw [sb_shr0]
  exact h H locs ls hP hD hS hv
theorem t_ishl0 (C : yC Γ own cc nL d K N) {v : Int32} (hd : decode cc pc = .ok (.ishl, 1)) (h : yW Γ nL (pc + 1) L (.int v :: st) ws k n) : yW Γ nL pc L (.int 0 :: .int v :: st) ws k n := by
  obtain ⟨⟨p, l, e, R, s, m0, args, below, meth, c⟩, ⟨A, dC, dI, dA, sa⟩, Q⟩ := Γ
  obtain ⟨hx, hb, -⟩ := C
  intro H locs ls hP hD hS hv
  refine lv_ishl hx hb hd ?_
  rw [sb_shl0]
  exact h H locs ls hP hD hS hv
theorem tz_i2b (C : yC Γ own cc nL d K N) {x v : Int32} (hd : decode cc pc = .ok (.i2b, 1)) (hv9 : x.toInt8.toInt32 = v) (h : yW Γ nL (pc + 1) L (.int v :: st) ws k n) : yW Γ nL pc L (.int x :: st) ws k n := by
  obtain ⟨⟨p, l, e, R, s, m0, args, below, meth, c⟩, ⟨A, dC, dI, dA, sa⟩, Q⟩ := Γ
  obtain ⟨hx, hb, -⟩ := C
  intro H locs ls hP hD hS hv
  exact lv_i2b hx hb hd hv9 (h H locs ls hP hD hS hv)
theorem t_pop (C : yC Γ own cc nL d K N) {v : Value} (hd : decode cc pc = .ok (.pop, 1)) (hv9 : v.category = 1) (h : yW Γ nL (pc + 1) L st ws k n) : yW Γ nL pc L (v :: st) ws k n := by
  obtain ⟨⟨p, l, e, R, s, m0, args, below, meth, c⟩, ⟨A, dC, dI, dA, sa⟩, Q⟩ := Γ
  obtain ⟨hx, hb, -⟩ := C
  intro H locs ls hP hD hS hv
  exact lv_pop hx hb hd hv9 (h H locs ls hP hD hS hv)
theorem t_dupx1 (C : yC Γ own cc nL d K N) {va vb : Value} (hd : decode cc pc = .ok (.dup_x1, 1)) (h1 : va.category = 1) (h2 : vb.category = 1) (h : yW Γ nL (pc + 1) L (va :: vb :: va :: st) ws k n) : yW Γ nL pc L (va :: vb :: st) ws k n := by
  obtain ⟨⟨p, l, e, R, s, m0, args, below, meth, c⟩, ⟨A, dC, dI, dA, sa⟩, Q⟩ := Γ
  obtain ⟨hx, hb, -⟩ := C
  intro H locs ls hP hD hS hv
  exact lv_dup_x1 hx hb hd h1 h2 (h H locs ls hP hD hS hv)
theorem t_nonnull (C : yC Γ own cc nL d K N) {x : Nat} {off : Int} (tgt : Nat) (hd : decode cc pc = .ok (.ifnonnull off, 3)) (ht : (pc : Int) + off = (tgt : Int)) (h : yW Γ nL tgt L st ws k n) : yW Γ nL pc L (.ref x :: st) ws k n := by
  obtain ⟨⟨p, l, e, R, s, m0, args, below, meth, c⟩, ⟨A, dC, dI, dA, sa⟩, Q⟩ := Γ
  obtain ⟨hx, hb, -⟩ := C
  intro H locs ls hP hD hS hv
  exact lv_ifnonnull hx hb hd ht (h H locs ls hP hD hS hv)
theorem t_ifle (C : yC Γ own cc nL d K N) {x : Int} {off : Int} (tgt : Nat) (hd : decode cc pc = .ok (.ifCond .le off, 3)) (ht : (pc : Int) + off = (tgt : Int)) (h1 : ¬ 0 < xw x → yW Γ nL tgt L st ws k n) (h2 : ¬ (¬ 0 < xw x) → yW Γ nL (pc + 3) L st ws k n) : yW Γ nL pc L (.int (Int32.ofInt x) :: st) ws k n := by
  obtain ⟨⟨p, l, e, R, s, m0, args, below, meth, c⟩, ⟨A, dC, dI, dA, sa⟩, Q⟩ := Γ
  obtain ⟨hx, hb, -⟩ := C
  intro H locs ls hP hD hS hv
  exact lv_if_le hx hb hd ht (fun z => h1 (xz_le.mp z) H locs ls hP hD hS hv) (fun z => h2 (fun q => z (xz_le.mpr q)) H locs ls hP hD hS hv)
theorem t_ifge (C : yC Γ own cc nL d K N) {x : Int} {off : Int} (tgt : Nat) (hd : decode cc pc = .ok (.ifCond .ge off, 3)) (ht : (pc : Int) + off = (tgt : Int)) (h1 : ¬ xw x < 0 → yW Γ nL tgt L st ws k n) (h2 : ¬ (¬ xw x < 0) → yW Γ nL (pc + 3) L st ws k n) : yW Γ nL pc L (.int (Int32.ofInt x) :: st) ws k n := by
  obtain ⟨⟨p, l, e, R, s, m0, args, below, meth, c⟩, ⟨A, dC, dI, dA, sa⟩, Q⟩ := Γ
  obtain ⟨hx, hb, -⟩ := C
  intro H locs ls hP hD hS hv
  exact lv_if_ge hx hb hd ht (fun z => h1 (xz_ge.mp z) H locs ls hP hD hS hv) (fun z => h2 (fun q => z (xz_ge.mpr q)) H locs ls hP hD hS hv)
theorem t_iflt (C : yC Γ own cc nL d K N) {x : Int} {off : Int} (tgt : Nat) (hd : decode cc pc = .ok (.ifCond .lt off, 3)) (ht : (pc : Int) + off = (tgt : Int)) (h1 : xw x < 0 → yW Γ nL tgt L st ws k n) (h2 : ¬ (xw x < 0) → yW Γ nL (pc + 3) L st ws k n) : yW Γ nL pc L (.int (Int32.ofInt x) :: st) ws k n := by
  obtain ⟨⟨p, l, e, R, s, m0, args, below, meth, c⟩, ⟨A, dC, dI, dA, sa⟩, Q⟩ := Γ
  obtain ⟨hx, hb, -⟩ := C
  intro H locs ls hP hD hS hv
  exact lv_if_lt hx hb hd ht (fun z => h1 (xz_lt.mp z) H locs ls hP hD hS hv) (fun z => h2 (fun q => z (xz_lt.mpr q)) H locs ls hP hD hS hv)
theorem t_ifgt (C : yC Γ own cc nL d K N) {x : Int} {off : Int} (tgt : Nat) (hd : decode cc pc = .ok (.ifCond .gt off, 3)) (ht : (pc : Int) + off = (tgt : Int)) (h1 : 0 < xw x → yW Γ nL tgt L st ws k n) (h2 : ¬ (0 < xw x) → yW Γ nL (pc + 3) L st ws k n) : yW Γ nL pc L (.int (Int32.ofInt x) :: st) ws k n := by
  obtain ⟨⟨p, l, e, R, s, m0, args, below, meth, c⟩, ⟨A, dC, dI, dA, sa⟩, Q⟩ := Γ
  obtain ⟨hx, hb, -⟩ := C
  intro H locs ls hP hD hS hv
  exact lv_if_gt hx hb hd ht (fun z => h1 (xz_gt.mp z) H locs ls hP hD hS hv) (fun z => h2 (fun q => z (xz_gt.mpr q)) H locs ls hP hD hS hv)
theorem t_icmpge (C : yC Γ own cc nL d K N) {x y : Int} {off : Int} (tgt : Nat) (hd : decode cc pc = .ok (.if_icmp .ge off, 3)) (ht : (pc : Int) + off = (tgt : Int)) (h1 : xw y ≤ xw x → yW Γ nL tgt L st ws k n) (h2 : ¬ (xw y ≤ xw x) → yW Γ nL (pc + 3) L st ws k n) : yW Γ nL pc L (.int (Int32.ofInt y) :: .int (Int32.ofInt x) :: st) ws k n := by
  obtain ⟨⟨p, l, e, R, s, m0, args, below, meth, c⟩, ⟨A, dC, dI, dA, sa⟩, Q⟩ := Γ
  obtain ⟨hx, hb, -⟩ := C
  intro H locs ls hP hD hS hv
  exact lv_icmp_ge hx hb hd ht (fun z => h1 (xof_le.mp z) H locs ls hP hD hS hv) (fun z => h2 (fun q => z (xof_le.mpr q)) H locs ls hP hD hS hv)
theorem t_icmple (C : yC Γ own cc nL d K N) {x y : Int} {off : Int} (tgt : Nat) (hd : decode cc pc = .ok (.if_icmp .le off, 3)) (ht : (pc : Int) + off = (tgt : Int)) (h1 : xw x ≤ xw y → yW Γ nL tgt L st ws k n) (h2 : ¬ (xw x ≤ xw y) → yW Γ nL (pc + 3) L st ws k n) : yW Γ nL pc L (.int (Int32.ofInt y) :: .int (Int32.ofInt x) :: st) ws k n := by
  obtain ⟨⟨p, l, e, R, s, m0, args, below, meth, c⟩, ⟨A, dC, dI, dA, sa⟩, Q⟩ := Γ
  obtain ⟨hx, hb, -⟩ := C
  intro H locs ls hP hD hS hv
  exact lv_icmp_le hx hb hd ht (fun z => h1 (xof_le.mp z) H locs ls hP hD hS hv) (fun z => h2 (fun q => z (xof_le.mpr q)) H locs ls hP hD hS hv)
theorem t_icmplt (C : yC Γ own cc nL d K N) {x y : Int} {off : Int} (tgt : Nat) (hd : decode cc pc = .ok (.if_icmp .lt off, 3)) (ht : (pc : Int) + off = (tgt : Int)) (h1 : xw x < xw y → yW Γ nL tgt L st ws k n) (h2 : ¬ (xw x < xw y) → yW Γ nL (pc + 3) L st ws k n) : yW Γ nL pc L (.int (Int32.ofInt y) :: .int (Int32.ofInt x) :: st) ws k n := by
  obtain ⟨⟨p, l, e, R, s, m0, args, below, meth, c⟩, ⟨A, dC, dI, dA, sa⟩, Q⟩ := Γ
  obtain ⟨hx, hb, -⟩ := C
  intro H locs ls hP hD hS hv
  exact lv_icmp_lt hx hb hd ht (fun z => h1 (xof_lt.mp z) H locs ls hP hD hS hv) (fun z => h2 (fun q => z (xof_lt.mpr q)) H locs ls hP hD hS hv)
theorem t_icmpgt (C : yC Γ own cc nL d K N) {x y : Int} {off : Int} (tgt : Nat) (hd : decode cc pc = .ok (.if_icmp .gt off, 3)) (ht : (pc : Int) + off = (tgt : Int)) (h1 : xw y < xw x → yW Γ nL tgt L st ws k n) (h2 : ¬ (xw y < xw x) → yW Γ nL (pc + 3) L st ws k n) : yW Γ nL pc L (.int (Int32.ofInt y) :: .int (Int32.ofInt x) :: st) ws k n := by
  obtain ⟨⟨p, l, e, R, s, m0, args, below, meth, c⟩, ⟨A, dC, dI, dA, sa⟩, Q⟩ := Γ
  obtain ⟨hx, hb, -⟩ := C
  intro H locs ls hP hD hS hv
  exact lv_icmp_gt hx hb hd ht (fun z => h1 (xof_lt.mp z) H locs ls hP hD hS hv) (fun z => h2 (fun q => z (xof_lt.mpr q)) H locs ls hP hD hS hv)
theorem t_icmpeq (C : yC Γ own cc nL d K N) {x y : Int} {off : Int} (tgt : Nat) (hd : decode cc pc = .ok (.if_icmp .eq off, 3)) (ht : (pc : Int) + off = (tgt : Int)) (h1 : xw x = xw y → yW Γ nL tgt L st ws k n) (h2 : ¬ (xw x = xw y) → yW Γ nL (pc + 3) L st ws k n) : yW Γ nL pc L (.int (Int32.ofInt y) :: .int (Int32.ofInt x) :: st) ws k n := by
  obtain ⟨⟨p, l, e, R, s, m0, args, below, meth, c⟩, ⟨A, dC, dI, dA, sa⟩, Q⟩ := Γ
  obtain ⟨hx, hb, -⟩ := C
  intro H locs ls hP hD hS hv
  exact lv_icmp_eq hx hb hd ht (fun z => h1 (xof_eq.mp z) H locs ls hP hD hS hv) (fun z => h2 (fun q => z (xof_eq.mpr q)) H locs ls hP hD hS hv)
theorem t_icmpne (C : yC Γ own cc nL d K N) {x y : Int} {off : Int} (tgt : Nat) (hd : decode cc pc = .ok (.if_icmp .ne off, 3)) (ht : (pc : Int) + off = (tgt : Int)) (h1 : ¬ xw x = xw y → yW Γ nL tgt L st ws k n) (h2 : xw x = xw y → yW Γ nL (pc + 3) L st ws k n) : yW Γ nL pc L (.int (Int32.ofInt y) :: .int (Int32.ofInt x) :: st) ws k n := by
  obtain ⟨⟨p, l, e, R, s, m0, args, below, meth, c⟩, ⟨A, dC, dI, dA, sa⟩, Q⟩ := Γ
  obtain ⟨hx, hb, -⟩ := C
  intro H locs ls hP hD hS hv
  exact lv_icmp_ne hx hb hd ht (fun z => h1 (fun q => z (xof_eq.mpr q)) H locs ls hP hD hS hv) (fun z => h2 (xof_eq.mp (by simpa using z)) H locs ls hP hD hS hv)
theorem t_getJ (C : yC Γ own cc nL d K N) {idx j x : Nat} {t : FieldType} {v : Value} {fs : List Value} (q0 : Nat) (hd : decode cc pc = .ok (.getfield idx, 3)) (hF : yFJ own idx j t) (he : ws[q0]? = some (x, .inr (1, fs))) (hv9 : fs[j]? = some v) (h : yW Γ nL (pc + 3) L (v :: st) ws k n) : yW Γ nL pc L (.ref x :: st) ws k n := by
  obtain ⟨⟨p, l, e, R, s, m0, args, below, meth, c⟩, ⟨A, dC, dI, dA, sa⟩, Q⟩ := Γ
  obtain ⟨hx, hb, hml, hown, hts, hK, hA, ⟨hfr, hlo⟩, hce, hT, hX⟩ := C
  intro H locs ls hP hD hS hv
  obtain ⟨h2, h3, h8, h9, h4⟩ := hF
  exact va_get (own := own) (ref := RJ5) (C := RJ4) (T := TJ4) (N := 4) hx hb hts inlJ4 hown hK hP q0 he rfl j h2 (hts _ h3) (fun z hz => by rw [h4] at hz; exact hz) hv9 hd (h H locs ls hP hD hS hv)
theorem t_alenB (C : yC Γ own cc nL d K N) {x cap : Nat} {v : Int32} {f : Nat → Int32} (q0 : Nat) (hd : decode cc pc = .ok (.arraylength, 1)) (ha : ws[q0]? = some (x, .inl (yDA Γ 4, cap, .inl f))) (hv9 : Int32.ofNat cap = v) (h : yW Γ nL (pc + 1) L (.int v :: st) ws k n) : yW Γ nL pc L (.ref x :: st) ws k n := by
  obtain ⟨⟨p, l, e, R, s, m0, args, below, meth, c⟩, ⟨A, dC, dI, dA, sa⟩, Q⟩ := Γ
  obtain ⟨hx, hb, hml, hown, hts, hK, hA, ⟨hfr, hlo⟩, hce, hT, hX⟩ := C
  intro H locs ls hP hD hS hv
  exact va_alen hx hb hK hP q0 4 ha rfl (v := v) hv9 hd (h H locs ls hP hD hS hv)
theorem t_baldB (C : yC Γ own cc nL d K N) {x cap j : Nat} {i : Int32} {f : Nat → Int32} (q0 : Nat) (hd : decode cc pc = .ok (.baload, 1)) (ha : ws[q0]? = some (x, .inl (yDA Γ 4, cap, .inl f))) (hin : vp_in i cap) (hi : i.toNatClampNeg = j) (h : yW Γ nL (pc + 1) L (.int (f j) :: st) ws k n) : yW Γ nL pc L (.int i :: .ref x :: st) ws k n := by
  subst hi
  obtain ⟨⟨p, l, e, R, s, m0, args, below, meth, c⟩, ⟨A, dC, dI, dA, sa⟩, Q⟩ := Γ
  obtain ⟨hx, hb, hml, hown, hts, hK, hA, ⟨hfr, hlo⟩, hce, hT, hX⟩ := C
  intro H locs ls hP hD hS hv
  exact va_bald hx hb hK hP q0 4 ha rfl hin hd (h H locs ls hP hD hS hv)
theorem t_bastB (C : yC Γ own cc nL d K N) {x cap j : Nat} {i v w : Int32} {f : Nat → Int32} (q0 : Nat) (hd : decode cc pc = .ok (.bastore, 1)) (ha : ws[q0]? = some (x, .inl (yDA Γ 4, cap, .inl f))) (hin : vp_in i cap) (hi : i.toNatClampNeg = j) (hw : vp_nar .byte v = w) (h : yW Γ nL (pc + 1) L st (ws.set q0 (x, .inl (yDA Γ 4, cap, .inl (upd f j w)))) k n) : yW Γ nL pc L (.int v :: .int i :: .ref x :: st) ws k n := by
  subst hi
  subst hw
  obtain ⟨⟨p, l, e, R, s, m0, args, below, meth, c⟩, ⟨A, dC, dI, dA, sa⟩, Q⟩ := Γ
  obtain ⟨hx, hb, hml, hown, hts, hK, hA, ⟨hfr, hlo⟩, hce, hT, hX⟩ := C
  intro H locs ls hP hD hS hv
  exact va_bast hx hb hK hP hD hS q0 4 ha rfl hin hd (fun H1 locs1 hP1 hD1 hS1 => h H1 locs1 ls hP1 hD1 hS1 hv)
theorem t_ones (C : yC Γ own cc nL d K N) (hG : yDg Γ) {idx : Nat} (hd : decode cc pc = .ok (.getstatic idx, 3)) (hl : Cond.fieldLink own idx "java/lang/Integer" "DigitOnes" "[B" ∈ wsL_law) (h : yW Γ nL (pc + 3) L (.ref (ySA Γ (1000 + 300)) :: st) ws k n) : yW Γ nL pc L st ws k n := by
  obtain ⟨⟨p, l, e, R, s, m0, args, below, meth, c⟩, ⟨A, dC, dI, dA, sa⟩, Q⟩ := Γ
  obtain ⟨hx, hb, hml, hown, hts, hK, hA, ⟨hfr, hlo⟩, hce, hT, hX⟩ := C
  intro H locs ls hP hD hS hv
  exact va_gets hx hb hG.1 hS hown (hts _ hl) (fun _ h => h) hd (h H locs ls hP hD hS hv)
theorem t_tens (C : yC Γ own cc nL d K N) (hG : yDg Γ) {idx : Nat} (hd : decode cc pc = .ok (.getstatic idx, 3)) (hl : Cond.fieldLink own idx "java/lang/Integer" "DigitTens" "[B" ∈ wsL_law) (h : yW Γ nL (pc + 3) L (.ref (ySA Γ (1000 + 301)) :: st) ws k n) : yW Γ nL pc L st ws k n := by
  obtain ⟨⟨p, l, e, R, s, m0, args, below, meth, c⟩, ⟨A, dC, dI, dA, sa⟩, Q⟩ := Γ
  obtain ⟨hx, hb, hml, hown, hts, hK, hA, ⟨hfr, hlo⟩, hce, hT, hX⟩ := C
  intro H locs ls hP hD hS hv
  exact va_gets hx hb hG.2.1 hS hown (hts _ hl) (fun _ h => h) hd (h H locs ls hP hD hS hv)
theorem t_onesAt (C : yC Γ own cc nL d K N) (hG : yDg Γ) {r : Nat} (hr : r < 100) (hd : decode cc pc = .ok (.baload, 1)) (h : yW Γ nL (pc + 1) L (.int (Int32.ofInt ((48 + r % 10 : Nat) : Int)) :: st) ws k n) : yW Γ nL pc L (.int (Int32.ofInt (r : Int)) :: .ref (ySA Γ (1000 + 300)) :: st) ws k n := by
  obtain ⟨⟨p, l, e, R, s, m0, args, below, meth, c⟩, ⟨A, dC, dI, dA, sa⟩, Q⟩ := Γ
  obtain ⟨hx, hb, hml, hown, hts, hK, hA, ⟨hfr, hlo⟩, hce, hT, hX⟩ := C
  intro H locs ls hP hD hS hv
  have hc : (Int32.ofInt (r : Int)).toNatClampNeg = r := by
    show (xw (r : Int)).toNat = r
    rw [b_xw (by omega)]; exact Int.toNat_natCast _
  refine va_tb hx hb hG.2.2.1 hS (xib_in (b_ib (by omega))) (v := Value.int (Int32.ofInt ((48 + r % 10 : Nat) : Int))) ?_ hd (h H locs ls hP hD hS hv)
  show Value.int (Int32.ofInt ((48 + (Int32.ofInt (r : Int)).toNatClampNeg % 10 : Nat) : Int)) = _
  rw [hc]
theorem t_tensAt (C : yC Γ own cc nL d K N) (hG : yDg Γ) {r : Nat} (hr : r < 100) (hd : decode cc pc = .ok (.baload, 1)) (h : yW Γ nL (pc + 1) L (.int (Int32.ofInt ((48 + r / 10 : Nat) : Int)) :: st) ws k n) : yW Γ nL pc L (.int (Int32.ofInt (r : Int)) :: .ref (ySA Γ (1000 + 301)) :: st) ws k n := by
  obtain ⟨⟨p, l, e, R, s, m0, args, below, meth, c⟩, ⟨A, dC, dI, dA, sa⟩, Q⟩ := Γ
  obtain ⟨hx, hb, hml, hown, hts, hK, hA, ⟨hfr, hlo⟩, hce, hT, hX⟩ := C
  intro H locs ls hP hD hS hv
  have hc : (Int32.ofInt (r : Int)).toNatClampNeg = r := by
    show (xw (r : Int)).toNat = r
    rw [b_xw (by omega)]; exact Int.toNat_natCast _
  refine va_tb hx hb hG.2.2.2 hS (xib_in (b_ib (by omega))) (v := Value.int (Int32.ofInt ((48 + r / 10 : Nat) : Int))) ?_ hd (h H locs ls hP hD hS hv)
  show Value.int (Int32.ofInt ((48 + (Int32.ofInt (r : Int)).toNatClampNeg / 10 : Nat) : Int)) = _
  rw [hc]
theorem t_sval (C : yC Γ own cc nL d K N) {idx : Nat} (i : Nat) (hi : i < 26) (hd : decode cc pc = .ok (.getfield idx, 3)) (hl : Cond.fieldLink own idx "java/lang/String" "value" "[B" ∈ wsL_law) (h : yW Γ nL (pc + 3) L (.ref (ySA Γ (1000 + (100 + i))) :: st) ws k n) : yW Γ nL pc L (.ref (ySA Γ (1000 + i)) :: st) ws k n := by
  obtain ⟨⟨p, l, e, R, s, m0, args, below, meth, c⟩, ⟨A, dC, dI, dA, sa⟩, Q⟩ := Γ
  obtain ⟨hx, hb, hml, hown, hts, hK, hA, ⟨hfr, hlo⟩, hce, hT, hX⟩ := C
  intro H locs ls hP hD hS hv
  exact vk_getf hx hb (hX.1.1 i hi).2.2.1 hS hown (hts _ hl) (fun _ h => h) hd (h H locs ls hP hD hS hv)
theorem t_salen (C : yC Γ own cc nL d K N) (i : Nat) (hi : i < 26) (hd : decode cc pc = .ok (.arraylength, 1)) (h : yW Γ nL (pc + 1) L (.int (Int32.ofInt (xsl i)) :: st) ws k n) : yW Γ nL pc L (.ref (ySA Γ (1000 + (100 + i))) :: st) ws k n := by
  obtain ⟨⟨p, l, e, R, s, m0, args, below, meth, c⟩, ⟨A, dC, dI, dA, sa⟩, Q⟩ := Γ
  obtain ⟨hx, hb, hml, hown, hts, hK, hA, ⟨hfr, hlo⟩, hce, hT, hX⟩ := C
  intro H locs ls hP hD hS hv
  exact va_tlen hx hb (hX.1.1 i hi).2.2.2 hS (v := Int32.ofInt (xsl i)) (by unfold xsl; rw [Int32.ofInt_eq_ofNat]) hd (h H locs ls hP hD hS hv)
theorem t_max (C : yC Γ own cc nL d K N) {idx : Nat} {x y : Int} (hd : decode cc pc = .ok (.invokestatic idx, 3)) (hl : Cond.methodLink own idx Lib.Math.max.name ∈ wsL_law) (h1 : Cond.static Lib.Math.max.name ∈ wsL_law) (h2 : Cond.initialized "java/lang/Math" ∈ wsL_law) (h3 : Cond.code Lib.Math.max.name Lib.Math.max.code 2 (some .int) ∈ wsL_law) (hdd : 1 ≤ d) (hst : (st.map fun v => v.category).sum ≤ 8) (hk : k ≤ K) (hn : n ≤ N)
    (h : yW Γ nL (pc + 3) L (.int (Int32.ofInt (if xw x < xw y then y else x)) :: st) ws k n) : yW Γ nL pc L (.int (Int32.ofInt y) :: .int (Int32.ofInt x) :: st) ws k n := by
  obtain ⟨⟨p, l, e, R, s, m0, args, below, meth, c⟩, ⟨A, dC, dI, dA, sa⟩, Q⟩ := Γ
  obtain ⟨hx, hb, hml, hown, hts, hK, hA, ⟨hfr, hlo⟩, hce, hT, hX⟩ := C
  intro H locs ls hP hD hS hv
  refine va_mmax hx hb (hml.trans hv.1.symm) hown (hts _ hl) (hts _ h1) (hts _ h2) (hts _ h3) (by omega) (by omega) (by omega) (by omega) hd ?_
  have e : (if Int32.ofInt x < Int32.ofInt y then Int32.ofInt y else Int32.ofInt x) = Int32.ofInt (if xw x < xw y then y else x) := by
    by_cases hc : xw x < xw y
    · rw [if_pos hc, if_pos (xof_lt.mpr hc)]
    · rw [if_neg hc, if_neg (fun q => hc (xof_lt.mp q))]
  rw [e]
  exact h H locs ls hP hD hS hv
theorem t_min (C : yC Γ own cc nL d K N) {idx : Nat} {x y : Int} (hd : decode cc pc = .ok (.invokestatic idx, 3)) (hl : Cond.methodLink own idx Lib.Math.min.name ∈ wsL_law) (h1 : Cond.static Lib.Math.min.name ∈ wsL_law) (h2 : Cond.initialized "java/lang/Math" ∈ wsL_law) (h3 : Cond.code Lib.Math.min.name Lib.Math.min.code 2 (some .int) ∈ wsL_law) (hdd : 1 ≤ d) (hst : (st.map fun v => v.category).sum ≤ 8) (hk : k ≤ K) (hn : n ≤ N)
    (h : yW Γ nL (pc + 3) L (.int (Int32.ofInt (if xw y < xw x then y else x)) :: st) ws k n) : yW Γ nL pc L (.int (Int32.ofInt y) :: .int (Int32.ofInt x) :: st) ws k n := by
  obtain ⟨⟨p, l, e, R, s, m0, args, below, meth, c⟩, ⟨A, dC, dI, dA, sa⟩, Q⟩ := Γ
  obtain ⟨hx, hb, hml, hown, hts, hK, hA, ⟨hfr, hlo⟩, hce, hT, hX⟩ := C
  intro H locs ls hP hD hS hv
  refine va_mmin hx hb (hml.trans hv.1.symm) hown (hts _ hl) (hts _ h1) (hts _ h2) (hts _ h3) (by omega) (by omega) (by omega) (by omega) hd ?_
  have e : (if Int32.ofInt y < Int32.ofInt x then Int32.ofInt y else Int32.ofInt x) = Int32.ofInt (if xw y < xw x then y else x) := by
    by_cases hc : xw y < xw x
    · rw [if_pos hc, if_pos (xof_lt.mpr hc)]
    · rw [if_neg hc, if_neg (fun q => hc (xof_lt.mp q))]
  rw [e]
  exact h H locs ls hP hD hS hv
/-- System.arraycopy of bytes: within the world; out of a constant text -/
theorem t_copy (C : yC Γ own cc nL d K N) {idx a0 a1 n0 n1 w : Nat} {f g : Nat → Int32} (q0 q1 : Nat) (hd : decode cc pc = .ok (.invokestatic idx, 3)) (hl : Cond.methodLink own idx arraycopyName ∈ wsL_law) (h1 : Cond.native arraycopyName ∈ wsL_law) (h2 : Cond.static arraycopyName ∈ wsL_law) (h3 : Cond.initialized "java/lang/System" ∈ wsL_law) (ha0 : ws[q0]? = some (a0, .inl (yDA Γ 4, n0, .inl f))) (ha1 : ws[q1]? = some (a1, .inl (yDA Γ 4, n1, .inl g))) (hw0 : w ≤ n0) (hw1 : w ≤ n1) (hw2 : w ≤ 65536) (hfit : ∀ i, fits .byte (.int (f i)) = true) (hdd : 1 ≤ d) (hst : (st.map fun v => v.category).sum ≤ 8)
    (h : yW Γ nL (pc + 3) L st (ws.set q1 (a1, .inl (yDA Γ 4, n1, .inl (va_cpy f g 0 0 w)))) k n) : yW Γ nL pc L (.int (Int32.ofInt (w : Int)) :: .int 0 :: .ref a1 :: .int 0 :: .ref a0 :: st) ws k n := by
  obtain ⟨⟨p, l, e, R, s, m0, args, below, meth, c⟩, ⟨A, dC, dI, dA, sa⟩, Q⟩ := Γ
  obtain ⟨hx, hb, hml, hown, hts, hK, hA, ⟨hfr, hlo⟩, hce, hT, hX⟩ := C
  intro H locs ls hP hD hS hv
  have hc : (Int32.ofInt (w : Int)).toNatClampNeg = w := by
    show (xw (w : Int)).toNat = w
    rw [b_xw (by omega)]; exact Int.toNat_natCast _
  have h0 : ¬ Int32.ofInt (w : Int) < 0 := fun z => by
    have := xz_lt.mp z
    rw [b_xw (by omega)] at this
    omega
  refine va_copyi hx hb (hml.trans hv.1.symm) hown (hts _ hl) (hts _ h1) (hts _ h2) (hts _ h3) hK hP hD hS q0 q1 4 4 ha0 ha1 rfl rfl rfl (sp := 0) (dp := 0) (by decide) (by decide) h0 (by rw [hc]; show 0 + w ≤ n0; omega) (by rw [hc]; show 0 + w ≤ n1; omega) (fun i _ => hfit _) (by omega) (by have := t_nat; omega) hd (fun H1 locs1 hP1 hD1 hS1 => ?_)
  rw [hc] at hP1 hD1
  exact h H1 locs1 ls hP1 hD1 hS1 hv
theorem t_copyT (C : yC Γ own cc nL d K N) {idx a1 n1 t : Nat} {g : Nat → Int32} (i : Nat) (hi : i < 26) (q1 : Nat) (hd : decode cc pc = .ok (.invokestatic idx, 3)) (hl : Cond.methodLink own idx arraycopyName ∈ wsL_law) (h1 : Cond.native arraycopyName ∈ wsL_law) (h2 : Cond.static arraycopyName ∈ wsL_law) (h3 : Cond.initialized "java/lang/System" ∈ wsL_law) (ha1 : ws[q1]? = some (a1, .inl (yDA Γ 4, n1, .inl g))) (ht : t + (xSby.getD i []).length ≤ n1) (hn1 : n1 ≤ 65536) (hdd : 1 ≤ d) (hst : (st.map fun v => v.category).sum ≤ 8)
    (h : yW Γ nL (pc + 3) L st (ws.set q1 (a1, .inl (yDA Γ 4, n1, .inl (va_cpy (fun j => (xSby.getD i []).getD j 0) g 0 t (xSby.getD i []).length)))) k n) : yW Γ nL pc L (.int (Int32.ofInt (xsl i)) :: .int (Int32.ofInt (t : Int)) :: .ref a1 :: .int 0 :: .ref (ySA Γ (1000 + (100 + i))) :: st) ws k n := by
  obtain ⟨⟨p, l, e, R, s, m0, args, below, meth, c⟩, ⟨A, dC, dI, dA, sa⟩, Q⟩ := Γ
  obtain ⟨hx, hb, hml, hown, hts, hK, hA, ⟨hfr, hlo⟩, hce, hT, hX⟩ := C
  intro H locs ls hP hD hS hv
  have hc : (Int32.ofInt (xsl i)).toNatClampNeg = (xSby.getD i []).length := by
    show (xw (xsl i)).toNat = _
    unfold xsl
    rw [b_xw (by omega)]; exact Int.toNat_natCast _
  have hct : (Int32.ofInt (t : Int)).toNatClampNeg = t := by
    show (xw (t : Int)).toNat = t
    rw [b_xw (by omega)]; exact Int.toNat_natCast _
  have h0 : ¬ Int32.ofInt (xsl i) < 0 := fun z => by
    have := xz_lt.mp z
    unfold xsl at this
    rw [b_xw (by omega)] at this
    omega
  have h0t : ¬ Int32.ofInt (t : Int) < 0 := fun z => by
    have := xz_lt.mp z
    rw [b_xw (by omega)] at this
    omega
  refine vk_copyt hx hb (hml.trans hv.1.symm) hown (hts _ hl) (hts _ h1) (hts _ h2) (hts _ h3) hK hP hD hS (f := fun j => (xSby.getD i []).getD j 0) (hX.1.1 i hi).2.2.2 q1 4 ha1 rfl (sp := 0) (by decide) h0t h0 (by rw [hc]; show 0 + _ ≤ _; omega) (by rw [hc, hct]; exact ht) (fun j hj => by rw [hc] at hj; exact xsby_fit i hi _ (by show 0 + j < _; omega)) (by omega) (by have := t_nat; omega) hd (fun H1 locs1 hP1 hD1 hS1 => ?_)
  rw [hc, hct] at hP1 hD1
  exact h H1 locs1 ls hP1 hD1 hS1 hv
end TS

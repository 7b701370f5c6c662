/-! ===== constructors: worlds that grow ===== -/
def yTb : List Cond := [.methodLinkNest RX10 9 yX6_init "ModemLink", .methodLinkNest RX3 11 yX1_init "ModemLink", .methodLinkNest RX1 20 yX2_init "ModemLink", .methodLinkNest RX1 27 yX0_init "ModemLink", .methodLinkNest RX3 23 yX9_init "ModemLink", .methodLinkNest RX3 30 yX4_init "ModemLink", .methodLinkNest RX3 41 yX0_init "ModemLink"]
def yTab (U : State) : Prop := (∀ w ∈ yTb, va_Nw w U) ∧ va_AO "ModemLink$Line" U
theorem yTb_on : ∀ w ∈ yTb, w.onTables = true := List.all_eq_true.mp (by decide +kernel)
theorem yTab.same {u U : State} (hv : U.vm = u.vm) (h : yTab u) : yTab U := by
  have ha : u.vm.Alike U.vm := by rw [hv]; exact Vm.Alike.refl u.vm
  exact ⟨fun w hw => va_Nw.same (yTb_on w hw) hv.symm (h.1 w hw), h.2.moved ha⟩
theorem yTab.warm {u U : State} (hW : u.WarmedH U.vm) (h : yTab u) : yTab U := by
  refine ⟨fun w hw => ?_, h.2.moved hW.alike⟩
  have h0 := h.1 w hw
  simp only [yTb, List.mem_cons, List.not_mem_nil, or_false] at hw
  rcases hw with rfl | rfl | rfl | rfl | rfl | rfl | rfl <;> exact va_Nw.warmM hW h0
/-- what stands outside: the constant texts, and how texts are kept -/
def ySt (ad : Nat → Nat) (A : Nat → Prop) (U : State) (H : Heap) : Prop := xStr ad A U H ∧ va_Z "java/lang/String" "COMPACT_STRINGS" "Z" (.int 1) A U H
theorem ySt.goes {ad ad' : Nat → Nat} {A B : Nat → Prop} {u U : State} {H H1 : Heap} (hW : u.WarmedH U.vm) (h : ySt ad A u H) (had : ∀ i : Nat, ad' (1000 + i) = ad (1000 + i)) (hq : ∀ a : Nat, a < H.size → ¬ A a → H1[a]? = H[a]?) (hAB : ∀ q, B q → A q) : ySt ad' B U H1 :=
  ⟨xStr.goes hW h.1 had hq hAB, ((h.2.moved hW.alike).kept hq).narrow hAB⟩
theorem ySt.same {ad : Nat → Nat} {A : Nat → Prop} {u U : State} {H : Heap} (hv : U.vm = u.vm) (h : ySt ad A u H) : ySt ad A U H := by
  have ha : u.vm.Alike U.vm := by rw [hv]; exact Vm.Alike.refl u.vm
  exact ⟨xStr.same hv h.1, h.2.moved ha⟩
def yA (h0 sz : Nat) : Nat → Prop := fun q => q = h0 ∨ sz ≤ q
abbrev ytys (dA : Nat → ClassId) : List (ClassId × FieldType) := [(dA 0, .int), (dA 1, .long), (dA 2, .object "ModemLink$Line"), (dA 3, .boolean), (dA 4, .array .int), (dA 5, .array (.array .int)), (dA 6, .byte)]
def yPre (dC : Nat → ClassId) (dI : Nat → Nat → Nat) (dA : Nat → ClassId) (ad0 : Nat → Nat) (e0 : va_E) (sz : Nat) (U : State) : Prop :=
  U.heap.size = sz ∧ va_P (dC, dI) vwCl [(ad0 0, e0)] U.heap ∧ va_K (dC, dI) vwCl (ytys dA) U ∧ yTab U ∧ ySt ad0 (yA (ad0 0) sz) U U.heap
def yrm (d K N : Nat) : Room := { frames := d, cells := K, slots := N, locals := 30 * d }
/-- a constructor: the raw object, and what it makes, are a world of this layout -/
def yMet (l : Launch) (y : MethodName) (cc : ByteArray) (maxL d K N : Nat) (e0 : va_E) (av : (Nat → Nat) → List Value) (nl : Nat) (Wd : (Nat → ClassId) → (Nat → Nat) → va_W) : Prop :=
  ∀ (dC : Nat → ClassId) (dI : Nat → Nat → Nat) (dA : Nat → ClassId) (ad0 : Nat → Nat) (sz : Nat), Met l y (Cond.code y cc maxL none :: wsL_law) (yrm d K N) (va_Pc (Value.ref (ad0 0) :: av ad0) (yPre dC dI dA ad0 e0 sz))
    (va_Qv (fun ad : Nat → Nat => ∀ i, (i = 0 ∨ nl ≤ i) → ad i = ad0 i) (fun ad t => va_P (dC, dI) vwCl (Wd dA ad) t.heap ∧ va_D (yA (ad0 0) sz) (Wd dA ad)) (yA (ad0 0) sz)) K N (yA (ad0 0) sz)
theorem yPre_blind (av : List Value) (dC : Nat → ClassId) (dI : Nat → Nat → Nat) (dA : Nat → ClassId) (ad0 : Nat → Nat) (e0 : va_E) (sz : Nat) : FrameBlind (va_Pc av (yPre dC dI dA ad0 e0 sz)) := by
  intro a U g mk q
  obtain ⟨q0, q1, qP, qK, qT, qS⟩ := q
  exact ⟨q0, q1, qP, va_K.moved (u := U) (U := U.calling g mk a) (Vm.Alike.refl U.vm) qK, qT.same (u := U) (U := U.calling g mk a) rfl, qS.same (u := U) (U := U.calling g mk a) rfl⟩
abbrev yG : Type := (Program × Launch × Env × Room × State × MethodId × Array Value × List Frame × Method × Code) × ((Nat → Prop) × (Nat → ClassId) × (Nat → Nat → Nat) × (Nat → ClassId) × (Nat → Nat)) × (State → Prop)
def yW (Γ : yG) (nL pc : Nat) (L : List (Nat × Value)) (st : List Value) (ws : va_W) (k n : Nat) : Prop := match Γ with
  | ((p, l, e, R, s, m0, args, below, meth, c), (A, dC, dI, dA, sa), Q) => ∀ (H : Heap) (locs : List Loc) (ls : Array Slot), va_P (dC, dI) vwCl ws H → va_D A ws → va_S A s.heap H locs → lv_has ls nL L → W p l e R s m0 args below meth c H locs k n Q (F0 m0 pc ls st)
def yC (Γ : yG) (own : String) (cc : ByteArray) (nL d K N : Nat) : Prop := match Γ with
  | ((p, l, e, R, s, m0, args, below, meth, c), (A, dC, dI, dA, sa), Q) => p.tables.exec = Jvm.exec ∧ c.code = cc ∧ c.maxLocals = nL ∧ s.vm.findClass own = some m0.cls ∧ (∀ w ∈ wsL_law, w.before args s = true) ∧ va_K (dC, dI) vwCl (ytys dA) s ∧ (∀ q : Nat, s.heap.size ≤ q → A q) ∧ (d ≤ R.frames ∧ 30 * d ≤ R.locals) ∧ (K ≤ R.cells ∧ N ≤ R.slots) ∧ yTab s ∧ ySt sa A s s.heap
def yIn (Γ : yG) : Prop := match Γ with
  | ((p, l, e, R, s, m0, args, below, meth, c), (A, dC, dI, dA, sa), Q) => meth.name = "<init>"
abbrev yDA (Γ : yG) : Nat → ClassId := Γ.2.1.2.2.2.1
abbrev ySA (Γ : yG) : Nat → Nat := Γ.2.1.2.2.2.2
/-- what the tables say of a class that is made -/
def yCl (own : String) (idx ci N : Nat) (fs : List Value) : Prop := ∃ (C : String) (T : u_T) (ty : Nat → FieldType), vwCl[ci]? = some (C, T, N) ∧ (∀ w ∈ u_ws C T N, w ∈ wsL_law) ∧ (∀ k, k < N → parseFieldDescriptor (T k).2.2.1 = some (ty k)) ∧ Cond.classLink own idx C ∈ wsL_law ∧ Cond.instantiable C N ∈ wsL_law ∧ Cond.initialized C ∈ wsL_law ∧ ∀ j, j < N → defaultValue (ty j) = vp_V fs j
section YX
variable {Γ : yG} {own : String} {cc : ByteArray} {nL d pc K N k n : Nat} {L : List (Nat × Value)} {st : List Value} {ws : va_W}
theorem y_aload (C : yC Γ own cc nL d K N) {kk : Fin 4} {i x : Nat} (pl : Nat) (hd : decode cc pc = .ok (.aload_n kk, 1)) (hi : (kk : Nat) = i) (hL : L[pl]? = some (i, .ref x)) (h : yW Γ nL (pc + 1) L (.ref x :: st) ws k n) : yW Γ nL pc L st ws k n := by
  obtain ⟨⟨p, l, e, R, s, m0, args, below, meth, c⟩, ⟨A, dC, dI, dA, sa⟩, Q⟩ := Γ
  obtain ⟨hx, hb, -⟩ := C
  intro H locs ls hP hD hS hv
  exact lv_aload_n hx hb hd hi (lv_at hv pl hL) (h H locs ls hP hD hS hv)
theorem y_bipush (C : yC Γ own cc nL d K N) {z : Int} {v : Int32} (hd : decode cc pc = .ok (.bipush z, 2)) (hv : (Int8.ofInt z).toInt32 = v) (h : yW Γ nL (pc + 2) L (.int v :: st) ws k n) : yW Γ nL pc L st ws k n := by
  obtain ⟨⟨p, l, e, R, s, m0, args, below, meth, c⟩, ⟨A, dC, dI, dA, sa⟩, Q⟩ := Γ
  obtain ⟨hx, hb, -⟩ := C
  intro H locs ls hP hD hS hl
  exact lv_bipush hx hb hd hv (h H locs ls hP hD hS hl)
theorem y_sipush (C : yC Γ own cc nL d K N) {z : Int} {v : Int32} (hd : decode cc pc = .ok (.sipush z, 3)) (hv : (Int16.ofInt z).toInt32 = v) (h : yW Γ nL (pc + 3) L (.int v :: st) ws k n) : yW Γ nL pc L st ws k n := by
  obtain ⟨⟨p, l, e, R, s, m0, args, below, meth, c⟩, ⟨A, dC, dI, dA, sa⟩, Q⟩ := Γ
  obtain ⟨hx, hb, -⟩ := C
  intro H locs ls hP hD hS hl
  exact lv_sipush hx hb hd hv (h H locs ls hP hD hS hl)
theorem y_iconst (C : yC Γ own cc nL d K N) {z : Int} {v : Int32} (hd : decode cc pc = .ok (.iconst z, 1)) (hv : Int32.ofInt z = v) (h : yW Γ nL (pc + 1) L (.int v :: st) ws k n) : yW Γ nL pc L st ws k n := by
  obtain ⟨⟨p, l, e, R, s, m0, args, below, meth, c⟩, ⟨A, dC, dI, dA, sa⟩, Q⟩ := Γ
  obtain ⟨hx, hb, -⟩ := C
  intro H locs ls hP hD hS hl
  exact lv_iconst hx hb hd hv (h H locs ls hP hD hS hl)
theorem y_ldc (C : yC Γ own cc nL d K N) {idx : Nat} {v : Int32} (hd : decode cc pc = .ok (.ldc idx, 2)) (hw : Cond.constant own idx v ∈ wsL_law) (h : yW Γ nL (pc + 2) L (.int v :: st) ws k n) : yW Γ nL pc L st ws k n := by
  obtain ⟨⟨p, l, e, R, s, m0, args, below, meth, c⟩, ⟨A, dC, dI, dA, sa⟩, Q⟩ := Γ
  obtain ⟨hx, hb, hml, hown, hts, -⟩ := C
  intro H locs ls hP hD hS hl
  exact lv_ldc hx hb hown (hts _ hw) hd (h H locs ls hP hD hS hl)
theorem y_ldcS (C : yC Γ own cc nL d K N) {idx : Nat} (tx : String) (i : Nat) (hd : decode cc pc = .ok (.ldc idx, 2)) (hr : (own, idx, tx, i) ∈ xSref) (h : yW Γ nL (pc + 2) L (.ref (ySA Γ (1000 + i)) :: st) ws k n) : yW Γ nL pc L st ws k n := by
  obtain ⟨⟨p, l, e, R, s, m0, args, below, meth, c⟩, ⟨A, dC, dI, dA, sa⟩, Q⟩ := Γ
  obtain ⟨hx, hb, hml, hown, hts, hK, hA, hfr, hce, hT, hX⟩ := C
  intro H locs ls hP hD hS hv
  exact va_ldcS hx hb hown (hX.1.2.1 _ hr) hd (h H locs ls hP hD hS hv)
theorem y_dup (C : yC Γ own cc nL d K N) {x : Nat} (hd : decode cc pc = .ok (.dup, 1)) (h : yW Γ nL (pc + 1) L (.ref x :: .ref x :: st) ws k n) : yW Γ nL pc L (.ref x :: st) ws k n := by
  obtain ⟨⟨p, l, e, R, s, m0, args, below, meth, c⟩, ⟨A, dC, dI, dA, sa⟩, Q⟩ := Γ
  obtain ⟨hx, hb, -⟩ := C
  intro H locs ls hP hD hS hl
  exact lv_dup hx hb hd rfl (h H locs ls hP hD hS hl)
theorem y_newa (C : yC Γ own cc nL d K N) {v : Int32} {N' : Nat} (hd : decode cc pc = .ok (.newarray .int, 2)) (hw : Cond.arrayClass .int ∈ wsL_law) (h0 : ¬ v < 0) (hN : v.toNatClampNeg = N') (hb4 : N' * 4 ≤ 536870912) (hk : k + 1 ≤ K) (hn : n + N' ≤ N)
    (h : ∀ q : Nat, yW Γ nL (pc + 2) L (.ref q :: st) (ws ++ [(q, .inl (yDA Γ 0, N', .inl (fun _ => 0)))]) (k + 1) (n + N')) : yW Γ nL pc L (.int v :: st) ws k n := by
  obtain ⟨⟨p, l, e, R, s, m0, args, below, meth, c⟩, ⟨A, dC, dI, dA, sa⟩, Q⟩ := Γ
  obtain ⟨hx, hb, hml, hown, hts, hK, hA, hfr, hce, hT, hX⟩ := C
  intro H locs ls hP hD hS hl
  refine va_newa (atype := .int) hx hb (hts _ hw) rfl hK hP hD hS hA (N' := N') (a0 := (N', .inl (fun _ => 0))) (fun _ => rfl) h0 hN hb4 (by omega) (by omega) hd (fun q cA H1 hK1 hP1 hD1 hS1 => ?_)
  have e1 : cA = dA 0 := by
    have h1 : s.vm.findClass ("[" ++ (FieldType.int).toString) = some cA := (hK1.2 7 _ rfl).2
    have h2 : s.vm.findClass ("[" ++ (FieldType.int).toString) = some (dA 0) := (hK1.2 0 _ rfl).2
    exact Option.some.inj (h1.symm.trans h2)
  subst e1
  exact h q H1 locs ls hP1 hD1 hS1 hl
theorem y_newl (C : yC Γ own cc nL d K N) {v : Int32} {N' : Nat} (hd : decode cc pc = .ok (.newarray .long, 2)) (hw : Cond.arrayClass .long ∈ wsL_law) (h0 : ¬ v < 0) (hN : v.toNatClampNeg = N') (hb4 : N' * 8 ≤ 536870912) (hk : k + 1 ≤ K) (hn : n + N' ≤ N)
    (h : ∀ q : Nat, yW Γ nL (pc + 2) L (.ref q :: st) (ws ++ [(q, .inl (yDA Γ 1, N', .inr (.inl (fun _ => 0))))]) (k + 1) (n + N')) : yW Γ nL pc L (.int v :: st) ws k n := by
  obtain ⟨⟨p, l, e, R, s, m0, args, below, meth, c⟩, ⟨A, dC, dI, dA, sa⟩, Q⟩ := Γ
  obtain ⟨hx, hb, hml, hown, hts, hK, hA, hfr, hce, hT, hX⟩ := C
  intro H locs ls hP hD hS hl
  refine va_newa (atype := .long) hx hb (hts _ hw) rfl hK hP hD hS hA (N' := N') (a0 := (N', .inr (.inl (fun _ => 0)))) (fun _ => rfl) h0 hN hb4 (by omega) (by omega) hd (fun q cA H1 hK1 hP1 hD1 hS1 => ?_)
  have e1 : cA = dA 1 := by
    have h1 : s.vm.findClass ("[" ++ (FieldType.long).toString) = some cA := (hK1.2 7 _ rfl).2
    have h2 : s.vm.findClass ("[" ++ (FieldType.long).toString) = some (dA 1) := (hK1.2 1 _ rfl).2
    exact Option.some.inj (h1.symm.trans h2)
  subst e1
  exact h q H1 locs ls hP1 hD1 hS1 hl
theorem y_new (C : yC Γ own cc nL d K N) {idx ci N' : Nat} {fs : List Value} (hd : decode cc pc = .ok (.new idx, 3)) (hC : yCl own idx ci N' fs) (hk : k + 1 ≤ K) (hn : n + N' ≤ N)
    (h : ∀ q : Nat, yW Γ nL (pc + 3) L (.ref q :: st) (ws ++ [(q, .inr (ci, fs))]) (k + 1) (n + N')) : yW Γ nL pc L st ws k n := by
  obtain ⟨⟨p, l, e, R, s, m0, args, below, meth, c⟩, ⟨A, dC, dI, dA, sa⟩, Q⟩ := Γ
  obtain ⟨hx, hb, hml, hown, hts, hK, hA, hfr, hce, hT, hX⟩ := C
  obtain ⟨Cn, T, ty, c1, c2, c3, c4, c5, c6, c7⟩ := hC
  intro H locs ls hP hD hS hl
  exact va_new (ci := ci) (fs := fs) (C := Cn) (T := T) (N := N') hx hb hts c2 ty c3 hown (hts _ c4) (hts _ c5) (hts _ c6) hK hP hD hS hA c1 c7 (by omega) (by omega) hd (fun q H1 hP1 hD1 hS1 => h q H1 locs ls hP1 hD1 hS1 hl)
theorem y_obj (C : yC Γ own cc nL d K N) {idx x : Nat} (hd : decode cc pc = .ok (.invokespecial idx, 3)) (h1 : Cond.methodLink own idx objectInit ∈ wsL_law) (h2 : Cond.instanceMethod objectInit ∈ wsL_law) (h3 : Cond.code objectInit ⟨#[0xb1]⟩ 1 none ∈ wsL_law) (hdd : 1 ≤ d) (h : yW Γ nL (pc + 3) L [] ws k n) : yW Γ nL pc L [.ref x] ws k n := by
  obtain ⟨⟨p, l, e, R, s, m0, args, below, meth, c⟩, ⟨A, dC, dI, dA, sa⟩, Q⟩ := Γ
  obtain ⟨hx, hb, hml, hown, hts, hK, hA, ⟨hfr, hlo⟩, hce, hT, hX⟩ := C
  intro H locs ls hP hD hS hl
  refine W.objInit hx hb hown (hts _ h1) (hts _ h2) (hts _ h3) rfl (by rw [hml]; exact hl.1) rfl hd (by omega) (by show 2 * 0 + 0 + _ ≤ _; omega) ?_
  exact W.eq (g2 := F0 m0 (pc + 3) ls []) rfl (h H locs ls hP hD hS hl)
theorem y_putF (C : yC Γ own cc nL d K N) (hI : yIn Γ) {idx ci j h0 : Nat} {t : FieldType} {v : Value} {fs : List Value} {wr : va_W} (hd : decode cc pc = .ok (.putfield idx, 3)) (hF : xF own idx ci j t true) (hc : ∃ T N, vwCl[ci]? = some (own, T, N)) (hnar : narrow t v = v) (hfit : fits t v = true) (hj : j < fs.length)
    (h : yW Γ nL (pc + 3) L st ((h0, .inr (ci, fs.set j v)) :: wr) k n) : yW Γ nL pc L (v :: .ref h0 :: st) ((h0, .inr (ci, fs)) :: wr) k n := by
  obtain ⟨⟨p, l, e, R, s, m0, args, below, meth, c⟩, ⟨A, dC, dI, dA, sa⟩, Q⟩ := Γ
  obtain ⟨hx, hb, hml, hown, hts, hK, hA, hfr, hce, hT, hX⟩ := C
  obtain ⟨C, T, N, ty, h1, h2, h3, h4, h5, h6, h7, h8, h9⟩ := hF
  have hCo : (T j).1 = own := by
    obtain ⟨T2, N2, hc⟩ := hc
    rw [h4]
    have := h1.symm.trans hc
    exact congrArg (fun z : vw_C => z.1) (Option.some.inj this)
  intro H locs ls hP hD hS hl
  exact va_putF (own := own) (ref := C) (C := C) (T := T) (N := N) hx hb hts h5 ty h6 h7 hown hK hP hD hS 0 rfl h1 j h2 (hts _ h3) (fun z hz => by rw [h4] at hz; exact hz) h9 hI hCo (ty := t) (v := v) (by rw [h6 j h2, h8]) hnar hfit hj hd (fun H1 locs1 hP1 hD1 hS1 => h H1 locs1 ls hP1 hD1 hS1 hl)
theorem y_put (C : yC Γ own cc nL d K N) {idx ci j h0 : Nat} {t : FieldType} {v : Value} {fs : List Value} {wr : va_W} (hd : decode cc pc = .ok (.putfield idx, 3)) (hF : xF own idx ci j t false) (hnar : narrow t v = v) (hfit : fits t v = true) (hj : j < fs.length)
    (h : yW Γ nL (pc + 3) L st ((h0, .inr (ci, fs.set j v)) :: wr) k n) : yW Γ nL pc L (v :: .ref h0 :: st) ((h0, .inr (ci, fs)) :: wr) k n := by
  obtain ⟨⟨p, l, e, R, s, m0, args, below, meth, c⟩, ⟨A, dC, dI, dA, sa⟩, Q⟩ := Γ
  obtain ⟨hx, hb, hml, hown, hts, hK, hA, hfr, hce, hT, hX⟩ := C
  obtain ⟨C, T, N, ty, h1, h2, h3, h4, h5, h6, h7, h8, h9⟩ := hF
  intro H locs ls hP hD hS hl
  exact va_put (own := own) (ref := C) (C := C) (T := T) (N := N) hx hb hts h5 ty h6 h7 hown hK hP hD hS 0 rfl h1 j h2 (hts _ h3) (fun z hz => by rw [h4] at hz; exact hz) h9 (ty := t) (v := v) (by rw [h6 j h2, h8]) hnar hfit hj hd (fun H1 locs1 hP1 hD1 hS1 => h H1 locs1 ls hP1 hD1 hS1 hl)
theorem y_get (C : yC Γ own cc nL d K N) {idx ci j x : Nat} {t : FieldType} {fin : Bool} {v : Value} {fs : List Value} (q0 : Nat) (hd : decode cc pc = .ok (.getfield idx, 3)) (hF : xF own idx ci j t fin) (he : ws[q0]? = some (x, .inr (ci, fs))) (hv : fs[j]? = some v)
    (h : yW Γ nL (pc + 3) L (v :: st) ws k n) : yW Γ nL pc L (.ref x :: st) ws k n := by
  obtain ⟨⟨p, l, e, R, s, m0, args, below, meth, c⟩, ⟨A, dC, dI, dA, sa⟩, Q⟩ := Γ
  obtain ⟨hx, hb, hml, hown, hts, hK, hA, hfr, hce, hT, hX⟩ := C
  obtain ⟨C, T, N, ty, h1, h2, h3, h4, h5, h6, h7, h8, h9⟩ := hF
  intro H locs ls hP hD hS hl
  exact va_get (own := own) (ref := C) (C := C) (T := T) (N := N) hx hb hts h5 hown hK hP q0 he h1 j h2 (hts _ h3) (fun z hz => by rw [h4] at hz; exact hz) hv hd (h H locs ls hP hD hS hl)
end YX

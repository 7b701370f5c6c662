/-! ===== the law: its world, its steps ===== -/
/-- what the law's frame has beside a constructor's: the script, and what a throw wants -/
def lC (Γ : yG) (b Ln : Nat) (xs : Nat → Int32) : Prop := match Γ with
  | ((p, l, e, R, s, m0, args, below, meth, c), (A, dC, dI, dA, sa), Q) => va_X b Ln xs s s.heap ∧ b < s.heap.size ∧ ¬ A b ∧ xTh A s s.heap ∧ va_Nc xE1 xE2 s ∧ Ln ≤ 3072
/-- the text that format made, as the builder holds it -/
def tX (dA : Nat → ClassId) (t0 : Nat) (T : va_W) (G : bGt) : Prop := ∃ (t1 n cap : Nat) (ml : Int32) (f : Nat → Int32), T = [(t0, .inr (1, [.ref t1, .int 0, .int ml, .int (Int32.ofNat n)])), (t1, .inl (dA 4, cap, .inl f))] ∧ G.1 = n ∧ n ≤ cap ∧ n ≤ 60 ∧ cap ≤ 500 ∧ (∀ j, (f j).toInt8.toInt32 = f j) ∧ ∀ j, j < n → (32 ≤ G.2 j ∧ G.2 j ≤ 126) ∧ f j = Int32.ofInt (G.2 j)
def lwo (dA : Nat → ClassId) (o : Nat) (g : Nat → Int64) : Nat × va_E := (o, .inl (dA 1, 1, .inr (.inl g)))
/-- the whole world of the law: the cell for answers, the object, its text, the reference -/
def lw (dA : Nat → ClassId) (aX aM : Nat → Nat) (o : Nat) (g : Nat → Int64) (T : va_W) (m M : xM) : va_W := (lwo dA o g :: xwld aX dA m 0 lay_X) ++ (T ++ xwld aM dA M 0 lay_M)
def lI (dA : Nat → ClassId) (aX aM : Nat → Nat) (o : Nat) (ws : va_W) : Prop := ∃ (m M : xM) (g : Nat → Int64) (T : va_W) (G : bGt), bX G m M ∧ tX dA (aX 445) T G ∧ ws = lw dA aX aM o g T m M
/-- the labels of the two objects give the constant texts their places -/
def lS (Γ : yG) (aX aM : Nat → Nat) : Prop := (∀ i : Nat, aX (1000 + i) = ySA Γ (1000 + i)) ∧ ∀ i : Nat, aM (1000 + i) = ySA Γ (1000 + i)
section LX
variable {Γ : yG} {own : String} {cc : ByteArray} {nL d pc K N k n : Nat} {L : List (Nat × Value)} {st : List Value} {ws wa wb : va_W} {b Ln : Nat} {xs : Nat → Int32}
theorem y_sub {L' : List (Nat × Value)} (pls : List Nat) (hL : lv_pick L pls = L') (h : yW Γ nL pc L' st ws k n) : yW Γ nL pc L st ws k n := by
  obtain ⟨⟨p, l, e, R, s, m0, args, below, meth, c⟩, ⟨A, dC, dI, dA, sa⟩, Q⟩ := Γ
  intro H locs ls hP hD hS hv
  exact h H locs ls hP hD hS (lv_sub hv pls hL)
/-- the script's number at i + c -/
theorem y_arg (C : yC Γ own cc nL d K N) (Z : lC Γ b Ln xs) (p0 p4 c i : Nat) (d0 : decode cc pc = .ok (.aload_n 0, 1)) (d1 : decode cc (pc + 1) = .ok (.iload 4, 2)) (d2 : decode cc (pc + 3) = .ok (.iconst (c : Int), 1)) (d3 : decode cc (pc + 4) = .ok (.iadd, 1)) (d4 : decode cc (pc + 5) = .ok (.iaload, 1)) (h0 : L[p0]? = some (0, .ref b)) (h4 : L[p4]? = some (4, .int (Int32.ofInt (i : Nat)))) (hi : i + c < Ln) {v : Int32} (hv9 : xs (i + c) = v)
    (h : yW Γ nL (pc + 6) L (.int v :: st) ws k n) : yW Γ nL pc L st ws k n := by
  subst hv9
  obtain ⟨⟨p, l, e, R, s, m0, args, below, meth, cd⟩, ⟨A, dC, dI, dA, sa⟩, Q⟩ := Γ
  obtain ⟨hx, hb, -⟩ := C
  obtain ⟨z1, z2, z3, z4, z5, z6⟩ := Z
  intro H locs ls hP hD hS hv
  have e1 : Int32.ofInt (i : Int) + Int32.ofInt (c : Int) = Int32.ofInt ((i + c : Nat) : Int) := by rw [← Int32.ofInt_add]; rfl
  have e2 : (Int32.ofInt ((i + c : Nat) : Int)).toNatClampNeg = i + c := by
    show (xw ((i + c : Nat) : Int)).toNat = _
    rw [b_xw (by omega)]; exact Int.toNat_natCast _
  refine lv_aload_n (i := 0) hx hb d0 rfl (lv_at hv p0 h0) ?_
  refine lv_iload hx hb d1 (lv_at hv p4 h4) ?_
  refine lv_iconst hx hb d2 rfl ?_
  refine lv_iadd hx hb d3 ?_
  rw [e1]
  refine va_sld hx hb z1 z2 z3 hS (xib_in (i := ((i + c : Nat) : Int)) (n := Ln) ⟨by rw [b_xw (by omega)]; omega, by rw [b_xw (by omega)]; omega⟩) d4 ?_
  rw [e2]
  exact h H locs ls hP hD hS hv
theorem y_slen (C : yC Γ own cc nL d K N) (Z : lC Γ b Ln xs) (hd : decode cc pc = .ok (.arraylength, 1)) (h : yW Γ nL (pc + 1) L (.int (Int32.ofNat Ln) :: st) ws k n) : yW Γ nL pc L (.ref b :: st) ws k n := by
  obtain ⟨⟨p, l, e, R, s, m0, args, below, meth, cd⟩, ⟨A, dC, dI, dA, sa⟩, Q⟩ := Γ
  obtain ⟨hx, hb, -⟩ := C
  obtain ⟨z1, z2, z3, z4, z5, z6⟩ := Z
  intro H locs ls hP hD hS hv
  exact va_slen hx hb z1 z2 z3 hS hd (h H locs ls hP hD hS hv)
theorem y_sld0 (C : yC Γ own cc nL d K N) (Z : lC Γ b Ln xs) {i : Nat} (hd : decode cc pc = .ok (.iaload, 1)) (hi : i < Ln) (h : yW Γ nL (pc + 1) L (.int (xs i) :: st) ws k n) : yW Γ nL pc L (.int (Int32.ofInt (i : Nat)) :: .ref b :: st) ws k n := by
  obtain ⟨⟨p, l, e, R, s, m0, args, below, meth, cd⟩, ⟨A, dC, dI, dA, sa⟩, Q⟩ := Γ
  obtain ⟨hx, hb, -⟩ := C
  obtain ⟨z1, z2, z3, z4, z5, z6⟩ := Z
  intro H locs ls hP hD hS hv
  have e2 : (Int32.ofInt (i : Int)).toNatClampNeg = i := by
    show (xw (i : Int)).toNat = _
    rw [b_xw (by omega)]; exact Int.toNat_natCast _
  refine va_sld hx hb z1 z2 z3 hS (xib_in (i := (i : Int)) (n := Ln) ⟨by rw [b_xw (by omega)]; omega, by rw [b_xw (by omega)]; omega⟩) hd ?_
  rw [e2]
  exact h H locs ls hP hD hS hv
theorem y_isub (C : yC Γ own cc nL d K N) {x y : Int32} (hd : decode cc pc = .ok (.isub, 1)) (h : yW Γ nL (pc + 1) L (.int (x - y) :: st) ws k n) : yW Γ nL pc L (.int y :: .int x :: st) ws k n := by
  obtain ⟨⟨p, l, e, R, s, m0, args, below, meth, cd⟩, ⟨A, dC, dI, dA, sa⟩, Q⟩ := Γ
  obtain ⟨hx, hb, -⟩ := C
  intro H locs ls hP hD hS hv
  exact lv_isub hx hb hd (h H locs ls hP hD hS hv)
theorem y_iand (C : yC Γ own cc nL d K N) {x y : Int32} (hd : decode cc pc = .ok (.iand, 1)) (h : yW Γ nL (pc + 1) L (.int (x &&& y) :: st) ws k n) : yW Γ nL pc L (.int y :: .int x :: st) ws k n := by
  obtain ⟨⟨p, l, e, R, s, m0, args, below, meth, cd⟩, ⟨A, dC, dI, dA, sa⟩, Q⟩ := Γ
  obtain ⟨hx, hb, -⟩ := C
  intro H locs ls hP hD hS hv
  exact lv_iand hx hb hd (h H locs ls hP hD hS hv)
theorem y_icmpgt (C : yC Γ own cc nL d K N) {x y : Int32} {off : Int} (tgt : Nat) (hd : decode cc pc = .ok (.if_icmp .gt off, 3)) (ht : (pc : Int) + off = (tgt : Int)) (h1 : y < x → yW Γ nL tgt L st ws k n) (h2 : ¬ y < x → yW Γ nL (pc + 3) L st ws k n) : yW Γ nL pc L (.int y :: .int x :: st) ws k n := by
  obtain ⟨⟨p, l, e, R, s, m0, args, below, meth, c⟩, ⟨A, dC, dI, dA, sa⟩, Q⟩ := Γ
  obtain ⟨hx, hb, -⟩ := C
  intro H locs ls hP hD hS hv
  exact lv_icmp_gt hx hb hd ht (fun h => h1 h H locs ls hP hD hS hv) (fun h => h2 h H locs ls hP hD hS hv)
theorem y_icmpeq (C : yC Γ own cc nL d K N) {x y : Int32} {off : Int} (tgt : Nat) (hd : decode cc pc = .ok (.if_icmp .eq off, 3)) (ht : (pc : Int) + off = (tgt : Int)) (he : x = y) (h1 : yW Γ nL tgt L st ws k n) : yW Γ nL pc L (.int y :: .int x :: st) ws k n := by
  obtain ⟨⟨p, l, e, R, s, m0, args, below, meth, c⟩, ⟨A, dC, dI, dA, sa⟩, Q⟩ := Γ
  obtain ⟨hx, hb, -⟩ := C
  intro H locs ls hP hD hS hv
  exact lv_icmp_eq hx hb hd ht (fun h => h1 H locs ls hP hD hS hv) (fun h => absurd he h)
theorem y_ifne0 (C : yC Γ own cc nL d K N) {off : Int} (tgt : Nat) (hd : decode cc pc = .ok (.ifCond .ne off, 3)) (ht : (pc : Int) + off = (tgt : Int)) (h1 : yW Γ nL (pc + 3) L st ws k n) : yW Γ nL pc L (.int 0 :: st) ws k n := by
  obtain ⟨⟨p, l, e, R, s, m0, args, below, meth, c⟩, ⟨A, dC, dI, dA, sa⟩, Q⟩ := Γ
  obtain ⟨hx, hb, -⟩ := C
  intro H locs ls hP hD hS hv
  exact lv_if_ne hx hb hd ht (fun h => absurd rfl h) (fun h => h1 H locs ls hP hD hS hv)
theorem y_ifne1 (C : yC Γ own cc nL d K N) {x : Int32} {off : Int} (tgt : Nat) (hd : decode cc pc = .ok (.ifCond .ne off, 3)) (ht : (pc : Int) + off = (tgt : Int)) (hx9 : x ≠ 0) (h1 : yW Γ nL tgt L st ws k n) : yW Γ nL pc L (.int x :: st) ws k n := by
  obtain ⟨⟨p, l, e, R, s, m0, args, below, meth, c⟩, ⟨A, dC, dI, dA, sa⟩, Q⟩ := Γ
  obtain ⟨hx, hb, -⟩ := C
  intro H locs ls hP hD hS hv
  exact lv_if_ne hx hb hd ht (fun h => h1 H locs ls hP hD hS hv) (fun h => absurd h (by simpa using hx9))
theorem y_ifeq0 (C : yC Γ own cc nL d K N) {off : Int} (tgt : Nat) (hd : decode cc pc = .ok (.ifCond .eq off, 3)) (ht : (pc : Int) + off = (tgt : Int)) (h1 : yW Γ nL tgt L st ws k n) : yW Γ nL pc L (.int 0 :: st) ws k n := by
  obtain ⟨⟨p, l, e, R, s, m0, args, below, meth, c⟩, ⟨A, dC, dI, dA, sa⟩, Q⟩ := Γ
  obtain ⟨hx, hb, -⟩ := C
  intro H locs ls hP hD hS hv
  exact lv_if_eq hx hb hd ht (fun h => h1 H locs ls hP hD hS hv) (fun h => absurd rfl h)
theorem y_ifeqx (C : yC Γ own cc nL d K N) {x : Int32} {off : Int} (tgt : Nat) (hd : decode cc pc = .ok (.ifCond .eq off, 3)) (ht : (pc : Int) + off = (tgt : Int)) (h1 : x = 0 → yW Γ nL tgt L st ws k n) (h2 : x ≠ 0 → yW Γ nL (pc + 3) L st ws k n) : yW Γ nL pc L (.int x :: st) ws k n := by
  obtain ⟨⟨p, l, e, R, s, m0, args, below, meth, c⟩, ⟨A, dC, dI, dA, sa⟩, Q⟩ := Γ
  obtain ⟨hx, hb, -⟩ := C
  intro H locs ls hP hD hS hv
  exact lv_if_eq hx hb hd ht (fun h => h1 (by simpa using h) H locs ls hP hD hS hv) (fun h => h2 (by simpa using h) H locs ls hP hD hS hv)
theorem y_table (C : yC Γ own cc nL d K N) {dflt lo hi off : Int} {offs : Array Int} {len : Nat} {x : Int32} (tgt : Nat) (v : Int) (hd : decode cc pc = .ok (.tableswitch dflt lo hi offs, len)) (hx2 : x.toInt = v) (h1 : ¬ v < lo) (h2 : ¬ hi < v) (ho : offs[(v - lo).toNat]? = some off) (ht : (pc : Int) + off = (tgt : Int)) (h : yW Γ nL tgt L st ws k n) : yW Γ nL pc L (.int x :: st) ws k n := by
  obtain ⟨⟨p, l, e, R, s, m0, args, below, meth, c⟩, ⟨A, dC, dI, dA, sa⟩, Q⟩ := Γ
  obtain ⟨hx, hb, -⟩ := C
  subst hx2
  intro H locs ls hP hD hS hv
  exact lv_tableIn hx hb hd h1 h2 ho ht (h H locs ls hP hD hS hv)
/-- a method of a middle part of the world -/
theorem y_callXm (C : yC Γ own cc nL d K N) {idx : Nat} {y : MethodName} {cY : ByteArray} {maxL nP dY b ci : Nat} {ret : Option FieldType} {fs : List (Option Nat)} {layY : List xS} {av : List xV} {m mY : xM} {rv : Option xV} (ad' : Nat → Nat) (hd : decode cc pc = .ok (.invokevirtual idx, 3)) (hl : Cond.methodLink own idx y ∈ wsL_law) (hY : xY y cY maxL ret nP) (hin : Cond.instanceMethod y ∈ wsL_law) (hse : Cond.selects y.cls y y ∈ wsL_law) (hdd : dY + 1 ≤ d) (hmax : maxL ≤ 40)
    (hb : layY[b]? = some (.inl (ci, fs))) (hci : ∃ TT N, vwCl[ci]? = some (y.cls, TT, N)) (hn : av.length = nP) (hst : (st.map fun v => v.category).sum ≤ 8) (hM : xMet Γ.1.2.1 y cY maxL ret dY layY (.inr (.inr (some b)) :: av) m rv mY) (hk : k ≤ K) (hn2 : n ≤ N) (hsa : ∀ i : Nat, ad' (1000 + i) = ySA Γ (1000 + i)) {stk : List Value} (hs : stk = (av.map (xval ad')).reverse ++ .ref (ad' b) :: st)
    (h : yW Γ nL (pc + 3) L ((rv.map (xval ad')).toList ++ st) ((wa ++ xwld ad' (yDA Γ) mY 0 layY) ++ wb) k n) : yW Γ nL pc L stk ((wa ++ xwld ad' (yDA Γ) m 0 layY) ++ wb) k n := by
  refine y_perm (ws' := (wa ++ wb) ++ xwld ad' (yDA Γ) m 0 layY) (by rw [List.append_assoc, List.append_assoc]; exact List.Perm.append_left wa List.perm_append_comm) ?_
  refine y_callX C ad' hd hl hY hin hse hdd hmax hb hci hn hst hM hk hn2 hsa hs ?_
  exact y_perm (ws' := (wa ++ xwld ad' (yDA Γ) mY 0 layY) ++ wb) (by rw [List.append_assoc, List.append_assoc]; exact List.Perm.append_left wa List.perm_append_comm) h
theorem y_lcmp0 (C : yC Γ own cc nL d K N) {x y : Int64} (hd : decode cc pc = .ok (.lcmp, 1)) (he : x = y) (h : yW Γ nL (pc + 1) L (.int 0 :: st) ws k n) : yW Γ nL pc L (.long y :: .long x :: st) ws k n := by
  obtain ⟨⟨p, l, e, R, s, m0, args, below, meth, c⟩, ⟨A, dC, dI, dA, sa⟩, Q⟩ := Γ
  obtain ⟨hx, hb, -⟩ := C
  subst he
  intro H locs ls hP hD hS hv
  refine W.lcmp hx hb hd ?_
  have e9 : lg_cmp x x = 0 := by
    unfold lg_cmp
    simp
  rw [e9]
  exact h H locs ls hP hD hS hv
/-- a method of the last part -/
theorem y_callXr (C : yC Γ own cc nL d K N) {idx : Nat} {y : MethodName} {cY : ByteArray} {maxL nP dY b ci : Nat} {ret : Option FieldType} {fs : List (Option Nat)} {layY : List xS} {av : List xV} {m mY : xM} {rv : Option xV} (ad' : Nat → Nat) (hd : decode cc pc = .ok (.invokevirtual idx, 3)) (hl : Cond.methodLink own idx y ∈ wsL_law) (hY : xY y cY maxL ret nP) (hin : Cond.instanceMethod y ∈ wsL_law) (hse : Cond.selects y.cls y y ∈ wsL_law) (hdd : dY + 1 ≤ d) (hmax : maxL ≤ 40)
    (hb : layY[b]? = some (.inl (ci, fs))) (hci : ∃ TT N, vwCl[ci]? = some (y.cls, TT, N)) (hn : av.length = nP) (hst : (st.map fun v => v.category).sum ≤ 8) (hM : xMet Γ.1.2.1 y cY maxL ret dY layY (.inr (.inr (some b)) :: av) m rv mY) (hk : k ≤ K) (hn2 : n ≤ N) (hsa : ∀ i : Nat, ad' (1000 + i) = ySA Γ (1000 + i)) {stk : List Value} (hs : stk = (av.map (xval ad')).reverse ++ .ref (ad' b) :: st)
    (h : yW Γ nL (pc + 3) L ((rv.map (xval ad')).toList ++ st) (wa ++ (wb ++ xwld ad' (yDA Γ) mY 0 layY)) k n) : yW Γ nL pc L stk (wa ++ (wb ++ xwld ad' (yDA Γ) m 0 layY)) k n := by
  rw [← List.append_assoc] at h ⊢
  exact y_callX C ad' hd hl hY hin hse hdd hmax hb hci hn hst hM hk hn2 hsa hs h
theorem lw_addr (dA : Nat → ClassId) (aX : Nat → Nat) (o : Nat) (g g' : Nat → Int64) (m m' : xM) : (lwo dA o g :: xwld aX dA m 0 lay_X).map Prod.fst = (lwo dA o g' :: xwld aX dA m' 0 lay_X).map Prod.fst := by
  rw [List.map_cons, List.map_cons, xwld_fst aX dA m m']; rfl
/-- a helper of the law, over the first part of the world -/
theorem y_callW (C : yC Γ own cc nL d K N) (Z : lC Γ b Ln xs) {idx : Nat} {y : MethodName} {cY : ByteArray} {maxL nP dY : Nat} {hh : List (Nat × Nat × Nat × Nat)} {ws1 ws1' : va_W} {As : List Value} {r : Int32} (hd : decode cc pc = .ok (.invokestatic idx, 3)) (hl : Cond.methodLink own idx y ∈ wsL_law) (hse : Cond.static y ∈ wsL_law) (hini : Cond.initialized y.cls ∈ wsL_law) (hcw : Cond.codeWith y cY maxL (some .int) hh ∈ wsL_law) (hdsc : y.cls ≠ "java/lang/invoke/MethodHandle" ∧ y.cls ≠ "java/lang/invoke/VarHandle" ∧ (parseMethodDescriptor y.desc).map (fun d => d.parameters.length) = some nP)
    (hdd : dY + 1 ≤ d) (hmax : maxL ≤ 40) (hn : As.length = nP) (hst : (st.map fun v => v.category).sum ≤ 8) (ad' : Nat → Nat) (hsa : ∀ i : Nat, ad' (1000 + i) = ySA Γ (1000 + i)) (hM : ∀ (dC : Nat → ClassId) (dI : Nat → Nat → Nat) (sz : Nat), wMet Γ.1.2.1 y (Cond.codeWith y cY maxL (some .int) hh) dY 1 6 As (some (.int r)) dC dI (yDA Γ) ad' ws1 ws1' sz) (haddr : ws1.map Prod.fst = ws1'.map Prod.fst) (hk : k + 1 ≤ K) (hn2 : n + 6 ≤ N) {stk : List Value} (hs : stk = As.reverse ++ st)
    (h : yW Γ nL (pc + 3) L (.int r :: st) (ws1' ++ wb) (k + 1) (n + 6)) : yW Γ nL pc L stk (ws1 ++ wb) k n := by
  subst hs
  obtain ⟨⟨p, l, e, R, s, m0, args, below, meth, c⟩, ⟨A, dC, dI, dA, sa⟩, Q⟩ := Γ
  obtain ⟨hx, hbc, hml, hown, hts, hK, hA, ⟨hfr, hlo⟩, ⟨hce, hsl⟩, hT, hX⟩ := C
  obtain ⟨z1, z2, z3, z4, z5, z6⟩ := Z
  intro H locs ls hP hD hS hv
  have hP1 : va_P (dC, dI) vwCl ws1 H := ya_app hP
  have hsub : ∀ (i : Nat) (q : Nat × va_E), ws1[i]? = some q → (ws1 ++ wb)[i]? = some q := fun i q hi => by rw [List.getElem?_append_left (List.getElem?_eq_some_iff.mp hi).1]; exact hi
  have hD1 : va_D (fun _ => True) ws1 := ⟨fun i j x y hx hy hxy => hD.1 i j x y (hsub i x hx) (hsub j y hy) hxy, fun _ _ _ => trivial⟩
  have hAA : ∀ q : Nat, va_A ws1 H.size q → A q := fun q hq => by
    rcases hq with ⟨i, e9, hi⟩ | hq
    · exact hD.2 i (q, e9) (hsub i _ hi)
    · exact hA _ (Nat.le_trans hS.1 hq)
  have hGW : GoodIn wsL_law (va_wsS own idx y (Cond.codeWith y cY maxL (some .int) hh :: wsL_law)) := by
    intro w hw
    unfold va_wsS at hw
    rcases List.mem_append.mp hw with h | h
    · simp only [List.mem_cons, List.not_mem_nil, or_false] at h
      rcases h with rfl | rfl | rfl
      · exact xgood1 hl
      · exact xgood1 hse
      · exact xgood1 hini
    · rcases List.mem_cons.mp h with rfl | h
      · exact xgood1 hcw
      · exact xgood1 h
  have hrun := vx_runSW (p := p) (l := l) (e := e) (R := R) (s := s) (m := m0) (args := args) (below := below) (meth := meth) (c := c) (H := H) (locs := locs) (cells := k) (slots := n) (nL := nL) (As := As) (rest := st) (g := F0 m0 pc ls (As.reverse ++ st))
    ⟨hx, hbc, hml, hown, hts⟩ (hM dC dI H.size) (vx_cwSW nP hts hGW rfl rfl rfl hdsc ⟨by show dY + 1 ≤ R.frames; omega, by show 8 + (maxL + 11) + 60 * dY ≤ R.locals; omega⟩)
    ⟨wPre_blind _ _ _ _ _ _ _, fun U hU hW => ⟨rfl, by rw [hU], by rw [hU]; exact hP1, hD1, va_K.moved hW.alike hK, hT.warm hW, by rw [hU]; exact ySt.goes hW hX hsa (fun q h1 h2 => hS.2.1 q h1 h2) hAA, by rw [hU]; exact xTh.goes hW z4 (fun q h1 h2 => hS.2.1 q h1 h2) hAA, va_Nc.moved hW.alike z5⟩⟩
    rfl hn hv.1 rfl (lv_room hst) hd ⟨by omega, by omega⟩
  intro Ts hTs X
  obtain ⟨v, st₀, t, T', Lo, h0, X', hL, e1, e2, ⟨⟨hv1, hp1⟩, hz, hkk⟩, stp⟩ := hrun Ts hTs X
  cases hv1
  rw [h0] at hz hkk
  have hP2 : va_P (dC, dI) vwCl (ws1' ++ wb) T'.heap := by
    refine va_P.app (by rw [e1]; exact hp1) (va_P.kept (H := H) (fun i q hi => hP (ws1.length + i) q (by rw [List.getElem?_append_right (by omega), Nat.add_sub_cancel_left]; exact hi)) (fun i x hx => ?_))
    have hx2 : (ws1 ++ wb)[ws1.length + i]? = some x := by rw [List.getElem?_append_right (by omega), Nat.add_sub_cancel_left]; exact hx
    rw [e1]
    refine hkk x.1 (hP _ x hx2).lt (fun hh => ?_)
    rcases hh with ⟨j, e9, hj⟩ | hh
    · have := hD.1 _ _ _ _ hx2 (hsub j _ hj) rfl
      have hjl := (List.getElem?_eq_some_iff.mp hj).1
      omega
    · have := (hP _ x hx2).lt
      omega
  have hD2 : va_D A (ws1' ++ wb) := va_D_addr (by rw [List.map_append, List.map_append, haddr]) hD
  obtain ⟨t2, a1, b1⟩ := h T'.heap (locs ++ Lo) ls hP2 hD2 ⟨Nat.le_trans hS.1 (by rw [e1]; exact hz), fun q h1 h2 => by rw [e1, hkk q (Nat.lt_of_lt_of_le h1 hS.1) (fun z => h2 (hAA q z))]; exact hS.2.1 q h1 h2, fun q hq => by
      rcases List.mem_append.mp hq with h | h
      · exact hS.2.2 q h
      · exact hAA _ (hL q h)⟩ hv T' rfl X'
  exact ⟨t2, stp t2 a1, b1⟩
end LX

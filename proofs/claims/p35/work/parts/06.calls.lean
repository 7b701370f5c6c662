/-! ===== contracts and calls over whole numbers ===== -/
def xrm (d : Nat) : Room := { frames := d, cells := 0, slots := 0, locals := 30 * d }
def xAr (ad : Nat → Nat) (lay : List xS) (sz : Nat) : Nat → Prop := fun q => (∃ i : Nat, i < lay.length ∧ q = ad i) ∨ sz ≤ q
def xPre (dC : Nat → ClassId) (dI : Nat → Nat → Nat) (dA : Nat → ClassId) (ad : Nat → Nat) (lay : List xS) (m : xM) (sz : Nat) (U : State) : Prop :=
  U.heap.size = sz ∧ va_P (dC, dI) vwCl (xwld ad dA m 0 lay) U.heap ∧ va_K (dC, dI) vwCl (xtys dA) U ∧ (∀ i j : Nat, i < lay.length → j < lay.length → ad i = ad j → i = j) ∧ xStr ad (xAr ad lay sz) U U.heap
def xQ (dC : Nat → ClassId) (dI : Nat → Nat → Nat) (dA : Nat → ClassId) (ad : Nat → Nat) (lay : List xS) (rv : Option xV) (m' : xM) (sz : Nat) : Array Value → State → Outcome → State → Prop := fun _ st oc t =>
  (oc = .returned (rv.map (xval ad)) ∧ va_P (dC, dI) vwCl (xwld ad dA m' 0 lay) t.heap) ∧ va_F (xAr ad lay sz) st t
def xMet (l : Launch) (y : MethodName) (cc : ByteArray) (maxL : Nat) (ret : Option FieldType) (d : Nat) (lay : List xS) (av : List xV) (m : xM) (rv : Option xV) (m' : xM) : Prop :=
  ∀ (dC : Nat → ClassId) (dI : Nat → Nat → Nat) (dA : Nat → ClassId) (ad : Nat → Nat) (sz : Nat), Met l y (Cond.code y cc maxL ret :: wsL_law) (xrm d) (va_Pc (av.map (xval ad)) (xPre dC dI dA ad lay m sz)) (xQ dC dI dA ad lay rv m' sz) 0 0 (xAr ad lay sz)
def xargs : Nat → List xV → List (Nat × xV)
  | _, [] => []
  | i, v :: vs => (i, v) :: xargs (if xcat v = 2 then i + 2 else i + 1) vs
def xwid : List xV → Nat
  | [] => 0
  | v :: vs => (if xcat v = 2 then 2 else 1) + xwid vs
theorem xargs_lv (ad : Nat → Nat) : ∀ (av : List xV) (i : Nat), lv_args i (av.map (xval ad)) = xlv ad (xargs i av)
  | [], _ => rfl
  | v :: vs, i => by
    show (i, xval ad v) :: lv_args (if (xval ad v).category = 2 then i + 2 else i + 1) (vs.map (xval ad)) = (i, xval ad v) :: xlv ad (xargs (if xcat v = 2 then i + 2 else i + 1) vs)
    rw [xcat_val, xargs_lv ad vs]
theorem xwid_sl (ad : Nat → Nat) : ∀ av : List xV, (lg_sl (av.map (xval ad))).length = xwid av
  | [] => rfl
  | v :: vs => by
    have ih := xwid_sl ad vs
    show (lg_sl (xval ad v :: vs.map (xval ad))).length = _
    unfold lg_sl at ih ⊢
    rw [List.flatMap_cons, List.length_append, ih, xcat_val]
    show _ = (if xcat v = 2 then 2 else 1) + xwid vs
    by_cases h : xcat v = 2
    · rw [if_pos h, if_pos h]; rfl
    · rw [if_neg h, if_neg h]; rfl
/-- the ends of a method -/
def xRi (Γ : xG) (lay : List xS) (cc : ByteArray) (x : Int) (m : xM) : Prop := match Γ with
  | ((p, l, e, R, s, m0, args, below, meth, c), (A, ad, dC, dI, dA), (cells, slots, Q)) => ∀ (H : Heap) (locs : List Loc) (ls : Array Slot) (pc : Nat), va_P (dC, dI) vwCl (xwld ad dA m 0 lay) H → va_S A s.heap H locs → decode cc pc = .ok (.ireturn, 1) → W p l e R s m0 args below meth c H locs cells slots Q (F0 m0 pc ls [.int (Int32.ofInt x)])
def xRz (Γ : xG) (lay : List xS) (cc : ByteArray) (x : Int) (m : xM) : Prop := xbz x → xRi Γ lay cc x m
def xRl (Γ : xG) (lay : List xS) (cc : ByteArray) (x : Int) (m : xM) : Prop := match Γ with
  | ((p, l, e, R, s, m0, args, below, meth, c), (A, ad, dC, dI, dA), (cells, slots, Q)) => ∀ (H : Heap) (locs : List Loc) (ls : Array Slot) (pc : Nat), va_P (dC, dI) vwCl (xwld ad dA m 0 lay) H → va_S A s.heap H locs → decode cc pc = .ok (.lreturn, 1) → W p l e R s m0 args below meth c H locs cells slots Q (F0 m0 pc ls [.long (Int64.ofInt x)])
def xRv (Γ : xG) (lay : List xS) (cc : ByteArray) (m : xM) : Prop := match Γ with
  | ((p, l, e, R, s, m0, args, below, meth, c), (A, ad, dC, dI, dA), (cells, slots, Q)) => ∀ (H : Heap) (locs : List Loc) (ls : Array Slot) (pc : Nat), va_P (dC, dI) vwCl (xwld ad dA m 0 lay) H → va_S A s.heap H locs → decode cc pc = .ok (.return_, 1) → W p l e R s m0 args below meth c H locs cells slots Q (F0 m0 pc ls [])
def xRa (Γ : xG) (lay : List xS) (cc : ByteArray) (q : Nat) (m : xM) : Prop := match Γ with
  | ((p, l, e, R, s, m0, args, below, meth, c), (A, ad, dC, dI, dA), (cells, slots, Q)) => ∀ (H : Heap) (locs : List Loc) (ls : Array Slot) (pc : Nat), va_P (dC, dI) vwCl (xwld ad dA m 0 lay) H → va_S A s.heap H locs → decode cc pc = .ok (.areturn, 1) → W p l e R s m0 args below meth c H locs cells slots Q (F0 m0 pc ls [.ref (ad q)])
section XE
variable {Γ : xG} {lay : List xS} {own : String} {cc : ByteArray} {nL d pc : Nat} {L : List (Nat × xV)} {m : xM}
theorem x_ireturn {x x' : Int} {m' : xM} (hR : xRi Γ lay cc x' m') (hd : decode cc pc = .ok (.ireturn, 1)) (h : some (x, m) = some (x', m')) : xW Γ lay nL pc L [.inl x] m := by
  cases h
  obtain ⟨⟨p, l, e, R, s, m0, args, below, meth, c⟩, ⟨A, ad, dC, dI, dA⟩, cells, slots, Q⟩ := Γ
  intro H locs ls hP hS _
  exact hR H locs ls pc hP hS hd
theorem x_lreturn {x x' : Int} {m' : xM} (hR : xRl Γ lay cc x' m') (hd : decode cc pc = .ok (.lreturn, 1)) (h : some (x, m) = some (x', m')) : xW Γ lay nL pc L [.inr (.inl x)] m := by
  cases h
  obtain ⟨⟨p, l, e, R, s, m0, args, below, meth, c⟩, ⟨A, ad, dC, dI, dA⟩, cells, slots, Q⟩ := Γ
  intro H locs ls hP hS _
  exact hR H locs ls pc hP hS hd
theorem x_return {x x' : Int} {m' : xM} (hR : xRv Γ lay cc m') (hd : decode cc pc = .ok (.return_, 1)) (h : some (x, m) = some (x', m')) : xW Γ lay nL pc L [] m := by
  cases h
  obtain ⟨⟨p, l, e, R, s, m0, args, below, meth, c⟩, ⟨A, ad, dC, dI, dA⟩, cells, slots, Q⟩ := Γ
  intro H locs ls hP hS _
  exact hR H locs ls pc hP hS hd
theorem x_ireturnP {x x' : Int} (hR : xRi Γ lay cc x' m) (hd : decode cc pc = .ok (.ireturn, 1)) (h : some x = some x') : xW Γ lay nL pc L [.inl x] m := x_ireturn hR hd (by cases h; rfl)
theorem x_lreturnP {x x' : Int} (hR : xRl Γ lay cc x' m) (hd : decode cc pc = .ok (.lreturn, 1)) (h : some x = some x') : xW Γ lay nL pc L [.inr (.inl x)] m := x_lreturn hR hd (by cases h; rfl)
theorem x_returnV {m' : xM} (hR : xRv Γ lay cc m') (hd : decode cc pc = .ok (.return_, 1)) (h : some m = some m') : xW Γ lay nL pc L [] m := by
  cases h
  obtain ⟨⟨p, l, e, R, s, m0, args, below, meth, c⟩, ⟨A, ad, dC, dI, dA⟩, cells, slots, Q⟩ := Γ
  intro H locs ls hP hS _
  exact hR H locs ls pc hP hS hd
theorem x_areturn {q : Nat} (hR : xRa Γ lay cc q m) (hd : decode cc pc = .ok (.areturn, 1)) : xW Γ lay nL pc L [.inr (.inr (some q))] m := by
  obtain ⟨⟨p, l, e, R, s, m0, args, below, meth, c⟩, ⟨A, ad, dC, dI, dA⟩, cells, slots, Q⟩ := Γ
  intro H locs ls hP hS _
  exact hR H locs ls pc hP hS hd
theorem x_zreturn {x x' : Int} {m' : xM} (hR : xRz Γ lay cc x' m') (hz : xbz x) (hd : decode cc pc = .ok (.ireturn, 1)) (h : some (x, m) = some (x', m')) : xW Γ lay nL pc L [.inl x] m := by
  cases h
  exact x_ireturn (hR hz) hd rfl
theorem x_zreturnP {x x' : Int} (hR : xRz Γ lay cc x' m) (hz : xbz x) (hd : decode cc pc = .ok (.ireturn, 1)) (h : some x = some x') : xW Γ lay nL pc L [.inl x] m := by
  cases h
  exact x_ireturn (hR hz) hd rfl
end XE
theorem xAr_D {ad : Nat → Nat} {lay : List xS} {sz : Nat} (h : ∀ i j : Nat, i < lay.length → j < lay.length → ad i = ad j → i = j) : (∀ i j : Nat, i < lay.length → j < lay.length → ad i = ad j → i = j) ∧ ∀ i : Nat, i < lay.length → xAr ad lay sz (ad i) := ⟨h, fun i hi => Or.inl ⟨i, hi, rfl⟩⟩
theorem x_ofW {l : Launch} {y : MethodName} {ws ws' : List Cond} {rm : Room} {Pc : Array Value → State → Prop} {Qc : Array Value → State → Outcome → State → Prop} {mc ms : Nat} {free : Addr → Prop} {cc : ByteArray} {maxL : Nat} {ret : Option FieldType}
    (hy : plainName y.cls = true ∨ plainFor y = true) (hw : ws = Cond.code y cc maxL ret :: ws')
    (body : ∀ p e s m args below meth c s₁, BodyLoose p l y (headSpec ws rm) cc maxL ret e s m args below meth c s₁ → c.maxLocals = maxL → Pc args s →
      W p l e (headSpec ws rm).room s m args below meth c s.heap [] 0 0 (MQ below Qc args s mc ms free) (entryFrame m args maxL)) : Met l y ws rm Pc Qc mc ms free := hy.elim (fun h => Met.ofW h hw body) (fun h => va_MetF h hw body)
/-- a contract out of a walk -/
theorem xMet_i {l : Launch} {y : MethodName} {cc : ByteArray} {maxL d : Nat} {lay : List xS} {av : List xV} {m m' : xM} {r : Int} (hy : plainName y.cls = true ∨ plainFor y = true) (hw : xwid av ≤ maxL)
    (hb : ∀ Γ : xG, xC Γ lay y.cls cc maxL d → xRi Γ lay cc r m' → Γ.1.2.1 = l → xW Γ lay maxL 0 (xargs 0 av) [] m) : xMet l y cc maxL (some .int) d lay av m (some (.inl r)) m' := by
  intro dC dI dA ad sz
  refine x_ofW (cc := cc) (maxL := maxL) (ret := some .int) hy rfl ?_
  intro p e s m0 args below meth c s₁ B hml hv
  obtain ⟨rfl, hsz, hP, hK, hD0, hX0⟩ := hv
  subst hsz
  have hl := lv_entry (av.map (xval ad)) (n := maxL) (by rw [xwid_sl]; exact hw)
  rw [lg_entry_eq]
  rw [xargs_lv] at hl
  refine hb ((p, l, e, xrm d, s, m0, (av.map (xval ad)).toArray, below, meth, c), (xAr ad lay s.heap.size, ad, dC, dI, dA), (0, 0, _)) ?_ ?_ rfl s.heap [] _ hP va_S.rf hl
  · exact ⟨B.exec, B.bytes, hml, findClass_of_methodNamed B.named, fun w h => atoms_spec (ws := Cond.code y cc maxL (some .int) :: wsL_law) B.pre w (List.mem_cons_of_mem _ h), hK, xAr_D hD0, fun q h => Or.inr h, Nat.le_refl _, Nat.le_refl _, Nat.le_refl _, Nat.le_refl _, hX0⟩
  · intro H locs ls pc hP hS hd
    exact W.iret (v := Int32.ofInt r) B.exec B.bytes B.returns (fun t ht hW => ⟨⟨rfl, by rw [ht]; exact hP⟩, hS.F ht⟩) hS.2.2 hd B.notSynchronized
theorem xMet_z {l : Launch} {y : MethodName} {cc : ByteArray} {maxL d : Nat} {lay : List xS} {av : List xV} {m m' : xM} {r : Int} (hy : plainName y.cls = true ∨ plainFor y = true) (hw : xwid av ≤ maxL)
    (hb : ∀ Γ : xG, xC Γ lay y.cls cc maxL d → xRz Γ lay cc r m' → Γ.1.2.1 = l → xW Γ lay maxL 0 (xargs 0 av) [] m) : xMet l y cc maxL (some .boolean) d lay av m (some (.inl r)) m' := by
  intro dC dI dA ad sz
  refine x_ofW (cc := cc) (maxL := maxL) (ret := some .boolean) hy rfl ?_
  intro p e s m0 args below meth c s₁ B hml hv
  obtain ⟨rfl, hsz, hP, hK, hD0, hX0⟩ := hv
  subst hsz
  have hl := lv_entry (av.map (xval ad)) (n := maxL) (by rw [xwid_sl]; exact hw)
  rw [lg_entry_eq]
  rw [xargs_lv] at hl
  refine hb ((p, l, e, xrm d, s, m0, (av.map (xval ad)).toArray, below, meth, c), (xAr ad lay s.heap.size, ad, dC, dI, dA), (0, 0, _)) ?_ ?_ rfl s.heap [] _ hP va_S.rf hl
  · exact ⟨B.exec, B.bytes, hml, findClass_of_methodNamed B.named, fun w h => atoms_spec (ws := Cond.code y cc maxL (some .boolean) :: wsL_law) B.pre w (List.mem_cons_of_mem _ h), hK, xAr_D hD0, fun q h => Or.inr h, Nat.le_refl _, Nat.le_refl _, Nat.le_refl _, Nat.le_refl _, hX0⟩
  · intro hz H locs ls pc hP hS hd
    exact W.zret (v := Int32.ofInt r) (ty := .boolean) B.exec B.bytes B.returns (xbz_nar hz).1 (fun t ht hW => ⟨⟨rfl, by rw [ht]; exact hP⟩, hS.F ht⟩) hS.2.2 hd B.notSynchronized
theorem xMet_l {l : Launch} {y : MethodName} {cc : ByteArray} {maxL d : Nat} {lay : List xS} {av : List xV} {m m' : xM} {r : Int} (hy : plainName y.cls = true ∨ plainFor y = true) (hw : xwid av ≤ maxL)
    (hb : ∀ Γ : xG, xC Γ lay y.cls cc maxL d → xRl Γ lay cc r m' → Γ.1.2.1 = l → xW Γ lay maxL 0 (xargs 0 av) [] m) : xMet l y cc maxL (some .long) d lay av m (some (.inr (.inl r))) m' := by
  intro dC dI dA ad sz
  refine x_ofW (cc := cc) (maxL := maxL) (ret := some .long) hy rfl ?_
  intro p e s m0 args below meth c s₁ B hml hv
  obtain ⟨rfl, hsz, hP, hK, hD0, hX0⟩ := hv
  subst hsz
  have hl := lv_entry (av.map (xval ad)) (n := maxL) (by rw [xwid_sl]; exact hw)
  rw [lg_entry_eq]
  rw [xargs_lv] at hl
  refine hb ((p, l, e, xrm d, s, m0, (av.map (xval ad)).toArray, below, meth, c), (xAr ad lay s.heap.size, ad, dC, dI, dA), (0, 0, _)) ?_ ?_ rfl s.heap [] _ hP va_S.rf hl
  · exact ⟨B.exec, B.bytes, hml, findClass_of_methodNamed B.named, fun w h => atoms_spec (ws := Cond.code y cc maxL (some .long) :: wsL_law) B.pre w (List.mem_cons_of_mem _ h), hK, xAr_D hD0, fun q h => Or.inr h, Nat.le_refl _, Nat.le_refl _, Nat.le_refl _, Nat.le_refl _, hX0⟩
  · intro H locs ls pc hP hS hd
    exact W.lret (v := Int64.ofInt r) B.exec B.bytes B.returns (fun t ht hW => ⟨⟨rfl, by rw [ht]; exact hP⟩, hS.F ht⟩) hS.2.2 hd B.notSynchronized
theorem xMet_v {l : Launch} {y : MethodName} {cc : ByteArray} {maxL d : Nat} {lay : List xS} {av : List xV} {m m' : xM} (hy : plainName y.cls = true ∨ plainFor y = true) (hw : xwid av ≤ maxL)
    (hb : ∀ Γ : xG, xC Γ lay y.cls cc maxL d → xRv Γ lay cc m' → Γ.1.2.1 = l → xW Γ lay maxL 0 (xargs 0 av) [] m) : xMet l y cc maxL none d lay av m none m' := by
  intro dC dI dA ad sz
  refine x_ofW (cc := cc) (maxL := maxL) (ret := none) hy rfl ?_
  intro p e s m0 args below meth c s₁ B hml hv
  obtain ⟨rfl, hsz, hP, hK, hD0, hX0⟩ := hv
  subst hsz
  have hl := lv_entry (av.map (xval ad)) (n := maxL) (by rw [xwid_sl]; exact hw)
  rw [lg_entry_eq]
  rw [xargs_lv] at hl
  refine hb ((p, l, e, xrm d, s, m0, (av.map (xval ad)).toArray, below, meth, c), (xAr ad lay s.heap.size, ad, dC, dI, dA), (0, 0, _)) ?_ ?_ rfl s.heap [] _ hP va_S.rf hl
  · exact ⟨B.exec, B.bytes, hml, findClass_of_methodNamed B.named, fun w h => atoms_spec (ws := Cond.code y cc maxL none :: wsL_law) B.pre w (List.mem_cons_of_mem _ h), hK, xAr_D hD0, fun q h => Or.inr h, Nat.le_refl _, Nat.le_refl _, Nat.le_refl _, Nat.le_refl _, hX0⟩
  · intro H locs ls pc hP hS hd
    exact W.vret B.exec B.bytes B.returns (fun t ht hW => ⟨⟨rfl, by rw [ht]; exact hP⟩, hS.F ht⟩) hS.2.2 hd B.notSynchronized
theorem xMet_a {l : Launch} {y : MethodName} {cc : ByteArray} {maxL d : Nat} {lay : List xS} {av : List xV} {m m' : xM} {q : Nat} {K : String} (hy : plainName y.cls = true ∨ plainFor y = true) (hw : xwid av ≤ maxL)
    (hb : ∀ Γ : xG, xC Γ lay y.cls cc maxL d → xRa Γ lay cc q m' → Γ.1.2.1 = l → xW Γ lay maxL 0 (xargs 0 av) [] m) : xMet l y cc maxL (some (.object K)) d lay av m (some (.inr (.inr (some q)))) m' := by
  intro dC dI dA ad sz
  refine x_ofW (cc := cc) (maxL := maxL) (ret := some (.object K)) hy rfl ?_
  intro p e s m0 args below meth c s₁ B hml hv
  obtain ⟨rfl, hsz, hP, hK, hD0, hX0⟩ := hv
  subst hsz
  have hl := lv_entry (av.map (xval ad)) (n := maxL) (by rw [xwid_sl]; exact hw)
  rw [lg_entry_eq]
  rw [xargs_lv] at hl
  refine hb ((p, l, e, xrm d, s, m0, (av.map (xval ad)).toArray, below, meth, c), (xAr ad lay s.heap.size, ad, dC, dI, dA), (0, 0, _)) ?_ ?_ rfl s.heap [] _ hP va_S.rf hl
  · exact ⟨B.exec, B.bytes, hml, findClass_of_methodNamed B.named, fun w h => atoms_spec (ws := Cond.code y cc maxL (some (.object K)) :: wsL_law) B.pre w (List.mem_cons_of_mem _ h), hK, xAr_D hD0, fun q h => Or.inr h, Nat.le_refl _, Nat.le_refl _, Nat.le_refl _, Nat.le_refl _, hX0⟩
  · intro H locs ls pc hP hS hd
    exact W.aret (v := .ref (ad q)) (rt := .object K) B.exec B.bytes B.returns (Or.inl ⟨K, rfl⟩) (Or.inr ⟨_, rfl⟩) (fun t ht hW => ⟨⟨rfl, by rw [ht]; exact hP⟩, hS.F ht⟩) hS.2.2 hd B.notSynchronized

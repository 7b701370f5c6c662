/-! ===== a constructor is called; it ends ===== -/
theorem ya_app {D : va_G} {ws w2 : va_W} {H : Heap} (h : va_P D vwCl (ws ++ w2) H) : va_P D vwCl ws H := fun k q hk => h k q (by rw [List.getElem?_append_left (List.getElem?_eq_some_iff.mp hk).1]; exact hk)
section YC
variable {p : Program} {l : Launch} {e : Env} {R : Room} {s : State} {m0 : MethodId} {args : Array Value} {below : List Frame} {meth : Method} {c : Code} {H : Heap} {locs : List Loc} {Q : State → Prop} {A : Nat → Prop} {dC : Nat → ClassId} {dI : Nat → Nat → Nat} {dA : Nat → ClassId} {sa : Nat → Nat}
theorem y_after {ws : va_W} {e0 : va_E} {ad0 : Nat → Nat} {nl : Nat} {Wd : (Nat → ClassId) → (Nat → Nat) → va_W} {nL pc k n KY NY : Nat} {L : List (Nat × Value)} {st st0 : List Value} {ls : Array Slot} {a2 : Array Value} (hP : va_P (dC, dI) vwCl (ws ++ [(ad0 0, e0)]) H) (hD : va_D A (ws ++ [(ad0 0, e0)])) (hS : va_S A s.heap H locs) (hA : ∀ q : Nat, s.heap.size ≤ q → A q) (hl : lv_has ls nL L)
    (hr : va_Run p l e R s m0 args below meth c H locs k n KY NY (F0 m0 pc ls st0) st (va_Qv (fun ad : Nat → Nat => ∀ i, (i = 0 ∨ nl ≤ i) → ad i = ad0 i) (fun ad t => va_P (dC, dI) vwCl (Wd dA ad) t.heap ∧ va_D (yA (ad0 0) H.size) (Wd dA ad)) (yA (ad0 0) H.size) a2) (yA (ad0 0) H.size))
    (kk : ∀ ad : Nat → Nat, (∀ i, (i = 0 ∨ nl ≤ i) → ad i = ad0 i) → yW ((p, l, e, R, s, m0, args, below, meth, c), (A, dC, dI, dA, sa), Q) nL (pc + 3) L st (ws ++ Wd dA ad) (k + KY) (n + NY)) : W p l e R s m0 args below meth c H locs k n Q (F0 m0 pc ls st0) := by
  have hlast : (ws ++ [(ad0 0, e0)])[ws.length]? = some (ad0 0, e0) := by rw [List.getElem?_append_right (Nat.le_refl _), Nat.sub_self]; rfl
  have hq : A (ad0 0) := hD.2 _ _ hlast
  have hq2 : ad0 0 < H.size := (hP _ _ hlast).lt
  have hws : ∀ (k : Nat) (x : Nat × va_E), ws[k]? = some x → x.1 < H.size ∧ x.1 ≠ ad0 0 ∧ A x.1 := fun k x hk => by
    have hkl := (List.getElem?_eq_some_iff.mp hk).1
    have hk2 : (ws ++ [(ad0 0, e0)])[k]? = some x := by rw [List.getElem?_append_left hkl]; exact hk
    refine ⟨(hP _ _ hk2).lt, fun hne => ?_, hD.2 _ _ hk2⟩
    have := hD.1 _ _ _ _ hk2 hlast hne
    omega
  refine va_callv hr hS (fun q h1 h2 => ?_) (fun q h => ?_) (fun ad t H1 locs1 ht hvm h5 hB hz hk hS1 => ?_)
  · rcases h2 with rfl | h2
    · exact hq
    · omega
  · rcases h with rfl | h
    · exact hq
    · exact hA q (Nat.le_trans hS.1 h)
  · obtain ⟨hP1, hD1⟩ := hB
    rw [ht] at hP1
    refine kk ad h5 H1 locs1 ls ?_ ?_ hS1 hl
    · exact ((ya_app hP).kept (fun k x hx => hk x.1 (hws k x hx).1 (fun h => by
        rcases h with h | h
        · exact (hws k x hx).2.1 h
        · have := (hws k x hx).1; omega))).app hP1
    · refine va_D.app ⟨fun i j x y hx hy hxy => ?_, fun k x hx => (hws k x hx).2.2⟩ (hD1.weaken (fun k x hx h => ?_)) (fun i j x y hx hy hxy => ?_)
      · exact hD.1 i j x y (by rw [List.getElem?_append_left (List.getElem?_eq_some_iff.mp hx).1]; exact hx) (by rw [List.getElem?_append_left (List.getElem?_eq_some_iff.mp hy).1]; exact hy) hxy
      · rcases h with h | h
        · rw [h]; exact hq
        · exact hA _ (Nat.le_trans hS.1 h)
      · have h1 := hws i x hx
        rcases hD1.2 j y hy with h | h
        · exact h1.2.1 (hxy.trans h)
        · have := h1.1; omega
end YC
section YD
variable {Γ : yG} {own : String} {cc : ByteArray} {nL d pc K N k n : Nat} {L : List (Nat × Value)} {st : List Value} {ws : va_W}
/-- the constructor of a public or package class -/
theorem y_ctor (C : yC Γ own cc nL d K N) {idx : Nat} {y : MethodName} {cY : ByteArray} {maxL nP dY KY NY : Nat} {e0 : va_E} {av : (Nat → Nat) → List Value} {nl : Nat} {Wd : (Nat → ClassId) → (Nat → Nat) → va_W} (ad0 : Nat → Nat) (hd : decode cc pc = .ok (.invokespecial idx, 3)) (hl : Cond.methodLink own idx y ∈ wsL_law) (hY : xY y cY maxL none nP) (hin : Cond.instanceMethod y ∈ wsL_law) (hy1 : y.name = "<init>") (hM : yMet Γ.1.2.1 y cY maxL dY KY NY e0 av nl Wd)
    (hdd : dY + 1 ≤ d) (hmax : maxL ≤ 11) (hn : (av ad0).length = nP) (hst : (st.map fun v => v.category).sum ≤ 8) (hk : k + KY ≤ K) (hn2 : n + NY ≤ N) {x : Nat} (hx0 : ad0 0 = x) (hsa : ∀ i : Nat, ad0 (1000 + i) = ySA Γ (1000 + i)) {stk : List Value} (hs : stk = (av ad0).reverse ++ .ref x :: st)
    (h : ∀ ad : Nat → Nat, (∀ i, (i = 0 ∨ nl ≤ i) → ad i = ad0 i) → yW Γ nL (pc + 3) L st (ws ++ Wd (yDA Γ) ad) (k + KY) (n + NY)) : yW Γ nL pc L stk (ws ++ [(x, e0)]) k n := by
  subst hs
  subst hx0
  obtain ⟨⟨p, l, e, R, s, m0, args, below, meth, c⟩, ⟨A, dC, dI, dA, sa⟩, Q⟩ := Γ
  obtain ⟨hx, hb, hml, hown, hts, hK, hA, ⟨hfr, hlo⟩, ⟨hce, hsl⟩, hT, hX⟩ := C
  intro H locs ls hP hD hS hv
  have hPe : va_P (dC, dI) vwCl [(ad0 0, e0)] H := fun k q hk => by
    refine hP (ws.length + k) q ?_
    rw [List.getElem?_append_right (by omega), Nat.add_sub_cancel_left]; exact hk
  have hAA : ∀ q, yA (ad0 0) H.size q → A q := fun q h => by
    rcases h with rfl | h
    · exact hD.2 ws.length (ad0 0, e0) (by rw [List.getElem?_append_right (Nat.le_refl _), Nat.sub_self]; rfl)
    · exact hA q (Nat.le_trans hS.1 h)
  refine y_after (sa := sa) hP hD hS hA hv (va_runI (nL := nL) (cc := cc) (As := av ad0) (rest := st) ⟨hx, hb, hml, hown, hts⟩ (hM dC dI dA ad0 H.size) (cwI nP hts (xgoodY hY.1) rfl rfl rfl (hts _ hY.2.1) (hts _ hl) (hts _ hin) hy1 hY.2.2 ⟨by show dY + 1 ≤ R.frames; omega, by show 8 + (maxL + 11) + 30 * dY ≤ R.locals; omega⟩)
    ⟨yPre_blind _ _ _ _ _ _ _, fun U hU hW => ⟨rfl, by rw [hU], by rw [hU]; exact hPe, va_K.moved hW.alike hK, hT.warm hW, by rw [hU]; exact ySt.goes hW hX hsa (fun q h1 h2 => hS.2.1 q h1 h2) hAA⟩⟩ rfl hn hv.1 rfl (lv_room hst) hd ⟨by omega, by omega⟩) h
/-- the constructor of a class of the same nest -/
theorem y_ctorN (C : yC Γ own cc nL d K N) {idx : Nat} {y : MethodName} {cY : ByteArray} {maxL nP dY KY NY : Nat} {e0 : va_E} {av : (Nat → Nat) → List Value} {nl : Nat} {Wd : (Nat → ClassId) → (Nat → Nat) → va_W} (ad0 : Nat → Nat) (hd : decode cc pc = .ok (.invokespecial idx, 3)) (hl : Cond.methodLinkNest own idx y "ModemLink" ∈ yTb) (hY : xY y cY maxL none nP) (hin : Cond.instanceMethod y ∈ wsL_law) (hy1 : y.name = "<init>") (hM : yMet Γ.1.2.1 y cY maxL dY KY NY e0 av nl Wd)
    (hdd : dY + 1 ≤ d) (hmax : maxL ≤ 11) (hn : (av ad0).length = nP) (hst : (st.map fun v => v.category).sum ≤ 8) (hk : k + KY ≤ K) (hn2 : n + NY ≤ N) {x : Nat} (hx0 : ad0 0 = x) (hsa : ∀ i : Nat, ad0 (1000 + i) = ySA Γ (1000 + i)) {stk : List Value} (hs : stk = (av ad0).reverse ++ .ref x :: st)
    (h : ∀ ad : Nat → Nat, (∀ i, (i = 0 ∨ nl ≤ i) → ad i = ad0 i) → yW Γ nL (pc + 3) L st (ws ++ Wd (yDA Γ) ad) (k + KY) (n + NY)) : yW Γ nL pc L stk (ws ++ [(x, e0)]) k n := by
  subst hs
  subst hx0
  obtain ⟨⟨p, l, e, R, s, m0, args, below, meth, c⟩, ⟨A, dC, dI, dA, sa⟩, Q⟩ := Γ
  obtain ⟨hx, hb, hml, hown, hts, hK, hA, ⟨hfr, hlo⟩, ⟨hce, hsl⟩, hT, hX⟩ := C
  intro H locs ls hP hD hS hv
  have hPe : va_P (dC, dI) vwCl [(ad0 0, e0)] H := fun k q hk => by
    refine hP (ws.length + k) q ?_
    rw [List.getElem?_append_right (by omega), Nat.add_sub_cancel_left]; exact hk
  have hAA : ∀ q, yA (ad0 0) H.size q → A q := fun q h => by
    rcases h with rfl | h
    · exact hD.2 ws.length (ad0 0, e0) (by rw [List.getElem?_append_right (Nat.le_refl _), Nat.sub_self]; rfl)
    · exact hA q (Nat.le_trans hS.1 h)
  refine y_after (sa := sa) hP hD hS hA hv (va_runIN (nL := nL) (cc := cc) (As := av ad0) (rest := st) ⟨hx, hb, hml, hown, hts⟩ (hM dC dI dA ad0 H.size) ⟨va_cnB nP hts (xgoodY hY.1) rfl rfl rfl (hT.1 _ hl) (hts _ hY.2.1) hY.2.2 ⟨by show dY + 1 ≤ R.frames; omega, by show 8 + (maxL + 11) + 30 * dY ≤ R.locals; omega⟩, hy1, hts _ hin⟩
    ⟨yPre_blind _ _ _ _ _ _ _, fun U hU hW => ⟨rfl, by rw [hU], by rw [hU]; exact hPe, va_K.moved hW.alike hK, hT.warm hW, by rw [hU]; exact ySt.goes hW hX hsa (fun q h1 h2 => hS.2.1 q h1 h2) hAA⟩⟩ rfl hn hv.1 rfl (lv_room hst) hd ⟨by omega, by omega⟩) h
/-- the end of a constructor -/
def yRv (Γ : yG) (cc : ByteArray) (ad0 : Nat → Nat) (nl : Nat) (Wd : (Nat → ClassId) → (Nat → Nat) → va_W) (K N : Nat) : Prop := match Γ with
  | ((p, l, e, R, s, m0, args, below, meth, c), (A, dC, dI, dA, sa), Q) => ∀ (H : Heap) (locs : List Loc) (ls : Array Slot) (pc k n : Nat) (ad : Nat → Nat), k ≤ K → n ≤ N → (∀ i, (i = 0 ∨ nl ≤ i) → ad i = ad0 i) → va_P (dC, dI) vwCl (Wd dA ad) H → va_D A (Wd dA ad) → va_S A s.heap H locs → decode cc pc = .ok (.return_, 1) → W p l e R s m0 args below meth c H locs k n Q (F0 m0 pc ls [])
theorem y_ret {ad0 : Nat → Nat} {nl : Nat} {Wd : (Nat → ClassId) → (Nat → Nat) → va_W} (hR : yRv Γ cc ad0 nl Wd K N) (ad : Nat → Nat) (hd : decode cc pc = .ok (.return_, 1)) (hk : k ≤ K) (hn : n ≤ N) (had : ∀ i, (i = 0 ∨ nl ≤ i) → ad i = ad0 i) (hw : ws = Wd (yDA Γ) ad) : yW Γ nL pc L [] ws k n := by
  subst hw
  obtain ⟨⟨p, l, e, R, s, m0, args, below, meth, c⟩, ⟨A, dC, dI, dA, sa⟩, Q⟩ := Γ
  intro H locs ls hP hD hS hv
  exact hR H locs ls pc k n ad hk hn had hP hD hS hd
end YD
/-- the addresses that a call hands on -/
def yon (f sa : Nat → Nat) : Nat → Nat := fun k => if k < 1000 then f k else sa k
theorem yon_hi (f sa : Nat → Nat) (i : Nat) : yon f sa (1000 + i) = sa (1000 + i) := if_neg (by omega)
/-- all cells made: the walk goes on over whole numbers -/
def yx (Γ : yG) (ad : Nat → Nat) (k n : Nat) : xG := (Γ.1, (Γ.2.1.1, ad, Γ.2.1.2.1, Γ.2.1.2.2.1, Γ.2.1.2.2.2.1), (k, n, Γ.2.2))
theorem y_to_x {Γ : yG} {own : String} {cc : ByteArray} {nL d pc K N k n : Nat} {L : List (Nat × Value)} {st : List Value} {ws : va_W} (C : yC Γ own cc nL d K N) (hk : k ≤ K) (hn : n ≤ N) (ad : Nat → Nat) (m : xM) (lay : List xS) (hw : ws = xwld ad (yDA Γ) m 0 lay) (hsa : ∀ i : Nat, ad (1000 + i) = ySA Γ (1000 + i)) (L' : List (Nat × xV)) (st' : List xV) (hL : L = xlv ad L') (hst : st = st'.map (xval ad))
    (h : xC (yx Γ ad k n) lay own cc nL d → (∀ m' : xM, va_D Γ.2.1.1 (xwld ad (yDA Γ) m' 0 lay)) → xW (yx Γ ad k n) lay nL pc L' st' m) : yW Γ nL pc L st ws k n := by
  subst hw
  subst hL
  subst hst
  obtain ⟨⟨p, l, e, R, s, m0, args, below, meth, c⟩, ⟨A, dC, dI, dA, sa⟩, Q⟩ := Γ
  obtain ⟨hx, hb, hml, hown, hts, hK, hA, ⟨hfr, hlo⟩, ⟨hce, hsl⟩, hT, hX⟩ := C
  intro H locs ls hP hD hS hv
  have hget : ∀ i, i < lay.length → ∃ s9, (xwld ad dA m 0 lay)[i]? = some (ad i, s9) := fun i hi => by
    rw [xwld_get, List.getElem?_eq_getElem hi, Nat.zero_add]
    exact ⟨_, rfl⟩
  have hin : (∀ i j : Nat, i < lay.length → j < lay.length → ad i = ad j → i = j) ∧ ∀ i : Nat, i < lay.length → A (ad i) := by
    refine ⟨fun i j hi hj hij => ?_, fun i hi => ?_⟩
    · obtain ⟨s1, h1⟩ := hget i hi
      obtain ⟨s2, h2⟩ := hget j hj
      exact hD.1 i j _ _ h1 h2 hij
    · obtain ⟨s1, h1⟩ := hget i hi
      exact hD.2 i _ h1
  have hX1 : xStr ad A s s.heap := xStr.goes (State.WarmedH.refl s) hX.1 hsa (fun _ _ _ => rfl) (fun _ h => h)
  exact h ⟨hx, hb, hml, hown, hts, hK.sub (tys' := xtys dA) [0, 1, 2, 3, 4, 5] rfl, hin, hA, hfr, hlo, Nat.le_trans hk hce, Nat.le_trans hn hsl, hX1⟩ (fun m' => xD_of hin) H locs ls hP hS hv
theorem y_xRv {Γ : yG} {cc : ByteArray} {ad0 : Nat → Nat} {nl K N k n : Nat} {Wd : (Nat → ClassId) → (Nat → Nat) → va_W} (hR : yRv Γ cc ad0 nl Wd K N) (hk : k ≤ K) (hn : n ≤ N) (ad : Nat → Nat) (had : ∀ i, (i = 0 ∨ nl ≤ i) → ad i = ad0 i) (m : xM) (lay : List xS) (hw : Wd (yDA Γ) ad = xwld ad (yDA Γ) m 0 lay) (hD : va_D Γ.2.1.1 (xwld ad (yDA Γ) m 0 lay)) : xRv (yx Γ ad k n) lay cc m := by
  obtain ⟨⟨p, l, e, R, s, m0, args, below, meth, c⟩, ⟨A, dC, dI, dA, sa⟩, Q⟩ := Γ
  intro H locs ls pc hP hS hd
  have hw : Wd dA ad = xwld ad dA m 0 lay := hw
  exact hR H locs ls pc k n ad hk hn had (by rw [hw]; exact hP) (by rw [hw]; exact hD) hS hd
theorem yMet_of {l : Launch} {y : MethodName} {cc : ByteArray} {maxL d K N : Nat} {e0 : va_E} {av : (Nat → Nat) → List Value} {nl : Nat} {Wd : (Nat → ClassId) → (Nat → Nat) → va_W} (hy : plainName y.cls = true ∨ plainFor y = true) (hn : y.name = "<init>") (hw : ∀ ad0 : Nat → Nat, (lg_sl (Value.ref (ad0 0) :: av ad0)).length ≤ maxL)
    (hb : ∀ (Γ : yG) (ad0 : Nat → Nat), yC Γ y.cls cc maxL d K N → yIn Γ → ySA Γ = ad0 → yRv Γ cc ad0 nl Wd K N → Γ.1.2.1 = l → yW Γ maxL 0 (lv_args 0 (Value.ref (ad0 0) :: av ad0)) [] [(ad0 0, e0)] 0 0) : yMet l y cc maxL d K N e0 av nl Wd := by
  intro dC dI dA ad0 sz
  refine x_ofW (cc := cc) (maxL := maxL) (ret := none) hy rfl ?_
  intro p e s m0 args below meth c s₁ B hml hv
  obtain ⟨rfl, hsz, hP, hK, hT, hX⟩ := hv
  subst hsz
  have hl := lv_entry (Value.ref (ad0 0) :: av ad0) (n := maxL) (hw ad0)
  rw [lg_entry_eq]
  refine hb ((p, l, e, yrm d K N, s, m0, (Value.ref (ad0 0) :: av ad0).toArray, below, meth, c), (yA (ad0 0) s.heap.size, dC, dI, dA, ad0), _) ad0 ?_ ?_ rfl ?_ rfl s.heap [] _ hP ?_ va_S.rf hl
  · exact ⟨B.exec, B.bytes, hml, findClass_of_methodNamed B.named, fun w h => atoms_spec (ws := Cond.code y cc maxL none :: wsL_law) B.pre w (List.mem_cons_of_mem _ h), hK, fun q h => Or.inr h, ⟨Nat.le_refl _, Nat.le_refl _⟩, ⟨Nat.le_refl _, Nat.le_refl _⟩, hT, hX⟩
  · exact (name_of_methodNamed B.named B.method).1.trans hn
  · intro H locs ls pc k n ad hk hn had hP1 hD1 hS hd
    refine W.widen (k := K) (n := N) hk hn ?_
    exact W.vret B.exec B.bytes B.returns (fun t ht hW => ⟨⟨ad, rfl, had, by rw [ht]; exact hP1, hD1⟩, hS.F ht⟩) hS.2.2 hd B.notSynchronized
  · refine ⟨fun i j x y hx hy _ => ?_, fun k x hx => ?_⟩
    · have h1 := (List.getElem?_eq_some_iff.mp hx).1
      have h2 := (List.getElem?_eq_some_iff.mp hy).1
      simp only [List.length_cons, List.length_nil] at h1 h2
      omega
    · have h1 := (List.getElem?_eq_some_iff.mp hx).1
      simp only [List.length_cons, List.length_nil] at h1
      obtain rfl : k = 0 := by omega
      cases hx
      exact Or.inl rfl

/-! ===== methods that throw: what they want, and that they throw with the cells as they were ===== -/
abbrev xE1 : String := "java/lang/IllegalArgumentException"
abbrev xE2 : String := "java/util/NoSuchElementException"
abbrev xNm : List String := ["java/lang/RuntimeException", "java/lang/Exception"]
def xEx (k : Nat) : String := if k = 1 then xE1 else xE2
def xTref : List (String × Nat × String) := [("ModemLink", 128, "no such length"), ("ModemLink", 173, "no such number of the line"), ("ModemLink", 176, "no such total"), ("ModemLink", 228, "no such number of an end"), ("ModemLink", 230, "no such end"), ("ModemLink", 232, "no such rate or property"), ("ModemLink", 240, "no such frame"), ("ModemLink", 252, "no such property of a frame"), ("ModemLink", 264, "no such event or property"), ("ModemLink", 276, "no such quality"), ("ModemLink", 294, "no such number of ticks")]
def xTb : List Cond := [.castable xE1 xE1, .castable xE2 xE2, .declares (Bundle.initS "java/lang/RuntimeException"), .declares (Bundle.initS "java/lang/Exception"), .declares (Bundle.initS "java/lang/Throwable")]
theorem xTb_on : ∀ w ∈ xTb, w.onTables = true := List.all_eq_true.mp (by decide +kernel)
theorem xTb_warm {u U : State} (hW : u.WarmedH U.vm) (h : ∀ w ∈ xTb, va_Nw w u) : ∀ w ∈ xTb, va_Nw w U := by
  intro w hw
  have h0 := h w hw
  simp only [xTb, List.mem_cons, List.not_mem_nil, or_false] at hw
  rcases hw with rfl | rfl | rfl | rfl | rfl
  · exact va_Nw.warmC hW h0
  · exact va_Nw.warmC hW h0
  · exact va_Nw.warmD hW h0
  · exact va_Nw.warmD hW h0
  · exact va_Nw.warmD hW h0
def xTh (A : Nat → Prop) (U : State) (H : Heap) : Prop :=
  vx_Zq Bundle.tN "UNASSIGNED_STACK" Bundle.steD A U H ∧ vx_Zq Bundle.tN "SUPPRESSED_SENTINEL" Bundle.listD A U H ∧ (∀ w ∈ xTb, va_Nw w U) ∧ ∀ r ∈ xTref, ∃ a, vk_R r.1 r.2.1 r.2.2 a U
theorem xTh.goes {A B : Nat → Prop} {u U : State} {H H1 : Heap} (hW : u.WarmedH U.vm) (h : xTh A u H) (hq : ∀ a : Nat, a < H.size → ¬ A a → H1[a]? = H[a]?) (hAB : ∀ q, B q → A q) : xTh B U H1 :=
  ⟨((h.1.moved hW.alike).kept hq).narrow hAB, ((h.2.1.moved hW.alike).kept hq).narrow hAB, xTb_warm hW h.2.2.1, fun r hr => (h.2.2.2 r hr).elim fun a ha => ⟨a, ha.warm hW⟩⟩
theorem xTh.same {A : Nat → Prop} {u U : State} {H : Heap} (hv : U.vm = u.vm) (h : xTh A u H) : xTh A U H := by
  have ha : u.vm.Alike U.vm := by rw [hv]; exact Vm.Alike.refl u.vm
  exact ⟨h.1.moved ha, h.2.1.moved ha, fun w hw => va_Nw.same (xTb_on w hw) hv.symm (h.2.2.1 w hw), fun r hr => (h.2.2.2 r hr).elim fun a ha => ⟨a, ha.same hv⟩⟩
def xPreT (dC : Nat → ClassId) (dI : Nat → Nat → Nat) (dA : Nat → ClassId) (ad : Nat → Nat) (lay : List xS) (m : xM) (sz : Nat) (U : State) : Prop := xPre dC dI dA ad lay m sz U ∧ xTh (xAr ad lay sz) U U.heap
def xrmT (d : Nat) : Room := { frames := d, cells := 1, slots := 6, locals := 60 * d }
def xXT (dC : Nat → ClassId) (dI : Nat → Nat → Nat) (dA : Nat → ClassId) (ad : Nat → Nat) (lay : List xS) (m : xM) (sz : Nat) (E : String) : String → State → State → Prop := fun E' st t => E' = E ∧ va_P (dC, dI) vwCl (xwld ad dA m 0 lay) t.heap ∧ va_F (xAr ad lay sz) st t
def xMetT (l : Launch) (y : MethodName) (cc : ByteArray) (maxL : Nat) (ret : Option FieldType) (d : Nat) (lay : List xS) (av : List xV) (m : xM) (E : String) : Prop :=
  ∀ (dC : Nat → ClassId) (dI : Nat → Nat → Nat) (dA : Nat → ClassId) (ad : Nat → Nat) (sz : Nat), vx_Met l y (Cond.code y cc maxL ret :: wsL_law) (xrmT d) (va_Pc (av.map (xval ad)) (xPreT dC dI dA ad lay m sz)) (fun _ _ _ _ => False) (xXT dC dI dA ad lay m sz E) 1 6 (xAr ad lay sz)
theorem xPreT_blind (av : List Value) (dC : Nat → ClassId) (dI : Nat → Nat → Nat) (dA : Nat → ClassId) (ad : Nat → Nat) (lay : List xS) (m : xM) (sz : Nat) : FrameBlind (va_Pc av (xPreT dC dI dA ad lay m sz)) := by
  intro a U g mk q
  obtain ⟨q0, ⟨q1, qP, qK, qD, qX⟩, qT⟩ := q
  exact ⟨q0, ⟨q1, qP, va_K.moved (u := U) (U := U.calling g mk a) (Vm.Alike.refl U.vm) qK, qD, xStr.same (u := U) (U := U.calling g mk a) rfl qX⟩, xTh.same (u := U) (U := U.calling g mk a) rfl qT⟩
/-- what a body that throws has of its frame -/
def xCT (Γ : xG) : Prop := match Γ with
  | ((p, l, e, R, s, m0, args, below, meth, c), (A, ad, dC, dI, dA), (cells, slots, Q)) => l.stackTraces = false ∧ xTh A s s.heap ∧ meth.locks = false ∧ (∀ x ∈ c.exceptionTable.toList, False) ∧ (cells + 1 ≤ R.cells ∧ slots + 6 ≤ R.slots) ∧ cells = 0 ∧ slots = 0
theorem xCT_l {Γ : xG} (h : xCT Γ) : Γ.1.2.1.stackTraces = false := by
  obtain ⟨⟨p, l, e, R, s, m0, args, below, meth, c⟩, ⟨A, ad, dC, dI, dA⟩, cells, slots, Q⟩ := Γ
  exact h.1
/-- the end of such a body -/
def xRt (Γ : xG) (lay : List xS) (m : xM) (E : String) : Prop := match Γ with
  | ((p, l, e, R, s, m0, args, below, meth, c), (A, ad, dC, dI, dA), (cells, slots, Q)) => ∃ (Qc : Array Value → State → Outcome → State → Prop) (XC : String → State → State → Prop) (free : Addr → Prop), Q = vx_MQ below Qc XC args s 1 6 free ∧ (∀ (t : State) (H : Heap) (locs : List Loc), s.vm.Alike t.vm → va_P (dC, dI) vwCl (xwld ad dA m 0 lay) t.heap → va_S A s.heap H locs → H.size ≤ t.heap.size → (∀ q : Nat, q < H.size → t.heap[q]? = H[q]?) → XC E s t) ∧ ∀ z : Nat, A z → free z
/-- what the tables say of an exception of the class -/
def xTw (ik ic : Nat) (E : String) : Prop :=
  ∃ (ix : Nat) (rx : ByteArray), vx_dec rx ix ∧ (Bundle.fit E = true ∧ ∀ n ∈ xNm, Bundle.fit n = true) ∧ (Cond.classLink RX10 ik E ∈ wsL_law ∧ Cond.initialized E ∈ wsL_law ∧ ∀ w ∈ (vx_atX RX10 ic E ix rx xNm).filter goodWord, w ∈ wsL_law) ∧ (∀ w ∈ (vx_atX RX10 ic E ix rx xNm).filter (fun w => !goodWord w), w ∈ xTb) ∧ (∀ w ∈ Cond.classLink RX10 ik E :: Cond.initialized E :: vx_atX RX10 ic E ix rx xNm, vx_ot w = true)
theorem xe_1 : xTw 126 130 (xEx 1) := by
  have e : vx_atX RX10 130 xE1 7 Bundle.six xNm = vx_atS RX10 130 xE1 xNm := rfl
  exact ⟨7, Bundle.six, ⟨Bundle.six_0, Bundle.six_1, Bundle.six_2, Bundle.six_5⟩, ⟨by decide +kernel, by decide +kernel⟩, ⟨(xin_11 _ (List.mem_of_getElem? (i := 3) rfl)), (xin_11 _ (List.mem_of_getElem? (i := 4) rfl)), fun w h => List.mem_append_left _ (List.mem_append_right _ (by rw [← e]; exact h))⟩, by decide +kernel, List.all_eq_true.mp (by decide +kernel)⟩
theorem xe_2 : xTw 171 175 (xEx 2) := ⟨13, prog_36_method_4_code, ⟨by decide +kernel, by decide +kernel, by decide +kernel, by decide +kernel⟩, ⟨by decide +kernel, by decide +kernel⟩, ⟨(xin_24 _ (List.mem_of_getElem? (i := 15) rfl)), (xin_24 _ (List.mem_of_getElem? (i := 16) rfl)), fun w h => List.mem_append_right _ h⟩, by decide +kernel, List.all_eq_true.mp (by decide +kernel)⟩
def xthr (o K : Option Nat) : Option Nat := match o with
  | some k => some k
  | none => K
theorem x_thr {o K : Option Nat} {r : Nat} (h : xthr o K = some r) : o = some r ∨ K = some r := by
  unfold xthr at h
  cases o with
  | none => exact Or.inr h
  | some k => exact Or.inl h
section XTH
variable {Γ : xG} {lay : List xS} {cc cY : ByteArray} {nL d pc idx maxL dY n b ci ik ic is : Nat} {L : List (Nat × xV)} {st : List xV} {m : xM} {y : MethodName} {ret : Option FieldType} {av : List xV} {fs : List (Option Nat)} {E text : String} {k r : Nat}
theorem x_throw (C : xC Γ lay RX10 cc nL d) (CT : xCT Γ) (hR : xRt Γ lay m (xEx r)) (h6 : 6 ≤ d) (hE : xTw ik ic (xEx k)) (hr : ("ModemLink", is, text) ∈ xTref)
    (d0 : decode cc pc = .ok (.new ik, 3)) (d3 : decode cc (pc + 3) = .ok (.dup, 1)) (d4 : decode cc (pc + 4) = .ok (.ldc is, 2)) (d6 : decode cc (pc + 6) = .ok (.invokespecial ic, 3)) (d9 : decode cc (pc + 9) = .ok (.athrow, 1)) (h : some k = some r) : xW Γ lay nL pc L [] m := by
  cases h
  obtain ⟨⟨p, l, e, R, s, m0, args, below, meth, c⟩, ⟨A, ad, dC, dI, dA⟩, cells, slots, Q⟩ := Γ
  obtain ⟨hx, hbc, hml, hown, hts, hK, hD, hA, hfr, hlo, hce, hsl, hstr⟩ := C
  obtain ⟨hl, hTh, hlk, htab, ⟨hc1, hs6⟩, rfl, rfl⟩ := CT
  obtain ⟨Qc, XC, free, rfl, hX, hfree⟩ := hR
  obtain ⟨ix, rx, xd, ⟨hf1, hf2⟩, ⟨w1, w2, w3⟩, w4, w5⟩ := hE
  intro H locs ls hP hS hv
  obtain ⟨sa, hsa⟩ := hTh.2.2.2 _ hr
  exact vx_throwSX (names := xNm) (A := A) hx hbc hl xd hown hf1 hf2 (hts _ w1) (hts _ w2) hsa (vx_hat (fun w hw => hts w (w3 w hw)) w4 (fun w hw => va_Nw.use (A := args) (xTb_on w hw) (hTh.2.2.1 w hw))) w5 hTh.1 hTh.2.1 hS (hv.1.trans hml.symm) d0 d3 d4 d6 d9 (fun x hx => absurd hx (fun z => htab x z))
    (by show 2 + 3 < R.frames; omega) (by show 0 + (13 * (2 + 1) + 43) ≤ R.locals; omega) hc1 hs6 hlk
    (fun t hal hz hk => hX t H locs hal (fun k q hq => (hP k q hq).kept (hk _ (hP k q hq).lt)) hS hz hk) (fun z hz => hfree _ (hS.2.2 z hz)) (by omega) (by omega)
theorem x_throwW (C : xC Γ lay RX10 cc nL d) (CT : xCT Γ) (hR : xRt Γ lay m (xEx r)) (h6 : 6 ≤ d) (hE : xTw ik ic (xEx k)) (hr : ("ModemLink", is, text) ∈ xTref)
    (d0 : decode cc pc = .ok (.new ik, 3)) (d3 : decode cc (pc + 3) = .ok (.dup, 1)) (d4 : decode cc (pc + 4) = .ok (.ldc_w is, 3)) (d6 : decode cc (pc + 7) = .ok (.invokespecial ic, 3)) (d9 : decode cc (pc + 10) = .ok (.athrow, 1)) (h : some k = some r) : xW Γ lay nL pc L [] m := by
  cases h
  obtain ⟨⟨p, l, e, R, s, m0, args, below, meth, c⟩, ⟨A, ad, dC, dI, dA⟩, cells, slots, Q⟩ := Γ
  obtain ⟨hx, hbc, hml, hown, hts, hK, hD, hA, hfr, hlo, hce, hsl, hstr⟩ := C
  obtain ⟨hl, hTh, hlk, htab, ⟨hc1, hs6⟩, rfl, rfl⟩ := CT
  obtain ⟨Qc, XC, free, rfl, hX, hfree⟩ := hR
  obtain ⟨ix, rx, xd, ⟨hf1, hf2⟩, ⟨w1, w2, w3⟩, w4, w5⟩ := hE
  intro H locs ls hP hS hv
  obtain ⟨sa, hsa⟩ := hTh.2.2.2 _ hr
  exact vx_throwSWX (names := xNm) (A := A) hx hbc hl xd hown hf1 hf2 (hts _ w1) (hts _ w2) hsa (vx_hat (fun w hw => hts w (w3 w hw)) w4 (fun w hw => va_Nw.use (A := args) (xTb_on w hw) (hTh.2.2.1 w hw))) w5 hTh.1 hTh.2.1 hS (hv.1.trans hml.symm) d0 d3 d4 d6 d9 (fun x hx => absurd hx (fun z => htab x z))
    (by show 2 + 3 < R.frames; omega) (by show 0 + (13 * (2 + 1) + 43) ≤ R.locals; omega) hc1 hs6 hlk
    (fun t hal hz hk => hX t H locs hal (fun k q hq => (hP k q hq).kept (hk _ (hP k q hq).lt)) hS hz hk) (fun z hz => hfree _ (hS.2.2 z hz)) (by omega) (by omega)
/-- a call that throws: it goes on to the caller -/
theorem x_callVIT {own : String} (C : xC Γ lay own cc nL d) (CT : xCT Γ) (hR : xRt Γ lay m E) (hd : decode cc pc = .ok (.invokevirtual idx, 3)) (hl : Cond.methodLink own idx y ∈ wsL_law) (hY : xY y cY maxL ret n) (hin : Cond.instanceMethod y ∈ wsL_law) (hse : Cond.selects y.cls y y ∈ wsL_law) (hdd : dY + 1 ≤ d) (hmax : maxL ≤ 40)
    (hb : lay[b]? = some (.inl (ci, fs))) (hci : ∃ TT N, vwCl[ci]? = some (y.cls, TT, N)) (hn : av.length = n) (hst : (st.map xcat).sum ≤ 8)
    (hM : xMetT Γ.1.2.1 y cY maxL ret dY lay (.inr (.inr (some b)) :: av) m E) {stk : List xV} (hs : stk = av.reverse ++ .inr (.inr (some b)) :: st) : xW Γ lay nL pc L stk m := by
  subst hs
  obtain ⟨⟨p, l, e, R, s, m0, args, below, meth, c⟩, ⟨A, ad, dC, dI, dA⟩, cells, slots, Q⟩ := Γ
  obtain ⟨hx, hbc, hml, hown, hts, hK, hD, hA, hfr, hlo, hce, hsl, hstr⟩ := C
  obtain ⟨hll, hTh, hlk, htab, ⟨hc1, hs6⟩, rfl, rfl⟩ := CT
  obtain ⟨Qc, XC, free, rfl, hX, hfree⟩ := hR
  intro H locs ls hP hS hv
  have hMy := hM dC dI dA ad H.size
  have hAA2 : ∀ q : Nat, xAr ad lay H.size q → A q := fun q h2 => by
    rcases h2 with ⟨i, hi, rfl⟩ | h2
    · exact hD.2 _ hi
    · exact hA _ (Nat.le_trans hS.1 h2)
  obtain ⟨TT, N, hci⟩ := hci
  have hGW : GoodIn wsL_law (wsV own idx y.cls y (Cond.code y cY maxL ret :: wsL_law)) := by
    intro w hw
    unfold wsV at hw
    rcases List.mem_append.mp hw with h | h
    · simp only [List.mem_cons, List.not_mem_nil, or_false] at h
      rcases h with rfl | rfl | rfl | rfl
      · exact xgood1 hl
      · exact xgood1 hin
      · exact xgood1 hse
      · exact xgood1 hY.2.1
    · exact xgoodY hY.1 w h
  have hrun := vx_runV (p := p) (l := l) (e := e) (R := R) (s := s) (m := m0) (args := args) (below := below) (meth := meth) (c := c) (H := H) (locs := locs) (cells := 0) (slots := 0) (nL := nL) (As := av.map (xval ad)) (rest := st.map (xval ad)) (g := F0 m0 pc ls (((av.reverse ++ .inr (.inr (some b)) :: st)).map (xval ad)))
    ⟨hx, hbc, hml, hown, hts⟩ hMy (cwV n hts hGW rfl rfl rfl ⟨rfl, hY.2.2⟩ ⟨by show dY + 1 ≤ R.frames; omega, by show 8 + (maxL + 11) + 60 * dY ≤ R.locals; omega⟩)
    ⟨xPreT_blind _ _ _ _ _ _ _ _, va_recv hK hP hci (xwld_at hb), fun U hU hW => ⟨rfl, ⟨by rw [hU], by rw [hU]; exact hP, va_K.moved hW.alike hK, hD.1, by rw [hU]; exact xStr.goes hW hstr (fun _ => rfl) (fun q h1 h2 => hS.2.1 q h1 h2) hAA2⟩, by rw [hU]; exact xTh.goes hW hTh (fun q h1 h2 => hS.2.1 q h1 h2) hAA2⟩⟩
    rfl (by rw [List.length_map]; exact hn) hv.1 (by
      show List.map (xval ad) _ = _
      rw [List.map_append, List.map_reverse, List.map_cons]
      rfl) (by
      refine lv_room ?_
      rw [List.map_map]
      have e1 : ((fun v => v.category) ∘ xval ad) = xcat := funext fun v => xcat_val ad v
      rw [e1]; exact hst) hd ⟨by omega, by omega⟩
  intro Ts hTs X
  rcases hrun Ts hTs X with ⟨v, st₀, t, T', Lo, h0, X', hL, e1, e2, hf, stp⟩ | ⟨q, st₀, t, T', Lo, E', ce, h0, X', hL, e1, e2, ⟨rfl, hP1, hF⟩, hce, hcv, hcl, stp⟩
  · exact hf.elim
  · have hAA : ∀ q : Nat, q < H.size → xAr ad lay H.size q → A q := fun q _ h2 => hAA2 q h2
    obtain ⟨k1, k2, k3⟩ := vx_keep h0 e1 hS hAA hAA2 hL hF
    obtain ⟨t2, a1, b1⟩ := vx_out (Qc := Qc) (XC := XC) (mc := 1) (ms := 6) (free := free) (pc := pc) (ls := ls) (rest := st.map (xval ad)) (fun x hx => absurd hx (fun z => htab x z)) hlk (by rw [e1]; exact hce) hcv hcl
      (fun t9 ht9 hal => hX t9 T'.heap (locs ++ Lo) hal (by rw [ht9, e1]; exact hP1) k3 (by rw [ht9]; exact Nat.le_refl _) (fun q _ => by rw [ht9])) (fun z hz => hfree _ (k3.2.2 z hz)) (Nat.le_refl 1) (Nat.le_refl 6) T' rfl X'
    exact ⟨t2, stp.trans a1, b1⟩
end XTH
/-- a contract of a method that throws, out of a walk -/
theorem xMet_T {l : Launch} (hl : l.stackTraces = false) {y : MethodName} {cc : ByteArray} {maxL d : Nat} {ret : Option FieldType} {lay : List xS} {av : List xV} {m : xM} {E : String} (hy : plainName y.cls = true) (hw : xwid av ≤ maxL)
    (hb : ∀ Γ : xG, xC Γ lay y.cls cc maxL d → xCT Γ → xRt Γ lay m E → Γ.1.2.1 = l → xW Γ lay maxL 0 (xargs 0 av) [] m) : xMetT l y cc maxL ret d lay av m E := by
  intro dC dI dA ad sz
  refine vx_ofW (cc := cc) (maxL := maxL) (ret := ret) hy rfl ?_
  intro p e s m0 args below meth c s₁ B hml htab hv
  obtain ⟨rfl, ⟨hsz, hP, hK, hD0, hX0⟩, hTh⟩ := hv
  subst hsz
  have hl2 := lv_entry (av.map (xval ad)) (n := maxL) (by rw [xwid_sl]; exact hw)
  rw [lg_entry_eq]
  rw [xargs_lv] at hl2
  refine hb ((p, l, e, xrmT d, s, m0, (av.map (xval ad)).toArray, below, meth, c), (xAr ad lay s.heap.size, ad, dC, dI, dA), (0, 0, _)) ?_ ⟨hl, hTh, B.notSynchronized, htab, ⟨Nat.le_refl 1, Nat.le_refl 6⟩, rfl, rfl⟩ ⟨_, _, _, rfl, ?_, fun z h => h⟩ rfl s.heap [] _ hP va_S.rf hl2
  · exact ⟨B.exec, B.bytes, hml, findClass_of_methodNamed B.named, fun w h => atoms_spec (ws := Cond.code y cc maxL ret :: wsL_law) B.pre w (List.mem_cons_of_mem _ h), hK, xAr_D hD0, fun q h => Or.inr h, Nat.le_refl _, Nat.le_refl _, Nat.zero_le _, Nat.zero_le _, hX0⟩
  · intro t H locs hal hPt hS hz hk
    exact ⟨rfl, hPt, Nat.le_trans hS.1 hz, fun q h1 h2 => by rw [hk q (Nat.lt_of_lt_of_le h1 hS.1)]; exact hS.2.1 q h1 h2⟩

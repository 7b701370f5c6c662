/-! ===== the layer g: the script ===== -/
/-- the script lies outside what is written: its numbers -/
def gTs (ad : Nat → Nat) (A : Nat → Prop) (Ln : Nat) (xs : Nat → Int) (U : State) (H : Heap) : Prop := va_T .int (ad 1300) Ln (fun j => .int (Int32.ofInt (xs j))) A U H
def gS (Γ : gG) (Ln : Nat) (xs : Nat → Int) : Prop := match Γ with
  | ((p, l, e, R, s, m0, args, below, meth, c), (A, ad, dC, dI, dA), (n0, s0, n1, s1, Q)) => gTs ad A Ln xs s s.heap
def gPrS (Ln : Nat) (xs : Nat → Int) (dC : Nat → ClassId) (dI : Nat → Nat → Nat) (dA : Nat → ClassId) (ad : Nat → Nat) (lay : List xS) (m : xM) (h : gH) (sz : Nat) (U : State) : Prop :=
  gPre dC dI dA ad lay m h sz U ∧ gTs ad (va_A (gwd ad dA lay m h) sz) Ln xs U U.heap
theorem gPrS_blind (Ln : Nat) (xs : Nat → Int) (av : List Value) (dC : Nat → ClassId) (dI : Nat → Nat → Nat) (dA : Nat → ClassId) (ad : Nat → Nat) (lay : List xS) (m : xM) (h : gH) (sz : Nat) : FrameBlind (va_Pc av (gPrS Ln xs dC dI dA ad lay m h sz)) := by
  intro a U g mk q
  have q' : va_Pc av (gPre dC dI dA ad lay m h sz) a U := ⟨q.1, q.2.1⟩
  exact ⟨q.1, (gPre_blind av dC dI dA ad lay m h sz a U g mk q').2, va_T.moved (u := U) (U := U.calling g mk a) (Vm.Alike.refl U.vm) q.2.2⟩
def gMetS (Ln : Nat) (xs : Nat → Int) (l : Launch) (y : MethodName) (cc : ByteArray) (maxL : Nat) (ret : Option FieldType) (d : Nat) (lay : List xS) (av : List xV) (m : xM) (h : gH) (rv : Option xV) (m' : xM) (h' : gH) : Prop :=
  gle h h' ∧ ∀ (dC : Nat → ClassId) (dI : Nat → Nat → Nat) (dA : Nat → ClassId) (ad : Nat → Nat) (sz : Nat), Met l y (Cond.code y cc maxL ret :: wsL_law) (grm d (h'.length - h.length) (gsl h' - gsl h)) (va_Pc (av.map (xval ad)) (gPrS Ln xs dC dI dA ad lay m h sz)) (gQ dC dI dA ad lay m h rv m' h' sz) (h'.length - h.length) (gsl h' - gsl h) (va_A (gwd ad dA lay m h) sz)
theorem gMetS_i {Ln : Nat} {xs : Nat → Int} {l : Launch} {y : MethodName} {cc : ByteArray} {maxL d : Nat} {lay : List xS} {av : List xV} {m m' : xM} {h h' : gH} {r : Int} (hy : plainName y.cls = true ∨ plainFor y = true) (hw : xwid av ≤ maxL)
    (hb : ∀ P : gG → Prop, (∀ Γ, P Γ → gX Γ lay y.cls cc maxL d h') → (∀ Γ, P Γ → gS Γ Ln xs) → (∀ Γ, P Γ → gRi Γ lay cc r m' h') → gJ P lay maxL 0 (xargs 0 av) [] m h h') : gMetS Ln xs l y cc maxL (some .int) d lay av m h (some (.inl r)) m' h' := by
  have hg := (hb (fun _ => False) (fun _ q => q.elim) (fun _ q => q.elim) (fun _ q => q.elim)).1
  refine ⟨hg, ?_⟩
  intro dC dI dA ad sz
  refine x_ofW (cc := cc) (maxL := maxL) (ret := (some .int)) hy rfl ?_
  intro p e s m0 args below meth c s₁ B hml hv
  obtain ⟨rfl, ⟨hsz, had, hP, hD, hK, hX0, hT0⟩, hZ0⟩ := hv
  subst hsz
  have hl := lv_entry (av.map (xval ad)) (n := maxL) (by rw [xwid_sl]; exact hw)
  rw [lg_entry_eq]
  rw [xargs_lv] at hl
  refine (hb (fun Γ => Γ = ((p, l, e, grm d (h'.length - h.length) (gsl h' - gsl h), s, m0, (av.map (xval ad)).toArray, below, meth, c), (va_A (gwd ad dA lay m h) s.heap.size, ad, dC, dI, dA), (h.length, gsl h, 0, 0, MQ below (gQ dC dI dA ad lay m h (some (.inl r)) m' h' s.heap.size) (av.map (xval ad)).toArray s (h'.length - h.length) (gsl h' - gsl h) (va_A (gwd ad dA lay m h) s.heap.size)))) ?_ ?_ ?_).2 _ rfl s.heap [] _ 0 0 ⟨by omega, by omega, Or.inl rfl⟩ hP hD.self va_S.rf hl
  · intro Γ hΓ
    subst hΓ
    exact ⟨B.exec, B.bytes, hml, findClass_of_methodNamed B.named, fun w hw' => atoms_spec (ws := Cond.code y cc maxL (some .int) :: wsL_law) B.pre w (List.mem_cons_of_mem _ hw'), hK, had, fun q hq => Or.inr hq, Nat.le_refl _, Nat.le_refl _, ⟨by have := hg.1; show h'.length + 0 ≤ h.length + (h'.length - h.length); omega, by have := hg.2; show gsl h' + 0 ≤ gsl h + (gsl h' - gsl h); omega⟩, hX0, hT0⟩
  · intro Γ hΓ
    subst hΓ
    exact hZ0
  · intro Γ hΓ
    subst hΓ
    intro H locs ls pc kk nn hc hP hD hS hd
    have := hg.1
    have := hg.2
    refine W.widen (k := h'.length - h.length) (n := gsl h' - gsl h) (by have := hc.1; omega) (by have := hc.2; omega) ?_
    exact W.iret (v := Int32.ofInt r) B.exec B.bytes B.returns (fun t ht hW => ⟨⟨rfl, by rw [ht]; exact hP, hD⟩, hS.F ht⟩) hS.2.2 hd B.notSynchronized
theorem gMetS_a {Ln : Nat} {xs : Nat → Int} {l : Launch} {y : MethodName} {cc : ByteArray} {maxL d : Nat} {lay : List xS} {av : List xV} {m m' : xM} {h h' : gH} {r : Nat} {rt : FieldType} (hrt : (∃ C, rt = .object C) ∨ ∃ t, rt = .array t) (hy : plainName y.cls = true ∨ plainFor y = true) (hw : xwid av ≤ maxL)
    (hb : ∀ P : gG → Prop, (∀ Γ, P Γ → gX Γ lay y.cls cc maxL d h') → (∀ Γ, P Γ → gS Γ Ln xs) → (∀ Γ, P Γ → gRa Γ lay cc r m' h') → gJ P lay maxL 0 (xargs 0 av) [] m h h') : gMetS Ln xs l y cc maxL (some rt) d lay av m h (some (.inr (.inr (some r)))) m' h' := by
  have hg := (hb (fun _ => False) (fun _ q => q.elim) (fun _ q => q.elim) (fun _ q => q.elim)).1
  refine ⟨hg, ?_⟩
  intro dC dI dA ad sz
  refine x_ofW (cc := cc) (maxL := maxL) (ret := (some rt)) hy rfl ?_
  intro p e s m0 args below meth c s₁ B hml hv
  obtain ⟨rfl, ⟨hsz, had, hP, hD, hK, hX0, hT0⟩, hZ0⟩ := hv
  subst hsz
  have hl := lv_entry (av.map (xval ad)) (n := maxL) (by rw [xwid_sl]; exact hw)
  rw [lg_entry_eq]
  rw [xargs_lv] at hl
  refine (hb (fun Γ => Γ = ((p, l, e, grm d (h'.length - h.length) (gsl h' - gsl h), s, m0, (av.map (xval ad)).toArray, below, meth, c), (va_A (gwd ad dA lay m h) s.heap.size, ad, dC, dI, dA), (h.length, gsl h, 0, 0, MQ below (gQ dC dI dA ad lay m h (some (.inr (.inr (some r)))) m' h' s.heap.size) (av.map (xval ad)).toArray s (h'.length - h.length) (gsl h' - gsl h) (va_A (gwd ad dA lay m h) s.heap.size)))) ?_ ?_ ?_).2 _ rfl s.heap [] _ 0 0 ⟨by omega, by omega, Or.inl rfl⟩ hP hD.self va_S.rf hl
  · intro Γ hΓ
    subst hΓ
    exact ⟨B.exec, B.bytes, hml, findClass_of_methodNamed B.named, fun w hw' => atoms_spec (ws := Cond.code y cc maxL (some rt) :: wsL_law) B.pre w (List.mem_cons_of_mem _ hw'), hK, had, fun q hq => Or.inr hq, Nat.le_refl _, Nat.le_refl _, ⟨by have := hg.1; show h'.length + 0 ≤ h.length + (h'.length - h.length); omega, by have := hg.2; show gsl h' + 0 ≤ gsl h + (gsl h' - gsl h); omega⟩, hX0, hT0⟩
  · intro Γ hΓ
    subst hΓ
    exact hZ0
  · intro Γ hΓ
    subst hΓ
    intro H locs ls pc kk nn hc hP hD hS hd
    have := hg.1
    have := hg.2
    refine W.widen (k := h'.length - h.length) (n := gsl h' - gsl h) (by have := hc.1; omega) (by have := hc.2; omega) ?_
    exact W.aret (v := .ref (ad r)) (rt := rt) B.exec B.bytes B.returns hrt (Or.inr ⟨_, rfl⟩) (fun t ht hW => ⟨⟨rfl, by rw [ht]; exact hP, hD⟩, hS.F ht⟩) hS.2.2 hd B.notSynchronized

section GS
variable {P : gG → Prop} {lay layY : List xS} {own : String} {cc cY : ByteArray} {nL d pc idx maxL dY n b ci : Nat} {L : List (Nat × xV)} {st : List xV} {m mY : xM} {hp h1 h9 : gH} {y : MethodName} {ret : Option FieldType} {rv : Option xV} {T : List Nat} {av : List xV} {fs : List (Option Nat)} {Ln : Nat} {xs : Nat → Int}
theorem g_tlen (C : ∀ Γ, P Γ → gX Γ lay own cc nL d h9) (Z : ∀ Γ, P Γ → gS Γ Ln xs) (hd : decode cc pc = .ok (.arraylength, 1)) (h : gJ P lay nL (pc + 1) L (.inl Ln :: st) m hp h9) : gJ P lay nL pc L (.inr (.inr (some 1300)) :: st) m hp h9 := by
  refine ⟨h.1, ?_⟩
  intro Γ hΓ
  have C := C Γ hΓ
  have Z := Z Γ hΓ
  obtain ⟨⟨p, l, e, R, s, m0, args, below, meth, c⟩, ⟨A, ad, dC, dI, dA⟩, n0, s0, n1, s1, Q⟩ := Γ
  obtain ⟨hx, hbc, -⟩ := C
  intro H locs ls kk nn hs hP hD hS hv
  exact va_tlen hx hbc Z hS rfl hd (h.2 _ hΓ H locs ls kk nn hs hP hD hS hv)
theorem g_tload (C : ∀ Γ, P Γ → gX Γ lay own cc nL d h9) (Z : ∀ Γ, P Γ → gS Γ Ln xs) {j : Int} (hd : decode cc pc = .ok (.iaload, 1)) (hj : xib j Ln) (h : gJ P lay nL (pc + 1) L (.inl (xs (xix j)) :: st) m hp h9) : gJ P lay nL pc L (.inl j :: .inr (.inr (some 1300)) :: st) m hp h9 := by
  refine ⟨h.1, ?_⟩
  intro Γ hΓ
  have C := C Γ hΓ
  have Z := Z Γ hΓ
  obtain ⟨⟨p, l, e, R, s, m0, args, below, meth, c⟩, ⟨A, ad, dC, dI, dA⟩, n0, s0, n1, s1, Q⟩ := Γ
  obtain ⟨hx, hbc, -⟩ := C
  intro H locs ls kk nn hs hP hD hS hv
  exact va_ti hx hbc Z hS (xib_in hj) rfl hd (h.2 _ hΓ H locs ls kk nn hs hP hD hS hv)
def gTl (Ln : Nat) (xs : Nat → Int) (j : Int) : Option Int := if xib j Ln then some (xs (xix j)) else none
theorem g_tloadS (C : ∀ Γ, P Γ → gX Γ lay own cc nL d h9) (Z : ∀ Γ, P Γ → gS Γ Ln xs) {j x : Int} (hd : decode cc pc = .ok (.iaload, 1)) (hq : gTl Ln xs j = some x) (h : gJ P lay nL (pc + 1) L (.inl x :: st) m hp h9) : gJ P lay nL pc L (.inl j :: .inr (.inr (some 1300)) :: st) m hp h9 := by
  unfold gTl at hq
  obtain ⟨hj, hq⟩ := x_some1 hq
  cases hq
  exact g_tload C Z hd hj h
theorem g_callSS (C : ∀ Γ, P Γ → gX Γ lay own cc nL d h9) (Z : ∀ Γ, P Γ → gS Γ Ln xs) (hd : decode cc pc = .ok (.invokestatic idx, 3)) (hl : Cond.methodLink own idx y ∈ wsL_law) (hY : xY y cY maxL ret n) (hse : Cond.static y ∈ wsL_law) (hdd : dY + 1 ≤ d) (hmax : maxL ≤ 11)
    (hn : av.length = n) (hst : (st.map xcat).sum ≤ 8)
    (hle : gle hp h1) (hM : ∀ l : Launch, gMetS Ln xs l y cY maxL ret dY lay (av) m hp rv mY h1) {stk : List xV} (hs0 : stk = av.reverse ++ st)
    (k : gJ P lay nL (pc + 3) L (rv.toList ++ st) mY h1 h9) : gJ P lay nL pc L stk m hp h9 := by
  subst hs0
  refine ⟨hle.tr k.1, ?_⟩
  intro Γ hΓ
  have C := C Γ hΓ
  have Z := Z Γ hΓ
  obtain ⟨⟨p, l, e, R, s, m0, args, below, meth, c⟩, ⟨A, ad, dC, dI, dA⟩, n0, s0, n1, s1, Q⟩ := Γ
  obtain ⟨hx, hbc, hml, hown, hts, hK, had, hA, hfr, hlo, hlim, hstr, hTT⟩ := C
  intro H locs ls kk nn hs hP hD hS hv
  have hAA : ∀ q : Nat, va_A (gwd ad dA lay m hp) H.size q → A q := fun q h2 => by
    rcases h2 with ⟨i, e9, hi⟩ | h2
    · exact hD.2 i _ hi
    · exact hA _ (Nat.le_trans hS.1 h2)
  have hMy := (hM l).2 dC dI dA ad H.size
  intro Ts hTs X
  have hup := X.heapSize
  rw [hTs] at hup
  obtain ⟨z0, z1, z2⟩ := g_next hP hS had hs.1 hs.2.2 hup
  have hg1 := (hM l).1
  have hk1 := k.1.1
  have hk2 := k.1.2
  have hrun := va_runS (p := p) (l := l) (e := e) (R := R) (s := s) (m := m0) (args := args) (below := below) (meth := meth) (c := c) (H := H) (locs := locs) (cells := kk) (slots := nn) (nL := nL) (As := av.map (xval ad)) (rest := st.map (xval ad)) (g := F0 m0 pc ls (((av.reverse ++ st)).map (xval ad)))
    ⟨hx, hbc, hml, hown, hts⟩ hMy ⟨callB_of n hts (xgoodY hY.1) rfl rfl rfl (hts _ hY.2.1) (hts _ hl) hY.2.2 ⟨by show dY + 1 ≤ R.frames; omega, by show 8 + (maxL + 11) + 30 * dY ≤ R.locals; omega⟩, hts _ hse⟩
    ⟨gPrS_blind _ _ _ _ _ _ _ _ _ _ _, fun U hU hW => ⟨rfl, ⟨by rw [hU], z2, by rw [hU]; exact hP, ⟨hD.1, fun _ _ _ => trivial⟩, va_K.moved hW.alike hK, by rw [hU]; exact xStr.goes hW hstr (fun _ => rfl) (fun q h1 h2 => hS.2.1 q h1 h2) hAA, hTT.warm hW⟩, by rw [hU]; exact (va_T.moved hW.alike (va_T.kept Z (fun q h1 h2 => hS.2.1 q h1 h2))).narrow hAA⟩⟩
    rfl (by rw [List.length_map]; exact hn) hv.1 (by
      show List.map (xval ad) _ = _
      rw [List.map_append, List.map_reverse]) (by
      refine lv_room ?_
      rw [List.map_map]
      have e1 : ((fun v => v.category) ∘ xval ad) = xcat := funext fun v => xcat_val ad v
      rw [e1]; exact hst) hd ⟨by have := hlim.1; have := hs.1; have := hg1.1; omega, by have := hlim.2; have := hs.2.1; have := hg1.2; omega⟩
  obtain ⟨v, st₀, t, T', Lo, h0, X', hL, e1, e2, ⟨⟨hv1, hp1, hd1⟩, hz, hkk⟩, stp⟩ := hrun Ts hTs X
  cases hv1
  rw [h0] at hz hkk
  obtain ⟨t2, a1, b1⟩ := k.2 _ hΓ T'.heap (locs ++ Lo) ls (kk + (h1.length - hp.length)) (nn + (gsl h1 - gsl hp)) ⟨by have := hs.1; have := hg1.1; omega, by have := hs.2.1; have := hg1.2; omega, by have := hs.2.2; have := hg1.1; omega⟩ (by rw [e1]; exact hp1) (hd1.weaken (fun i x _ h => hAA _ h)) ⟨Nat.le_trans hS.1 (by rw [e1]; exact hz), fun q h1 h2 => by rw [e1, hkk q (Nat.lt_of_lt_of_le h1 hS.1) (fun z => h2 (hAA q z))]; exact hS.2.1 q h1 h2, fun q hq => by
      rcases List.mem_append.mp hq with h | h
      · exact hS.2.2 q h
      · exact hAA _ (hL q h)⟩ hv T' rfl X'
  refine ⟨t2, stp t2 ?_, b1⟩
  show Steps p.tables e below (T'.setTop (F0 m0 (pc + 3) ls ((rv.map (xval ad)).toList ++ st.map (xval ad)))) t2
  have e3 : ((rv.map (xval ad)).toList ++ st.map (xval ad)) = ((rv.toList ++ st).map (xval ad)) := by
    cases rv with
    | none => rfl
    | some v => rfl
  rw [e3]
  exact a1
end GS

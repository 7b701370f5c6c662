/-! ===== the layer g: constructors ===== -/
section GI
variable {P : gG → Prop} {lay layY : List xS} {own : String} {cc cY : ByteArray} {nL d pc idx maxL dY n b ci : Nat} {L : List (Nat × xV)} {st : List xV} {m mY : xM} {hp h1 h9 : gH} {y : MethodName} {av : List xV} {fs : List (Option Nat)} {q : Nat × gH}
theorem g_newOo (C : ∀ Γ, P Γ → gX Γ lay own cc nL d h9) (hd : decode cc pc = .ok (.new idx, 3)) (hw : Cond.classLink own idx RX11 ∈ wsL_law) (hi : Cond.instantiable RX11 31 ∈ wsL_law) (hn : Cond.initialized RX11 ∈ wsL_law) (hq : gOo hp = some q) (h : gJ P lay nL (pc + 3) L (.inr (.inr (some q.1)) :: st) m q.2 h9) : gJ P lay nL pc L st m hp h9 := by
  cases hq
  exact g_newO C hd hw hi hn h
theorem g_mnIo (C : ∀ Γ, P Γ → gX Γ lay own cc nL d h9) (hd : decode cc pc = .ok (.multianewarray idx 2, 4)) (hw : Cond.classLink own idx "[[I" ∈ wsL_law) (hic : Cond.arrayClass .int ∈ wsL_law) (hq : gMo 4 hp = some q) (h : gJ P lay nL (pc + 4) L (.inr (.inr (some q.1)) :: st) m q.2 h9) : gJ P lay nL pc L (.inl 0 :: .inl 2 :: st) m hp h9 := by
  cases hq
  exact g_mnI C hd hw hic h
theorem g_mnQo (C : ∀ Γ, P Γ → gX Γ lay own cc nL d h9) (hd : decode cc pc = .ok (.multianewarray idx 2, 4)) (hw : Cond.classLink own idx "[[[I" ∈ gNb) (hq : gMo 5 hp = some q) (h : gJ P lay nL (pc + 4) L (.inr (.inr (some q.1)) :: st) m q.2 h9) : gJ P lay nL pc L (.inl 0 :: .inl 2 :: st) m hp h9 := by
  cases hq
  exact g_mnQ C hd hw h
theorem g_obj (C : ∀ Γ, P Γ → gX Γ lay own cc nL d h9) {x : Nat} (hd : decode cc pc = .ok (.invokespecial idx, 3)) (h1 : Cond.methodLink own idx objectInit ∈ wsL_law) (h2 : Cond.instanceMethod objectInit ∈ wsL_law) (h3 : Cond.code objectInit ⟨#[0xb1]⟩ 1 none ∈ wsL_law) (hdd : 1 ≤ d) (h : gJ P lay nL (pc + 3) L [] m hp h9) : gJ P lay nL pc L [.inr (.inr (some x))] m hp h9 := by
  refine ⟨h.1, ?_⟩
  intro Γ hΓ
  have C := C Γ hΓ
  obtain ⟨⟨p, l, e, R, s, m0, args, below, meth, c⟩, ⟨A, ad, dC, dI, dA⟩, n0, s0, n1, s1, Q⟩ := Γ
  obtain ⟨hx, hb, hml, hown, hts, hK, had, hA, hfr, hlo, hlim, hstr, hTT⟩ := C
  intro H locs ls kk nn hs hP hD hS hv
  refine W.objInit hx hb hown (hts _ h1) (hts _ h2) (hts _ h3) rfl (by rw [hml]; exact hv.1) rfl hd (by omega) (by show 2 * 0 + 0 + _ ≤ _; omega) ?_
  exact W.eq (g2 := F0 m0 (pc + 3) ls []) rfl (h.2 _ hΓ H locs ls kk nn hs hP hD hS hv)
theorem g_callIN (C : ∀ Γ, P Γ → gX Γ lay own cc nL d h9) (hd : decode cc pc = .ok (.invokespecial idx, 3)) {host : String} (hl : Cond.methodLinkNest own idx y host ∈ gNb) (hY : xY y cY maxL none n) (hin : Cond.instanceMethod y ∈ wsL_law) (hni : y.name = "<init>") (hdd : dY + 1 ≤ d) (hmax : maxL ≤ 11)
    (hn : av.length = n) (hst : (st.map xcat).sum ≤ 8)
    (hle : gle hp h1) (hM : ∀ l : Launch, gMet l y cY maxL none dY lay (.inr (.inr (some b)) :: av) m hp none mY h1) {stk : List xV} (hs0 : stk = av.reverse ++ .inr (.inr (some b)) :: st)
    (k : gJ P lay nL (pc + 3) L st mY h1 h9) : gJ P lay nL pc L stk m hp h9 := by
  subst hs0
  refine ⟨hle.tr k.1, ?_⟩
  intro Γ hΓ
  have C := C Γ hΓ
  obtain ⟨⟨p, l, e, R, s, m0, args, below, meth, c⟩, ⟨A, ad, dC, dI, dA⟩, n0, s0, n1, s1, Q⟩ := Γ
  obtain ⟨hx, hbc, hml, hown, hts, hK, had, hA, hfr, hlo, hlim, hstr, hTT⟩ := C
  intro H locs ls kk nn hs hP hD hS hv
  have hAA : ∀ q : Nat, va_A (gwd ad dA lay m hp) H.size q → A q := fun q h2 => by
    rcases h2 with ⟨i, e9, hi⟩ | h2
    · exact hD.2 i _ hi
    · exact hA _ (Nat.le_trans hS.1 h2)
  have hMy := (hM l).2 dC dI dA ad H.size
  intro Ts hTs X
  have hup := X.heapSize
  rw [hTs] at hup
  obtain ⟨z0, z1, z2⟩ := g_next hP hS had hs.1 hs.2.2 hup
  have hg1 := (hM l).1
  have hk1 := k.1.1
  have hk2 := k.1.2
  have hrun := va_runIN (p := p) (l := l) (e := e) (R := R) (s := s) (m := m0) (args := args) (below := below) (meth := meth) (c := c) (H := H) (locs := locs) (cells := kk) (slots := nn) (nL := nL) (As := av.map (xval ad)) (rest := st.map (xval ad)) (g := F0 m0 pc ls (((av.reverse ++ .inr (.inr (some b)) :: st)).map (xval ad)))
    ⟨hx, hbc, hml, hown, hts⟩ hMy ⟨va_cnB n hts (xgoodY hY.1) rfl rfl rfl (hTT.2 _ hl) (hts _ hY.2.1) hY.2.2 ⟨by show dY + 1 ≤ R.frames; omega, by show 8 + (maxL + 11) + 30 * dY ≤ R.locals; omega⟩, hni, hts _ hin⟩
    ⟨gPre_blind _ _ _ _ _ _ _ _ _, fun U hU hW => ⟨rfl, by rw [hU], z2, by rw [hU]; exact hP, ⟨hD.1, fun _ _ _ => trivial⟩, va_K.moved hW.alike hK, by rw [hU]; exact xStr.goes hW hstr (fun _ => rfl) (fun q h1 h2 => hS.2.1 q h1 h2) hAA, hTT.warm hW⟩⟩
    rfl (by rw [List.length_map]; exact hn) hv.1 (by
      show List.map (xval ad) _ = _
      rw [List.map_append, List.map_reverse, List.map_cons]
      rfl) (by
      refine lv_room ?_
      rw [List.map_map]
      have e1 : ((fun v => v.category) ∘ xval ad) = xcat := funext fun v => xcat_val ad v
      rw [e1]; exact hst) hd ⟨by have := hlim.1; have := hs.1; have := hg1.1; omega, by have := hlim.2; have := hs.2.1; have := hg1.2; omega⟩
  obtain ⟨v, st₀, t, T', Lo, h0, X', hL, e1, e2, ⟨⟨hv1, hp1, hd1⟩, hz, hkk⟩, stp⟩ := hrun Ts hTs X
  cases hv1
  rw [h0] at hz hkk
  obtain ⟨t2, a1, b1⟩ := k.2 _ hΓ T'.heap (locs ++ Lo) ls (kk + (h1.length - hp.length)) (nn + (gsl h1 - gsl hp)) ⟨by have := hs.1; have := hg1.1; omega, by have := hs.2.1; have := hg1.2; omega, by have := hs.2.2; have := hg1.1; omega⟩ (by rw [e1]; exact hp1) (hd1.weaken (fun i x _ h => hAA _ h)) ⟨Nat.le_trans hS.1 (by rw [e1]; exact hz), fun q h1 h2 => by rw [e1, hkk q (Nat.lt_of_lt_of_le h1 hS.1) (fun z => h2 (hAA q z))]; exact hS.2.1 q h1 h2, fun q hq => by
      rcases List.mem_append.mp hq with h | h
      · exact hS.2.2 q h
      · exact hAA _ (hL q h)⟩ hv T' rfl X'
  refine ⟨t2, stp t2 ?_, b1⟩
  exact a1
end GI

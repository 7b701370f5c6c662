/-! ===== the layer g: calls ===== -/
section GC
variable {P : gG → Prop} {lay layY : List xS} {own : String} {cc cY : ByteArray} {nL d pc idx maxL dY n b ci : Nat} {L : List (Nat × xV)} {st : List xV} {m mY : xM} {hp h1 h9 : gH} {y : MethodName} {ret : Option FieldType} {rv : Option xV} {T : List Nat} {av : List xV} {fs : List (Option Nat)}
theorem g_callV (C : ∀ Γ, P Γ → gX Γ lay own cc nL d h9) (hd : decode cc pc = .ok (.invokevirtual idx, 3)) (hl : Cond.methodLink own idx y ∈ wsL_law) (hY : xY y cY maxL ret n) (hin : Cond.instanceMethod y ∈ wsL_law) (hse : Cond.selects y.cls y y ∈ wsL_law) {fo : List xV} (hcb : gat hp b = some (.inr (.inr fo))) (hcl : ∃ TT N, vwCl[12]? = some (y.cls, TT, N)) (hdd : dY + 1 ≤ d) (hmax : maxL ≤ 11)
    (hn : av.length = n) (hst : (st.map xcat).sum ≤ 8)
    (hle : gle hp h1) (hM : ∀ l : Launch, gMet l y cY maxL ret dY lay (.inr (.inr (some b)) :: av) m hp rv mY h1) {stk : List xV} (hs0 : stk = av.reverse ++ .inr (.inr (some b)) :: st)
    (k : gJ P lay nL (pc + 3) L (rv.toList ++ st) mY h1 h9) : gJ P lay nL pc L stk m hp h9 := by
  subst hs0
  refine ⟨hle.tr k.1, ?_⟩
  intro Γ hΓ
  have C := C Γ hΓ
  obtain ⟨⟨p, l, e, R, s, m0, args, below, meth, c⟩, ⟨A, ad, dC, dI, dA⟩, n0, s0, n1, s1, Q⟩ := Γ
  obtain ⟨hx, hbc, hml, hown, hts, hK, had, hA, hfr, hlo, hlim, hstr, hTT⟩ := C
  intro H locs ls kk nn hs hP hD hS hv
  obtain ⟨TT, N, hcl⟩ := hcl
  have hGW : GoodIn wsL_law (wsV own idx y.cls y (Cond.code y cY maxL ret :: wsL_law)) := by
    intro w hw
    unfold wsV at hw
    rcases List.mem_append.mp hw with h | h
    · simp only [List.mem_cons, List.not_mem_nil, or_false] at h
      rcases h with rfl | rfl | rfl | rfl
      · exact xgood1 hl
      · exact xgood1 hin
      · exact xgood1 hse
      · exact xgood1 hY.2.1
    · exact xgoodY hY.1 w h
  have hAA : ∀ q : Nat, va_A (gwd ad dA lay m hp) H.size q → A q := fun q h2 => by
    rcases h2 with ⟨i, e9, hi⟩ | h2
    · exact hD.2 i _ hi
    · exact hA _ (Nat.le_trans hS.1 h2)
  have hMy := (hM l).2 dC dI dA ad H.size
  intro Ts hTs X
  have hup := X.heapSize
  rw [hTs] at hup
  obtain ⟨z0, z1, z2⟩ := g_next hP hS had hs.1 hs.2.2 hup
  have hg1 := (hM l).1
  have hk1 := k.1.1
  have hk2 := k.1.2
  have hrun := va_runV (p := p) (l := l) (e := e) (R := R) (s := s) (m := m0) (args := args) (below := below) (meth := meth) (c := c) (H := H) (locs := locs) (cells := kk) (slots := nn) (nL := nL) (As := av.map (xval ad)) (rest := st.map (xval ad)) (g := F0 m0 pc ls (((av.reverse ++ .inr (.inr (some b)) :: st)).map (xval ad)))
    ⟨hx, hbc, hml, hown, hts⟩ hMy (cwV n hts hGW rfl rfl rfl ⟨rfl, hY.2.2⟩ ⟨by show dY + 1 ≤ R.frames; omega, by show 8 + (maxL + 11) + 30 * dY ≤ R.locals; omega⟩)
    ⟨gPre_blind _ _ _ _ _ _ _ _ _, va_recv hK hP hcl (gwd_at hcb), fun U hU hW => ⟨rfl, by rw [hU], z2, by rw [hU]; exact hP, ⟨hD.1, fun _ _ _ => trivial⟩, va_K.moved hW.alike hK, by rw [hU]; exact xStr.goes hW hstr (fun _ => rfl) (fun q h1 h2 => hS.2.1 q h1 h2) hAA, hTT.warm hW⟩⟩
    rfl (by rw [List.length_map]; exact hn) hv.1 (by
      show List.map (xval ad) _ = _
      rw [List.map_append, List.map_reverse, List.map_cons]
      rfl) (by
      refine lv_room ?_
      rw [List.map_map]
      have e1 : ((fun v => v.category) ∘ xval ad) = xcat := funext fun v => xcat_val ad v
      rw [e1]; exact hst) hd ⟨by have := hlim.1; have := hs.1; have := hg1.1; omega, by have := hlim.2; have := hs.2.1; have := hg1.2; omega⟩
  obtain ⟨v, st₀, t, T', Lo, h0, X', hL, e1, e2, ⟨⟨hv1, hp1, hd1⟩, hz, hkk⟩, stp⟩ := hrun Ts hTs X
  cases hv1
  rw [h0] at hz hkk
  obtain ⟨t2, a1, b1⟩ := k.2 _ hΓ T'.heap (locs ++ Lo) ls (kk + (h1.length - hp.length)) (nn + (gsl h1 - gsl hp)) ⟨by have := hs.1; have := hg1.1; omega, by have := hs.2.1; have := hg1.2; omega, by have := hs.2.2; have := hg1.1; omega⟩ (by rw [e1]; exact hp1) (hd1.weaken (fun i x _ h => hAA _ h)) ⟨Nat.le_trans hS.1 (by rw [e1]; exact hz), fun q h1 h2 => by rw [e1, hkk q (Nat.lt_of_lt_of_le h1 hS.1) (fun z => h2 (hAA q z))]; exact hS.2.1 q h1 h2, fun q hq => by
      rcases List.mem_append.mp hq with h | h
      · exact hS.2.2 q h
      · exact hAA _ (hL q h)⟩ hv T' rfl X'
  refine ⟨t2, stp t2 ?_, b1⟩
  show Steps p.tables e below (T'.setTop (F0 m0 (pc + 3) ls ((rv.map (xval ad)).toList ++ st.map (xval ad)))) t2
  have e3 : ((rv.map (xval ad)).toList ++ st.map (xval ad)) = ((rv.toList ++ st).map (xval ad)) := by
    cases rv with
    | none => rfl
    | some v => rfl
  rw [e3]
  exact a1
theorem g_callS (C : ∀ Γ, P Γ → gX Γ lay own cc nL d h9) (hd : decode cc pc = .ok (.invokestatic idx, 3)) (hl : Cond.methodLink own idx y ∈ wsL_law) (hY : xY y cY maxL ret n) (hse : Cond.static y ∈ wsL_law) (hdd : dY + 1 ≤ d) (hmax : maxL ≤ 11)
    (hn : av.length = n) (hst : (st.map xcat).sum ≤ 8)
    (hle : gle hp h1) (hM : ∀ l : Launch, gMet l y cY maxL ret dY lay (av) m hp rv mY h1) {stk : List xV} (hs0 : stk = av.reverse ++ st)
    (k : gJ P lay nL (pc + 3) L (rv.toList ++ st) mY h1 h9) : gJ P lay nL pc L stk m hp h9 := by
  subst hs0
  refine ⟨hle.tr k.1, ?_⟩
  intro Γ hΓ
  have C := C Γ hΓ
  obtain ⟨⟨p, l, e, R, s, m0, args, below, meth, c⟩, ⟨A, ad, dC, dI, dA⟩, n0, s0, n1, s1, Q⟩ := Γ
  obtain ⟨hx, hbc, hml, hown, hts, hK, had, hA, hfr, hlo, hlim, hstr, hTT⟩ := C
  intro H locs ls kk nn hs hP hD hS hv
  have hAA : ∀ q : Nat, va_A (gwd ad dA lay m hp) H.size q → A q := fun q h2 => by
    rcases h2 with ⟨i, e9, hi⟩ | h2
    · exact hD.2 i _ hi
    · exact hA _ (Nat.le_trans hS.1 h2)
  have hMy := (hM l).2 dC dI dA ad H.size
  intro Ts hTs X
  have hup := X.heapSize
  rw [hTs] at hup
  obtain ⟨z0, z1, z2⟩ := g_next hP hS had hs.1 hs.2.2 hup
  have hg1 := (hM l).1
  have hk1 := k.1.1
  have hk2 := k.1.2
  have hrun := va_runS (p := p) (l := l) (e := e) (R := R) (s := s) (m := m0) (args := args) (below := below) (meth := meth) (c := c) (H := H) (locs := locs) (cells := kk) (slots := nn) (nL := nL) (As := av.map (xval ad)) (rest := st.map (xval ad)) (g := F0 m0 pc ls (((av.reverse ++ st)).map (xval ad)))
    ⟨hx, hbc, hml, hown, hts⟩ hMy ⟨callB_of n hts (xgoodY hY.1) rfl rfl rfl (hts _ hY.2.1) (hts _ hl) hY.2.2 ⟨by show dY + 1 ≤ R.frames; omega, by show 8 + (maxL + 11) + 30 * dY ≤ R.locals; omega⟩, hts _ hse⟩
    ⟨gPre_blind _ _ _ _ _ _ _ _ _, fun U hU hW => ⟨rfl, by rw [hU], z2, by rw [hU]; exact hP, ⟨hD.1, fun _ _ _ => trivial⟩, va_K.moved hW.alike hK, by rw [hU]; exact xStr.goes hW hstr (fun _ => rfl) (fun q h1 h2 => hS.2.1 q h1 h2) hAA, hTT.warm hW⟩⟩
    rfl (by rw [List.length_map]; exact hn) hv.1 (by
      show List.map (xval ad) _ = _
      rw [List.map_append, List.map_reverse]) (by
      refine lv_room ?_
      rw [List.map_map]
      have e1 : ((fun v => v.category) ∘ xval ad) = xcat := funext fun v => xcat_val ad v
      rw [e1]; exact hst) hd ⟨by have := hlim.1; have := hs.1; have := hg1.1; omega, by have := hlim.2; have := hs.2.1; have := hg1.2; omega⟩
  obtain ⟨v, st₀, t, T', Lo, h0, X', hL, e1, e2, ⟨⟨hv1, hp1, hd1⟩, hz, hkk⟩, stp⟩ := hrun Ts hTs X
  cases hv1
  rw [h0] at hz hkk
  obtain ⟨t2, a1, b1⟩ := k.2 _ hΓ T'.heap (locs ++ Lo) ls (kk + (h1.length - hp.length)) (nn + (gsl h1 - gsl hp)) ⟨by have := hs.1; have := hg1.1; omega, by have := hs.2.1; have := hg1.2; omega, by have := hs.2.2; have := hg1.1; omega⟩ (by rw [e1]; exact hp1) (hd1.weaken (fun i x _ h => hAA _ h)) ⟨Nat.le_trans hS.1 (by rw [e1]; exact hz), fun q h1 h2 => by rw [e1, hkk q (Nat.lt_of_lt_of_le h1 hS.1) (fun z => h2 (hAA q z))]; exact hS.2.1 q h1 h2, fun q hq => by
      rcases List.mem_append.mp hq with h | h
      · exact hS.2.2 q h
      · exact hAA _ (hL q h)⟩ hv T' rfl X'
  refine ⟨t2, stp t2 ?_, b1⟩
  show Steps p.tables e below (T'.setTop (F0 m0 (pc + 3) ls ((rv.map (xval ad)).toList ++ st.map (xval ad)))) t2
  have e3 : ((rv.map (xval ad)).toList ++ st.map (xval ad)) = ((rv.toList ++ st).map (xval ad)) := by
    cases rv with
    | none => rfl
    | some v => rfl
  rw [e3]
  exact a1
theorem g_callVN (C : ∀ Γ, P Γ → gX Γ lay own cc nL d h9) (hd : decode cc pc = .ok (.invokevirtual idx, 3)) {host : String} (hl : Cond.methodLinkNest own idx y host ∈ gNb) (hY : xY y cY maxL ret n) (hin : Cond.instanceMethod y ∈ wsL_law) (hse : Cond.selects y.cls y y ∈ wsL_law) {fo : List xV} (hcb : gat hp b = some (.inr (.inr fo))) (hcl : ∃ TT N, vwCl[12]? = some (y.cls, TT, N)) (hdd : dY + 1 ≤ d) (hmax : maxL ≤ 11)
    (hn : av.length = n) (hst : (st.map xcat).sum ≤ 8)
    (hle : gle hp h1) (hM : ∀ l : Launch, gMet l y cY maxL ret dY lay (.inr (.inr (some b)) :: av) m hp rv mY h1) {stk : List xV} (hs0 : stk = av.reverse ++ .inr (.inr (some b)) :: st)
    (k : gJ P lay nL (pc + 3) L (rv.toList ++ st) mY h1 h9) : gJ P lay nL pc L stk m hp h9 := by
  subst hs0
  refine ⟨hle.tr k.1, ?_⟩
  intro Γ hΓ
  have C := C Γ hΓ
  obtain ⟨⟨p, l, e, R, s, m0, args, below, meth, c⟩, ⟨A, ad, dC, dI, dA⟩, n0, s0, n1, s1, Q⟩ := Γ
  obtain ⟨hx, hbc, hml, hown, hts, hK, had, hA, hfr, hlo, hlim, hstr, hTT⟩ := C
  intro H locs ls kk nn hs hP hD hS hv
  obtain ⟨TT, N, hcl⟩ := hcl
  have hAA : ∀ q : Nat, va_A (gwd ad dA lay m hp) H.size q → A q := fun q h2 => by
    rcases h2 with ⟨i, e9, hi⟩ | h2
    · exact hD.2 i _ hi
    · exact hA _ (Nat.le_trans hS.1 h2)
  have hMy := (hM l).2 dC dI dA ad H.size
  intro Ts hTs X
  have hup := X.heapSize
  rw [hTs] at hup
  obtain ⟨z0, z1, z2⟩ := g_next hP hS had hs.1 hs.2.2 hup
  have hg1 := (hM l).1
  have hk1 := k.1.1
  have hk2 := k.1.2
  have hrun := va_runVN (p := p) (l := l) (e := e) (R := R) (s := s) (m := m0) (args := args) (below := below) (meth := meth) (c := c) (H := H) (locs := locs) (cells := kk) (slots := nn) (nL := nL) (As := av.map (xval ad)) (rest := st.map (xval ad)) (g := F0 m0 pc ls (((av.reverse ++ .inr (.inr (some b)) :: st)).map (xval ad)))
    ⟨hx, hbc, hml, hown, hts⟩ hMy ⟨va_cnB n hts (xgoodY hY.1) rfl rfl rfl (hTT.2 _ hl) (hts _ hY.2.1) hY.2.2 ⟨by show dY + 1 ≤ R.frames; omega, by show 8 + (maxL + 11) + 30 * dY ≤ R.locals; omega⟩, hts _ hin, hts _ hse⟩
    ⟨gPre_blind _ _ _ _ _ _ _ _ _, va_recv hK hP hcl (gwd_at hcb), fun U hU hW => ⟨rfl, by rw [hU], z2, by rw [hU]; exact hP, ⟨hD.1, fun _ _ _ => trivial⟩, va_K.moved hW.alike hK, by rw [hU]; exact xStr.goes hW hstr (fun _ => rfl) (fun q h1 h2 => hS.2.1 q h1 h2) hAA, hTT.warm hW⟩⟩
    rfl (by rw [List.length_map]; exact hn) hv.1 (by
      show List.map (xval ad) _ = _
      rw [List.map_append, List.map_reverse, List.map_cons]
      rfl) (by
      refine lv_room ?_
      rw [List.map_map]
      have e1 : ((fun v => v.category) ∘ xval ad) = xcat := funext fun v => xcat_val ad v
      rw [e1]; exact hst) hd ⟨by have := hlim.1; have := hs.1; have := hg1.1; omega, by have := hlim.2; have := hs.2.1; have := hg1.2; omega⟩
  obtain ⟨v, st₀, t, T', Lo, h0, X', hL, e1, e2, ⟨⟨hv1, hp1, hd1⟩, hz, hkk⟩, stp⟩ := hrun Ts hTs X
  cases hv1
  rw [h0] at hz hkk
  obtain ⟨t2, a1, b1⟩ := k.2 _ hΓ T'.heap (locs ++ Lo) ls (kk + (h1.length - hp.length)) (nn + (gsl h1 - gsl hp)) ⟨by have := hs.1; have := hg1.1; omega, by have := hs.2.1; have := hg1.2; omega, by have := hs.2.2; have := hg1.1; omega⟩ (by rw [e1]; exact hp1) (hd1.weaken (fun i x _ h => hAA _ h)) ⟨Nat.le_trans hS.1 (by rw [e1]; exact hz), fun q h1 h2 => by rw [e1, hkk q (Nat.lt_of_lt_of_le h1 hS.1) (fun z => h2 (hAA q z))]; exact hS.2.1 q h1 h2, fun q hq => by
      rcases List.mem_append.mp hq with h | h
      · exact hS.2.2 q h
      · exact hAA _ (hL q h)⟩ hv T' rfl X'
  refine ⟨t2, stp t2 ?_, b1⟩
  show Steps p.tables e below (T'.setTop (F0 m0 (pc + 3) ls ((rv.map (xval ad)).toList ++ st.map (xval ad)))) t2
  have e3 : ((rv.map (xval ad)).toList ++ st.map (xval ad)) = ((rv.toList ++ st).map (xval ad)) := by
    cases rv with
    | none => rfl
    | some v => rfl
  rw [e3]
  exact a1
theorem g_callSN (C : ∀ Γ, P Γ → gX Γ lay own cc nL d h9) (hd : decode cc pc = .ok (.invokestatic idx, 3)) {host : String} (hl : Cond.methodLinkNest own idx y host ∈ gNb) (hY : xY y cY maxL ret n) (hse : Cond.static y ∈ wsL_law) (hdd : dY + 1 ≤ d) (hmax : maxL ≤ 11)
    (hn : av.length = n) (hst : (st.map xcat).sum ≤ 8)
    (hle : gle hp h1) (hM : ∀ l : Launch, gMet l y cY maxL ret dY lay (av) m hp rv mY h1) {stk : List xV} (hs0 : stk = av.reverse ++ st)
    (k : gJ P lay nL (pc + 3) L (rv.toList ++ st) mY h1 h9) : gJ P lay nL pc L stk m hp h9 := by
  subst hs0
  refine ⟨hle.tr k.1, ?_⟩
  intro Γ hΓ
  have C := C Γ hΓ
  obtain ⟨⟨p, l, e, R, s, m0, args, below, meth, c⟩, ⟨A, ad, dC, dI, dA⟩, n0, s0, n1, s1, Q⟩ := Γ
  obtain ⟨hx, hbc, hml, hown, hts, hK, had, hA, hfr, hlo, hlim, hstr, hTT⟩ := C
  intro H locs ls kk nn hs hP hD hS hv
  have hAA : ∀ q : Nat, va_A (gwd ad dA lay m hp) H.size q → A q := fun q h2 => by
    rcases h2 with ⟨i, e9, hi⟩ | h2
    · exact hD.2 i _ hi
    · exact hA _ (Nat.le_trans hS.1 h2)
  have hMy := (hM l).2 dC dI dA ad H.size
  intro Ts hTs X
  have hup := X.heapSize
  rw [hTs] at hup
  obtain ⟨z0, z1, z2⟩ := g_next hP hS had hs.1 hs.2.2 hup
  have hg1 := (hM l).1
  have hk1 := k.1.1
  have hk2 := k.1.2
  have hrun := va_runSN (p := p) (l := l) (e := e) (R := R) (s := s) (m := m0) (args := args) (below := below) (meth := meth) (c := c) (H := H) (locs := locs) (cells := kk) (slots := nn) (nL := nL) (As := av.map (xval ad)) (rest := st.map (xval ad)) (g := F0 m0 pc ls (((av.reverse ++ st)).map (xval ad)))
    ⟨hx, hbc, hml, hown, hts⟩ hMy ⟨va_cnB n hts (xgoodY hY.1) rfl rfl rfl (hTT.2 _ hl) (hts _ hY.2.1) hY.2.2 ⟨by show dY + 1 ≤ R.frames; omega, by show 8 + (maxL + 11) + 30 * dY ≤ R.locals; omega⟩, hts _ hse, trivial⟩
    ⟨gPre_blind _ _ _ _ _ _ _ _ _, fun U hU hW => ⟨rfl, by rw [hU], z2, by rw [hU]; exact hP, ⟨hD.1, fun _ _ _ => trivial⟩, va_K.moved hW.alike hK, by rw [hU]; exact xStr.goes hW hstr (fun _ => rfl) (fun q h1 h2 => hS.2.1 q h1 h2) hAA, hTT.warm hW⟩⟩
    rfl (by rw [List.length_map]; exact hn) hv.1 (by
      show List.map (xval ad) _ = _
      rw [List.map_append, List.map_reverse]) (by
      refine lv_room ?_
      rw [List.map_map]
      have e1 : ((fun v => v.category) ∘ xval ad) = xcat := funext fun v => xcat_val ad v
      rw [e1]; exact hst) hd ⟨by have := hlim.1; have := hs.1; have := hg1.1; omega, by have := hlim.2; have := hs.2.1; have := hg1.2; omega⟩
  obtain ⟨v, st₀, t, T', Lo, h0, X', hL, e1, e2, ⟨⟨hv1, hp1, hd1⟩, hz, hkk⟩, stp⟩ := hrun Ts hTs X
  cases hv1
  rw [h0] at hz hkk
  obtain ⟨t2, a1, b1⟩ := k.2 _ hΓ T'.heap (locs ++ Lo) ls (kk + (h1.length - hp.length)) (nn + (gsl h1 - gsl hp)) ⟨by have := hs.1; have := hg1.1; omega, by have := hs.2.1; have := hg1.2; omega, by have := hs.2.2; have := hg1.1; omega⟩ (by rw [e1]; exact hp1) (hd1.weaken (fun i x _ h => hAA _ h)) ⟨Nat.le_trans hS.1 (by rw [e1]; exact hz), fun q h1 h2 => by rw [e1, hkk q (Nat.lt_of_lt_of_le h1 hS.1) (fun z => h2 (hAA q z))]; exact hS.2.1 q h1 h2, fun q hq => by
      rcases List.mem_append.mp hq with h | h
      · exact hS.2.2 q h
      · exact hAA _ (hL q h)⟩ hv T' rfl X'
  refine ⟨t2, stp t2 ?_, b1⟩
  show Steps p.tables e below (T'.setTop (F0 m0 (pc + 3) ls ((rv.map (xval ad)).toList ++ st.map (xval ad)))) t2
  have e3 : ((rv.map (xval ad)).toList ++ st.map (xval ad)) = ((rv.toList ++ st).map (xval ad)) := by
    cases rv with
    | none => rfl
    | some v => rfl
  rw [e3]
  exact a1
end GC

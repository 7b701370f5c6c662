/-! ===== the layer g: calls of the class, of texts ===== -/
theorem xwld_ad (ad : Nat → Nat) (dA : Nat → ClassId) (m m' : xM) (lay : List xS) (h : gH) (k : Nat) (q : Nat × va_E) (e : (gwd ad dA lay m h)[k]? = some q) : ∃ e' : va_E, (gwd ad dA lay m' h)[k]? = some (q.1, e') := by
  unfold gwd at e ⊢
  by_cases hk : k < lay.length
  · rw [List.getElem?_append_left (by rw [xwld_len]; exact hk), xwld_get] at e ⊢
    cases hl : lay[k]? with
    | none => rw [hl] at e; cases e
    | some s =>
      rw [hl] at e
      cases e
      exact ⟨_, rfl⟩
  · rw [List.getElem?_append_right (by rw [xwld_len]; omega), xwld_len] at e ⊢
    exact ⟨q.2, e⟩
theorem gwd_D {A : Nat → Prop} {ad : Nat → Nat} {dA : Nat → ClassId} {m m' : xM} {lay : List xS} {h : gH} (hD : va_D A (gwd ad dA lay m h)) : va_D A (gwd ad dA lay m' h) := by
  refine ⟨fun i j p q hi hj e => ?_, fun k q hk => ?_⟩
  · obtain ⟨e1, h1⟩ := xwld_ad ad dA m' m lay h i p hi
    obtain ⟨e2, h2⟩ := xwld_ad ad dA m' m lay h j q hj
    exact hD.1 i j _ _ h1 h2 e
  · obtain ⟨e1, h1⟩ := xwld_ad ad dA m' m lay h k q hk
    · exact hD.2 k (q.1, e1) h1
theorem gwd_lay {D : va_G} {ad : Nat → Nat} {dA : Nat → ClassId} {m : xM} {lay : List xS} {h : gH} {H : Heap} (hP : va_P D vwCl (gwd ad dA lay m h) H) : va_P D vwCl (xwld ad dA m 0 lay) H := fun k q hq => hP k q (by
  unfold gwd
  rw [List.getElem?_append_left (List.getElem?_eq_some_iff.mp hq).1]
  exact hq)
theorem gwd_inj {A : Nat → Prop} {ad : Nat → Nat} {dA : Nat → ClassId} {m : xM} {lay : List xS} {h : gH} (hD : va_D A (gwd ad dA lay m h)) : (∀ i j : Nat, i < lay.length → j < lay.length → ad i = ad j → i = j) ∧ ∀ i : Nat, i < lay.length → A (ad i) := by
  have hx : ∀ i : Nat, i < lay.length → (gwd ad dA lay m h)[i]? = some (ad i, xent ad dA (m i) (lay.getD i (.inr (0, 0, [])))) := fun i hi => by
    unfold gwd
    rw [List.getElem?_append_left (by rw [xwld_len]; exact hi), xwld_get, List.getElem?_eq_getElem hi, Nat.zero_add, List.getD_eq_getElem?_getD, List.getElem?_eq_getElem hi]
    rfl
  exact ⟨fun i j hi hj e => hD.1 i j _ _ (hx i hi) (hx j hj) e, fun i hi => hD.2 i _ (hx i hi)⟩
/-- the world behind a call that sees the class's cells alone -/
theorem gwd_back {D : va_G} {A : Nat → Prop} {ad : Nat → Nat} {dA : Nat → ClassId} {m mY : xM} {lay : List xS} {h : gH} {H H1 : Heap} (hP : va_P D vwCl (gwd ad dA lay m h) H) (hD : va_D A (gwd ad dA lay m h)) (hY : va_P D vwCl (xwld ad dA mY 0 lay) H1) (hk : ∀ q : Nat, q < H.size → ¬ xAr ad lay H.size q → H1[q]? = H[q]?) : va_P D vwCl (gwd ad dA lay mY h) H1 := by
  unfold gwd
  refine va_P.app hY (fun k q hq => ?_)
  have h1 : (gwd ad dA lay m h)[lay.length + k]? = some q := by
    unfold gwd
    rw [List.getElem?_append_right (by rw [xwld_len]; omega), xwld_len, Nat.add_sub_cancel_left]
    exact hq
  have h0 := hP _ q h1
  refine h0.kept (hk q.1 h0.lt (fun z => ?_))
  rcases z with ⟨i, hi, z⟩ | z
  · have h2 : (gwd ad dA lay m h)[i]? = some (ad i, xent ad dA (m i) (lay.getD i (.inr (0, 0, [])))) := by
      unfold gwd
      rw [List.getElem?_append_left (by rw [xwld_len]; exact hi), xwld_get, List.getElem?_eq_getElem hi, Nat.zero_add, List.getD_eq_getElem?_getD, List.getElem?_eq_getElem hi]
      rfl
    have := hD.1 _ _ _ _ h1 h2 z
    omega
  · have := h0.lt
    exact absurd z (Nat.not_le.mpr this)
section GCX
variable {P : gG → Prop} {lay layY : List xS} {own : String} {cc cY : ByteArray} {nL d pc idx maxL dY n b ci : Nat} {L : List (Nat × xV)} {st : List xV} {m mY : xM} {hp h9 : gH} {y : MethodName} {ret : Option FieldType} {rv : Option xV} {T : List Nat} {av : List xV} {fs : List (Option Nat)}
theorem g_callX (C : ∀ Γ, P Γ → gX Γ lay own cc nL d h9) (hd : decode cc pc = .ok (.invokevirtual idx, 3)) (hl : Cond.methodLink own idx y ∈ wsL_law) (hY : xY y cY maxL ret n) (hin : Cond.instanceMethod y ∈ wsL_law) (hse : Cond.selects y.cls y y ∈ wsL_law) (hdd : dY + 1 ≤ d) (hmax : maxL ≤ 11)
    (hb : lay[b]? = some (.inl (ci, fs))) (hci : ∃ TT N, vwCl[ci]? = some (y.cls, TT, N)) (hn : av.length = n) (hst : (st.map xcat).sum ≤ 8)
    (hM : ∀ l : Launch, xMet l y cY maxL ret dY lay (.inr (.inr (some b)) :: av) m rv mY) {stk : List xV} (hs0 : stk = av.reverse ++ .inr (.inr (some b)) :: st)
    (k : gJ P lay nL (pc + 3) L (rv.toList ++ st) mY hp h9) : gJ P lay nL pc L stk m hp h9 := by
  subst hs0
  refine ⟨k.1, ?_⟩
  intro Γ hΓ
  have C := C Γ hΓ
  obtain ⟨⟨p, l, e, R, s, m0, args, below, meth, c⟩, ⟨A, ad, dC, dI, dA⟩, n0, s0, n1, s1, Q⟩ := Γ
  obtain ⟨hx, hbc, hml, hown, hts, hK, had, hA, hfr, hlo, hlim, hstr, hTT⟩ := C
  intro H locs ls kk nn hs hP hD hS hv
  obtain ⟨TT, N, hci⟩ := hci
  obtain ⟨hinj, hAi⟩ := gwd_inj hD
  have hAA : ∀ q : Nat, xAr ad lay H.size q → A q := fun q h2 => by
    rcases h2 with ⟨i, hi, rfl⟩ | h2
    · exact hAi _ hi
    · exact hA _ (Nat.le_trans hS.1 h2)
  have hMy := hM l dC dI dA ad H.size
  have hk1 := k.1.1
  have hk2 := k.1.2
  have hGW : GoodIn wsL_law (wsV own idx y.cls y (Cond.code y cY maxL ret :: wsL_law)) := by
    intro w hw
    unfold wsV at hw
    rcases List.mem_append.mp hw with h | h
    · simp only [List.mem_cons, List.not_mem_nil, or_false] at h
      rcases h with rfl | rfl | rfl | rfl
      · exact xgood1 hl
      · exact xgood1 hin
      · exact xgood1 hse
      · exact xgood1 hY.2.1
    · exact xgoodY hY.1 w h
  have hrun := va_runV (p := p) (l := l) (e := e) (R := R) (s := s) (m := m0) (args := args) (below := below) (meth := meth) (c := c) (H := H) (locs := locs) (cells := kk) (slots := nn) (nL := nL) (As := av.map (xval ad)) (rest := st.map (xval ad)) (g := F0 m0 pc ls (((av.reverse ++ .inr (.inr (some b)) :: st)).map (xval ad)))
    ⟨hx, hbc, hml, hown, hts⟩ hMy (cwV n hts hGW rfl rfl rfl ⟨rfl, hY.2.2⟩ ⟨by show dY + 1 ≤ R.frames; omega, by show 8 + (maxL + 11) + 30 * dY ≤ R.locals; omega⟩)
    ⟨xPre_blind _ _ _ _ _ _ _ _, va_recv hK (gwd_lay hP) hci (xwld_at hb), fun U hU hW => ⟨rfl, by rw [hU], by rw [hU]; exact gwd_lay hP, va_K.moved hW.alike hK, hinj, by rw [hU]; exact xStr.goes hW hstr (fun _ => rfl) (fun q h1 h2 => hS.2.1 q h1 h2) hAA⟩⟩
    rfl (by rw [List.length_map]; exact hn) hv.1 (by
      show List.map (xval ad) _ = _
      rw [List.map_append, List.map_reverse, List.map_cons]
      rfl) (by
      refine lv_room ?_
      rw [List.map_map]
      have e1 : ((fun v => v.category) ∘ xval ad) = xcat := funext fun v => xcat_val ad v
      rw [e1]; exact hst) hd ⟨by have := hlim.1; have := hs.1; omega, by have := hlim.2; have := hs.2.1; omega⟩
  intro Ts hTs X
  obtain ⟨v, st₀, t, T', Lo, h0, X', hL, e1, e2, ⟨⟨hv1, hp1⟩, hz, hkk⟩, stp⟩ := hrun Ts hTs X
  cases hv1
  rw [h0] at hz hkk
  obtain ⟨t2, a1, b1⟩ := k.2 _ hΓ T'.heap (locs ++ Lo) ls kk nn hs (by rw [e1]; exact gwd_back hP hD hp1 hkk) (gwd_D hD) ⟨Nat.le_trans hS.1 (by rw [e1]; exact hz), fun q h1 h2 => by rw [e1, hkk q (Nat.lt_of_lt_of_le h1 hS.1) (fun z => h2 (hAA q z))]; exact hS.2.1 q h1 h2, fun q hq => by
      rcases List.mem_append.mp hq with h | h
      · exact hS.2.2 q h
      · exact hAA _ (hL q h)⟩ hv T' rfl X'
  refine ⟨t2, stp t2 ?_, b1⟩
  show Steps p.tables e below (T'.setTop (F0 m0 (pc + 3) ls ((rv.map (xval ad)).toList ++ st.map (xval ad)))) t2
  have e3 : ((rv.map (xval ad)).toList ++ st.map (xval ad)) = ((rv.toList ++ st).map (xval ad)) := by
    cases rv with
    | none => rfl
    | some v => rfl
  rw [e3]
  exact a1
theorem g_callK (C : ∀ Γ, P Γ → gX Γ lay own cc nL d h9) (hd : decode cc pc = .ok (.invokevirtual idx, 3)) (hl : Cond.methodLink own idx y ∈ wsL_law) (hY : xY y cY maxL ret n) (hin : Cond.instanceMethod y ∈ wsL_law) (hse : Cond.selects y.cls y y ∈ wsL_law) (hdd : dY + 1 ≤ d) (hmax : maxL ≤ 11)
    (hb : ∃ i : Nat, xSok i ∧ b = 1000 + i) (hci : y.cls = "java/lang/String") (hn : av.length = n) (hst : (st.map xcat).sum ≤ 8)
    (hM : ∀ l : Launch, xMet l y cY maxL ret dY lay (.inr (.inr (some b)) :: av) m rv mY) {stk : List xV} (hs0 : stk = av.reverse ++ .inr (.inr (some b)) :: st)
    (k : gJ P lay nL (pc + 3) L (rv.toList ++ st) mY hp h9) : gJ P lay nL pc L stk m hp h9 := by
  subst hs0
  refine ⟨k.1, ?_⟩
  intro Γ hΓ
  have C := C Γ hΓ
  obtain ⟨⟨p, l, e, R, s, m0, args, below, meth, c⟩, ⟨A, ad, dC, dI, dA⟩, n0, s0, n1, s1, Q⟩ := Γ
  obtain ⟨hx, hbc, hml, hown, hts, hK, had, hA, hfr, hlo, hlim, hstr, hTT⟩ := C
  intro H locs ls kk nn hs hP hD hS hv
  obtain ⟨ib, hib, rfl⟩ := hb
  have hrc : ∃ cell : Cell, H[ad (1000 + ib)]? = some cell ∧ cell.vm.isStatics = false ∧ s.vm.findClass y.cls = some cell.cls := by
    obtain ⟨cell, h1, h2, h3, -⟩ := (hstr.1 ib hib).1.kept hS.2.1
    exact ⟨cell, h1, h2, by rw [hci]; exact h3⟩
  obtain ⟨hinj, hAi⟩ := gwd_inj hD
  have hAA : ∀ q : Nat, xAr ad lay H.size q → A q := fun q h2 => by
    rcases h2 with ⟨i, hi, rfl⟩ | h2
    · exact hAi _ hi
    · exact hA _ (Nat.le_trans hS.1 h2)
  have hMy := hM l dC dI dA ad H.size
  have hk1 := k.1.1
  have hk2 := k.1.2
  have hGW : GoodIn wsL_law (wsV own idx y.cls y (Cond.code y cY maxL ret :: wsL_law)) := by
    intro w hw
    unfold wsV at hw
    rcases List.mem_append.mp hw with h | h
    · simp only [List.mem_cons, List.not_mem_nil, or_false] at h
      rcases h with rfl | rfl | rfl | rfl
      · exact xgood1 hl
      · exact xgood1 hin
      · exact xgood1 hse
      · exact xgood1 hY.2.1
    · exact xgoodY hY.1 w h
  have hrun := va_runV (p := p) (l := l) (e := e) (R := R) (s := s) (m := m0) (args := args) (below := below) (meth := meth) (c := c) (H := H) (locs := locs) (cells := kk) (slots := nn) (nL := nL) (As := av.map (xval ad)) (rest := st.map (xval ad)) (g := F0 m0 pc ls (((av.reverse ++ .inr (.inr (some (1000 + ib))) :: st)).map (xval ad)))
    ⟨hx, hbc, hml, hown, hts⟩ hMy (cwV n hts hGW rfl rfl rfl ⟨rfl, hY.2.2⟩ ⟨by show dY + 1 ≤ R.frames; omega, by show 8 + (maxL + 11) + 30 * dY ≤ R.locals; omega⟩)
    ⟨xPre_blind _ _ _ _ _ _ _ _, hrc, fun U hU hW => ⟨rfl, by rw [hU], by rw [hU]; exact gwd_lay hP, va_K.moved hW.alike hK, hinj, by rw [hU]; exact xStr.goes hW hstr (fun _ => rfl) (fun q h1 h2 => hS.2.1 q h1 h2) hAA⟩⟩
    rfl (by rw [List.length_map]; exact hn) hv.1 (by
      show List.map (xval ad) _ = _
      rw [List.map_append, List.map_reverse, List.map_cons]
      rfl) (by
      refine lv_room ?_
      rw [List.map_map]
      have e1 : ((fun v => v.category) ∘ xval ad) = xcat := funext fun v => xcat_val ad v
      rw [e1]; exact hst) hd ⟨by have := hlim.1; have := hs.1; omega, by have := hlim.2; have := hs.2.1; omega⟩
  intro Ts hTs X
  obtain ⟨v, st₀, t, T', Lo, h0, X', hL, e1, e2, ⟨⟨hv1, hp1⟩, hz, hkk⟩, stp⟩ := hrun Ts hTs X
  cases hv1
  rw [h0] at hz hkk
  obtain ⟨t2, a1, b1⟩ := k.2 _ hΓ T'.heap (locs ++ Lo) ls kk nn hs (by rw [e1]; exact gwd_back hP hD hp1 hkk) (gwd_D hD) ⟨Nat.le_trans hS.1 (by rw [e1]; exact hz), fun q h1 h2 => by rw [e1, hkk q (Nat.lt_of_lt_of_le h1 hS.1) (fun z => h2 (hAA q z))]; exact hS.2.1 q h1 h2, fun q hq => by
      rcases List.mem_append.mp hq with h | h
      · exact hS.2.2 q h
      · exact hAA _ (hL q h)⟩ hv T' rfl X'
  refine ⟨t2, stp t2 ?_, b1⟩
  show Steps p.tables e below (T'.setTop (F0 m0 (pc + 3) ls ((rv.map (xval ad)).toList ++ st.map (xval ad)))) t2
  have e3 : ((rv.map (xval ad)).toList ++ st.map (xval ad)) = ((rv.toList ++ st).map (xval ad)) := by
    cases rv with
    | none => rfl
    | some v => rfl
  rw [e3]
  exact a1
theorem g_slen (C : ∀ Γ, P Γ → gX Γ lay own cc nL d h9) {idx : Nat} (i : Nat) (hi : xSok i) (hd : decode cc pc = .ok (.invokevirtual idx, 3)) (hl : Cond.methodLink own idx yJ0_length_8abf5 ∈ wsL_law) (hdd : 4 ≤ d) (hst : (st.map xcat).sum ≤ 8)
    (k : gJ P lay nL (pc + 3) L (.inl (xsl i) :: st) m hp h9) : gJ P lay nL pc L (.inr (.inr (some (1000 + i))) :: st) m hp h9 :=
  g_callK C (dY := 1) (st := st) (av := []) (b := 1000 + i) hd hl xyJ0_length (by decide +kernel) (by decide +kernel) (by omega) (by decide) ⟨i, hi, rfl⟩ rfl rfl hst (fun l => c_s6 l _ _ i hi) rfl k
theorem g_schar (C : ∀ Γ, P Γ → gX Γ lay own cc nL d h9) {idx : Nat} (i : Nat) (hi : xSok i) {j : Int} (hd : decode cc pc = .ok (.invokevirtual idx, 3)) (hl : Cond.methodLink own idx yJ0_charAt_5068e ∈ wsL_law) (hdd : 4 ≤ d) (hst : (st.map xcat).sum ≤ 8) (hj : xib j (xSby.getD i []).length)
    (k : gJ P lay nL (pc + 3) L (.inl (xsc i (xix j)) :: st) m hp h9) : gJ P lay nL pc L (.inl j :: .inr (.inr (some (1000 + i))) :: st) m hp h9 :=
  g_callK C (dY := 3) (st := st) (av := [.inl j]) (b := 1000 + i) hd hl xyJ0_char (by decide +kernel) (by decide +kernel) (by omega) (by decide) ⟨i, hi, rfl⟩ rfl rfl hst (fun l => c_s4 l _ _ i hi hj) rfl k
end GCX

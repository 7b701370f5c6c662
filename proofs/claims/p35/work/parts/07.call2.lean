/-! ===== a call: the callee sees some of the caller's cells, under its own numbers ===== -/
/-- places from 1000 on are the same for all: the constant texts -/
def xT (T : List Nat) (k : Nat) : Nat := if k < 1000 then T.getD k 0 else k
theorem xT_lo {T : List Nat} {k : Nat} (h : k < 1000) : xT T k = T.getD k 0 := by unfold xT; rw [if_pos h]
theorem xT_hi (T : List Nat) (i : Nat) : xT T (1000 + i) = 1000 + i := by unfold xT; rw [if_neg (by omega)]
def xren (T : List Nat) : xV → xV
  | .inl x => .inl x
  | .inr (.inl x) => .inr (.inl x)
  | .inr (.inr o) => .inr (.inr (o.map (xT T)))
def xmap (T : List Nat) : xS → xS
  | .inl (ci, fs) => .inl (ci, fs.map (fun f => f.map (xT T)))
  | .inr (t, n, rs) => .inr (t, n, rs.map (xT T))
abbrev xview (lay layY : List xS) (T : List Nat) : Prop := (∀ k, k < layY.length → lay[xT T k]? = (layY[k]?).map (xmap T)) ∧ (layY.length ≤ T.length ∧ layY.length ≤ 1000) ∧ va_nd (T.take layY.length) = true
def xvb (lay layY : List xS) (T : List Nat) : Bool := (List.range layY.length).all (fun k => decide (lay[xT T k]? = (layY[k]?).map (xmap T))) && (decide (layY.length ≤ T.length) && (decide (layY.length ≤ 1000) && va_nd (T.take layY.length)))
theorem xview_of {lay layY : List xS} {T : List Nat} (h : xvb lay layY T = true) : xview lay layY T := by
  unfold xvb at h
  simp only [Bool.and_eq_true, decide_eq_true_eq, List.all_eq_true] at h
  exact ⟨fun k hk => h.1 k (List.mem_range.mpr hk), ⟨h.2.1, h.2.2.1⟩, h.2.2.2⟩
def xpos : List Nat → Nat → Nat → Option Nat
  | [], _, _ => none
  | t :: ts, k, i => if i = t then some k else xpos ts (k + 1) i
def xmg (T : List Nat) (n : Nat) (m mY : xM) : xM := fun i => match xpos (T.take n) 0 i with
  | some k => mY k
  | none => m i
def xvw (T : List Nat) (m : xM) : xM := fun k => m (xT T k)
theorem xval_ren (ad : Nat → Nat) (T : List Nat) (v : xV) : xval ad (xren T v) = xval (fun k => ad (xT T k)) v := by
  rcases v with x | x | _ | x <;> rfl
theorem xfv_ren (ad : Nat → Nat) (T : List Nat) (g : Nat → Int) : ∀ (fs : List (Option Nat)) (b : Nat), xfv (fun k => ad (xT T k)) g b fs = xfv ad g b (fs.map (fun f => f.map (xT T)))
  | [], _ => rfl
  | none :: t, b => by
    show _ :: xfv _ g (b + 1) t = _ :: xfv ad g (b + 1) _
    rw [xfv_ren ad T g t (b + 1)]
  | some r :: t, b => by
    show _ :: xfv _ g (b + 1) t = _ :: xfv ad g (b + 1) _
    rw [xfv_ren ad T g t (b + 1)]
theorem xent_ren (ad : Nat → Nat) (dA : Nat → ClassId) (T : List Nat) (g : Nat → Int) (s : xS) : xent (fun k => ad (xT T k)) dA g s = xent ad dA g (xmap T s) := by
  rcases s with ⟨ci, fs⟩ | ⟨t, n, rs⟩
  · show Sum.inr (ci, _) = Sum.inr (ci, _)
    rw [xfv_ren]
  · match t with
    | 0 => rfl
    | 1 => rfl
    | t + 2 =>
      show Sum.inl (dA (t + 2), n, Sum.inr (Sum.inr (Sum.inr (Sum.inr _)))) = Sum.inl (dA (t + 2), n, Sum.inr (Sum.inr (Sum.inr (Sum.inr _))))
      congr 7
      funext j
      rw [List.getElem?_map, Option.map_map]
      rfl
theorem xpos_some : ∀ {T : List Nat} {b i k : Nat}, xpos T b i = some k → ∃ j, k = b + j ∧ T[j]? = some i
  | [], _, _, _, h => by cases h
  | t :: ts, b, i, k, h => by
    unfold xpos at h
    split at h
    next e => cases h; subst e; exact ⟨0, rfl, rfl⟩
    next => obtain ⟨j, h1, h2⟩ := xpos_some h; exact ⟨j + 1, by omega, h2⟩
theorem xpos_none : ∀ {T : List Nat} {b i : Nat}, xpos T b i = none → ∀ j : Nat, T[j]? ≠ some i
  | [], _, _, _, _, h => by cases h
  | t :: ts, b, i, h, j, hj => by
    unfold xpos at h
    split at h
    next e => cases h
    next e =>
      cases j with
      | zero => exact e (Option.some.inj hj).symm
      | succ j => exact xpos_none h j hj
theorem xT_take {T : List Nat} {n j i : Nat} (hn : n ≤ 1000) (h : (T.take n)[j]? = some i) : j < n ∧ xT T j = i := by
  have hj : j < (T.take n).length := (List.getElem?_eq_some_iff.mp h).1
  have hjn : j < n := by rw [List.length_take] at hj; omega
  rw [List.getElem?_take_of_lt hjn] at h
  refine ⟨hjn, ?_⟩
  rw [xT_lo (by omega), List.getD_eq_getElem?_getD, h]; rfl
theorem xT_at {T : List Nat} {n j : Nat} (h : j < n) (hn : n ≤ T.length ∧ n ≤ 1000) : (T.take n)[j]? = some (xT T j) := by
  obtain ⟨hn, h1000⟩ := hn
  rw [List.getElem?_take_of_lt h, xT_lo (by omega)]
  rw [List.getD_eq_getElem?_getD, List.getElem?_eq_getElem (by omega)]; rfl
/-- all words of the law's list are good -/
theorem xgood : ∀ w ∈ wsL_law, goodWord w = true := List.all_eq_true.mp (by decide +kernel)
/-- what the tables say of a method that is called -/
def xY (y : MethodName) (cY : ByteArray) (maxL : Nat) (ret : Option FieldType) (n : Nat) : Prop :=
  Cond.code y cY maxL ret ∈ wsL_law ∧ Cond.initialized y.cls ∈ wsL_law ∧ (y.cls ≠ "java/lang/invoke/MethodHandle" ∧ y.cls ≠ "java/lang/invoke/VarHandle" ∧ (parseMethodDescriptor y.desc).map (fun d => d.parameters.length) = some n)
theorem xgood1 {w : Cond} (h : w ∈ wsL_law) : w ∈ wsL_law ∧ ((w.onTables && w.keeps) = true ∨ ∃ ty, w = .arrayClass ty) := ⟨h, good_of_word (xgood w h)⟩
theorem xgoodY {y : MethodName} {cY : ByteArray} {maxL : Nat} {ret : Option FieldType} (h : Cond.code y cY maxL ret ∈ wsL_law) : GoodIn wsL_law (Cond.code y cY maxL ret :: wsL_law) := by
  intro w hw
  rcases List.mem_cons.mp hw with rfl | hw
  · exact xgood1 h
  · exact xgood1 hw
theorem xPre_blind (av : List Value) (dC : Nat → ClassId) (dI : Nat → Nat → Nat) (dA : Nat → ClassId) (ad : Nat → Nat) (lay : List xS) (m : xM) (sz : Nat) : FrameBlind (va_Pc av (xPre dC dI dA ad lay m sz)) := by
  intro a U g mk q
  obtain ⟨q0, q1, qP, qK, qD, qX⟩ := q
  exact ⟨q0, q1, qP, va_K.moved (u := U) (U := U.calling g mk a) (Vm.Alike.refl U.vm) qK, qD, xStr.same (u := U) (U := U.calling g mk a) rfl qX⟩
/-- a call that writes nothing -/
theorem xmg_self (T : List Nat) (n : Nat) (hn : n ≤ 1000) (m : xM) : xmg T n m (xvw T m) = m := by
  funext i
  unfold xmg
  cases hp : xpos (T.take n) 0 i with
  | none => rfl
  | some k =>
    obtain ⟨j, h2, h3⟩ := xpos_some hp
    obtain ⟨h4, h5⟩ := xT_take hn h3
    have hkj : k = j := by omega
    subst hkj
    show m (xT T k) = m i
    rw [h5]
section XCALL
variable {Γ : xG} {lay layY : List xS} {own : String} {cc cY : ByteArray} {nL d pc idx maxL dY n b ci : Nat} {L : List (Nat × xV)} {st : List xV} {m mY : xM} {y : MethodName} {ret : Option FieldType} {rv : Option xV} {T : List Nat} {av : List xV} {fs : List (Option Nat)}
theorem xv_P {D : va_G} {ad : Nat → Nat} {dA : Nat → ClassId} {H : Heap} (hT : xview lay layY T) (hP : va_P D vwCl (xwld ad dA m 0 lay) H) : va_P D vwCl (xwld (fun k => ad (xT T k)) dA (xvw T m) 0 layY) H := by
  intro k q hq
  obtain ⟨s1, h1, rfl⟩ := xwld_inv hq
  have h2 := hT.1 k (List.getElem?_eq_some_iff.mp h1).1
  rw [h1] at h2
  have h3 := hP (xT T k) _ (xwld_at h2)
  rw [xent_ren]
  exact h3
theorem xv_lt (hT : xview lay layY T) {k : Nat} (hk : k < layY.length) : xT T k < lay.length := by
  have h2 := hT.1 k hk
  rw [List.getElem?_eq_getElem hk] at h2
  exact (List.getElem?_eq_some_iff.mp h2).1
theorem xv_inj {ad : Nat → Nat} (hT : xview lay layY T) (hD : ∀ i j : Nat, i < lay.length → j < lay.length → ad i = ad j → i = j) : ∀ i j : Nat, i < layY.length → j < layY.length → ad (xT T i) = ad (xT T j) → i = j := by
  intro i j hi hj h
  have e := hD _ _ (xv_lt hT hi) (xv_lt hT hj) h
  exact va_nd_inj _ hT.2.2 i j (xT T i) (xT_at hi hT.2.1) (by rw [e]; exact xT_at hj hT.2.1)
/-- the world behind a call -/
theorem xv_back {D : va_G} {ad : Nat → Nat} {dA : Nat → ClassId} {H H1 : Heap} (hT : xview lay layY T) (hD : ∀ i j : Nat, i < lay.length → j < lay.length → ad i = ad j → i = j) (hP : va_P D vwCl (xwld ad dA m 0 lay) H) (hY : va_P D vwCl (xwld (fun k => ad (xT T k)) dA mY 0 layY) H1)
    (hk : ∀ q : Nat, q < H.size → ¬ xAr (fun k => ad (xT T k)) layY H.size q → H1[q]? = H[q]?) : va_P D vwCl (xwld ad dA (xmg T layY.length m mY) 0 lay) H1 := by
  intro i q hq
  obtain ⟨s1, h1, rfl⟩ := xwld_inv hq
  have hi : i < lay.length := (List.getElem?_eq_some_iff.mp h1).1
  unfold xmg
  cases hp : xpos (T.take layY.length) 0 i with
  | none =>
    have h0 := hP i _ (xwld_at h1)
    refine h0.kept (hk (ad i) h0.lt (fun z => ?_))
    rcases z with ⟨j, hj, z⟩ | z
    · have e := hD i (xT T j) hi (xv_lt hT hj) z
      exact xpos_none hp j (by rw [e]; exact xT_at hj hT.2.1)
    · have := h0.lt
      exact absurd z (by show ¬ H.size ≤ ad i; exact Nat.not_le.mpr this)
  | some k =>
    obtain ⟨j, h2, h3⟩ := xpos_some hp
    obtain ⟨h4, h5⟩ := xT_take hT.2.1.2 h3
    have hkj : k = j := by omega
    subst hkj
    have h6 := hT.1 k h4
    rw [List.getElem?_eq_getElem h4, h5, h1] at h6
    have h7 : s1 = xmap T layY[k] := Option.some.inj h6
    have h8 := hY k _ (xwld_at (List.getElem?_eq_getElem h4))
    rw [xent_ren, ← h7] at h8
    rw [← h5]
    exact h8
theorem x_callV (C : xC Γ lay own cc nL d) (hd : decode cc pc = .ok (.invokevirtual idx, 3)) (hl : Cond.methodLink own idx y ∈ wsL_law) (hY : xY y cY maxL ret n) (hin : Cond.instanceMethod y ∈ wsL_law) (hse : Cond.selects y.cls y y ∈ wsL_law) (T : List Nat) (hT : xview lay layY T) (hdd : dY + 1 ≤ d) (hmax : maxL ≤ 11)
    (hb : layY[b]? = some (.inl (ci, fs))) (hci : ∃ TT N, vwCl[ci]? = some (y.cls, TT, N)) (hn : av.length = n) (hst : (st.map xcat).sum ≤ 8)
    (hM : xMet Γ.1.2.1 y cY maxL ret dY layY (.inr (.inr (some b)) :: av) (xvw T m) rv mY) {stk : List xV} (hs : stk = (av.map (xren T)).reverse ++ .inr (.inr (some (xT T b))) :: st)
    (k : xW Γ lay nL (pc + 3) L ((rv.map (xren T)).toList ++ st) (xmg T layY.length m mY)) : xW Γ lay nL pc L stk m := by
  subst hs
  obtain ⟨⟨p, l, e, R, s, m0, args, below, meth, c⟩, ⟨A, ad, dC, dI, dA⟩, cells, slots, Q⟩ := Γ
  obtain ⟨hx, hbc, hml, hown, hts, hK, hD, hA, hfr, hlo, hce, hsl, hstr⟩ := C
  intro H locs ls hP hS hv
  have hPY := xv_P hT hP
  have hMy := hM dC dI dA (fun k => ad (xT T k)) H.size
  have hAA2 : ∀ q : Nat, xAr (fun k => ad (xT T k)) layY H.size q → A q := fun q h2 => by
    rcases h2 with ⟨i, hi, rfl⟩ | h2
    · exact hD.2 _ (xv_lt hT hi)
    · exact hA _ (Nat.le_trans hS.1 h2)
  obtain ⟨TT, N, hci⟩ := hci
  have hGW : GoodIn wsL_law (wsV own idx y.cls y (Cond.code y cY maxL ret :: wsL_law)) := by
    intro w hw
    unfold wsV at hw
    rcases List.mem_append.mp hw with h | h
    · simp only [List.mem_cons, List.not_mem_nil, or_false] at h
      rcases h with rfl | rfl | rfl | rfl
      · exact xgood1 hl
      · exact xgood1 hin
      · exact xgood1 hse
      · exact xgood1 hY.2.1
    · exact xgoodY hY.1 w h
  have hrun := va_runV (p := p) (l := l) (e := e) (R := R) (s := s) (m := m0) (args := args) (below := below) (meth := meth) (c := c) (H := H) (locs := locs) (cells := cells) (slots := slots) (nL := nL) (As := av.map (xval (fun k => ad (xT T k)))) (rest := st.map (xval ad)) (g := F0 m0 pc ls ((((av.map (xren T)).reverse ++ .inr (.inr (some (xT T b))) :: st)).map (xval ad)))
    ⟨hx, hbc, hml, hown, hts⟩ hMy (cwV n hts hGW rfl rfl rfl ⟨rfl, hY.2.2⟩ ⟨by show dY + 1 ≤ R.frames; omega, by show 8 + (maxL + 11) + 30 * dY ≤ R.locals; omega⟩)
    ⟨xPre_blind _ _ _ _ _ _ _ _, va_recv hK hPY hci (xwld_at hb), fun U hU hW => ⟨rfl, by rw [hU], by rw [hU]; exact hPY, va_K.moved hW.alike hK, xv_inj hT hD.1, by rw [hU]; exact xStr.goes hW hstr (fun i => by show ad (xT T (1000 + i)) = _; rw [xT_hi]) (fun q h1 h2 => hS.2.1 q h1 h2) hAA2⟩⟩
    rfl (by rw [List.length_map]; exact hn) hv.1 (by
      show List.map (xval ad) _ = _
      rw [List.map_append, List.map_reverse, List.map_map, List.map_cons]
      have e1 : (xval ad ∘ xren T) = xval (fun k => ad (xT T k)) := funext fun v => xval_ren ad T v
      rw [e1]
      rfl) (by
      refine lv_room ?_
      rw [List.map_map]
      have e1 : ((fun v => v.category) ∘ xval ad) = xcat := funext fun v => xcat_val ad v
      rw [e1]; exact hst) hd ⟨by omega, by omega⟩
  intro Ts hTs X
  obtain ⟨v, st₀, t, T', Lo, h0, X', hL, e1, e2, ⟨⟨hv1, hp1⟩, hz, hkk⟩, stp⟩ := hrun Ts hTs X
  cases hv1
  rw [h0] at hz hkk
  have hP2 := xv_back (H1 := T'.heap) (mY := mY) hT hD.1 hP (by rw [e1]; exact hp1) (fun q h1 h2 => by rw [e1]; exact hkk q h1 h2)
  have hAA : ∀ q : Nat, q < H.size → xAr (fun k => ad (xT T k)) layY H.size q → A q := fun q h1 h2 => by
    rcases h2 with ⟨i, hi, rfl⟩ | h2
    · exact hD.2 _ (xv_lt hT hi)
    · omega
  obtain ⟨t2, a1, b1⟩ := k T'.heap (locs ++ Lo) ls hP2 ⟨Nat.le_trans hS.1 (by rw [e1]; exact hz), fun q h1 h2 => by rw [e1, hkk q (Nat.lt_of_lt_of_le h1 hS.1) (fun z => h2 (hAA q (Nat.lt_of_lt_of_le h1 hS.1) z))]; exact hS.2.1 q h1 h2, fun q hq => by
      rcases List.mem_append.mp hq with h | h
      · exact hS.2.2 q h
      · rcases hL q h with ⟨i, hi, hq⟩ | h2
        · rw [hq]; exact hD.2 _ (xv_lt hT hi)
        · exact hA _ (Nat.le_trans hS.1 h2)⟩ hv T' rfl X'
  refine ⟨t2, stp t2 ?_, b1⟩
  show Steps p.tables e below (T'.setTop (F0 m0 (pc + 3) ls ((rv.map (xval (fun k => ad (xT T k)))).toList ++ st.map (xval ad)))) t2
  have e3 : ((rv.map (xval (fun k => ad (xT T k)))).toList ++ st.map (xval ad)) = (((rv.map (xren T)).toList ++ st).map (xval ad)) := by
    cases rv with
    | none => rfl
    | some v => show xval _ v :: _ = xval ad (xren T v) :: _; rw [xval_ren]; rfl
  rw [e3]
  exact a1
theorem x_callS (C : xC Γ lay own cc nL d) (hd : decode cc pc = .ok (.invokestatic idx, 3)) (hl : Cond.methodLink own idx y ∈ wsL_law) (hY : xY y cY maxL ret n) (hse : Cond.static y ∈ wsL_law) (T : List Nat) (hT : xview lay layY T) (hdd : dY + 1 ≤ d) (hmax : maxL ≤ 11)
    (hn : av.length = n) (hst : (st.map xcat).sum ≤ 8)
    (hM : xMet Γ.1.2.1 y cY maxL ret dY layY av (xvw T m) rv mY) {stk : List xV} (hs : stk = (av.map (xren T)).reverse ++ st)
    (k : xW Γ lay nL (pc + 3) L ((rv.map (xren T)).toList ++ st) (xmg T layY.length m mY)) : xW Γ lay nL pc L stk m := by
  subst hs
  obtain ⟨⟨p, l, e, R, s, m0, args, below, meth, c⟩, ⟨A, ad, dC, dI, dA⟩, cells, slots, Q⟩ := Γ
  obtain ⟨hx, hbc, hml, hown, hts, hK, hD, hA, hfr, hlo, hce, hsl, hstr⟩ := C
  intro H locs ls hP hS hv
  have hPY := xv_P hT hP
  have hMy := hM dC dI dA (fun k => ad (xT T k)) H.size
  have hAA2 : ∀ q : Nat, xAr (fun k => ad (xT T k)) layY H.size q → A q := fun q h2 => by
    rcases h2 with ⟨i, hi, rfl⟩ | h2
    · exact hD.2 _ (xv_lt hT hi)
    · exact hA _ (Nat.le_trans hS.1 h2)
  have hrun := va_runS (p := p) (l := l) (e := e) (R := R) (s := s) (m := m0) (args := args) (below := below) (meth := meth) (c := c) (H := H) (locs := locs) (cells := cells) (slots := slots) (nL := nL) (As := av.map (xval (fun k => ad (xT T k)))) (rest := st.map (xval ad)) (g := F0 m0 pc ls ((((av.map (xren T)).reverse ++ st)).map (xval ad)))
    ⟨hx, hbc, hml, hown, hts⟩ hMy ⟨callB_of n hts (xgoodY hY.1) rfl rfl rfl (hts _ hY.2.1) (hts _ hl) hY.2.2 ⟨by show dY + 1 ≤ R.frames; omega, by show 8 + (maxL + 11) + 30 * dY ≤ R.locals; omega⟩, hts _ hse⟩
    ⟨xPre_blind _ _ _ _ _ _ _ _, fun U hU hW => ⟨rfl, by rw [hU], by rw [hU]; exact hPY, va_K.moved hW.alike hK, xv_inj hT hD.1, by rw [hU]; exact xStr.goes hW hstr (fun i => by show ad (xT T (1000 + i)) = _; rw [xT_hi]) (fun q h1 h2 => hS.2.1 q h1 h2) hAA2⟩⟩
    rfl (by rw [List.length_map]; exact hn) hv.1 (by
      show List.map (xval ad) _ = _
      rw [List.map_append, List.map_reverse, List.map_map]
      have e1 : (xval ad ∘ xren T) = xval (fun k => ad (xT T k)) := funext fun v => xval_ren ad T v
      rw [e1]) (by
      refine lv_room ?_
      rw [List.map_map]
      have e1 : ((fun v => v.category) ∘ xval ad) = xcat := funext fun v => xcat_val ad v
      rw [e1]; exact hst) hd ⟨by omega, by omega⟩
  intro Ts hTs X
  obtain ⟨v, st₀, t, T', Lo, h0, X', hL, e1, e2, ⟨⟨hv1, hp1⟩, hz, hkk⟩, stp⟩ := hrun Ts hTs X
  cases hv1
  rw [h0] at hz hkk
  have hP2 := xv_back (H1 := T'.heap) (mY := mY) hT hD.1 hP (by rw [e1]; exact hp1) (fun q h1 h2 => by rw [e1]; exact hkk q h1 h2)
  have hAA : ∀ q : Nat, q < H.size → xAr (fun k => ad (xT T k)) layY H.size q → A q := fun q h1 h2 => by
    rcases h2 with ⟨i, hi, rfl⟩ | h2
    · exact hD.2 _ (xv_lt hT hi)
    · omega
  obtain ⟨t2, a1, b1⟩ := k T'.heap (locs ++ Lo) ls hP2 ⟨Nat.le_trans hS.1 (by rw [e1]; exact hz), fun q h1 h2 => by rw [e1, hkk q (Nat.lt_of_lt_of_le h1 hS.1) (fun z => h2 (hAA q (Nat.lt_of_lt_of_le h1 hS.1) z))]; exact hS.2.1 q h1 h2, fun q hq => by
      rcases List.mem_append.mp hq with h | h
      · exact hS.2.2 q h
      · rcases hL q h with ⟨i, hi, hq⟩ | h2
        · rw [hq]; exact hD.2 _ (xv_lt hT hi)
        · exact hA _ (Nat.le_trans hS.1 h2)⟩ hv T' rfl X'
  refine ⟨t2, stp t2 ?_, b1⟩
  show Steps p.tables e below (T'.setTop (F0 m0 (pc + 3) ls ((rv.map (xval (fun k => ad (xT T k)))).toList ++ st.map (xval ad)))) t2
  have e3 : ((rv.map (xval (fun k => ad (xT T k)))).toList ++ st.map (xval ad)) = (((rv.map (xren T)).toList ++ st).map (xval ad)) := by
    cases rv with
    | none => rfl
    | some v => show xval _ v :: _ = xval ad (xren T v) :: _; rw [xval_ren]; rfl
  rw [e3]
  exact a1
theorem x_callVI (C : xC Γ lay own cc nL d) (hd : decode cc pc = .ok (.invokevirtual idx, 3)) (hl : Cond.methodLink own idx y ∈ wsL_law) (hY : xY y cY maxL ret n) (hin : Cond.instanceMethod y ∈ wsL_law) (hse : Cond.selects y.cls y y ∈ wsL_law) (hdd : dY + 1 ≤ d) (hmax : maxL ≤ 11)
    (hb : lay[b]? = some (.inl (ci, fs))) (hci : ∃ TT N, vwCl[ci]? = some (y.cls, TT, N)) (hn : av.length = n) (hst : (st.map xcat).sum ≤ 8)
    (hM : xMet Γ.1.2.1 y cY maxL ret dY lay (.inr (.inr (some b)) :: av) m rv mY) {stk : List xV} (hs : stk = av.reverse ++ .inr (.inr (some b)) :: st)
    (k : xW Γ lay nL (pc + 3) L (rv.toList ++ st) mY) : xW Γ lay nL pc L stk m := by
  subst hs
  obtain ⟨⟨p, l, e, R, s, m0, args, below, meth, c⟩, ⟨A, ad, dC, dI, dA⟩, cells, slots, Q⟩ := Γ
  obtain ⟨hx, hbc, hml, hown, hts, hK, hD, hA, hfr, hlo, hce, hsl, hstr⟩ := C
  intro H locs ls hP hS hv
  have hMy := hM dC dI dA ad H.size
  have hAA2 : ∀ q : Nat, xAr ad lay H.size q → A q := fun q h2 => by
    rcases h2 with ⟨i, hi, rfl⟩ | h2
    · exact hD.2 _ hi
    · exact hA _ (Nat.le_trans hS.1 h2)
  obtain ⟨TT, N, hci⟩ := hci
  have hGW : GoodIn wsL_law (wsV own idx y.cls y (Cond.code y cY maxL ret :: wsL_law)) := by
    intro w hw
    unfold wsV at hw
    rcases List.mem_append.mp hw with h | h
    · simp only [List.mem_cons, List.not_mem_nil, or_false] at h
      rcases h with rfl | rfl | rfl | rfl
      · exact xgood1 hl
      · exact xgood1 hin
      · exact xgood1 hse
      · exact xgood1 hY.2.1
    · exact xgoodY hY.1 w h
  have hrun := va_runV (p := p) (l := l) (e := e) (R := R) (s := s) (m := m0) (args := args) (below := below) (meth := meth) (c := c) (H := H) (locs := locs) (cells := cells) (slots := slots) (nL := nL) (As := av.map (xval ad)) (rest := st.map (xval ad)) (g := F0 m0 pc ls (((av.reverse ++ .inr (.inr (some b)) :: st)).map (xval ad)))
    ⟨hx, hbc, hml, hown, hts⟩ hMy (cwV n hts hGW rfl rfl rfl ⟨rfl, hY.2.2⟩ ⟨by show dY + 1 ≤ R.frames; omega, by show 8 + (maxL + 11) + 30 * dY ≤ R.locals; omega⟩)
    ⟨xPre_blind _ _ _ _ _ _ _ _, va_recv hK hP hci (xwld_at hb), fun U hU hW => ⟨rfl, by rw [hU], by rw [hU]; exact hP, va_K.moved hW.alike hK, hD.1, by rw [hU]; exact xStr.goes hW hstr (fun _ => rfl) (fun q h1 h2 => hS.2.1 q h1 h2) hAA2⟩⟩
    rfl (by rw [List.length_map]; exact hn) hv.1 (by
      show List.map (xval ad) _ = _
      rw [List.map_append, List.map_reverse, List.map_cons]
      rfl) (by
      refine lv_room ?_
      rw [List.map_map]
      have e1 : ((fun v => v.category) ∘ xval ad) = xcat := funext fun v => xcat_val ad v
      rw [e1]; exact hst) hd ⟨by omega, by omega⟩
  intro Ts hTs X
  obtain ⟨v, st₀, t, T', Lo, h0, X', hL, e1, e2, ⟨⟨hv1, hp1⟩, hz, hkk⟩, stp⟩ := hrun Ts hTs X
  cases hv1
  rw [h0] at hz hkk
  have hP2 : va_P (dC, dI) vwCl (xwld ad dA mY 0 lay) T'.heap := by rw [e1]; exact hp1
  have hAA : ∀ q : Nat, q < H.size → xAr ad lay H.size q → A q := fun q h1 h2 => by
    rcases h2 with ⟨i, hi, rfl⟩ | h2
    · exact hD.2 _ hi
    · omega
  obtain ⟨t2, a1, b1⟩ := k T'.heap (locs ++ Lo) ls hP2 ⟨Nat.le_trans hS.1 (by rw [e1]; exact hz), fun q h1 h2 => by rw [e1, hkk q (Nat.lt_of_lt_of_le h1 hS.1) (fun z => h2 (hAA q (Nat.lt_of_lt_of_le h1 hS.1) z))]; exact hS.2.1 q h1 h2, fun q hq => by
      rcases List.mem_append.mp hq with h | h
      · exact hS.2.2 q h
      · rcases hL q h with ⟨i, hi, hq⟩ | h2
        · rw [hq]; exact hD.2 _ hi
        · exact hA _ (Nat.le_trans hS.1 h2)⟩ hv T' rfl X'
  refine ⟨t2, stp t2 ?_, b1⟩
  show Steps p.tables e below (T'.setTop (F0 m0 (pc + 3) ls ((rv.map (xval ad)).toList ++ st.map (xval ad)))) t2
  have e3 : ((rv.map (xval ad)).toList ++ st.map (xval ad)) = ((rv.toList ++ st).map (xval ad)) := by
    cases rv with
    | none => rfl
    | some v => rfl
  rw [e3]
  exact a1
theorem x_callSI (C : xC Γ lay own cc nL d) (hd : decode cc pc = .ok (.invokestatic idx, 3)) (hl : Cond.methodLink own idx y ∈ wsL_law) (hY : xY y cY maxL ret n) (hse : Cond.static y ∈ wsL_law) (hdd : dY + 1 ≤ d) (hmax : maxL ≤ 11)
    (hn : av.length = n) (hst : (st.map xcat).sum ≤ 8)
    (hM : xMet Γ.1.2.1 y cY maxL ret dY lay av m rv mY) {stk : List xV} (hs : stk = av.reverse ++ st)
    (k : xW Γ lay nL (pc + 3) L (rv.toList ++ st) mY) : xW Γ lay nL pc L stk m := by
  subst hs
  obtain ⟨⟨p, l, e, R, s, m0, args, below, meth, c⟩, ⟨A, ad, dC, dI, dA⟩, cells, slots, Q⟩ := Γ
  obtain ⟨hx, hbc, hml, hown, hts, hK, hD, hA, hfr, hlo, hce, hsl, hstr⟩ := C
  intro H locs ls hP hS hv
  have hMy := hM dC dI dA ad H.size
  have hAA2 : ∀ q : Nat, xAr ad lay H.size q → A q := fun q h2 => by
    rcases h2 with ⟨i, hi, rfl⟩ | h2
    · exact hD.2 _ hi
    · exact hA _ (Nat.le_trans hS.1 h2)
  have hrun := va_runS (p := p) (l := l) (e := e) (R := R) (s := s) (m := m0) (args := args) (below := below) (meth := meth) (c := c) (H := H) (locs := locs) (cells := cells) (slots := slots) (nL := nL) (As := av.map (xval ad)) (rest := st.map (xval ad)) (g := F0 m0 pc ls (((av.reverse ++ st)).map (xval ad)))
    ⟨hx, hbc, hml, hown, hts⟩ hMy ⟨callB_of n hts (xgoodY hY.1) rfl rfl rfl (hts _ hY.2.1) (hts _ hl) hY.2.2 ⟨by show dY + 1 ≤ R.frames; omega, by show 8 + (maxL + 11) + 30 * dY ≤ R.locals; omega⟩, hts _ hse⟩
    ⟨xPre_blind _ _ _ _ _ _ _ _, fun U hU hW => ⟨rfl, by rw [hU], by rw [hU]; exact hP, va_K.moved hW.alike hK, hD.1, by rw [hU]; exact xStr.goes hW hstr (fun _ => rfl) (fun q h1 h2 => hS.2.1 q h1 h2) hAA2⟩⟩
    rfl (by rw [List.length_map]; exact hn) hv.1 (by
      show List.map (xval ad) _ = _
      rw [List.map_append, List.map_reverse]) (by
      refine lv_room ?_
      rw [List.map_map]
      have e1 : ((fun v => v.category) ∘ xval ad) = xcat := funext fun v => xcat_val ad v
      rw [e1]; exact hst) hd ⟨by omega, by omega⟩
  intro Ts hTs X
  obtain ⟨v, st₀, t, T', Lo, h0, X', hL, e1, e2, ⟨⟨hv1, hp1⟩, hz, hkk⟩, stp⟩ := hrun Ts hTs X
  cases hv1
  rw [h0] at hz hkk
  have hP2 : va_P (dC, dI) vwCl (xwld ad dA mY 0 lay) T'.heap := by rw [e1]; exact hp1
  have hAA : ∀ q : Nat, q < H.size → xAr ad lay H.size q → A q := fun q h1 h2 => by
    rcases h2 with ⟨i, hi, rfl⟩ | h2
    · exact hD.2 _ hi
    · omega
  obtain ⟨t2, a1, b1⟩ := k T'.heap (locs ++ Lo) ls hP2 ⟨Nat.le_trans hS.1 (by rw [e1]; exact hz), fun q h1 h2 => by rw [e1, hkk q (Nat.lt_of_lt_of_le h1 hS.1) (fun z => h2 (hAA q (Nat.lt_of_lt_of_le h1 hS.1) z))]; exact hS.2.1 q h1 h2, fun q hq => by
      rcases List.mem_append.mp hq with h | h
      · exact hS.2.2 q h
      · rcases hL q h with ⟨i, hi, hq⟩ | h2
        · rw [hq]; exact hD.2 _ hi
        · exact hA _ (Nat.le_trans hS.1 h2)⟩ hv T' rfl X'
  refine ⟨t2, stp t2 ?_, b1⟩
  show Steps p.tables e below (T'.setTop (F0 m0 (pc + 3) ls ((rv.map (xval ad)).toList ++ st.map (xval ad)))) t2
  have e3 : ((rv.map (xval ad)).toList ++ st.map (xval ad)) = ((rv.toList ++ st).map (xval ad)) := by
    cases rv with
    | none => rfl
    | some v => rfl
  rw [e3]
  exact a1
theorem x_callVp (C : xC Γ lay own cc nL d) (hd : decode cc pc = .ok (.invokevirtual idx, 3)) (hl : Cond.methodLink own idx y ∈ wsL_law) (hY : xY y cY maxL ret n) (hin : Cond.instanceMethod y ∈ wsL_law) (hse : Cond.selects y.cls y y ∈ wsL_law) (T : List Nat) (hT : xview lay layY T) (hdd : dY + 1 ≤ d) (hmax : maxL ≤ 11)
    (hb : layY[b]? = some (.inl (ci, fs))) (hci : ∃ TT N, vwCl[ci]? = some (y.cls, TT, N)) (hn : av.length = n) (hst : (st.map xcat).sum ≤ 8)
    (hM : xMet Γ.1.2.1 y cY maxL ret dY layY (.inr (.inr (some b)) :: av) (xvw T m) rv (xvw T m)) {stk : List xV} (hs : stk = (av.map (xren T)).reverse ++ .inr (.inr (some (xT T b))) :: st)
    (k : xW Γ lay nL (pc + 3) L ((rv.map (xren T)).toList ++ st) m) : xW Γ lay nL pc L stk m := x_callV C hd hl hY hin hse T hT hdd hmax hb hci hn hst hM hs (by rw [xmg_self T _ hT.2.1.2]; exact k)
theorem x_callSp (C : xC Γ lay own cc nL d) (hd : decode cc pc = .ok (.invokestatic idx, 3)) (hl : Cond.methodLink own idx y ∈ wsL_law) (hY : xY y cY maxL ret n) (hse : Cond.static y ∈ wsL_law) (T : List Nat) (hT : xview lay layY T) (hdd : dY + 1 ≤ d) (hmax : maxL ≤ 11)
    (hn : av.length = n) (hst : (st.map xcat).sum ≤ 8)
    (hM : xMet Γ.1.2.1 y cY maxL ret dY layY av (xvw T m) rv (xvw T m)) {stk : List xV} (hs : stk = (av.map (xren T)).reverse ++ st)
    (k : xW Γ lay nL (pc + 3) L ((rv.map (xren T)).toList ++ st) m) : xW Γ lay nL pc L stk m := x_callS C hd hl hY hse T hT hdd hmax hn hst hM hs (by rw [xmg_self T _ hT.2.1.2]; exact k)
end XCALL
theorem x_bind {α β : Type} {o : Option α} {K : α → Option β} {r : β} (h : o.bind K = some r) : ∃ q, o = some q ∧ K q = some r := by
  cases o with
  | none => cases h
  | some q => exact ⟨q, rfl, h⟩

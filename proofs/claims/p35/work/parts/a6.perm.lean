/-! ===== worlds in another order; a call of a method of a part of the world ===== -/
theorem va_D_pw {A : Nat → Prop} {ws : va_W} (h : va_D A ws) : ws.Pairwise (fun x y => x.1 ≠ y.1) :=
  List.pairwise_iff_getElem.mpr (fun i j hi hj hij hne => by
    have := h.1 i j _ _ (List.getElem?_eq_getElem hi) (List.getElem?_eq_getElem hj) hne
    omega)
theorem va_D_of {A : Nat → Prop} {ws : va_W} (h : ws.Pairwise (fun x y => x.1 ≠ y.1)) (hA : ∀ q ∈ ws, A q.1) : va_D A ws := by
  have h1 := List.pairwise_iff_getElem.mp h
  refine ⟨fun i j p q hp hq e => ?_, fun k q hk => hA q (List.mem_of_getElem? hk)⟩
  obtain ⟨hi, hp⟩ := List.getElem?_eq_some_iff.mp hp
  obtain ⟨hj, hq⟩ := List.getElem?_eq_some_iff.mp hq
  rcases Nat.lt_trichotomy i j with hlt | heq | hgt
  · exact absurd (by rw [hp, hq]; exact e) (h1 i j hi hj hlt)
  · exact heq
  · exact absurd (by rw [hp, hq]; exact e.symm) (h1 j i hj hi hgt)
theorem va_D_perm {A : Nat → Prop} {ws ws' : va_W} (hp : ws.Perm ws') (h : va_D A ws) : va_D A ws' :=
  va_D_of ((hp.pairwise_iff (fun {x y} hxy => Ne.symm hxy)).mp (va_D_pw h)) (fun q hq => by
    obtain ⟨i, hi⟩ := List.mem_iff_getElem?.mp (hp.mem_iff.mpr hq)
    exact h.2 i q hi)
theorem va_P_perm {D : va_G} {cl : List vw_C} {ws ws' : va_W} {H : Heap} (hp : ws.Perm ws') (h : va_P D cl ws H) : va_P D cl ws' H := fun k q hk => by
  obtain ⟨i, hi⟩ := List.mem_iff_getElem?.mp (hp.mem_iff.mpr (List.mem_of_getElem? hk))
  exact h i q hi
theorem va_D_addr {A : Nat → Prop} {ws ws' : va_W} (he : ws.map Prod.fst = ws'.map Prod.fst) (h : va_D A ws) : va_D A ws' := by
  have hg : ∀ (k : Nat) (q : Nat × va_E), ws'[k]? = some q → ∃ e : va_E, ws[k]? = some (q.1, e) := fun k q hk => by
    have h1 : (ws'.map Prod.fst)[k]? = some q.1 := by rw [List.getElem?_map, hk]; rfl
    rw [← he, List.getElem?_map] at h1
    cases hw : ws[k]? with
    | none => rw [hw] at h1; cases h1
    | some x => rw [hw] at h1; exact ⟨x.2, by rw [← Option.some.inj h1]⟩
  refine ⟨fun i j p q hp hq e => ?_, fun k q hk => ?_⟩
  · obtain ⟨e1, h1⟩ := hg i p hp
    obtain ⟨e2, h2⟩ := hg j q hq
    exact h.1 i j _ _ h1 h2 e
  · obtain ⟨e1, h1⟩ := hg k q hk
    exact h.2 k (q.1, e1) h1
theorem xwld_fst (ad : Nat → Nat) (dA : Nat → ClassId) (m m' : xM) : ∀ (lay : List xS) (b : Nat), (xwld ad dA m b lay).map Prod.fst = (xwld ad dA m' b lay).map Prod.fst
  | [], _ => rfl
  | s :: t, b => by
    show ad b :: (xwld ad dA m (b + 1) t).map Prod.fst = ad b :: (xwld ad dA m' (b + 1) t).map Prod.fst
    rw [xwld_fst ad dA m m' t (b + 1)]
/-- a layout whose references are told otherwise -/
def xsh (f : Nat → Nat) : xS → xS
  | .inl (ci, fs) => .inl (ci, fs.map (Option.map f))
  | .inr (t, n, rs) => .inr (t, n, rs.map f)
def xrf : xS → List Nat
  | .inl (_, fs) => fs.filterMap id
  | .inr (_, _, rs) => rs
theorem xfv_sh {ad a' : Nat → Nat} {f : Nat → Nat} {g g' : Nat → Int} (hg : g = g') : ∀ (fs : List (Option Nat)) (j : Nat), (∀ r ∈ fs.filterMap id, ad (f r) = a' r) → xfv ad g j (fs.map (Option.map f)) = xfv a' g' j fs
  | [], _, _ => rfl
  | none :: t, j, h => by
    subst hg
    show Value.int (Int32.ofInt (g j)) :: xfv ad g (j + 1) (t.map (Option.map f)) = Value.int (Int32.ofInt (g j)) :: xfv a' g (j + 1) t
    rw [xfv_sh rfl t (j + 1) (fun r hr => h r hr)]
  | some r :: t, j, h => by
    show Value.ref (ad (f r)) :: xfv ad g (j + 1) (t.map (Option.map f)) = Value.ref (a' r) :: xfv a' g' (j + 1) t
    rw [h r (by simp), xfv_sh hg t (j + 1) (fun r hr => h r (by simp at hr ⊢; exact Or.inr hr))]
theorem xent_sh {ad a' : Nat → Nat} {f : Nat → Nat} {dA : Nat → ClassId} {g g' : Nat → Int} (hg : g = g') (s : xS) (h : ∀ r ∈ xrf s, ad (f r) = a' r) : xent ad dA g (xsh f s) = xent a' dA g' s := by
  subst hg
  rcases s with ⟨ci, fs⟩ | ⟨t, n, rs⟩
  · show Sum.inr (ci, xfv ad g 0 (fs.map (Option.map f))) = Sum.inr (ci, xfv a' g 0 fs)
    rw [xfv_sh rfl fs 0 h]
  · rcases t with _ | _ | t
    · rfl
    · rfl
    · show Sum.inl (dA (t + 2), n, Sum.inr (Sum.inr (Sum.inr (Sum.inr (fun j => ((rs.map f)[j]?).map ad))))) = Sum.inl (dA (t + 2), n, Sum.inr (Sum.inr (Sum.inr (Sum.inr (fun j => (rs[j]?).map a')))))
      have : (fun j : Nat => ((rs.map f)[j]?).map ad) = (fun j : Nat => (rs[j]?).map a') := by
        funext j
        rw [List.getElem?_map]
        cases hj : rs[j]? with
        | none => rfl
        | some r =>
          show some (ad (f r)) = some (a' r)
          rw [h r (List.mem_of_getElem? hj)]
      rw [this]
theorem xwld_sh {ad a' : Nat → Nat} {f : Nat → Nat} {dA : Nat → ClassId} {m m' : xM} {b : Nat} : ∀ (lay : List xS) (j : Nat), (∀ i, j ≤ i → i < j + lay.length → ad (b + i) = a' i ∧ m (b + i) = m' i) → (∀ s ∈ lay, ∀ r ∈ xrf s, ad (f r) = a' r) → xwld ad dA m (b + j) (lay.map (xsh f)) = xwld a' dA m' j lay
  | [], _, _, _ => rfl
  | s :: t, j, h, hr => by
    show (ad (b + j), xent ad dA (m (b + j)) (xsh f s)) :: xwld ad dA m (b + j + 1) (t.map (xsh f)) = (a' j, xent a' dA (m' j) s) :: xwld a' dA m' (j + 1) t
    obtain ⟨h1, h2⟩ := h j (Nat.le_refl _) (by rw [List.length_cons]; omega)
    rw [h1, xent_sh h2 s (hr s List.mem_cons_self), Nat.add_assoc, xwld_sh t (j + 1) (fun i h3 h4 => h i (by omega) (by rw [List.length_cons]; omega)) (fun s hs => hr s (List.mem_cons_of_mem _ hs))]
theorem xwld_app (ad : Nat → Nat) (dA : Nat → ClassId) (m : xM) : ∀ (l1 l2 : List xS) (b : Nat), xwld ad dA m b (l1 ++ l2) = xwld ad dA m b l1 ++ xwld ad dA m (b + l1.length) l2
  | [], l2, b => by rw [List.nil_append, List.length_nil, Nat.add_zero]; rfl
  | s :: t, l2, b => by
    show (ad b, xent ad dA (m b) s) :: xwld ad dA m (b + 1) (t ++ l2) = (ad b, xent ad dA (m b) s) :: (xwld ad dA m (b + 1) t ++ xwld ad dA m (b + (t.length + 1)) l2)
    rw [xwld_app ad dA m t l2 (b + 1), show b + 1 + t.length = b + (t.length + 1) by omega]
section YP
variable {Γ : yG} {own : String} {cc : ByteArray} {nL d pc K N k n : Nat} {L : List (Nat × Value)} {st : List Value} {ws wa : va_W}
theorem y_perm {ws' : va_W} (hp : ws.Perm ws') (h : yW Γ nL pc L st ws' k n) : yW Γ nL pc L st ws k n := by
  obtain ⟨⟨p, l, e, R, s, m0, args, below, meth, c⟩, ⟨A, dC, dI, dA, sa⟩, Q⟩ := Γ
  intro H locs ls hP hD hS hv
  exact h H locs ls (va_P_perm hp hP) (va_D_perm hp hD) hS hv
theorem y_eqw {ws' : va_W} (hp : ws = ws') (h : yW Γ nL pc L st ws' k n) : yW Γ nL pc L st ws k n := by
  subst hp; exact h
/-- a method of the last part of the world -/
theorem y_callX (C : yC Γ own cc nL d K N) {idx : Nat} {y : MethodName} {cY : ByteArray} {maxL nP dY b ci : Nat} {ret : Option FieldType} {fs : List (Option Nat)} {layY : List xS} {av : List xV} {m mY : xM} {rv : Option xV} (ad' : Nat → Nat) (hd : decode cc pc = .ok (.invokevirtual idx, 3)) (hl : Cond.methodLink own idx y ∈ wsL_law) (hY : xY y cY maxL ret nP) (hin : Cond.instanceMethod y ∈ wsL_law) (hse : Cond.selects y.cls y y ∈ wsL_law) (hdd : dY + 1 ≤ d) (hmax : maxL ≤ 11)
    (hb : layY[b]? = some (.inl (ci, fs))) (hci : ∃ TT N, vwCl[ci]? = some (y.cls, TT, N)) (hn : av.length = nP) (hst : (st.map fun v => v.category).sum ≤ 8) (hM : xMet Γ.1.2.1 y cY maxL ret dY layY (.inr (.inr (some b)) :: av) m rv mY) (hk : k ≤ K) (hn2 : n ≤ N) (hsa : ∀ i : Nat, ad' (1000 + i) = ySA Γ (1000 + i)) {stk : List Value} (hs : stk = (av.map (xval ad')).reverse ++ .ref (ad' b) :: st)
    (h : yW Γ nL (pc + 3) L ((rv.map (xval ad')).toList ++ st) (wa ++ xwld ad' (yDA Γ) mY 0 layY) k n) : yW Γ nL pc L stk (wa ++ xwld ad' (yDA Γ) m 0 layY) k n := by
  subst hs
  obtain ⟨⟨p, l, e, R, s, m0, args, below, meth, c⟩, ⟨A, dC, dI, dA, sa⟩, Q⟩ := Γ
  obtain ⟨hx, hbc, hml, hown, hts, hK, hA, ⟨hfr, hlo⟩, ⟨hce, hsl⟩, hT, hX⟩ := C
  intro H locs ls hP hD hS hv
  have hPY : va_P (dC, dI) vwCl (xwld ad' dA m 0 layY) H := fun i q hi => by
    refine hP (wa.length + i) q ?_
    rw [List.getElem?_append_right (by omega), Nat.add_sub_cancel_left]; exact hi
  have hget : ∀ i, i < layY.length → ∃ s9, (xwld ad' dA m 0 layY)[i]? = some (ad' i, s9) := fun i hi => by
    rw [xwld_get, List.getElem?_eq_getElem hi, Nat.zero_add]
    exact ⟨_, rfl⟩
  have hget2 : ∀ i, i < layY.length → ∃ s9, (wa ++ xwld ad' dA m 0 layY)[wa.length + i]? = some (ad' i, s9) := fun i hi => by
    obtain ⟨s9, h9⟩ := hget i hi
    exact ⟨s9, by rw [List.getElem?_append_right (by omega), Nat.add_sub_cancel_left]; exact h9⟩
  have hinj : ∀ i j : Nat, i < layY.length → j < layY.length → ad' i = ad' j → i = j := fun i j hi hj hij => by
    obtain ⟨s1, h1⟩ := hget2 i hi
    obtain ⟨s2, h2⟩ := hget2 j hj
    have := hD.1 _ _ _ _ h1 h2 hij
    omega
  have hAin : ∀ i, i < layY.length → A (ad' i) := fun i hi => by
    obtain ⟨s1, h1⟩ := hget2 i hi
    exact hD.2 _ _ h1
  have hMy := hM dC dI dA ad' H.size
  have hAA2 : ∀ q : Nat, xAr ad' layY H.size q → A q := fun q h2 => by
    rcases h2 with ⟨i, hi, rfl⟩ | h2
    · exact hAin i hi
    · exact hA _ (Nat.le_trans hS.1 h2)
  obtain ⟨TT, N9, hci⟩ := hci
  have hGW : GoodIn wsL_law (wsV own idx y.cls y (Cond.code y cY maxL ret :: wsL_law)) := by
    intro w hw
    unfold wsV at hw
    rcases List.mem_append.mp hw with h | h
    · simp only [List.mem_cons, List.not_mem_nil, or_false] at h
      rcases h with rfl | rfl | rfl | rfl
      · exact xgood1 hl
      · exact xgood1 hin
      · exact xgood1 hse
      · exact xgood1 hY.2.1
    · exact xgoodY hY.1 w h
  have hrun := va_runV (p := p) (l := l) (e := e) (R := R) (s := s) (m := m0) (args := args) (below := below) (meth := meth) (c := c) (H := H) (locs := locs) (cells := k) (slots := n) (nL := nL) (As := av.map (xval ad')) (rest := st) (g := F0 m0 pc ls ((av.map (xval ad')).reverse ++ .ref (ad' b) :: st))
    ⟨hx, hbc, hml, hown, hts⟩ hMy (cwV nP hts hGW rfl rfl rfl ⟨rfl, hY.2.2⟩ ⟨by show dY + 1 ≤ R.frames; omega, by show 8 + (maxL + 11) + 30 * dY ≤ R.locals; omega⟩)
    ⟨xPre_blind _ _ _ _ _ _ _ _, va_recv hK hPY hci (xwld_at hb), fun U hU hW => ⟨rfl, by rw [hU], by rw [hU]; exact hPY, (va_K.moved hW.alike hK).sub (tys' := xtys dA) [0, 1, 2, 3, 4, 5] rfl, hinj, by rw [hU]; exact xStr.goes hW hX.1 hsa (fun q h1 h2 => hS.2.1 q h1 h2) hAA2⟩⟩
    rfl (by rw [List.length_map]; exact hn) hv.1 rfl (lv_room hst) hd ⟨by omega, by omega⟩
  intro Ts hTs X
  obtain ⟨v, st₀, t, T', Lo, h0, X', hL, e1, e2, ⟨⟨hv1, hp1⟩, hz, hkk⟩, stp⟩ := hrun Ts hTs X
  cases hv1
  rw [h0] at hz hkk
  have hP2 : va_P (dC, dI) vwCl (wa ++ xwld ad' dA mY 0 layY) T'.heap := by
    refine ((ya_app hP).kept (fun i x hx => ?_)).app (by rw [e1]; exact hp1)
    have hil := (List.getElem?_eq_some_iff.mp hx).1
    have hx2 : (wa ++ xwld ad' dA m 0 layY)[i]? = some x := by rw [List.getElem?_append_left hil]; exact hx
    rw [e1]
    refine hkk x.1 (hP i x hx2).lt (fun hh => ?_)
    rcases hh with ⟨j, hj, hq⟩ | hh
    · obtain ⟨s1, h1⟩ := hget2 j hj
      have := hD.1 _ _ _ _ hx2 h1 hq
      omega
    · have := (hP i x hx2).lt
      omega
  have hD2 : va_D A (wa ++ xwld ad' dA mY 0 layY) := va_D_addr (by rw [List.map_append, List.map_append, xwld_fst ad' dA m mY]) hD
  obtain ⟨t2, a1, b1⟩ := h T'.heap (locs ++ Lo) ls hP2 hD2 ⟨Nat.le_trans hS.1 (by rw [e1]; exact hz), fun q h1 h2 => by rw [e1, hkk q (Nat.lt_of_lt_of_le h1 hS.1) (fun z => h2 (hAA2 q z))]; exact hS.2.1 q h1 h2, fun q hq => by
      rcases List.mem_append.mp hq with h | h
      · exact hS.2.2 q h
      · exact hAA2 _ (hL q h)⟩ hv T' rfl X'
  exact ⟨t2, stp t2 a1, b1⟩
end YP

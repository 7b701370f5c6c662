/-! ===== the layer g: what is made, ends, contracts, calls ===== -/
def gNw (t : Nat) (h : gH) (n : Int) : Option (Nat × gH) := if 0 ≤ xw n ∧ xw n ≤ 100000000 then some (2000 + h.length, h ++ [.inl (t, List.replicate (xix n) 0)]) else none
def gNq (t : Nat) (h : gH) (n : Int) : Option (Nat × gH) := if 0 ≤ xw n ∧ xw n ≤ 100000000 then some (2000 + h.length, h ++ [.inr (.inl (t, List.replicate (xix n) none))]) else none
theorem gstr_I : (FieldType.array .int).toString = "[I" := by decide +kernel
theorem grep_d {α : Type} (d : α) (n j : Nat) : (List.replicate n d).getD j d = d := by
  rw [List.getD_eq_getElem?_getD, List.getElem?_replicate]
  split <;> rfl
/-- where the next cell will stand -/
theorem g_next {D : va_G} {ad : Nat → Nat} {dA : Nat → ClassId} {lay : List xS} {m : xM} {h : gH} {H H0 : Heap} {A : Nat → Prop} {locs : List Loc} {n0 n1 kk : Nat} (hP : va_P D vwCl (gwd ad dA lay m h) H) (hS : va_S A H0 H locs) (had : ∀ i : Nat, ad (2000 + n0 + i) = H0.size + n1 + i) (hk : kk + n0 = h.length + n1) (hn : n1 = 0 ∨ n0 < h.length) (hup : H.size ≤ H0.size + kk) : H.size = H0.size + kk ∧ ad (2000 + h.length) = H.size ∧ ∀ i : Nat, ad (2000 + h.length + i) = H.size + i := by
  have h1 := g_size hP hS had hk hn
  have h2 : ∀ i : Nat, ad (2000 + h.length + i) = H.size + i := fun i => by
    have h3 := had (h.length - n0 + i)
    rw [show 2000 + n0 + (h.length - n0 + i) = 2000 + h.length + i by omega] at h3
    omega
  exact ⟨by omega, h2 0, h2⟩
/-- the world with one cell more -/
theorem g_push {D : va_G} {ad : Nat → Nat} {dA : Nat → ClassId} {lay : List xS} {m : xM} {h : gH} {H H1 H0 : Heap} {A : Nat → Prop} {locs : List Loc} {c : gC} (hP : va_P D vwCl (gwd ad dA lay m h) H) (hD : va_D A (gwd ad dA lay m h)) (hS : va_S A H0 H locs) (hA : ∀ q : Nat, H0.size ≤ q → A q) (had : ad (2000 + h.length) = H.size) (e1 : va_at D vwCl (H.size, gent ad dA c) H1) (z1 : H1.size = H.size + 1) (o1 : ∀ q : Nat, q < H.size → H1[q]? = H[q]?) :
    va_P D vwCl (gwd ad dA lay m (h ++ [c])) H1 ∧ va_D A (gwd ad dA lay m (h ++ [c])) ∧ va_S A H0 H1 locs := by
  rw [gwd_push, had]
  refine ⟨(hP.kept (fun k x hx => o1 x.1 ((hP k x hx).lt))).app (fun k x hx => ?_), hD.push hP rfl (hA _ hS.1), ⟨Nat.le_trans hS.1 (by omega), fun x h1 h2 => (o1 x (Nat.lt_of_lt_of_le h1 hS.1)).trans (hS.2.1 x h1 h2), hS.2.2⟩⟩
  have hz : k < 1 := (List.getElem?_eq_some_iff.mp hx).1
  rw [show k = 0 by omega] at hx
  cases hx
  exact e1
section GN
variable {P : gG → Prop} {lay : List xS} {own : String} {cc : ByteArray} {nL d pc : Nat} {L : List (Nat × xV)} {st : List xV} {m : xM} {hp h9 : gH}
theorem g_newi (C : ∀ Γ, P Γ → gX Γ lay own cc nL d h9) {n : Int} {q : Nat × gH} (hd : decode cc pc = .ok (.newarray .int, 2)) (hw : Cond.arrayClass .int ∈ wsL_law) (hq : gNw 0 hp n = some q) (h : gJ P lay nL (pc + 2) L (.inr (.inr (some q.1)) :: st) m q.2 h9) : gJ P lay nL pc L (.inl n :: st) m hp h9 := by
  obtain ⟨⟨c1, c2⟩, hq⟩ := x_some1 hq
  have hq := (Option.some.inj hq).symm
  subst hq
  refine ⟨(gle.push _ _).tr h.1, ?_⟩
  intro Γ hΓ
  have C := C Γ hΓ
  obtain ⟨⟨p, l, e, R, s, m0, args, below, meth, c⟩, ⟨A, ad, dC, dI, dA⟩, n0, s0, n1, s1, Q⟩ := Γ
  obtain ⟨hx, hb, hml, hown, hts, hK, had, hA, hfr, hlo, hlim, hstr, hTT⟩ := C
  intro H locs ls kk nn hs hP hD hS hv T hT X
  have hup := X.heapSize
  rw [hT] at hup
  obtain ⟨z0, z1, z2⟩ := g_next hP hS had hs.1 hs.2.2 hup
  have hl1 : ((hp ++ [.inl (0, List.replicate (xix n) 0)] : gH)).length = hp.length + 1 := by rw [List.length_append]; rfl
  have hl2 : gsl (hp ++ [.inl (0, List.replicate (xix n) 0)] : gH) = gsl hp + xix n := by rw [gsl_push]; show _ + (List.replicate (xix n) (0 : Int)).length = _; rw [List.length_replicate]
  have hg1 := h.1.1
  have hg2 := h.1.2
  rw [hl1] at hg1
  rw [hl2] at hg2
  have hnm : (Int32.ofInt n).toNatClampNeg = xix n := rfl
  have hx1 : xix n ≤ 100000000 := by unfold xix; omega
  have hx4 : xix n * 4 ≤ 536870912 := by omega
  have hng : ¬ Int32.ofInt n < 0 := fun q => by have := xz_lt.mp q; omega
  have hc1 : kk + 1 ≤ R.cells := by have := hlim.1; have := hs.1; omega
  have hc2 : nn + xix n ≤ R.slots := by have := hlim.2; have := hs.2.1; omega
  have key : W p l e R s m0 args below meth c H locs kk nn Q (F0 m0 pc ls ((.inl n :: st).map (xval ad))) := by
    refine va_newaK (atype := .int) (N := xix n) (h := H.size) hx hb (hts _ hw) rfl hd rfl hng hnm hx4 hc1 hc2 rfl (fun H1 cA e1 y1 o1 hAr hNm => ?_)
    have ecA : cA = dA 0 := Option.some.inj (hNm.symm.trans (hK.2 0 _ rfl).2)
    subst ecA
    obtain ⟨hP1, hD1, hS1⟩ := g_push (c := .inl (0, List.replicate (xix n) 0)) hP hD hS hA z1 (by
      show H1[H.size]? = some (arrV (dA 0) (List.replicate (xix n) (0 : Int)).length (fun j => Value.int (Int32.ofInt ((List.replicate (xix n) (0 : Int)).getD j 0))))
      rw [e1, List.length_replicate]
      congr 2
      funext j
      rw [grep_d]
      rfl) y1 o1
    have hk := h.2 _ hΓ H1 locs ls (kk + 1) (nn + xix n) ⟨by rw [hl1]; have := hs.1; omega, by rw [hl2]; have := hs.2.1; omega, by rw [hl1]; have := hs.2.2; omega⟩ hP1 hD1 hS1 hv
    rw [List.map_cons, show xval ad (.inr (.inr (some (2000 + hp.length)))) = .ref H.size by show Value.ref (ad (2000 + hp.length)) = _; rw [z1]] at hk
    exact hk
  exact key T hT X
theorem g_newQ (C : ∀ Γ, P Γ → gX Γ lay own cc nL d h9) {idx : Nat} {n : Int} {q : Nat × gH} (hd : decode cc pc = .ok (.anewarray idx, 3)) (hw : Cond.classLink own idx "[I" ∈ wsL_law) (hq : gNq 4 hp n = some q) (h : gJ P lay nL (pc + 3) L (.inr (.inr (some q.1)) :: st) m q.2 h9) : gJ P lay nL pc L (.inl n :: st) m hp h9 := by
  obtain ⟨⟨c1, c2⟩, hq⟩ := x_some1 hq
  have hq := (Option.some.inj hq).symm
  subst hq
  refine ⟨(gle.push _ _).tr h.1, ?_⟩
  intro Γ hΓ
  have C := C Γ hΓ
  obtain ⟨⟨p, l, e, R, s, m0, args, below, meth, c⟩, ⟨A, ad, dC, dI, dA⟩, n0, s0, n1, s1, Q⟩ := Γ
  obtain ⟨hx, hb, hml, hown, hts, hK, had, hA, hfr, hlo, hlim, hstr, hTT⟩ := C
  intro H locs ls kk nn hs hP hD hS hv T hT X
  have hup := X.heapSize
  rw [hT] at hup
  obtain ⟨z0, z1, z2⟩ := g_next hP hS had hs.1 hs.2.2 hup
  have hl1 : (hp ++ [.inr (.inl (4, List.replicate (xix n) none))] : gH).length = hp.length + 1 := by rw [List.length_append]; rfl
  have hl2 : gsl (hp ++ [.inr (.inl (4, List.replicate (xix n) none))] : gH) = gsl hp + xix n := by rw [gsl_push]; show _ + (List.replicate (xix n) (none : Option Nat)).length = _; rw [List.length_replicate]
  have hg1 := h.1.1
  have hg2 := h.1.2
  rw [hl1] at hg1
  rw [hl2] at hg2
  have hnm : (Int32.ofInt n).toNatClampNeg = xix n := rfl
  have hx1 : xix n ≤ 100000000 := by unfold xix; omega
  have hx4 : xix n * 4 ≤ 536870912 := by omega
  have hng : ¬ Int32.ofInt n < 0 := fun q => by have := xz_lt.mp q; omega
  have hcl : (Cond.classLink own idx (FieldType.array .int).toString).before args s = true := by rw [gstr_I]; exact hts _ hw
  have key : W p l e R s m0 args below meth c H locs kk nn Q (F0 m0 pc ls ((.inl n :: st).map (xval ad))) := by
    refine W.anewA (t := .int) hx hb hown hcl (hTT.1 (.arrayOver (.array .int)) List.mem_cons_self) rfl hd rfl hng (by rw [hnm]; exact hx4) (by have := hlim.1; have := hs.1; omega) (by rw [hnm]; have := hlim.2; have := hs.2.1; omega) (fun cA kA comp f1 f2 f3 f4 => ?_)
    have ecA : cA = dA 4 := Option.some.inj (f1.symm.trans (hK.2 4 _ rfl).2)
    subst ecA
    rw [hnm]
    obtain ⟨hP1, hD1, hS1⟩ := g_push (H1 := H.push { cls := dA 4, slots := Array.replicate (xix n) .null, vm := .none }) (c := .inr (.inl (4, List.replicate (xix n) none))) hP hD hS hA z1 (by
      show (H.push { cls := dA 4, slots := Array.replicate (xix n) .null, vm := .none })[H.size]? = some (arrV (dA 4) (List.replicate (xix n) (none : Option Nat)).length (fun j => va_rf (((List.replicate (xix n) (none : Option Nat)).getD j none).map ad)))
      rw [arrV_new, Array.getElem?_push, if_pos rfl, List.length_replicate]
      congr 2
      funext j
      rw [grep_d]
      rfl) (Array.size_push _) (fun q hq => by rw [Array.getElem?_push, if_neg (Nat.ne_of_lt hq)])
    have hk := h.2 _ hΓ (H.push { cls := dA 4, slots := Array.replicate (xix n) .null, vm := .none }) locs ls (kk + 1) (nn + xix n) ⟨by rw [hl1]; have := hs.1; omega, by rw [hl2]; have := hs.2.1; omega, by rw [hl1]; have := hs.2.2; omega⟩ hP1 hD1 hS1 hv
    rw [List.map_cons, show xval ad (.inr (.inr (some (2000 + hp.length)))) = .ref H.size by show Value.ref (ad (2000 + hp.length)) = _; rw [z1]] at hk
    exact hk
  exact key T hT X
end GN
/-! ===== ends ===== -/
def gRi (Γ : gG) (lay : List xS) (cc : ByteArray) (x : Int) (m : xM) (h : gH) : Prop := match Γ with
  | ((p, l, e, R, s, m0, args, below, meth, c), (A, ad, dC, dI, dA), (n0, s0, n1, s1, Q)) => ∀ (H : Heap) (locs : List Loc) (ls : Array Slot) (pc kk nn : Nat), (kk + n0 = h.length + n1 ∧ nn + s0 = gsl h + s1) → va_P (dC, dI) vwCl (gwd ad dA lay m h) H → va_D A (gwd ad dA lay m h) → va_S A s.heap H locs → decode cc pc = .ok (.ireturn, 1) → W p l e R s m0 args below meth c H locs kk nn Q (F0 m0 pc ls [.int (Int32.ofInt x)])
def gRz (Γ : gG) (lay : List xS) (cc : ByteArray) (x : Int) (m : xM) (h : gH) : Prop := xbz x → gRi Γ lay cc x m h
def gRl (Γ : gG) (lay : List xS) (cc : ByteArray) (x : Int) (m : xM) (h : gH) : Prop := match Γ with
  | ((p, l, e, R, s, m0, args, below, meth, c), (A, ad, dC, dI, dA), (n0, s0, n1, s1, Q)) => ∀ (H : Heap) (locs : List Loc) (ls : Array Slot) (pc kk nn : Nat), (kk + n0 = h.length + n1 ∧ nn + s0 = gsl h + s1) → va_P (dC, dI) vwCl (gwd ad dA lay m h) H → va_D A (gwd ad dA lay m h) → va_S A s.heap H locs → decode cc pc = .ok (.lreturn, 1) → W p l e R s m0 args below meth c H locs kk nn Q (F0 m0 pc ls [.long (Int64.ofInt x)])
def gRv (Γ : gG) (lay : List xS) (cc : ByteArray) (m : xM) (h : gH) : Prop := match Γ with
  | ((p, l, e, R, s, m0, args, below, meth, c), (A, ad, dC, dI, dA), (n0, s0, n1, s1, Q)) => ∀ (H : Heap) (locs : List Loc) (ls : Array Slot) (pc kk nn : Nat), (kk + n0 = h.length + n1 ∧ nn + s0 = gsl h + s1) → va_P (dC, dI) vwCl (gwd ad dA lay m h) H → va_D A (gwd ad dA lay m h) → va_S A s.heap H locs → decode cc pc = .ok (.return_, 1) → W p l e R s m0 args below meth c H locs kk nn Q (F0 m0 pc ls [])
def gRa (Γ : gG) (lay : List xS) (cc : ByteArray) (q : Nat) (m : xM) (h : gH) : Prop := match Γ with
  | ((p, l, e, R, s, m0, args, below, meth, c), (A, ad, dC, dI, dA), (n0, s0, n1, s1, Q)) => ∀ (H : Heap) (locs : List Loc) (ls : Array Slot) (pc kk nn : Nat), (kk + n0 = h.length + n1 ∧ nn + s0 = gsl h + s1) → va_P (dC, dI) vwCl (gwd ad dA lay m h) H → va_D A (gwd ad dA lay m h) → va_S A s.heap H locs → decode cc pc = .ok (.areturn, 1) → W p l e R s m0 args below meth c H locs kk nn Q (F0 m0 pc ls [.ref (ad q)])
section GE
variable {P : gG → Prop} {lay : List xS} {own : String} {cc : ByteArray} {nL d pc : Nat} {L : List (Nat × xV)} {m m' : xM} {h h' : gH}
theorem g_ireturn {x x' : Int} (hR : ∀ Γ, P Γ → gRi Γ lay cc x' m' h') (hd : decode cc pc = .ok (.ireturn, 1)) (e : x = x' ∧ m = m' ∧ h = h') : gJ P lay nL pc L [.inl x] m h h' := by
  obtain ⟨rfl, rfl, rfl⟩ := e
  refine ⟨gle.rf, ?_⟩
  intro Γ hΓ
  have hR := hR Γ hΓ
  obtain ⟨⟨p, l, e, R, s, m0, args, below, meth, c⟩, ⟨A, ad, dC, dI, dA⟩, n0, s0, n1, s1, Q⟩ := Γ
  intro H locs ls kk nn hs hP hD hS _
  exact hR H locs ls pc kk nn ⟨hs.1, hs.2.1⟩ hP hD hS hd
theorem g_lreturn {x x' : Int} (hR : ∀ Γ, P Γ → gRl Γ lay cc x' m' h') (hd : decode cc pc = .ok (.lreturn, 1)) (e : x = x' ∧ m = m' ∧ h = h') : gJ P lay nL pc L [.inr (.inl x)] m h h' := by
  obtain ⟨rfl, rfl, rfl⟩ := e
  refine ⟨gle.rf, ?_⟩
  intro Γ hΓ
  have hR := hR Γ hΓ
  obtain ⟨⟨p, l, e, R, s, m0, args, below, meth, c⟩, ⟨A, ad, dC, dI, dA⟩, n0, s0, n1, s1, Q⟩ := Γ
  intro H locs ls kk nn hs hP hD hS _
  exact hR H locs ls pc kk nn ⟨hs.1, hs.2.1⟩ hP hD hS hd
theorem g_return (hR : ∀ Γ, P Γ → gRv Γ lay cc m' h') (hd : decode cc pc = .ok (.return_, 1)) (e : m = m' ∧ h = h') : gJ P lay nL pc L [] m h h' := by
  obtain ⟨rfl, rfl⟩ := e
  refine ⟨gle.rf, ?_⟩
  intro Γ hΓ
  have hR := hR Γ hΓ
  obtain ⟨⟨p, l, e, R, s, m0, args, below, meth, c⟩, ⟨A, ad, dC, dI, dA⟩, n0, s0, n1, s1, Q⟩ := Γ
  intro H locs ls kk nn hs hP hD hS _
  exact hR H locs ls pc kk nn ⟨hs.1, hs.2.1⟩ hP hD hS hd
theorem g_areturn {q q' : Nat} (hR : ∀ Γ, P Γ → gRa Γ lay cc q' m' h') (hd : decode cc pc = .ok (.areturn, 1)) (e : q = q' ∧ m = m' ∧ h = h') : gJ P lay nL pc L [.inr (.inr (some q))] m h h' := by
  obtain ⟨rfl, rfl, rfl⟩ := e
  refine ⟨gle.rf, ?_⟩
  intro Γ hΓ
  have hR := hR Γ hΓ
  obtain ⟨⟨p, l, e, R, s, m0, args, below, meth, c⟩, ⟨A, ad, dC, dI, dA⟩, n0, s0, n1, s1, Q⟩ := Γ
  intro H locs ls kk nn hs hP hD hS _
  exact hR H locs ls pc kk nn ⟨hs.1, hs.2.1⟩ hP hD hS hd
theorem g_zreturn {x x' : Int} (hR : ∀ Γ, P Γ → gRz Γ lay cc x' m' h') (hz : xbz x) (hd : decode cc pc = .ok (.ireturn, 1)) (e : x = x' ∧ m = m' ∧ h = h') : gJ P lay nL pc L [.inl x] m h h' := by
  obtain ⟨rfl, rfl, rfl⟩ := e
  exact g_ireturn (fun Γ hΓ => hR Γ hΓ hz) hd ⟨rfl, rfl, rfl⟩
end GE
/-! ===== contracts ===== -/
def grm (d K N : Nat) : Room := { frames := d, cells := K, slots := N, locals := 30 * d }
def gPre (dC : Nat → ClassId) (dI : Nat → Nat → Nat) (dA : Nat → ClassId) (ad : Nat → Nat) (lay : List xS) (m : xM) (h : gH) (sz : Nat) (U : State) : Prop :=
  U.heap.size = sz ∧ (∀ i : Nat, ad (2000 + h.length + i) = sz + i) ∧ va_P (dC, dI) vwCl (gwd ad dA lay m h) U.heap ∧ va_D (fun _ => True) (gwd ad dA lay m h) ∧ va_K (dC, dI) vwCl (xtys dA) U ∧ xStr ad (va_A (gwd ad dA lay m h) sz) U U.heap ∧ gT U
def gQ (dC : Nat → ClassId) (dI : Nat → Nat → Nat) (dA : Nat → ClassId) (ad : Nat → Nat) (lay : List xS) (m : xM) (h : gH) (rv : Option xV) (m' : xM) (h' : gH) (sz : Nat) : Array Value → State → Outcome → State → Prop := fun _ st oc t =>
  (oc = .returned (rv.map (xval ad)) ∧ va_P (dC, dI) vwCl (gwd ad dA lay m' h') t.heap ∧ va_D (va_A (gwd ad dA lay m h) sz) (gwd ad dA lay m' h')) ∧ va_F (va_A (gwd ad dA lay m h) sz) st t
def gMet (l : Launch) (y : MethodName) (cc : ByteArray) (maxL : Nat) (ret : Option FieldType) (d : Nat) (lay : List xS) (av : List xV) (m : xM) (h : gH) (rv : Option xV) (m' : xM) (h' : gH) : Prop :=
  gle h h' ∧ ∀ (dC : Nat → ClassId) (dI : Nat → Nat → Nat) (dA : Nat → ClassId) (ad : Nat → Nat) (sz : Nat), Met l y (Cond.code y cc maxL ret :: wsL_law) (grm d (h'.length - h.length) (gsl h' - gsl h)) (va_Pc (av.map (xval ad)) (gPre dC dI dA ad lay m h sz)) (gQ dC dI dA ad lay m h rv m' h' sz) (h'.length - h.length) (gsl h' - gsl h) (va_A (gwd ad dA lay m h) sz)
theorem gPre_blind (av : List Value) (dC : Nat → ClassId) (dI : Nat → Nat → Nat) (dA : Nat → ClassId) (ad : Nat → Nat) (lay : List xS) (m : xM) (h : gH) (sz : Nat) : FrameBlind (va_Pc av (gPre dC dI dA ad lay m h sz)) := by
  intro a U g mk q
  obtain ⟨q0, q1, q2, qP, qD, qK, qX, qT⟩ := q
  exact ⟨q0, q1, q2, qP, qD, va_K.moved (u := U) (U := U.calling g mk a) (Vm.Alike.refl U.vm) qK, xStr.same (u := U) (U := U.calling g mk a) rfl qX, gT.same (u := U) (U := U.calling g mk a) rfl qT⟩
theorem gMet_i {l : Launch} {y : MethodName} {cc : ByteArray} {maxL d : Nat} {lay : List xS} {av : List xV} {m m' : xM} {h h' : gH} {r : Int} (hy : plainName y.cls = true ∨ plainFor y = true) (hw : xwid av ≤ maxL)
    (hb : ∀ P : gG → Prop, (∀ Γ, P Γ → gX Γ lay y.cls cc maxL d h') → (∀ Γ, P Γ → gRi Γ lay cc r m' h') → gJ P lay maxL 0 (xargs 0 av) [] m h h') : gMet l y cc maxL (some .int) d lay av m h (some (.inl r)) m' h' := by
  have hg := (hb (fun _ => False) (fun _ q => q.elim) (fun _ q => q.elim)).1
  refine ⟨hg, ?_⟩
  intro dC dI dA ad sz
  refine x_ofW (cc := cc) (maxL := maxL) (ret := (some .int)) hy rfl ?_
  intro p e s m0 args below meth c s₁ B hml hv
  obtain ⟨rfl, hsz, had, hP, hD, hK, hX0, hT0⟩ := hv
  subst hsz
  have hl := lv_entry (av.map (xval ad)) (n := maxL) (by rw [xwid_sl]; exact hw)
  rw [lg_entry_eq]
  rw [xargs_lv] at hl
  refine (hb (fun Γ => Γ = ((p, l, e, grm d (h'.length - h.length) (gsl h' - gsl h), s, m0, (av.map (xval ad)).toArray, below, meth, c), (va_A (gwd ad dA lay m h) s.heap.size, ad, dC, dI, dA), (h.length, gsl h, 0, 0, MQ below (gQ dC dI dA ad lay m h (some (.inl r)) m' h' s.heap.size) (av.map (xval ad)).toArray s (h'.length - h.length) (gsl h' - gsl h) (va_A (gwd ad dA lay m h) s.heap.size)))) ?_ ?_).2 _ rfl s.heap [] _ 0 0 ⟨by omega, by omega, Or.inl rfl⟩ hP hD.self va_S.rf hl
  · intro Γ hΓ
    subst hΓ
    exact ⟨B.exec, B.bytes, hml, findClass_of_methodNamed B.named, fun w hw' => atoms_spec (ws := Cond.code y cc maxL (some .int) :: wsL_law) B.pre w (List.mem_cons_of_mem _ hw'), hK, had, fun q hq => Or.inr hq, Nat.le_refl _, Nat.le_refl _, ⟨by have := hg.1; show h'.length + 0 ≤ h.length + (h'.length - h.length); omega, by have := hg.2; show gsl h' + 0 ≤ gsl h + (gsl h' - gsl h); omega⟩, hX0, hT0⟩
  · intro Γ hΓ
    subst hΓ
    intro H locs ls pc kk nn hc hP hD hS hd
    have := hg.1
    have := hg.2
    refine W.widen (k := h'.length - h.length) (n := gsl h' - gsl h) (by have := hc.1; omega) (by have := hc.2; omega) ?_
    exact W.iret (v := Int32.ofInt r) B.exec B.bytes B.returns (fun t ht hW => ⟨⟨rfl, by rw [ht]; exact hP, hD⟩, hS.F ht⟩) hS.2.2 hd B.notSynchronized
theorem gMet_z {l : Launch} {y : MethodName} {cc : ByteArray} {maxL d : Nat} {lay : List xS} {av : List xV} {m m' : xM} {h h' : gH} {r : Int} (hy : plainName y.cls = true ∨ plainFor y = true) (hw : xwid av ≤ maxL)
    (hb : ∀ P : gG → Prop, (∀ Γ, P Γ → gX Γ lay y.cls cc maxL d h') → (∀ Γ, P Γ → gRz Γ lay cc r m' h') → gJ P lay maxL 0 (xargs 0 av) [] m h h') : gMet l y cc maxL (some .boolean) d lay av m h (some (.inl r)) m' h' := by
  have hg := (hb (fun _ => False) (fun _ q => q.elim) (fun _ q => q.elim)).1
  refine ⟨hg, ?_⟩
  intro dC dI dA ad sz
  refine x_ofW (cc := cc) (maxL := maxL) (ret := (some .boolean)) hy rfl ?_
  intro p e s m0 args below meth c s₁ B hml hv
  obtain ⟨rfl, hsz, had, hP, hD, hK, hX0, hT0⟩ := hv
  subst hsz
  have hl := lv_entry (av.map (xval ad)) (n := maxL) (by rw [xwid_sl]; exact hw)
  rw [lg_entry_eq]
  rw [xargs_lv] at hl
  refine (hb (fun Γ => Γ = ((p, l, e, grm d (h'.length - h.length) (gsl h' - gsl h), s, m0, (av.map (xval ad)).toArray, below, meth, c), (va_A (gwd ad dA lay m h) s.heap.size, ad, dC, dI, dA), (h.length, gsl h, 0, 0, MQ below (gQ dC dI dA ad lay m h (some (.inl r)) m' h' s.heap.size) (av.map (xval ad)).toArray s (h'.length - h.length) (gsl h' - gsl h) (va_A (gwd ad dA lay m h) s.heap.size)))) ?_ ?_).2 _ rfl s.heap [] _ 0 0 ⟨by omega, by omega, Or.inl rfl⟩ hP hD.self va_S.rf hl
  · intro Γ hΓ
    subst hΓ
    exact ⟨B.exec, B.bytes, hml, findClass_of_methodNamed B.named, fun w hw' => atoms_spec (ws := Cond.code y cc maxL (some .boolean) :: wsL_law) B.pre w (List.mem_cons_of_mem _ hw'), hK, had, fun q hq => Or.inr hq, Nat.le_refl _, Nat.le_refl _, ⟨by have := hg.1; show h'.length + 0 ≤ h.length + (h'.length - h.length); omega, by have := hg.2; show gsl h' + 0 ≤ gsl h + (gsl h' - gsl h); omega⟩, hX0, hT0⟩
  · intro Γ hΓ
    subst hΓ
    intro hz H locs ls pc kk nn hc hP hD hS hd
    have := hg.1
    have := hg.2
    refine W.widen (k := h'.length - h.length) (n := gsl h' - gsl h) (by have := hc.1; omega) (by have := hc.2; omega) ?_
    exact W.zret (v := Int32.ofInt r) (ty := .boolean) B.exec B.bytes B.returns (xbz_nar hz).1 (fun t ht hW => ⟨⟨rfl, by rw [ht]; exact hP, hD⟩, hS.F ht⟩) hS.2.2 hd B.notSynchronized
theorem gMet_l {l : Launch} {y : MethodName} {cc : ByteArray} {maxL d : Nat} {lay : List xS} {av : List xV} {m m' : xM} {h h' : gH} {r : Int} (hy : plainName y.cls = true ∨ plainFor y = true) (hw : xwid av ≤ maxL)
    (hb : ∀ P : gG → Prop, (∀ Γ, P Γ → gX Γ lay y.cls cc maxL d h') → (∀ Γ, P Γ → gRl Γ lay cc r m' h') → gJ P lay maxL 0 (xargs 0 av) [] m h h') : gMet l y cc maxL (some .long) d lay av m h (some (.inr (.inl r))) m' h' := by
  have hg := (hb (fun _ => False) (fun _ q => q.elim) (fun _ q => q.elim)).1
  refine ⟨hg, ?_⟩
  intro dC dI dA ad sz
  refine x_ofW (cc := cc) (maxL := maxL) (ret := (some .long)) hy rfl ?_
  intro p e s m0 args below meth c s₁ B hml hv
  obtain ⟨rfl, hsz, had, hP, hD, hK, hX0, hT0⟩ := hv
  subst hsz
  have hl := lv_entry (av.map (xval ad)) (n := maxL) (by rw [xwid_sl]; exact hw)
  rw [lg_entry_eq]
  rw [xargs_lv] at hl
  refine (hb (fun Γ => Γ = ((p, l, e, grm d (h'.length - h.length) (gsl h' - gsl h), s, m0, (av.map (xval ad)).toArray, below, meth, c), (va_A (gwd ad dA lay m h) s.heap.size, ad, dC, dI, dA), (h.length, gsl h, 0, 0, MQ below (gQ dC dI dA ad lay m h (some (.inr (.inl r))) m' h' s.heap.size) (av.map (xval ad)).toArray s (h'.length - h.length) (gsl h' - gsl h) (va_A (gwd ad dA lay m h) s.heap.size)))) ?_ ?_).2 _ rfl s.heap [] _ 0 0 ⟨by omega, by omega, Or.inl rfl⟩ hP hD.self va_S.rf hl
  · intro Γ hΓ
    subst hΓ
    exact ⟨B.exec, B.bytes, hml, findClass_of_methodNamed B.named, fun w hw' => atoms_spec (ws := Cond.code y cc maxL (some .long) :: wsL_law) B.pre w (List.mem_cons_of_mem _ hw'), hK, had, fun q hq => Or.inr hq, Nat.le_refl _, Nat.le_refl _, ⟨by have := hg.1; show h'.length + 0 ≤ h.length + (h'.length - h.length); omega, by have := hg.2; show gsl h' + 0 ≤ gsl h + (gsl h' - gsl h); omega⟩, hX0, hT0⟩
  · intro Γ hΓ
    subst hΓ
    intro H locs ls pc kk nn hc hP hD hS hd
    have := hg.1
    have := hg.2
    refine W.widen (k := h'.length - h.length) (n := gsl h' - gsl h) (by have := hc.1; omega) (by have := hc.2; omega) ?_
    exact W.lret (v := Int64.ofInt r) B.exec B.bytes B.returns (fun t ht hW => ⟨⟨rfl, by rw [ht]; exact hP, hD⟩, hS.F ht⟩) hS.2.2 hd B.notSynchronized
theorem gMet_v {l : Launch} {y : MethodName} {cc : ByteArray} {maxL d : Nat} {lay : List xS} {av : List xV} {m m' : xM} {h h' : gH} (hy : plainName y.cls = true ∨ plainFor y = true) (hw : xwid av ≤ maxL)
    (hb : ∀ P : gG → Prop, (∀ Γ, P Γ → gX Γ lay y.cls cc maxL d h') → (∀ Γ, P Γ → gRv Γ lay cc m' h') → gJ P lay maxL 0 (xargs 0 av) [] m h h') : gMet l y cc maxL none d lay av m h none m' h' := by
  have hg := (hb (fun _ => False) (fun _ q => q.elim) (fun _ q => q.elim)).1
  refine ⟨hg, ?_⟩
  intro dC dI dA ad sz
  refine x_ofW (cc := cc) (maxL := maxL) (ret := none) hy rfl ?_
  intro p e s m0 args below meth c s₁ B hml hv
  obtain ⟨rfl, hsz, had, hP, hD, hK, hX0, hT0⟩ := hv
  subst hsz
  have hl := lv_entry (av.map (xval ad)) (n := maxL) (by rw [xwid_sl]; exact hw)
  rw [lg_entry_eq]
  rw [xargs_lv] at hl
  refine (hb (fun Γ => Γ = ((p, l, e, grm d (h'.length - h.length) (gsl h' - gsl h), s, m0, (av.map (xval ad)).toArray, below, meth, c), (va_A (gwd ad dA lay m h) s.heap.size, ad, dC, dI, dA), (h.length, gsl h, 0, 0, MQ below (gQ dC dI dA ad lay m h none m' h' s.heap.size) (av.map (xval ad)).toArray s (h'.length - h.length) (gsl h' - gsl h) (va_A (gwd ad dA lay m h) s.heap.size)))) ?_ ?_).2 _ rfl s.heap [] _ 0 0 ⟨by omega, by omega, Or.inl rfl⟩ hP hD.self va_S.rf hl
  · intro Γ hΓ
    subst hΓ
    exact ⟨B.exec, B.bytes, hml, findClass_of_methodNamed B.named, fun w hw' => atoms_spec (ws := Cond.code y cc maxL none :: wsL_law) B.pre w (List.mem_cons_of_mem _ hw'), hK, had, fun q hq => Or.inr hq, Nat.le_refl _, Nat.le_refl _, ⟨by have := hg.1; show h'.length + 0 ≤ h.length + (h'.length - h.length); omega, by have := hg.2; show gsl h' + 0 ≤ gsl h + (gsl h' - gsl h); omega⟩, hX0, hT0⟩
  · intro Γ hΓ
    subst hΓ
    intro H locs ls pc kk nn hc hP hD hS hd
    have := hg.1
    have := hg.2
    refine W.widen (k := h'.length - h.length) (n := gsl h' - gsl h) (by have := hc.1; omega) (by have := hc.2; omega) ?_
    exact W.vret B.exec B.bytes B.returns (fun t ht hW => ⟨⟨rfl, by rw [ht]; exact hP, hD⟩, hS.F ht⟩) hS.2.2 hd B.notSynchronized
theorem gMet_a {l : Launch} {y : MethodName} {cc : ByteArray} {maxL d : Nat} {lay : List xS} {av : List xV} {m m' : xM} {h h' : gH} {r : Nat} {rt : FieldType} (hrt : (∃ C, rt = .object C) ∨ ∃ t, rt = .array t) (hy : plainName y.cls = true ∨ plainFor y = true) (hw : xwid av ≤ maxL)
    (hb : ∀ P : gG → Prop, (∀ Γ, P Γ → gX Γ lay y.cls cc maxL d h') → (∀ Γ, P Γ → gRa Γ lay cc r m' h') → gJ P lay maxL 0 (xargs 0 av) [] m h h') : gMet l y cc maxL (some rt) d lay av m h (some (.inr (.inr (some r)))) m' h' := by
  have hg := (hb (fun _ => False) (fun _ q => q.elim) (fun _ q => q.elim)).1
  refine ⟨hg, ?_⟩
  intro dC dI dA ad sz
  refine x_ofW (cc := cc) (maxL := maxL) (ret := (some rt)) hy rfl ?_
  intro p e s m0 args below meth c s₁ B hml hv
  obtain ⟨rfl, hsz, had, hP, hD, hK, hX0, hT0⟩ := hv
  subst hsz
  have hl := lv_entry (av.map (xval ad)) (n := maxL) (by rw [xwid_sl]; exact hw)
  rw [lg_entry_eq]
  rw [xargs_lv] at hl
  refine (hb (fun Γ => Γ = ((p, l, e, grm d (h'.length - h.length) (gsl h' - gsl h), s, m0, (av.map (xval ad)).toArray, below, meth, c), (va_A (gwd ad dA lay m h) s.heap.size, ad, dC, dI, dA), (h.length, gsl h, 0, 0, MQ below (gQ dC dI dA ad lay m h (some (.inr (.inr (some r)))) m' h' s.heap.size) (av.map (xval ad)).toArray s (h'.length - h.length) (gsl h' - gsl h) (va_A (gwd ad dA lay m h) s.heap.size)))) ?_ ?_).2 _ rfl s.heap [] _ 0 0 ⟨by omega, by omega, Or.inl rfl⟩ hP hD.self va_S.rf hl
  · intro Γ hΓ
    subst hΓ
    exact ⟨B.exec, B.bytes, hml, findClass_of_methodNamed B.named, fun w hw' => atoms_spec (ws := Cond.code y cc maxL (some rt) :: wsL_law) B.pre w (List.mem_cons_of_mem _ hw'), hK, had, fun q hq => Or.inr hq, Nat.le_refl _, Nat.le_refl _, ⟨by have := hg.1; show h'.length + 0 ≤ h.length + (h'.length - h.length); omega, by have := hg.2; show gsl h' + 0 ≤ gsl h + (gsl h' - gsl h); omega⟩, hX0, hT0⟩
  · intro Γ hΓ
    subst hΓ
    intro H locs ls pc kk nn hc hP hD hS hd
    have := hg.1
    have := hg.2
    refine W.widen (k := h'.length - h.length) (n := gsl h' - gsl h) (by have := hc.1; omega) (by have := hc.2; omega) ?_
    exact W.aret (v := .ref (ad r)) (rt := rt) B.exec B.bytes B.returns hrt (Or.inr ⟨_, rfl⟩) (fun t ht hW => ⟨⟨rfl, by rw [ht]; exact hP, hD⟩, hS.F ht⟩) hS.2.2 hd B.notSynchronized

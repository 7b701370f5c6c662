/-! ===== the layer g: more rows ===== -/
def gNL (h : gH) (n : Int) : Option (Nat × gH) := if 0 ≤ xw n ∧ xw n ≤ 50000000 then some (2000 + h.length, h ++ [.inl (1, List.replicate (xix n) 0)]) else none
def gfK (h : gH) (k j : Nat) : Option Nat := (gfR h k j).bind id
def gaK (t : Nat) (h : gH) (k : Nat) (j : Int) : Option Nat := (gaR t h k j).bind id
def glc (h : gH) (k : Nat) : Option Int := match gat h k with
  | some (.inl (t, l)) => if t = 0 ∨ t = 1 ∨ t = 3 then some (l.length : Int) else none
  | some (.inr (.inl (t, l))) => if t = 4 ∨ t = 5 then some (l.length : Int) else none
  | _ => none
theorem gfK_some {h : gH} {k j q : Nat} (e : gfK h k j = some q) : gfR h k j = some (some q) := by
  obtain ⟨r, h1, h2⟩ := x_bind e
  rw [h1]
  exact congrArg some h2
theorem gaK_some {t : Nat} {h : gH} {k q : Nat} {j : Int} (e : gaK t h k j = some q) : gaR t h k j = some (some q) := by
  obtain ⟨r, h1, h2⟩ := x_bind e
  rw [h1]
  exact congrArg some h2
theorem glc_some {h : gH} {k : Nat} {x : Int} (e : glc h k = some x) : gln h k = some x ∧ ∀ c, gat h k = some c → gkd c := by
  unfold glc at e
  unfold gln
  cases hc : gat h k with
  | none => rw [hc] at e; cases e
  | some c =>
    rw [hc] at e
    rcases c with ⟨t', l⟩ | ⟨t', l⟩ | fs
    · dsimp only at e
      obtain ⟨h1, h2⟩ := x_some1 e
      exact ⟨h2, fun c hc9 => by cases hc9; exact h1⟩
    · dsimp only at e
      obtain ⟨h1, h2⟩ := x_some1 e
      exact ⟨h2, fun c hc9 => by cases hc9; exact h1⟩
    · cases e
def xishl (x y : Int) : Int := (Int32.ofInt x <<< (Int32.ofInt y &&& 31)).toInt
section GM7
variable {P : gG → Prop} {lay : List xS} {own : String} {cc : ByteArray} {nL d pc : Nat} {L : List (Nat × xV)} {st : List xV} {m : xM} {hp h9 : gH}
theorem g_getK (C : ∀ Γ, P Γ → gX Γ lay own cc nL d h9) {idx j k q : Nat} {t : FieldType} {fin : Bool} (hd : decode cc pc = .ok (.getfield idx, 3)) (hF : xF own idx 12 j t fin) (hq : gfK hp k j = some q) (h : gJ P lay nL (pc + 3) L (.inr (.inr (some q)) :: st) m hp h9) : gJ P lay nL pc L (.inr (.inr (some k)) :: st) m hp h9 := g_getR C hd hF (gfK_some hq) h
theorem g_aaloadK4 (C : ∀ Γ, P Γ → gX Γ lay own cc nL d h9) {k q : Nat} {j : Int} (hd : decode cc pc = .ok (.aaload, 1)) (hq : gaK 4 hp k j = some q) (h : gJ P lay nL (pc + 1) L (.inr (.inr (some q)) :: st) m hp h9) : gJ P lay nL pc L (.inl j :: .inr (.inr (some k)) :: st) m hp h9 := g_aaload4 C hd (gaK_some hq) h
theorem g_aaloadK5 (C : ∀ Γ, P Γ → gX Γ lay own cc nL d h9) {k q : Nat} {j : Int} (hd : decode cc pc = .ok (.aaload, 1)) (hq : gaK 5 hp k j = some q) (h : gJ P lay nL (pc + 1) L (.inr (.inr (some q)) :: st) m hp h9) : gJ P lay nL pc L (.inl j :: .inr (.inr (some k)) :: st) m hp h9 := g_aaload5 C hd (gaK_some hq) h
theorem g_lenC (C : ∀ Γ, P Γ → gX Γ lay own cc nL d h9) {k : Nat} {x : Int} (hd : decode cc pc = .ok (.arraylength, 1)) (hq : glc hp k = some x) (h : gJ P lay nL (pc + 1) L (.inl x :: st) m hp h9) : gJ P lay nL pc L (.inr (.inr (some k)) :: st) m hp h9 := g_len C hd (glc_some hq).1 (glc_some hq).2 h
theorem g_dup_x1 (C : ∀ Γ, P Γ → gX Γ lay own cc nL d h9) {v w : xV} (hd : decode cc pc = .ok (.dup_x1, 1)) (h1 : xcat v = 1) (h2 : xcat w = 1) (h : gJ P lay nL (pc + 1) L (v :: w :: v :: st) m hp h9) : gJ P lay nL pc L (v :: w :: st) m hp h9 := by
  refine ⟨h.1, ?_⟩
  intro Γ hΓ
  have C := C Γ hΓ
  obtain ⟨⟨p, l, e, R, s, m0, args, below, meth, c⟩, ⟨A, ad, dC, dI, dA⟩, n0, s0, n1, s1, Q⟩ := Γ
  obtain ⟨hx, hb, -⟩ := C
  intro H locs ls kk nn hs hP hD hS hv
  exact lv_dup_x1 hx hb hd ((xcat_val ad v).trans h1) ((xcat_val ad w).trans h2) (h.2 _ hΓ H locs ls kk nn hs hP hD hS hv)
theorem g_dup_x2 (C : ∀ Γ, P Γ → gX Γ lay own cc nL d h9) {v w z : xV} (hd : decode cc pc = .ok (.dup_x2, 1)) (h1 : xcat v = 1) (h2 : xcat w = 1) (h3 : xcat z = 1) (h : gJ P lay nL (pc + 1) L (v :: w :: z :: v :: st) m hp h9) : gJ P lay nL pc L (v :: w :: z :: st) m hp h9 := by
  refine ⟨h.1, ?_⟩
  intro Γ hΓ
  have C := C Γ hΓ
  obtain ⟨⟨p, l, e, R, s, m0, args, below, meth, c⟩, ⟨A, ad, dC, dI, dA⟩, n0, s0, n1, s1, Q⟩ := Γ
  obtain ⟨hx, hb, -⟩ := C
  intro H locs ls kk nn hs hP hD hS hv
  exact lv_dup_x2 hx hb hd ((xcat_val ad v).trans h1) ((xcat_val ad w).trans h2) ((xcat_val ad z).trans h3) (h.2 _ hΓ H locs ls kk nn hs hP hD hS hv)
theorem g_ishl (C : ∀ Γ, P Γ → gX Γ lay own cc nL d h9) {x y : Int} (hd : decode cc pc = .ok (.ishl, 1)) (h : gJ P lay nL (pc + 1) L (.inl (xishl x y) :: st) m hp h9) : gJ P lay nL pc L (.inl y :: .inl x :: st) m hp h9 := by
  refine ⟨h.1, ?_⟩
  intro Γ hΓ
  have C := C Γ hΓ
  obtain ⟨⟨p, l, e, R, s, m0, args, below, meth, c⟩, ⟨A, ad, dC, dI, dA⟩, n0, s0, n1, s1, Q⟩ := Γ
  obtain ⟨hx, hb, -⟩ := C
  intro H locs ls kk nn hs hP hD hS hv
  have h1 := h.2 _ hΓ H locs ls kk nn hs hP hD hS hv
  refine lv_ishl hx hb hd ?_
  have e : Int32.ofInt (xishl x y) = Int32.ofInt x <<< (Int32.ofInt y &&& 31) := Int32.ofInt_toInt _
  rw [← e]; exact h1
theorem g_newz (C : ∀ Γ, P Γ → gX Γ lay own cc nL d h9) {n : Int} {q : Nat × gH} (hd : decode cc pc = .ok (.newarray .boolean, 2)) (hw : Cond.arrayClass .boolean ∈ wsL_law) (hq : gNw 3 hp n = some q) (h : gJ P lay nL (pc + 2) L (.inr (.inr (some q.1)) :: st) m q.2 h9) : gJ P lay nL pc L (.inl n :: st) m hp h9 := by
  obtain ⟨⟨c1, c2⟩, hq⟩ := x_some1 hq
  have hq := (Option.some.inj hq).symm
  subst hq
  refine ⟨(gle.push _ _).tr h.1, ?_⟩
  intro Γ hΓ
  have C := C Γ hΓ
  obtain ⟨⟨p, l, e, R, s, m0, args, below, meth, c⟩, ⟨A, ad, dC, dI, dA⟩, n0, s0, n1, s1, Q⟩ := Γ
  obtain ⟨hx, hb, hml, hown, hts, hK, had, hA, hfr, hlo, hlim, hstr, hTT⟩ := C
  intro H locs ls kk nn hs hP hD hS hv T hT X
  have hup := X.heapSize
  rw [hT] at hup
  obtain ⟨z0, z1, z2⟩ := g_next hP hS had hs.1 hs.2.2 hup
  have hl1 : ((hp ++ [.inl (3, List.replicate (xix n) 0)] : gH)).length = hp.length + 1 := by rw [List.length_append]; rfl
  have hl2 : gsl (hp ++ [.inl (3, List.replicate (xix n) 0)] : gH) = gsl hp + xix n := by rw [gsl_push]; show _ + (List.replicate (xix n) (0 : Int)).length = _; rw [List.length_replicate]
  have hg1 := h.1.1
  have hg2 := h.1.2
  rw [hl1] at hg1
  rw [hl2] at hg2
  have hnm : (Int32.ofInt n).toNatClampNeg = xix n := rfl
  have hx1 : xix n ≤ 100000000 := by unfold xix; omega
  have hx4 : xix n * 1 ≤ 536870912 := by omega
  have hng : ¬ Int32.ofInt n < 0 := fun q => by have := xz_lt.mp q; omega
  have hc1 : kk + 1 ≤ R.cells := by have := hlim.1; have := hs.1; omega
  have hc2 : nn + xix n ≤ R.slots := by have := hlim.2; have := hs.2.1; omega
  have key : W p l e R s m0 args below meth c H locs kk nn Q (F0 m0 pc ls ((.inl n :: st).map (xval ad))) := by
    refine va_newaK (atype := .boolean) (N := xix n) (h := H.size) hx hb (hts _ hw) rfl hd rfl hng hnm hx4 hc1 hc2 rfl (fun H1 cA e1 y1 o1 hAr hNm => ?_)
    have ecA : cA = dA 3 := Option.some.inj (hNm.symm.trans (hK.2 3 _ rfl).2)
    subst ecA
    obtain ⟨hP1, hD1, hS1⟩ := g_push (c := .inl (3, List.replicate (xix n) 0)) hP hD hS hA z1 (by
      show H1[H.size]? = some (arrV (dA 3) (List.replicate (xix n) (0 : Int)).length (fun j => Value.int (Int32.ofInt ((List.replicate (xix n) (0 : Int)).getD j 0))))
      rw [e1, List.length_replicate]
      congr 2
      funext j
      rw [grep_d]
      rfl) y1 o1
    have hk := h.2 _ hΓ H1 locs ls (kk + 1) (nn + xix n) ⟨by rw [hl1]; have := hs.1; omega, by rw [hl2]; have := hs.2.1; omega, by rw [hl1]; have := hs.2.2; omega⟩ hP1 hD1 hS1 hv
    rw [List.map_cons, show xval ad (.inr (.inr (some (2000 + hp.length)))) = .ref H.size by show Value.ref (ad (2000 + hp.length)) = _; rw [z1]] at hk
    exact hk
  exact key T hT X
theorem g_newl (C : ∀ Γ, P Γ → gX Γ lay own cc nL d h9) {n : Int} {q : Nat × gH} (hd : decode cc pc = .ok (.newarray .long, 2)) (hw : Cond.arrayClass .long ∈ wsL_law) (hq : gNL hp n = some q) (h : gJ P lay nL (pc + 2) L (.inr (.inr (some q.1)) :: st) m q.2 h9) : gJ P lay nL pc L (.inl n :: st) m hp h9 := by
  obtain ⟨⟨c1, c2⟩, hq⟩ := x_some1 hq
  have hq := (Option.some.inj hq).symm
  subst hq
  refine ⟨(gle.push _ _).tr h.1, ?_⟩
  intro Γ hΓ
  have C := C Γ hΓ
  obtain ⟨⟨p, l, e, R, s, m0, args, below, meth, c⟩, ⟨A, ad, dC, dI, dA⟩, n0, s0, n1, s1, Q⟩ := Γ
  obtain ⟨hx, hb, hml, hown, hts, hK, had, hA, hfr, hlo, hlim, hstr, hTT⟩ := C
  intro H locs ls kk nn hs hP hD hS hv T hT X
  have hup := X.heapSize
  rw [hT] at hup
  obtain ⟨z0, z1, z2⟩ := g_next hP hS had hs.1 hs.2.2 hup
  have hl1 : ((hp ++ [.inl (1, List.replicate (xix n) 0)] : gH)).length = hp.length + 1 := by rw [List.length_append]; rfl
  have hl2 : gsl (hp ++ [.inl (1, List.replicate (xix n) 0)] : gH) = gsl hp + xix n := by rw [gsl_push]; show _ + (List.replicate (xix n) (0 : Int)).length = _; rw [List.length_replicate]
  have hg1 := h.1.1
  have hg2 := h.1.2
  rw [hl1] at hg1
  rw [hl2] at hg2
  have hnm : (Int32.ofInt n).toNatClampNeg = xix n := rfl
  have hx1 : xix n ≤ 50000000 := by unfold xix; omega
  have hx4 : xix n * 8 ≤ 536870912 := by omega
  have hng : ¬ Int32.ofInt n < 0 := fun q => by have := xz_lt.mp q; omega
  have hc1 : kk + 1 ≤ R.cells := by have := hlim.1; have := hs.1; omega
  have hc2 : nn + xix n ≤ R.slots := by have := hlim.2; have := hs.2.1; omega
  have key : W p l e R s m0 args below meth c H locs kk nn Q (F0 m0 pc ls ((.inl n :: st).map (xval ad))) := by
    refine va_newaK (atype := .long) (N := xix n) (h := H.size) hx hb (hts _ hw) rfl hd rfl hng hnm hx4 hc1 hc2 rfl (fun H1 cA e1 y1 o1 hAr hNm => ?_)
    have ecA : cA = dA 1 := Option.some.inj (hNm.symm.trans (hK.2 1 _ rfl).2)
    subst ecA
    obtain ⟨hP1, hD1, hS1⟩ := g_push (c := .inl (1, List.replicate (xix n) 0)) hP hD hS hA z1 (by
      show H1[H.size]? = some (arrV (dA 1) (List.replicate (xix n) (0 : Int)).length (fun j => Value.long (Int64.ofInt ((List.replicate (xix n) (0 : Int)).getD j 0))))
      rw [e1, List.length_replicate]
      congr 2
      funext j
      rw [grep_d]
      rfl) y1 o1
    have hk := h.2 _ hΓ H1 locs ls (kk + 1) (nn + xix n) ⟨by rw [hl1]; have := hs.1; omega, by rw [hl2]; have := hs.2.1; omega, by rw [hl1]; have := hs.2.2; omega⟩ hP1 hD1 hS1 hv
    rw [List.map_cons, show xval ad (.inr (.inr (some (2000 + hp.length)))) = .ref H.size by show Value.ref (ad (2000 + hp.length)) = _; rw [z1]] at hk
    exact hk
  exact key T hT X
end GM7
def gob (h : gH) (k : Nat) : Bool := match gat h k with
  | some (.inr (.inr _)) => true
  | _ => false
theorem gob_some {h : gH} {k : Nat} (e : gob h k = true) : ∃ fs : List xV, gat h k = some (.inr (.inr fs)) := by
  unfold gob at e
  cases hc : gat h k with
  | none => rw [hc] at e; cases e
  | some c =>
    rw [hc] at e
    rcases c with q | q | fs
    · cases e
    · cases e
    · exact ⟨fs, rfl⟩

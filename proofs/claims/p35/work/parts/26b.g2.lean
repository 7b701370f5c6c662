/-! ===== rows of the layer g that read and write cells ===== -/
def gaN (t : Nat) (h : gH) (k : Nat) (j : Int) : Option Int := match gat h k with
  | some (.inl (t', l)) => if t' = t ∧ xib j l.length then some (l.getD (xix j) 0) else none
  | _ => none
def gaR (t : Nat) (h : gH) (k : Nat) (j : Int) : Option (Option Nat) := match gat h k with
  | some (.inr (.inl (t', l))) => if t' = t ∧ xib j l.length then some (l.getD (xix j) none) else none
  | _ => none
def gsN (t : Nat) (h : gH) (k : Nat) (j x : Int) : Option gH := match gat h k with
  | some (.inl (t', l)) => if t' = t ∧ xib j l.length then some (h.set (k - 2000) (.inl (t', l.set (xix j) x))) else none
  | _ => none
def gsR (t : Nat) (h : gH) (k : Nat) (j : Int) (x : Option Nat) : Option gH := match gat h k with
  | some (.inr (.inl (t', l))) => if t' = t ∧ xib j l.length then some (h.set (k - 2000) (.inr (.inl (t', l.set (xix j) x)))) else none
  | _ => none
def gln (h : gH) (k : Nat) : Option Int := match gat h k with
  | some (.inl q) => some (q.2.length : Int)
  | some (.inr (.inl q)) => some (q.2.length : Int)
  | _ => none
def gfI (h : gH) (k j : Nat) : Option Int := match gat h k with
  | some (.inr (.inr fs)) => match fs[j]? with
    | some (.inl x) => some x
    | _ => none
  | _ => none
def gfR (h : gH) (k j : Nat) : Option (Option Nat) := match gat h k with
  | some (.inr (.inr fs)) => match fs[j]? with
    | some (.inr (.inr r)) => some r
    | _ => none
  | _ => none
def gpt (h : gH) (k j : Nat) (v : xV) : Option gH := match gat h k with
  | some (.inr (.inr fs)) => if j < fs.length then some (h.set (k - 2000) (.inr (.inr (fs.set j v)))) else none
  | _ => none
theorem gaN_some {t : Nat} {h : gH} {k : Nat} {j x : Int} (e : gaN t h k j = some x) : ∃ l : List Int, gat h k = some (.inl (t, l)) ∧ xib j l.length ∧ x = l.getD (xix j) 0 := by
  unfold gaN at e
  cases hc : gat h k with
  | none => rw [hc] at e; cases e
  | some c =>
    rw [hc] at e
    rcases c with ⟨t', l⟩ | ⟨t', l⟩ | fs
    · dsimp only at e
      obtain ⟨⟨h1, h2⟩, h3⟩ := x_some1 e
      subst h1
      exact ⟨l, rfl, h2, (Option.some.inj h3).symm⟩
    · cases e
    · cases e
theorem gaR_some {t : Nat} {h : gH} {k : Nat} {j : Int} {x : Option Nat} (e : gaR t h k j = some x) : ∃ l : List (Option Nat), gat h k = some (.inr (.inl (t, l))) ∧ xib j l.length ∧ x = l.getD (xix j) none := by
  unfold gaR at e
  cases hc : gat h k with
  | none => rw [hc] at e; cases e
  | some c =>
    rw [hc] at e
    rcases c with ⟨t', l⟩ | ⟨t', l⟩ | fs
    · cases e
    · dsimp only at e
      obtain ⟨⟨h1, h2⟩, h3⟩ := x_some1 e
      subst h1
      exact ⟨l, rfl, h2, (Option.some.inj h3).symm⟩
    · cases e
theorem gsN_some {t : Nat} {h h' : gH} {k : Nat} {j x : Int} (e : gsN t h k j x = some h') : ∃ l : List Int, gat h k = some (.inl (t, l)) ∧ xib j l.length ∧ h' = h.set (k - 2000) (.inl (t, l.set (xix j) x)) := by
  unfold gsN at e
  cases hc : gat h k with
  | none => rw [hc] at e; cases e
  | some c =>
    rw [hc] at e
    rcases c with ⟨t', l⟩ | ⟨t', l⟩ | fs
    · dsimp only at e
      obtain ⟨⟨h1, h2⟩, h3⟩ := x_some1 e
      subst h1
      exact ⟨l, rfl, h2, (Option.some.inj h3).symm⟩
    · cases e
    · cases e
theorem gsR_some {t : Nat} {h h' : gH} {k : Nat} {j : Int} {x : Option Nat} (e : gsR t h k j x = some h') : ∃ l : List (Option Nat), gat h k = some (.inr (.inl (t, l))) ∧ xib j l.length ∧ h' = h.set (k - 2000) (.inr (.inl (t, l.set (xix j) x))) := by
  unfold gsR at e
  cases hc : gat h k with
  | none => rw [hc] at e; cases e
  | some c =>
    rw [hc] at e
    rcases c with ⟨t', l⟩ | ⟨t', l⟩ | fs
    · cases e
    · dsimp only at e
      obtain ⟨⟨h1, h2⟩, h3⟩ := x_some1 e
      subst h1
      exact ⟨l, rfl, h2, (Option.some.inj h3).symm⟩
    · cases e
theorem gfI_some {h : gH} {k j : Nat} {x : Int} (e : gfI h k j = some x) : ∃ fs : List xV, gat h k = some (.inr (.inr fs)) ∧ fs[j]? = some (.inl x) := by
  unfold gfI at e
  cases hc : gat h k with
  | none => rw [hc] at e; cases e
  | some c =>
    rw [hc] at e
    rcases c with ⟨t', l⟩ | ⟨t', l⟩ | fs
    · cases e
    · cases e
    · dsimp only at e
      refine ⟨fs, rfl, ?_⟩
      cases hv : fs[j]? with
      | none => rw [hv] at e; cases e
      | some v =>
        rw [hv] at e
        rcases v with y | y | y
        · dsimp only at e; rw [Option.some.inj e]
        · cases e
        · cases e
theorem gfR_some {h : gH} {k j : Nat} {x : Option Nat} (e : gfR h k j = some x) : ∃ fs : List xV, gat h k = some (.inr (.inr fs)) ∧ fs[j]? = some (.inr (.inr x)) := by
  unfold gfR at e
  cases hc : gat h k with
  | none => rw [hc] at e; cases e
  | some c =>
    rw [hc] at e
    rcases c with ⟨t', l⟩ | ⟨t', l⟩ | fs
    · cases e
    · cases e
    · dsimp only at e
      refine ⟨fs, rfl, ?_⟩
      cases hv : fs[j]? with
      | none => rw [hv] at e; cases e
      | some v =>
        rw [hv] at e
        rcases v with y | y | y
        · cases e
        · cases e
        · dsimp only at e; rw [Option.some.inj e]
theorem gpt_some {h h' : gH} {k j : Nat} {v : xV} (e : gpt h k j v = some h') : ∃ fs : List xV, gat h k = some (.inr (.inr fs)) ∧ j < fs.length ∧ h' = h.set (k - 2000) (.inr (.inr (fs.set j v))) := by
  unfold gpt at e
  cases hc : gat h k with
  | none => rw [hc] at e; cases e
  | some c =>
    rw [hc] at e
    rcases c with ⟨t', l⟩ | ⟨t', l⟩ | fs
    · cases e
    · cases e
    · dsimp only at e
      obtain ⟨h1, h3⟩ := x_some1 e
      exact ⟨fs, rfl, h1, (Option.some.inj h3).symm⟩
theorem gset_d {α : Type} (d : α) : ∀ (l : List α) (i j : Nat) (x : α), i < l.length → (l.set i x).getD j d = if j = i then x else l.getD j d := by
  intro l i j x hi
  rw [List.getD_eq_getElem?_getD, List.getD_eq_getElem?_getD, List.getElem?_set]
  by_cases h : i = j
  · subst h; rw [if_pos rfl, if_pos hi, if_pos rfl]; rfl
  · rw [if_neg h, if_neg (fun q => h q.symm)]
theorem gle_of_set {h h9 : gH} {k : Nat} {c c' : gC} (hk : gat h k = some c) (hz : gsz c' = gsz c) (h1 : gle (h.set (k - 2000) c') h9) : gle h h9 := (gle.set (gat_some hk).2 hz).tr h1
/-- the kinds of arrays that there are -/
def gkd : gC → Prop
  | .inl q => q.1 = 0 ∨ q.1 = 1 ∨ q.1 = 3
  | .inr (.inl q) => q.1 = 4 ∨ q.1 = 5
  | _ => True
section GM
variable {P : gG → Prop} {lay : List xS} {own : String} {cc : ByteArray} {nL d pc : Nat} {L : List (Nat × xV)} {st : List xV} {m : xM} {hp h9 : gH}
theorem g_iaload (C : ∀ Γ, P Γ → gX Γ lay own cc nL d h9) {k : Nat} {j x : Int} (hd : decode cc pc = .ok (.iaload, 1)) (hq : gaN 0 hp k j = some x) (h : gJ P lay nL (pc + 1) L (.inl x :: st) m hp h9) : gJ P lay nL pc L (.inl j :: .inr (.inr (some k)) :: st) m hp h9 := by
  obtain ⟨l0, h1, h2, h3⟩ := gaN_some hq
  refine ⟨h.1, ?_⟩
  intro Γ hΓ
  have C := C Γ hΓ
  obtain ⟨⟨p, l, e, R, s, m0, args, below, meth, c⟩, ⟨A, ad, dC, dI, dA⟩, n0, s0, n1, s1, Q⟩ := Γ
  obtain ⟨hx, hb, hml, hown, hts, hK, had, hA, hfr, hlo, hlim, hstr, hTT⟩ := C
  intro H locs ls kk nn hs hP hD hS hv
  have hk := h.2 _ hΓ H locs ls kk nn hs hP hD hS hv
  rw [h3] at hk
  exact va_iald hx hb hK hP _ 0 (gwd_at h1) rfl (xib_in h2) hd hk
theorem g_baload (C : ∀ Γ, P Γ → gX Γ lay own cc nL d h9) {k : Nat} {j x : Int} (hd : decode cc pc = .ok (.baload, 1)) (hq : gaN 3 hp k j = some x) (h : gJ P lay nL (pc + 1) L (.inl x :: st) m hp h9) : gJ P lay nL pc L (.inl j :: .inr (.inr (some k)) :: st) m hp h9 := by
  obtain ⟨l0, h1, h2, h3⟩ := gaN_some hq
  refine ⟨h.1, ?_⟩
  intro Γ hΓ
  have C := C Γ hΓ
  obtain ⟨⟨p, l, e, R, s, m0, args, below, meth, c⟩, ⟨A, ad, dC, dI, dA⟩, n0, s0, n1, s1, Q⟩ := Γ
  obtain ⟨hx, hb, hml, hown, hts, hK, had, hA, hfr, hlo, hlim, hstr, hTT⟩ := C
  intro H locs ls kk nn hs hP hD hS hv
  have hk := h.2 _ hΓ H locs ls kk nn hs hP hD hS hv
  rw [h3] at hk
  exact va_zald hx hb hK hP _ 3 (gwd_at h1) rfl (xib_in h2) hd hk
theorem g_laload (C : ∀ Γ, P Γ → gX Γ lay own cc nL d h9) {k : Nat} {j x : Int} (hd : decode cc pc = .ok (.laload, 1)) (hq : gaN 1 hp k j = some x) (h : gJ P lay nL (pc + 1) L (.inr (.inl x) :: st) m hp h9) : gJ P lay nL pc L (.inl j :: .inr (.inr (some k)) :: st) m hp h9 := by
  obtain ⟨l0, h1, h2, h3⟩ := gaN_some hq
  refine ⟨h.1, ?_⟩
  intro Γ hΓ
  have C := C Γ hΓ
  obtain ⟨⟨p, l, e, R, s, m0, args, below, meth, c⟩, ⟨A, ad, dC, dI, dA⟩, n0, s0, n1, s1, Q⟩ := Γ
  obtain ⟨hx, hb, hml, hown, hts, hK, had, hA, hfr, hlo, hlim, hstr, hTT⟩ := C
  intro H locs ls kk nn hs hP hD hS hv
  have hk := h.2 _ hΓ H locs ls kk nn hs hP hD hS hv
  rw [h3] at hk
  exact va_lald hx hb hK hP _ 1 (gwd_at h1) rfl (xib_in h2) hd hk
theorem g_iastore (C : ∀ Γ, P Γ → gX Γ lay own cc nL d h9) {k : Nat} {j x : Int} {hp1 : gH} (hd : decode cc pc = .ok (.iastore, 1)) (hq : gsN 0 hp k j x = some hp1) (h : gJ P lay nL (pc + 1) L st m hp1 h9) : gJ P lay nL pc L (.inl x :: .inl j :: .inr (.inr (some k)) :: st) m hp h9 := by
  obtain ⟨l0, h1, h2, h3⟩ := gsN_some hq
  subst h3
  have hlt : xix j < l0.length := by obtain ⟨q1, q2⟩ := h2; show (xw j).toNat < _; omega
  have hsz : gsz (.inl (0, l0.set (xix j) x)) = gsz (.inl (0, l0)) := List.length_set
  refine ⟨gle_of_set h1 hsz h.1, ?_⟩
  intro Γ hΓ
  have C := C Γ hΓ
  obtain ⟨⟨p, l, e, R, s, m0, args, below, meth, c⟩, ⟨A, ad, dC, dI, dA⟩, n0, s0, n1, s1, Q⟩ := Γ
  obtain ⟨hx, hb, hml, hown, hts, hK, had, hA, hfr, hlo, hlim, hstr, hTT⟩ := C
  intro H locs ls kk nn hs hP hD hS hv
  refine va_iast hx hb hK hP hD hS _ 0 (gwd_at h1) rfl (xib_in h2) hd (fun H1 locs1 hP1 hD1 hS1 => ?_)
  have e2 : (upd (fun z => Int32.ofInt (l0.getD z 0)) (Int32.ofInt j).toNatClampNeg (Int32.ofInt x)) = (fun z => Int32.ofInt ((l0.set (xix j) x).getD z 0)) := by
    funext z
    rw [gset_d 0 l0 _ z x hlt]
    show (if z = xix j then Int32.ofInt x else Int32.ofInt (l0.getD z 0)) = _
    by_cases hz9 : z = xix j
    · rw [if_pos hz9, if_pos hz9]
    · rw [if_neg hz9, if_neg hz9]
  have e : (Sum.inl (dA 0, l0.length, Sum.inl (upd (fun z => Int32.ofInt (l0.getD z 0)) (Int32.ofInt j).toNatClampNeg (Int32.ofInt x))) : va_E) = gent ad dA (.inl (0, l0.set (xix j) x)) := by
    show (Sum.inl (dA 0, l0.length, Sum.inl (upd (fun z => Int32.ofInt (l0.getD z 0)) (Int32.ofInt j).toNatClampNeg (Int32.ofInt x))) : va_E) = Sum.inl (dA 0, (l0.set (xix j) x).length, Sum.inl (fun z => Int32.ofInt ((l0.set (xix j) x).getD z 0)))
    rw [List.length_set, e2]
  rw [e, gwd_set h1 rfl] at hP1 hD1
  exact h.2 _ hΓ H1 locs1 ls kk nn ⟨by rw [List.length_set]; exact hs.1, by rw [gsl_set _ _ _ _ (gat_some h1).2 hsz]; exact hs.2.1, by rw [List.length_set]; exact hs.2.2⟩ hP1 hD1 hS1 hv
theorem g_bastore (C : ∀ Γ, P Γ → gX Γ lay own cc nL d h9) {k : Nat} {j x : Int} {hp1 : gH} (hd : decode cc pc = .ok (.bastore, 1)) (hz : xbz x) (hq : gsN 3 hp k j x = some hp1) (h : gJ P lay nL (pc + 1) L st m hp1 h9) : gJ P lay nL pc L (.inl x :: .inl j :: .inr (.inr (some k)) :: st) m hp h9 := by
  obtain ⟨l0, h1, h2, h3⟩ := gsN_some hq
  subst h3
  have hlt : xix j < l0.length := by obtain ⟨q1, q2⟩ := h2; show (xw j).toNat < _; omega
  have hsz : gsz (.inl (3, l0.set (xix j) x)) = gsz (.inl (3, l0)) := List.length_set
  refine ⟨gle_of_set h1 hsz h.1, ?_⟩
  intro Γ hΓ
  have C := C Γ hΓ
  obtain ⟨⟨p, l, e, R, s, m0, args, below, meth, c⟩, ⟨A, ad, dC, dI, dA⟩, n0, s0, n1, s1, Q⟩ := Γ
  obtain ⟨hx, hb, hml, hown, hts, hK, had, hA, hfr, hlo, hlim, hstr, hTT⟩ := C
  intro H locs ls kk nn hs hP hD hS hv
  refine va_zast hx hb hK hP hD hS _ 3 (gwd_at h1) rfl (xib_in h2) hd (fun H1 locs1 hP1 hD1 hS1 => ?_)
  have e2 : (upd (fun z => Int32.ofInt (l0.getD z 0)) (Int32.ofInt j).toNatClampNeg (vp_nar .boolean (Int32.ofInt x))) = (fun z => Int32.ofInt ((l0.set (xix j) x).getD z 0)) := by
    funext z
    rw [gset_d 0 l0 _ z x hlt]
    show (if z = xix j then vp_nar .boolean (Int32.ofInt x) else Int32.ofInt (l0.getD z 0)) = _
    by_cases hz9 : z = xix j
    · rw [if_pos hz9, if_pos hz9]; unfold vp_nar; rw [(xbz_nar hz).1]
    · rw [if_neg hz9, if_neg hz9]
  have e : (Sum.inl (dA 3, l0.length, Sum.inl (upd (fun z => Int32.ofInt (l0.getD z 0)) (Int32.ofInt j).toNatClampNeg (vp_nar .boolean (Int32.ofInt x)))) : va_E) = gent ad dA (.inl (3, l0.set (xix j) x)) := by
    show (Sum.inl (dA 3, l0.length, Sum.inl (upd (fun z => Int32.ofInt (l0.getD z 0)) (Int32.ofInt j).toNatClampNeg (vp_nar .boolean (Int32.ofInt x)))) : va_E) = Sum.inl (dA 3, (l0.set (xix j) x).length, Sum.inl (fun z => Int32.ofInt ((l0.set (xix j) x).getD z 0)))
    rw [List.length_set, e2]
  rw [e, gwd_set h1 rfl] at hP1 hD1
  exact h.2 _ hΓ H1 locs1 ls kk nn ⟨by rw [List.length_set]; exact hs.1, by rw [gsl_set _ _ _ _ (gat_some h1).2 hsz]; exact hs.2.1, by rw [List.length_set]; exact hs.2.2⟩ hP1 hD1 hS1 hv
theorem g_lastore (C : ∀ Γ, P Γ → gX Γ lay own cc nL d h9) {k : Nat} {j x : Int} {hp1 : gH} (hd : decode cc pc = .ok (.lastore, 1)) (hq : gsN 1 hp k j x = some hp1) (h : gJ P lay nL (pc + 1) L st m hp1 h9) : gJ P lay nL pc L (.inr (.inl x) :: .inl j :: .inr (.inr (some k)) :: st) m hp h9 := by
  obtain ⟨l0, h1, h2, h3⟩ := gsN_some hq
  subst h3
  have hlt : xix j < l0.length := by obtain ⟨q1, q2⟩ := h2; show (xw j).toNat < _; omega
  have hsz : gsz (.inl (1, l0.set (xix j) x)) = gsz (.inl (1, l0)) := List.length_set
  refine ⟨gle_of_set h1 hsz h.1, ?_⟩
  intro Γ hΓ
  have C := C Γ hΓ
  obtain ⟨⟨p, l, e, R, s, m0, args, below, meth, c⟩, ⟨A, ad, dC, dI, dA⟩, n0, s0, n1, s1, Q⟩ := Γ
  obtain ⟨hx, hb, hml, hown, hts, hK, had, hA, hfr, hlo, hlim, hstr, hTT⟩ := C
  intro H locs ls kk nn hs hP hD hS hv
  refine va_last hx hb hK hP hD hS _ 1 (gwd_at h1) rfl (xib_in h2) hd (fun H1 locs1 hP1 hD1 hS1 => ?_)
  have e2 : (vp_updL (fun z => Int64.ofInt (l0.getD z 0)) (Int32.ofInt j).toNatClampNeg (Int64.ofInt x)) = (fun z => Int64.ofInt ((l0.set (xix j) x).getD z 0)) := by
    funext z
    rw [gset_d 0 l0 _ z x hlt]
    show (if z = xix j then Int64.ofInt x else Int64.ofInt (l0.getD z 0)) = _
    by_cases hz9 : z = xix j
    · rw [if_pos hz9, if_pos hz9]
    · rw [if_neg hz9, if_neg hz9]
  have e : (Sum.inl (dA 1, l0.length, Sum.inr (Sum.inl (vp_updL (fun z => Int64.ofInt (l0.getD z 0)) (Int32.ofInt j).toNatClampNeg (Int64.ofInt x)))) : va_E) = gent ad dA (.inl (1, l0.set (xix j) x)) := by
    show (Sum.inl (dA 1, l0.length, Sum.inr (Sum.inl (vp_updL (fun z => Int64.ofInt (l0.getD z 0)) (Int32.ofInt j).toNatClampNeg (Int64.ofInt x)))) : va_E) = Sum.inl (dA 1, (l0.set (xix j) x).length, Sum.inr (Sum.inl (fun z => Int64.ofInt ((l0.set (xix j) x).getD z 0))))
    rw [List.length_set, e2]
  rw [e, gwd_set h1 rfl] at hP1 hD1
  exact h.2 _ hΓ H1 locs1 ls kk nn ⟨by rw [List.length_set]; exact hs.1, by rw [gsl_set _ _ _ _ (gat_some h1).2 hsz]; exact hs.2.1, by rw [List.length_set]; exact hs.2.2⟩ hP1 hD1 hS1 hv
theorem g_len (C : ∀ Γ, P Γ → gX Γ lay own cc nL d h9) {k : Nat} {x : Int} (hd : decode cc pc = .ok (.arraylength, 1)) (hq : gln hp k = some x) (ht : ∀ c, gat hp k = some c → gkd c) (h : gJ P lay nL (pc + 1) L (.inl x :: st) m hp h9) : gJ P lay nL pc L (.inr (.inr (some k)) :: st) m hp h9 := by
  refine ⟨h.1, ?_⟩
  intro Γ hΓ
  have C := C Γ hΓ
  obtain ⟨⟨p, l, e, R, s, m0, args, below, meth, c⟩, ⟨A, ad, dC, dI, dA⟩, n0, s0, n1, s1, Q⟩ := Γ
  obtain ⟨hx, hb, hml, hown, hts, hK, had, hA, hfr, hlo, hlim, hstr, hTT⟩ := C
  intro H locs ls kk nn hs hP hD hS hv
  have hk := h.2 _ hΓ H locs ls kk nn hs hP hD hS hv
  unfold gln at hq
  cases hc : gat hp k with
  | none => rw [hc] at hq; cases hq
  | some c =>
    have h9 := ht c hc
    rw [hc] at hq
    rcases c with ⟨t', l0⟩ | ⟨t', l0⟩ | fs
    · dsimp only at hq
      rw [← Option.some.inj hq] at hk
      rcases h9 with rfl | rfl | rfl
      · exact va_alen hx hb hK hP _ 0 (gwd_at hc) (ty := .int) rfl (by rw [Int32.ofInt_eq_ofNat]) hd hk
      · exact va_alen hx hb hK hP _ 1 (gwd_at hc) (ty := .long) rfl (by rw [Int32.ofInt_eq_ofNat]) hd hk
      · exact va_alen hx hb hK hP _ 3 (gwd_at hc) (ty := .boolean) rfl (by rw [Int32.ofInt_eq_ofNat]) hd hk
    · dsimp only at hq
      rw [← Option.some.inj hq] at hk
      rcases h9 with rfl | rfl
      · exact va_alen hx hb hK hP _ 4 (gwd_at hc) (ty := .array .int) rfl (by rw [Int32.ofInt_eq_ofNat]) hd hk
      · exact va_alen hx hb hK hP _ 5 (gwd_at hc) (ty := .array (.array .int)) rfl (by rw [Int32.ofInt_eq_ofNat]) hd hk
    · cases hq
end GM

/-! ===== the layer g: fields of a nest mate ===== -/
def xFN (own : String) (idx j : Nat) (t : FieldType) (fin : Bool) : Prop := ∃ (C : String) (T : u_T) (N : Nat) (ty : Nat → FieldType), vwCl[12]? = some (C, T, N) ∧ j < N ∧ Cond.fieldLinkNest own idx C (T j).2.1 (T j).2.2.1 RL ∈ gNb ∧ (T j).1 = C ∧ (∀ w ∈ u_ws C T N, w ∈ wsL_law) ∧ (∀ k, k < N → parseFieldDescriptor (T k).2.2.1 = some (ty k)) ∧ (∀ a, a < N → ∀ b, b < N → a ≠ b → (T a).2.1 ≠ (T b).2.1) ∧ ty j = t ∧ (T j).2.2.2 = fin
section GM8
variable {P : gG → Prop} {lay : List xS} {own : String} {cc : ByteArray} {nL d pc : Nat} {L : List (Nat × xV)} {st : List xV} {m : xM} {hp h9 : gH}
theorem g_getIN (C : ∀ Γ, P Γ → gX Γ lay own cc nL d h9) {idx j k : Nat} {t : FieldType} {fin : Bool} {x : Int} (hd : decode cc pc = .ok (.getfield idx, 3)) (hF : xFN own idx j t fin) (hq : gfI hp k j = some x) (h : gJ P lay nL (pc + 3) L (.inl x :: st) m hp h9) : gJ P lay nL pc L (.inr (.inr (some k)) :: st) m hp h9 := by
  obtain ⟨fs, h1, h2⟩ := gfI_some hq
  obtain ⟨Cn, T, N, ty, f1, f2, f3, f4, f5, f6, f7, f8, f9⟩ := hF
  refine ⟨h.1, ?_⟩
  intro Γ hΓ
  have C := C Γ hΓ
  obtain ⟨⟨p, l, e, R, s, m0, args, below, meth, c⟩, ⟨A, ad, dC, dI, dA⟩, n0, s0, n1, s1, Q⟩ := Γ
  obtain ⟨hx, hb, hml, hown, hts, hK, had, hA, hfr, hlo, hlim, hstr, hTT⟩ := C
  intro H locs ls kk nn hs hP hD hS hv
  exact va_getN (own := own) (ref := Cn) (C := Cn) (T := T) (N := N) hx hb hts f5 hown hK hP _ (gwd_at h1) f1 j f2 (va_Nw.use (gNb_on _ f3) (hTT.2 _ f3)) (fun z hz => by rw [f4] at hz; exact hz) (v := xval ad (.inl x)) (by rw [List.getElem?_map, h2]; rfl) hd (h.2 _ hΓ H locs ls kk nn hs hP hD hS hv)
theorem g_getRN (C : ∀ Γ, P Γ → gX Γ lay own cc nL d h9) {idx j k : Nat} {t : FieldType} {fin : Bool} {x : Option Nat} (hd : decode cc pc = .ok (.getfield idx, 3)) (hF : xFN own idx j t fin) (hq : gfR hp k j = some x) (h : gJ P lay nL (pc + 3) L (.inr (.inr x) :: st) m hp h9) : gJ P lay nL pc L (.inr (.inr (some k)) :: st) m hp h9 := by
  obtain ⟨fs, h1, h2⟩ := gfR_some hq
  obtain ⟨Cn, T, N, ty, f1, f2, f3, f4, f5, f6, f7, f8, f9⟩ := hF
  refine ⟨h.1, ?_⟩
  intro Γ hΓ
  have C := C Γ hΓ
  obtain ⟨⟨p, l, e, R, s, m0, args, below, meth, c⟩, ⟨A, ad, dC, dI, dA⟩, n0, s0, n1, s1, Q⟩ := Γ
  obtain ⟨hx, hb, hml, hown, hts, hK, had, hA, hfr, hlo, hlim, hstr, hTT⟩ := C
  intro H locs ls kk nn hs hP hD hS hv
  exact va_getN (own := own) (ref := Cn) (C := Cn) (T := T) (N := N) hx hb hts f5 hown hK hP _ (gwd_at h1) f1 j f2 (va_Nw.use (gNb_on _ f3) (hTT.2 _ f3)) (fun z hz => by rw [f4] at hz; exact hz) (v := xval ad (.inr (.inr x))) (by rw [List.getElem?_map, h2]; rfl) hd (h.2 _ hΓ H locs ls kk nn hs hP hD hS hv)
theorem g_putIN (C : ∀ Γ, P Γ → gX Γ lay own cc nL d h9) {idx j k : Nat} {x : Int} {hp1 : gH} (hd : decode cc pc = .ok (.putfield idx, 3)) (hF : xFN own idx j .int false) (hq : gpt hp k j (.inl x) = some hp1) (h : gJ P lay nL (pc + 3) L st m hp1 h9) : gJ P lay nL pc L (.inl x :: .inr (.inr (some k)) :: st) m hp h9 := by
  obtain ⟨fs, h1, h2, h3⟩ := gpt_some hq
  subst h3
  have hsz : gsz (.inr (.inr (fs.set j (.inl x)))) = gsz (.inr (.inr fs)) := List.length_set
  obtain ⟨Cn, T, N, ty, f1, f2, f3, f4, f5, f6, f7, f8, f9⟩ := hF
  refine ⟨gle_of_set h1 hsz h.1, ?_⟩
  intro Γ hΓ
  have C := C Γ hΓ
  obtain ⟨⟨p, l, e, R, s, m0, args, below, meth, c⟩, ⟨A, ad, dC, dI, dA⟩, n0, s0, n1, s1, Q⟩ := Γ
  obtain ⟨hx, hb, hml, hown, hts, hK, had, hA, hfr, hlo, hlim, hstr, hTT⟩ := C
  intro H locs ls kk nn hs hP hD hS hv
  refine va_putN (own := own) (ref := Cn) (C := Cn) (T := T) (N := N) hx hb hts f5 ty f6 f7 hown hK hP hD hS _ (gwd_at h1) f1 j f2 (va_Nw.use (gNb_on _ f3) (hTT.2 _ f3)) (fun z hz => by rw [f4] at hz; exact hz) f9 (ty := .int) (v := xval ad (.inl x)) (by rw [f6 j f2, f8]) rfl rfl (by rw [List.length_map]; exact h2) hd (fun H1 locs1 hP1 hD1 hS1 => ?_)
  rw [← List.map_set, show (Sum.inr (12, List.map (xval ad) (fs.set j (.inl x))) : va_E) = gent ad dA (.inr (.inr (fs.set j (.inl x)))) from rfl, gwd_set h1 rfl] at hP1 hD1
  exact h.2 _ hΓ H1 locs1 ls kk nn ⟨by rw [List.length_set]; exact hs.1, by rw [gsl_set _ _ _ _ (gat_some h1).2 hsz]; exact hs.2.1, by rw [List.length_set]; exact hs.2.2⟩ hP1 hD1 hS1 hv
theorem g_putRN (C : ∀ Γ, P Γ → gX Γ lay own cc nL d h9) {idx j k : Nat} {x : Option Nat} {t : FieldType} {hp1 : gH} (hd : decode cc pc = .ok (.putfield idx, 3)) (hF : xFN own idx j (.array t) false) (hq : gpt hp k j (.inr (.inr x)) = some hp1) (h : gJ P lay nL (pc + 3) L st m hp1 h9) : gJ P lay nL pc L (.inr (.inr x) :: .inr (.inr (some k)) :: st) m hp h9 := by
  obtain ⟨fs, h1, h2, h3⟩ := gpt_some hq
  subst h3
  have hsz : gsz (.inr (.inr (fs.set j (.inr (.inr x))))) = gsz (.inr (.inr fs)) := List.length_set
  obtain ⟨Cn, T, N, ty, f1, f2, f3, f4, f5, f6, f7, f8, f9⟩ := hF
  refine ⟨gle_of_set h1 hsz h.1, ?_⟩
  intro Γ hΓ
  have C := C Γ hΓ
  obtain ⟨⟨p, l, e, R, s, m0, args, below, meth, c⟩, ⟨A, ad, dC, dI, dA⟩, n0, s0, n1, s1, Q⟩ := Γ
  obtain ⟨hx, hb, hml, hown, hts, hK, had, hA, hfr, hlo, hlim, hstr, hTT⟩ := C
  intro H locs ls kk nn hs hP hD hS hv
  refine va_putN (own := own) (ref := Cn) (C := Cn) (T := T) (N := N) hx hb hts f5 ty f6 f7 hown hK hP hD hS _ (gwd_at h1) f1 j f2 (va_Nw.use (gNb_on _ f3) (hTT.2 _ f3)) (fun z hz => by rw [f4] at hz; exact hz) f9 (ty := (.array t)) (v := xval ad (.inr (.inr x))) (by rw [f6 j f2, f8]) (by cases x <;> rfl) (by cases x <;> rfl) (by rw [List.length_map]; exact h2) hd (fun H1 locs1 hP1 hD1 hS1 => ?_)
  rw [← List.map_set, show (Sum.inr (12, List.map (xval ad) (fs.set j (.inr (.inr x)))) : va_E) = gent ad dA (.inr (.inr (fs.set j (.inr (.inr x))))) from rfl, gwd_set h1 rfl] at hP1 hD1
  exact h.2 _ hΓ H1 locs1 ls kk nn ⟨by rw [List.length_set]; exact hs.1, by rw [gsl_set _ _ _ _ (gat_some h1).2 hsz]; exact hs.2.1, by rw [List.length_set]; exact hs.2.2⟩ hP1 hD1 hS1 hv
theorem g_getKN (C : ∀ Γ, P Γ → gX Γ lay own cc nL d h9) {idx j k q : Nat} {t : FieldType} {fin : Bool} (hd : decode cc pc = .ok (.getfield idx, 3)) (hF : xFN own idx j t fin) (hq : gfK hp k j = some q) (h : gJ P lay nL (pc + 3) L (.inr (.inr (some q)) :: st) m hp h9) : gJ P lay nL pc L (.inr (.inr (some k)) :: st) m hp h9 := g_getRN C hd hF (gfK_some hq) h
end GM8

/-! ===== the layer g: a new object of the law's own class ===== -/
def gO0 : List xV := List.replicate 12 (.inl 0) ++ List.replicate 19 (.inr (.inr none))
theorem gO0_ok (ad : Nat → Nat) : ∀ j, j < 31 → defaultValue (tyX11 j) = vp_V (gO0.map (xval ad)) j
  | 0, _ => rfl
  | 1, _ => rfl
  | 2, _ => rfl
  | 3, _ => rfl
  | 4, _ => rfl
  | 5, _ => rfl
  | 6, _ => rfl
  | 7, _ => rfl
  | 8, _ => rfl
  | 9, _ => rfl
  | 10, _ => rfl
  | 11, _ => rfl
  | 12, _ => rfl
  | 13, _ => rfl
  | 14, _ => rfl
  | 15, _ => rfl
  | 16, _ => rfl
  | 17, _ => rfl
  | 18, _ => rfl
  | 19, _ => rfl
  | 20, _ => rfl
  | 21, _ => rfl
  | 22, _ => rfl
  | 23, _ => rfl
  | 24, _ => rfl
  | 25, _ => rfl
  | 26, _ => rfl
  | 27, _ => rfl
  | 28, _ => rfl
  | 29, _ => rfl
  | 30, _ => rfl
  | n + 31, h => absurd h (by omega)
section GO
variable {P : gG → Prop} {lay : List xS} {own : String} {cc : ByteArray} {nL d pc : Nat} {L : List (Nat × xV)} {st : List xV} {m : xM} {hp h9 : gH}
theorem g_newO (C : ∀ Γ, P Γ → gX Γ lay own cc nL d h9) {idx : Nat} (hd : decode cc pc = .ok (.new idx, 3)) (hw : Cond.classLink own idx RX11 ∈ wsL_law) (hi : Cond.instantiable RX11 31 ∈ wsL_law) (hn : Cond.initialized RX11 ∈ wsL_law) (h : gJ P lay nL (pc + 3) L (.inr (.inr (some (2000 + hp.length))) :: st) m (hp ++ [.inr (.inr gO0)]) h9) : gJ P lay nL pc L st m hp h9 := by
  refine ⟨(gle.push _ _).tr h.1, ?_⟩
  intro Γ hΓ
  have C := C Γ hΓ
  obtain ⟨⟨p, l, e, R, s, m0, args, below, meth, c⟩, ⟨A, ad, dC, dI, dA⟩, n0, s0, n1, s1, Q⟩ := Γ
  obtain ⟨hx, hb, hml, hown, hts, hK, had, hA, hfr, hlo, hlim, hstr, hTT⟩ := C
  intro H locs ls kk nn hs hP hD hS hv T hT X
  have hup := X.heapSize
  rw [hT] at hup
  obtain ⟨z0, z1, z2⟩ := g_next hP hS had hs.1 hs.2.2 hup
  have hl1 : (hp ++ [.inr (.inr gO0)] : gH).length = hp.length + 1 := by rw [List.length_append]; rfl
  have hl2 : gsl (hp ++ [.inr (.inr gO0)] : gH) = gsl hp + 31 := by rw [gsl_push]; rfl
  have hg1 := h.1.1
  have hg2 := h.1.2
  rw [hl1] at hg1
  rw [hl2] at hg2
  have hKn := hK.1 12 _ rfl
  have key : W p l e R s m0 args below meth c H locs kk nn Q (F0 m0 pc ls (st.map (xval ad))) := by
    refine W.newcK hx hb hown (hts _ hw) (hts _ hi) (hts _ hn) rfl hd (by have := hlim.1; have := hs.1; omega) (by have := hlim.2; have := hs.2.1; omega) hKn.2.1 rfl (fun H1 kC hkC e1 y1 o1 => ?_)
    obtain ⟨hP1, hD1, hS1⟩ := g_push (c := .inr (.inr gO0)) hP hD hS hA z1 ⟨_, rfl, (u_born tyX11 hts inlX11 hKn hkC e1 tyX11_ok).to (gO0_ok ad)⟩ y1 o1
    have hk := h.2 _ hΓ H1 locs ls (kk + 1) (nn + 31) ⟨by rw [hl1]; have := hs.1; omega, by rw [hl2]; have := hs.2.1; omega, by rw [hl1]; have := hs.2.2; omega⟩ hP1 hD1 hS1 hv
    rw [List.map_cons, show xval ad (.inr (.inr (some (2000 + hp.length)))) = .ref H.size by show Value.ref (ad (2000 + hp.length)) = _; rw [z1]] at hk
    exact hk
  exact key T hT X
end GO

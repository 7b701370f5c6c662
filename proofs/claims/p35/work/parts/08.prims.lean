/-! ===== Math.min and max, System.arraycopy, switches ===== -/
section XP
variable {Γ : xG} {lay : List xS} {own : String} {cc : ByteArray} {nL d pc : Nat} {L : List (Nat × xV)} {st : List xV} {m : xM}
theorem xcat_sum (ad : Nat → Nat) (st : List xV) : ((st.map (xval ad)).map fun v => v.category).sum = (st.map xcat).sum := by
  rw [List.map_map]
  have e1 : ((fun v => v.category) ∘ xval ad) = xcat := funext fun v => xcat_val ad v
  rw [e1]
theorem x_min (C : xC Γ lay own cc nL d) {idx : Nat} {x y : Int} (hd : decode cc pc = .ok (.invokestatic idx, 3)) (hl : Cond.methodLink own idx Lib.Math.min.name ∈ wsL_law) (h1 : Cond.static Lib.Math.min.name ∈ wsL_law) (h2 : Cond.initialized "java/lang/Math" ∈ wsL_law) (h3 : Cond.code Lib.Math.min.name Lib.Math.min.code 2 (some .int) ∈ wsL_law) (hdd : 1 ≤ d) (hst : (st.map xcat).sum ≤ 8)
    (k : xW Γ lay nL (pc + 3) L (.inl (if xw y < xw x then y else x) :: st) m) : xW Γ lay nL pc L (.inl y :: .inl x :: st) m := by
  obtain ⟨⟨p, l, e, R, s, m0, args, below, meth, c⟩, ⟨A, ad, dC, dI, dA⟩, cells, slots, Q⟩ := Γ
  obtain ⟨hx, hb, hml, hown, hts, hK, hD, hA, hfr, hlo, hce, hsl, -⟩ := C
  intro H locs ls hP hS hv
  have hk := k H locs ls hP hS hv
  refine va_mmin hx hb (hml.trans hv.1.symm) hown (hts _ hl) (hts _ h1) (hts _ h2) (hts _ h3) (by omega) (by rw [xcat_sum]; omega) hce hsl hd ?_
  have e : (if Int32.ofInt y < Int32.ofInt x then Int32.ofInt y else Int32.ofInt x) = Int32.ofInt (if xw y < xw x then y else x) := by
    by_cases hc : xw y < xw x
    · rw [if_pos hc, if_pos (xof_lt.mpr hc)]
    · rw [if_neg hc, if_neg (fun q => hc (xof_lt.mp q))]
  rw [e]
  exact hk
theorem x_max (C : xC Γ lay own cc nL d) {idx : Nat} {x y : Int} (hd : decode cc pc = .ok (.invokestatic idx, 3)) (hl : Cond.methodLink own idx Lib.Math.max.name ∈ wsL_law) (h1 : Cond.static Lib.Math.max.name ∈ wsL_law) (h2 : Cond.initialized "java/lang/Math" ∈ wsL_law) (h3 : Cond.code Lib.Math.max.name Lib.Math.max.code 2 (some .int) ∈ wsL_law) (hdd : 1 ≤ d) (hst : (st.map xcat).sum ≤ 8)
    (k : xW Γ lay nL (pc + 3) L (.inl (if xw x < xw y then y else x) :: st) m) : xW Γ lay nL pc L (.inl y :: .inl x :: st) m := by
  obtain ⟨⟨p, l, e, R, s, m0, args, below, meth, c⟩, ⟨A, ad, dC, dI, dA⟩, cells, slots, Q⟩ := Γ
  obtain ⟨hx, hb, hml, hown, hts, hK, hD, hA, hfr, hlo, hce, hsl, -⟩ := C
  intro H locs ls hP hS hv
  have hk := k H locs ls hP hS hv
  refine va_mmax hx hb (hml.trans hv.1.symm) hown (hts _ hl) (hts _ h1) (hts _ h2) (hts _ h3) (by omega) (by rw [xcat_sum]; omega) hce hsl hd ?_
  have e : (if Int32.ofInt x < Int32.ofInt y then Int32.ofInt y else Int32.ofInt x) = Int32.ofInt (if xw x < xw y then y else x) := by
    by_cases hc : xw x < xw y
    · rw [if_pos hc, if_pos (xof_lt.mpr hc)]
    · rw [if_neg hc, if_neg (fun q => hc (xof_lt.mp q))]
  rw [e]
  exact hk
theorem x_minL (C : xC Γ lay own cc nL d) {idx : Nat} {x y : Int} (hd : decode cc pc = .ok (.invokestatic idx, 3)) (hl : Cond.methodLink own idx Lib.MathLoose.min_long.x ∈ wsL_law) (h1 : Cond.static Lib.MathLoose.min_long.x ∈ wsL_law) (h2 : Cond.initialized "java/lang/Math" ∈ wsL_law) (h3 : Cond.code Lib.MathLoose.min_long.x Lib.MathLoose.min_long.code 4 (some .long) ∈ wsL_law) (hdd : 1 ≤ d) (hst : (st.map xcat).sum ≤ 8)
    (k : xW Γ lay nL (pc + 3) L (.inr (.inl (if xwl y < xwl x then y else x)) :: st) m) : xW Γ lay nL pc L (.inr (.inl y) :: .inr (.inl x) :: st) m := by
  obtain ⟨⟨p, l, e, R, s, m0, args, below, meth, c⟩, ⟨A, ad, dC, dI, dA⟩, cells, slots, Q⟩ := Γ
  obtain ⟨hx, hb, hml, hown, hts, hK, hD, hA, hfr, hlo, hce, hsl, -⟩ := C
  intro H locs ls hP hS hv
  have hk := k H locs ls hP hS hv
  refine va_mmin_long hx hb (hml.trans hv.1.symm) hown (hts _ hl) (hts _ h1) (hts _ h2) (hts _ h3) (by omega) (by rw [xcat_sum]; omega) hce hsl hd ?_
  have e : (if Int64.ofInt y < Int64.ofInt x then Int64.ofInt y else Int64.ofInt x) = Int64.ofInt (if xwl y < xwl x then y else x) := by
    have h9 : Int64.ofInt y < Int64.ofInt x ↔ xwl y < xwl x := by unfold xwl; rw [Int64.lt_iff_toInt_lt]
    by_cases hc : xwl y < xwl x
    · rw [if_pos hc, if_pos (h9.mpr hc)]
    · rw [if_neg hc, if_neg (fun q => hc (h9.mp q))]
  rw [e]
  exact hk
/-- n numbers of a row are copied to another one -/
def xcp (m : xM) (k0 k1 sp dp n : Nat) : xM := fun k' => if k' = k1 then (fun j => if dp ≤ j ∧ j < dp + n then m k0 (sp + (j - dp)) else m k1 j) else m k'
abbrev xcb (sp dp n : Int) (n0 n1 : Nat) : Prop := 0 ≤ xw sp ∧ 0 ≤ xw dp ∧ 0 ≤ xw n ∧ xw sp + xw n ≤ (n0 : Int) ∧ xw dp + xw n ≤ (n1 : Int)
theorem x_copy (C : xC Γ lay own cc nL d) {idx k0 k1 n0 n1 : Nat} {rs0 rs1 : List Nat} {sp dp n : Int} (hd : decode cc pc = .ok (.invokestatic idx, 3)) (hl : Cond.methodLink own idx arraycopyName ∈ wsL_law) (h1 : Cond.native arraycopyName ∈ wsL_law) (h2 : Cond.static arraycopyName ∈ wsL_law) (h3 : Cond.initialized "java/lang/System" ∈ wsL_law) (hdd : 1 ≤ d) (hst : (st.map xcat).sum ≤ 8)
    (hs0 : lay[k0]? = some (.inr (0, n0, rs0))) (hs1 : lay[k1]? = some (.inr (0, n1, rs1))) {α : Type} {a : Option α} {r : α} (h : (if xcb sp dp n n0 n1 then a else none) = some r)
    (k : a = some r → xW Γ lay nL (pc + 3) L st (xcp m k0 k1 (xix sp) (xix dp) (xix n))) : xW Γ lay nL pc L (.inl n :: .inl dp :: .inr (.inr (some k1)) :: .inl sp :: .inr (.inr (some k0)) :: st) m := by
  obtain ⟨⟨c1, c2, c3, c4, c5⟩, ha⟩ := x_some (a := r) h
  obtain ⟨⟨p, l, e, R, s, m0, args, below, meth, c⟩, ⟨A, ad, dC, dI, dA⟩, cells, slots, Q⟩ := Γ
  obtain ⟨hx, hb, hml, hown, hts, hK, hD, hA, hfr, hlo, hce, hsl, -⟩ := C
  intro H locs ls hP hS hv
  have hk := k ha
  have nz : ∀ z : Int, 0 ≤ xw z → ¬ Int32.ofInt z < 0 := fun z hz q => by have := xz_lt.mp q; omega
  refine va_copyi hx hb (hml.trans hv.1.symm) hown (hts _ hl) (hts _ h1) (hts _ h2) (hts _ h3) hK hP (xD_of hD) hS k0 k1 0 0 (xwld_at hs0) (xwld_at hs1) rfl rfl rfl (nz sp c1) (nz dp c2) (nz n c3) ?_ ?_ (fun _ _ => rfl) (by omega) ?_ hd (fun H1 locs1 hP1 hD1 hS1 => ?_)
  · show xix sp + xix n ≤ n0
    unfold xix; omega
  · show xix dp + xix n ≤ n1
    unfold xix; omega
  · rw [xcat_sum]
    have e : nativeFrameWords "java/lang/System" "arraycopy" 5 ≤ 11 := by decide +kernel
    omega
  · rw [xwld_set (m' := xcp m k0 k1 (xix sp) (xix dp) (xix n)) hs1 ?_ (fun k' hk => by unfold xcp; rw [if_neg hk])] at hP1
    · exact hk H1 locs1 ls hP1 hS1 hv
    · show Sum.inl (dA 0, n1, Sum.inl _) = Sum.inl (dA 0, n1, Sum.inl _)
      congr 4
      funext z
      show (if xix dp ≤ z ∧ z < xix dp + xix n then Int32.ofInt (m k0 (xix sp + (z - xix dp))) else Int32.ofInt (m k1 z)) = Int32.ofInt (xcp m k0 k1 (xix sp) (xix dp) (xix n) k1 z)
      unfold xcp
      rw [if_pos rfl]
      by_cases hz : xix dp ≤ z ∧ z < xix dp + xix n
      · rw [if_pos hz, if_pos hz]
      · rw [if_neg hz, if_neg hz]
/-- a switch over a run of numbers -/
theorem x_tabIn (C : xC Γ lay own cc nL d) {dflt lo hi off : Int} {offs : Array Int} {len : Nat} {x : Int} (tgt : Nat) (v : Int) (hd : decode cc pc = .ok (.tableswitch dflt lo hi offs, len)) (hx2 : xw x = v) (h1 : ¬ v < lo) (h2 : ¬ hi < v) (ho : offs[(v - lo).toNat]? = some off) (ht : (pc : Int) + off = (tgt : Int)) (h : xW Γ lay nL tgt L st m) : xW Γ lay nL pc L (.inl x :: st) m := by
  obtain ⟨⟨p, l, e, R, s, m0, args, below, meth, c⟩, ⟨A, ad, dC, dI, dA⟩, cells, slots, Q⟩ := Γ
  obtain ⟨hx, hb, -⟩ := C
  subst hx2
  intro H locs ls hP hS hv
  exact lv_tableIn hx hb hd h1 h2 ho ht (h H locs ls hP hS hv)
theorem x_tabOut (C : xC Γ lay own cc nL d) {dflt lo hi : Int} {offs : Array Int} {len : Nat} {x : Int} (tgt : Nat) (hd : decode cc pc = .ok (.tableswitch dflt lo hi offs, len)) (hx2 : xw x < lo ∨ hi < xw x) (ht : (pc : Int) + dflt = (tgt : Int)) (h : xW Γ lay nL tgt L st m) : xW Γ lay nL pc L (.inl x :: st) m := by
  obtain ⟨⟨p, l, e, R, s, m0, args, below, meth, c⟩, ⟨A, ad, dC, dI, dA⟩, cells, slots, Q⟩ := Γ
  obtain ⟨hx, hb, -⟩ := C
  intro H locs ls hP hS hv
  exact lv_tableOut hx hb hd hx2 ht (h H locs ls hP hS hv)
theorem x_ite {c : Prop} [Decidable c] {α : Type} {a b : Option α} {r : α} {G : Prop} (h : (if c then a else b) = some r) (k1 : c → a = some r → G) (k2 : ¬ c → b = some r → G) : G := by
  by_cases hc : c
  · rw [if_pos hc] at h; exact k1 hc h
  · rw [if_neg hc] at h; exact k2 hc h
theorem x_ldcS (C : xC Γ lay own cc nL d) {idx : Nat} (tx : String) (i : Nat) (hd : decode cc pc = .ok (.ldc idx, 2)) (hr : (own, idx, tx, i) ∈ xSref) (h : xW Γ lay nL (pc + 2) L (.inr (.inr (some (1000 + i))) :: st) m) : xW Γ lay nL pc L st m := by
  obtain ⟨⟨p, l, e, R, s, m0, args, below, meth, c⟩, ⟨A, ad, dC, dI, dA⟩, cells, slots, Q⟩ := Γ
  obtain ⟨hx, hb, hml, hown, hts, hK, hD, hA, hfr, hlo, hce, hsl, hstr⟩ := C
  intro H locs ls hP hS hv
  exact va_ldcS hx hb hown (hstr.2.1 _ hr) hd (h H locs ls hP hS hv)

theorem x_pk {i : Int} {k n : Nat} (h : xw i = (k : Int)) (hk : k < n) : xib i n ∧ xix i = k := by
  refine ⟨⟨by omega, by omega⟩, ?_⟩
  unfold xix; omega
theorem xw_1m0 {e : Int} (h : xw e = 0) : xw (1 - e) = 1 := by
  have h1 : Int32.ofInt e = Int32.ofInt 0 := xof_eq.mpr (by rw [h, xw_0])
  have h2 : Int32.ofInt (1 - e) = Int32.ofInt 1 := by rw [Int32.ofInt_sub, h1]; decide
  rw [xof_eq.mp h2]; decide
theorem xw_1m1 {e : Int} (h : xw e = 1) : xw (1 - e) = 0 := by
  have h1 : Int32.ofInt e = Int32.ofInt 1 := xof_eq.mpr (by rw [h]; decide)
  have h2 : Int32.ofInt (1 - e) = Int32.ofInt 0 := by rw [Int32.ofInt_sub, h1]; decide
  rw [xof_eq.mp h2]; decide
theorem xw_ne1 {e : Int} (h : xw e = 1) : ¬ xw e = 0 := by omega
theorem xw_n1m0 {e : Int} (h : xw e = 0) : ¬ xw (1 - e) = 0 := by rw [xw_1m0 h]; decide
def xsl (i : Nat) : Int := ((xSby.getD i []).length : Int)
def xsc (i k : Nat) : Int := ((xSby.getD i []).getD k 0).toInt
end XP

/-! ===== the layer g: code that makes arrays and objects; a world is the class's cells and a list of cells that grows ===== -/
/-- a cell: numbers (kind, contents), references (kind, contents), or an object of the law's own class -/
abbrev gC : Type := (Nat × List Int) ⊕ (Nat × List (Option Nat)) ⊕ List xV
abbrev gH : Type := List gC
def gsz : gC → Nat
  | .inl q => q.2.length
  | .inr (.inl q) => q.2.length
  | .inr (.inr fs) => fs.length
def gsl : gH → Nat
  | [] => 0
  | c :: t => gsz c + gsl t
theorem gsl_app : ∀ a b : gH, gsl (a ++ b) = gsl a + gsl b
  | [], b => (Nat.zero_add _).symm
  | c :: t, b => by show gsz c + gsl (t ++ b) = gsz c + gsl t + gsl b; rw [gsl_app t b]; omega
theorem gsl_push (h : gH) (c : gC) : gsl (h ++ [c]) = gsl h + gsz c := by rw [gsl_app]; rfl
theorem gsl_set : ∀ (h : gH) (k : Nat) (c c' : gC), h[k]? = some c → gsz c' = gsz c → gsl (h.set k c') = gsl h
  | [], _, _, _, hk, _ => by cases hk
  | a :: t, 0, c, c', hk, hz => by
    have e : a = c := Option.some.inj hk
    subst e
    show gsz c' + gsl t = gsz a + gsl t
    rw [hz]
  | a :: t, k + 1, c, c', hk, hz => by
    show gsz a + gsl (t.set k c') = gsz a + gsl t
    rw [gsl_set t k c c' hk hz]
def gle (a b : gH) : Prop := a.length ≤ b.length ∧ gsl a ≤ gsl b
theorem gle.rf {a : gH} : gle a a := ⟨Nat.le_refl _, Nat.le_refl _⟩
theorem gle.tr {a b c : gH} (h : gle a b) (h2 : gle b c) : gle a c := ⟨Nat.le_trans h.1 h2.1, Nat.le_trans h.2 h2.2⟩
theorem gle.push (h : gH) (c : gC) : gle h (h ++ [c]) := ⟨by rw [List.length_append]; exact Nat.le_add_right _ _, by rw [gsl_push]; exact Nat.le_add_right _ _⟩
theorem gle.set {h : gH} {k : Nat} {c c' : gC} (hk : h[k]? = some c) (hz : gsz c' = gsz c) : gle h (h.set k c') := ⟨by rw [List.length_set]; exact Nat.le_refl _, by rw [gsl_set h k c c' hk hz]; exact Nat.le_refl _⟩
theorem gle.seti {h : gH} {k : Nat} {c c' : gC} (hk : h[k]? = some c) (hz : gsz c' = gsz c) : gle (h.set k c') h := ⟨by rw [List.length_set]; exact Nat.le_refl _, by rw [gsl_set h k c c' hk hz]; exact Nat.le_refl _⟩
def gent (ad : Nat → Nat) (dA : Nat → ClassId) : gC → va_E
  | .inl (t, l) => .inl (dA t, l.length, if t = 1 then .inr (.inl (fun j => Int64.ofInt (l.getD j 0))) else .inl (fun j => Int32.ofInt (l.getD j 0)))
  | .inr (.inl (t, l)) => .inl (dA t, l.length, .inr (.inr (.inr (.inr (fun j => (l.getD j none).map ad)))))
  | .inr (.inr fs) => .inr (12, fs.map (xval ad))
def gwld (ad : Nat → Nat) (dA : Nat → ClassId) : Nat → gH → va_W
  | _, [] => []
  | k, c :: t => (ad k, gent ad dA c) :: gwld ad dA (k + 1) t
def gwd (ad : Nat → Nat) (dA : Nat → ClassId) (lay : List xS) (m : xM) (h : gH) : va_W := xwld ad dA m 0 lay ++ gwld ad dA 2000 h
theorem gwld_get (ad : Nat → Nat) (dA : Nat → ClassId) : ∀ (h : gH) (b k : Nat), (gwld ad dA b h)[k]? = (h[k]?).map (fun c => (ad (b + k), gent ad dA c))
  | [], _, _ => rfl
  | _ :: _, _, 0 => rfl
  | _ :: t, b, k + 1 => by
    show (gwld ad dA (b + 1) t)[k]? = _
    rw [gwld_get ad dA t (b + 1) k, show b + 1 + k = b + (k + 1) by omega]
    rfl
theorem gwld_len (ad : Nat → Nat) (dA : Nat → ClassId) : ∀ (h : gH) (b : Nat), (gwld ad dA b h).length = h.length
  | [], _ => rfl
  | _ :: t, b => by show (gwld ad dA (b + 1) t).length + 1 = _; rw [gwld_len ad dA t (b + 1)]; rfl
theorem gwld_app (ad : Nat → Nat) (dA : Nat → ClassId) : ∀ (a b : gH) (k : Nat), gwld ad dA k (a ++ b) = gwld ad dA k a ++ gwld ad dA (k + a.length) b
  | [], b, k => rfl
  | c :: t, b, k => by
    show (ad k, gent ad dA c) :: gwld ad dA (k + 1) (t ++ b) = (ad k, gent ad dA c) :: (gwld ad dA (k + 1) t ++ gwld ad dA (k + (t.length + 1)) b)
    rw [gwld_app ad dA t b (k + 1), show k + 1 + t.length = k + (t.length + 1) by omega]
theorem xwld_len (ad : Nat → Nat) (dA : Nat → ClassId) (m : xM) : ∀ (lay : List xS) (b : Nat), (xwld ad dA m b lay).length = lay.length
  | [], _ => rfl
  | _ :: t, b => by show (xwld ad dA m (b + 1) t).length + 1 = _; rw [xwld_len ad dA m t (b + 1)]; rfl
/-- the cell at a label -/
def gat (h : gH) (k : Nat) : Option gC := if 2000 ≤ k then h[k - 2000]? else none
theorem gat_some {h : gH} {k : Nat} {c : gC} (hk : gat h k = some c) : 2000 ≤ k ∧ h[k - 2000]? = some c := by
  unfold gat at hk
  by_cases h1 : 2000 ≤ k
  · rw [if_pos h1] at hk; exact ⟨h1, hk⟩
  · rw [if_neg h1] at hk; cases hk
theorem gwd_at {ad : Nat → Nat} {dA : Nat → ClassId} {lay : List xS} {m : xM} {h : gH} {k : Nat} {c : gC} (hk : gat h k = some c) : (gwd ad dA lay m h)[lay.length + (k - 2000)]? = some (ad k, gent ad dA c) := by
  obtain ⟨h1, h2⟩ := gat_some hk
  unfold gwd
  rw [List.getElem?_append_right (by rw [xwld_len]; omega), xwld_len, Nat.add_sub_cancel_left, gwld_get, h2, show 2000 + (k - 2000) = k by omega]
  rfl
/-- one cell is set -/
theorem gwd_set {ad : Nat → Nat} {dA : Nat → ClassId} {lay : List xS} {m : xM} {h : gH} {k : Nat} {c c' : gC} {e : va_E} (hk : gat h k = some c) (he : e = gent ad dA c') : (gwd ad dA lay m h).set (lay.length + (k - 2000)) (ad k, e) = gwd ad dA lay m (h.set (k - 2000) c') := by
  obtain ⟨h1, h2⟩ := gat_some hk
  have hlt : k - 2000 < h.length := (List.getElem?_eq_some_iff.mp h2).1
  unfold gwd
  rw [List.set_append_right _ _ (by rw [xwld_len]; omega), xwld_len, Nat.add_sub_cancel_left]
  congr 1
  apply List.ext_getElem?
  intro i
  rw [List.getElem?_set, gwld_len]
  by_cases hi : k - 2000 = i
  · subst hi
    rw [if_pos rfl, if_pos hlt, gwld_get, List.getElem?_set, if_pos rfl, if_pos hlt, he, show 2000 + (k - 2000) = k by omega]
    rfl
  · rw [if_neg hi, gwld_get, gwld_get, List.getElem?_set, if_neg hi]
/-- a new cell -/
theorem gwd_push (ad : Nat → Nat) (dA : Nat → ClassId) (lay : List xS) (m : xM) (h : gH) (c : gC) : gwd ad dA lay m (h ++ [c]) = gwd ad dA lay m h ++ [(ad (2000 + h.length), gent ad dA c)] := by
  unfold gwd
  rw [gwld_app, ← List.append_assoc]
  rfl
/-- what the tables say of arrays of arrays, and of the law's reading of its own class -/
def gTb : List Cond := [.arrayOver (.array .int), .arrayOver (.array (.array .int))]
def gNb : List Cond := [.fieldLinkNest RL 97 RX11 "phase" "I" RL, .fieldLinkNest RL 31 RX11 "quality" "I" RL, .fieldLinkNest RL 106 RX11 "step" "I" RL, .fieldLinkNest RL 109 RX11 "left" "I" RL, .fieldLinkNest RL 112 RX11 "restarts" "I" RL, .fieldLinkNest RL 35 RX11 "speed" "[I" RL, .fieldLinkNest RL 39 RX11 "need" "[I" RL, .fieldLinkNest RL 42 RX11 "train" "[I" RL, .fieldLinkNest RL 48 RX11 "noise" "[I" RL, .fieldLinkNest RL 45 RX11 "set" "[I" RL, .fieldLinkNest RL 133 RX11 "total" "[I" RL, .fieldLinkNest RL 143 RX11 "queue" "[[I" RL, .fieldLinkNest RL 147 RX11 "next" "[I" RL, .fieldLinkNest RL 150 RX11 "expects" "[I" RL, .fieldLinkNest RL 159 RX11 "escaped" "[Z" RL, .methodLinkNest RL 22 yX11_init RL, .methodLinkNest RL 185 yX11_tick RL, .methodLinkNest RL 194 yX11_with RL, .methodLinkNest RL 210 yX11_losing RL, .methodLinkNest RL 213 yX11_hang RL, .classLink RX11 65 "[[[I"]
def gT (U : State) : Prop := (∀ w ∈ gTb, w.before #[] U = true) ∧ ∀ w ∈ gNb, va_Nw w U
abbrev gG : Type := (Program × Launch × Env × Room × State × MethodId × Array Value × List Frame × Method × Code) × ((Nat → Prop) × (Nat → Nat) × (Nat → ClassId) × (Nat → Nat → Nat) × (Nat → ClassId)) × (Nat × Nat × Nat × Nat × (State → Prop))
/-- new cells stand one behind the other: the i-th cell of the list stands at ad (2000 + i) -/
def gW (Γ : gG) (lay : List xS) (nL pc : Nat) (L : List (Nat × xV)) (st : List xV) (m : xM) (h : gH) : Prop :=
  match Γ with
  | ((p, l, e, R, s, m0, args, below, meth, c), (A, ad, dC, dI, dA), (n0, s0, n1, s1, Q)) =>
    ∀ (H : Heap) (locs : List Loc) (ls : Array Slot) (kk nn : Nat), (kk + n0 = h.length + n1 ∧ nn + s0 = gsl h + s1 ∧ (n1 = 0 ∨ n0 < h.length)) → va_P (dC, dI) vwCl (gwd ad dA lay m h) H → va_D A (gwd ad dA lay m h) → va_S A s.heap H locs → lv_has ls nL (xlv ad L) →
      W p l e R s m0 args below meth c H locs kk nn Q (F0 m0 pc ls (st.map (xval ad)))
/-- how it goes on, in every frame of a kind; the list of cells grows up to h9 -/
def gJ (P : gG → Prop) (lay : List xS) (nL pc : Nat) (L : List (Nat × xV)) (st : List xV) (m : xM) (h h9 : gH) : Prop := gle h h9 ∧ ∀ Γ, P Γ → gW Γ lay nL pc L st m h
def gX (Γ : gG) (lay : List xS) (own : String) (cc : ByteArray) (nL d : Nat) (h9 : gH) : Prop :=
  match Γ with
  | ((p, l, e, R, s, m0, args, below, meth, c), (A, ad, dC, dI, dA), (n0, s0, n1, s1, Q)) =>
    p.tables.exec = Jvm.exec ∧ c.code = cc ∧ c.maxLocals = nL ∧ s.vm.findClass own = some m0.cls ∧ (∀ w ∈ wsL_law, w.before args s = true) ∧ va_K (dC, dI) vwCl (xtys dA) s ∧ (∀ i : Nat, ad (2000 + n0 + i) = s.heap.size + n1 + i) ∧ (∀ q : Nat, s.heap.size ≤ q → A q) ∧ d ≤ R.frames ∧ 30 * d ≤ R.locals ∧ (h9.length + n1 ≤ n0 + R.cells ∧ gsl h9 + s1 ≤ s0 + R.slots) ∧ xStr ad A s s.heap ∧ gT s
theorem gNb_on : ∀ w ∈ gNb, w.onTables = true := List.all_eq_true.mp (by decide +kernel)
theorem gNw_warm {w : Cond} (hc : w.onTables = true) (hk : w.keepsH = true) {u U : State} (hW : u.WarmedH U.vm) (h : va_Nw w u) : va_Nw w U := Cond.onTables_warmH (T := U) (args := #[]) (args' := #[]) hW hc hk h
theorem gT.same {u U : State} (hv : U.vm = u.vm) (h : gT u) : gT U := by
  have ha : u.vm.Alike U.vm := by rw [hv]; exact Vm.Alike.refl u.vm
  refine ⟨fun w hw => ?_, fun w hw => va_Nw.same (gNb_on w hw) hv.symm (h.2 w hw)⟩
  have h0 := h.1 w hw
  simp only [gTb, List.mem_cons, List.not_mem_nil, or_false] at hw
  rcases hw with rfl | rfl <;> exact over_moved ha h0
theorem gT.warm {u U : State} (hW : u.WarmedH U.vm) (h : gT u) : gT U := by
  refine ⟨fun w hw => ?_, fun w hw => ?_⟩
  · have h0 := h.1 w hw
    simp only [gTb, List.mem_cons, List.not_mem_nil, or_false] at hw
    rcases hw with rfl | rfl <;> exact over_moved hW.alike h0
  · have h0 := h.2 w hw
    simp only [gNb, List.mem_cons, List.not_mem_nil, or_false] at hw
    rcases hw with rfl | rfl | rfl | rfl | rfl | rfl | rfl | rfl | rfl | rfl | rfl | rfl | rfl | rfl | rfl | rfl | rfl | rfl | rfl | rfl | rfl <;> first | exact va_Nw.warmF hW h0 | exact va_Nw.warmM hW h0 | exact gNw_warm (by decide +kernel) (by decide +kernel) hW h0
theorem gwd_lt {D : va_G} {ad : Nat → Nat} {dA : Nat → ClassId} {lay : List xS} {m : xM} {h : gH} {H : Heap} (hP : va_P D vwCl (gwd ad dA lay m h) H) {i : Nat} (hi : i < h.length) : ad (2000 + i) < H.size := by
  have h1 : gat h (2000 + i) = some h[i] := by
    unfold gat
    rw [if_pos (Nat.le_add_right _ _), Nat.add_sub_cancel_left]
    exact List.getElem?_eq_getElem hi
  exact (hP _ _ (gwd_at h1)).lt
/-- how large the heap is, at least -/
theorem g_size {D : va_G} {ad : Nat → Nat} {dA : Nat → ClassId} {lay : List xS} {m : xM} {h : gH} {H H0 : Heap} {A : Nat → Prop} {locs : List Loc} {n0 n1 kk : Nat} (hP : va_P D vwCl (gwd ad dA lay m h) H) (hS : va_S A H0 H locs) (had : ∀ i : Nat, ad (2000 + n0 + i) = H0.size + n1 + i) (hk : kk + n0 = h.length + n1) (hn : n1 = 0 ∨ n0 < h.length) : H0.size + kk ≤ H.size := by
  by_cases h1 : n0 < h.length
  · have h2 := gwd_lt hP (i := h.length - 1) (by omega)
    have h3 := had (h.length - 1 - n0)
    rw [show 2000 + n0 + (h.length - 1 - n0) = 2000 + (h.length - 1) by omega] at h3
    omega
  · have := hS.1
    omega

/-! ===== the texts that both sides read words by ===== -/
def xStx : List String := ["event", "tick", "kind", "end", "rate", "first", "many", "or", "and", "not", "line", "rates", "train", "retries", "hold", "window", "delay", "limit", "patience", "noise", "idle", "training", "online", "lost", "online ", "training ", "line 9;rates 8 1,20 9;train 1 1 1 1;patience 2;", "aabb"]
def xSby : List (List Int32) := [[101, 118, 101, 110, 116], [116, 105, 99, 107], [107, 105, 110, 100], [101, 110, 100], [114, 97, 116, 101], [102, 105, 114, 115, 116], [109, 97, 110, 121], [111, 114], [97, 110, 100], [110, 111, 116], [108, 105, 110, 101], [114, 97, 116, 101, 115], [116, 114, 97, 105, 110], [114, 101, 116, 114, 105, 101, 115], [104, 111, 108, 100], [119, 105, 110, 100, 111, 119], [100, 101, 108, 97, 121], [108, 105, 109, 105, 116], [112, 97, 116, 105, 101, 110, 99, 101], [110, 111, 105, 115, 101], [105, 100, 108, 101], [116, 114, 97, 105, 110, 105, 110, 103], [111, 110, 108, 105, 110, 101], [108, 111, 115, 116], [111, 110, 108, 105, 110, 101, 32], [116, 114, 97, 105, 110, 105, 110, 103, 32], [108, 105, 110, 101, 32, 57, 59, 114, 97, 116, 101, 115, 32, 56, 32, 49, 44, 50, 48, 32, 57, 59, 116, 114, 97, 105, 110, 32, 49, 32, 49, 32, 49, 32, 49, 59, 112, 97, 116, 105, 101, 110, 99, 101, 32, 50, 59], [97, 97, 98, 98]]
def xSref : List (String × Nat × String × Nat) := [("ModemLink$SetupReader", 20, "line", 10), ("ModemLink$SetupReader", 36, "rates", 11), ("ModemLink$SetupReader", 88, "train", 12), ("ModemLink$SetupReader", 96, "delay", 16), ("ModemLink$SetupReader", 101, "noise", 19), ("ModemLink$SetupReader", 109, "retries", 13), ("ModemLink$SetupReader", 113, "hold", 14), ("ModemLink$SetupReader", 117, "window", 15), ("ModemLink$SetupReader", 121, "limit", 17), ("ModemLink$SetupReader", 125, "patience", 18), ("ModemLinkLaw", 68, "line", 10), ("ModemLinkLaw", 73, "rates", 11), ("ModemLinkLaw", 75, "train", 12), ("ModemLinkLaw", 76, "retries", 13), ("ModemLinkLaw", 78, "hold", 14), ("ModemLinkLaw", 80, "window", 15), ("ModemLinkLaw", 82, "delay", 16), ("ModemLinkLaw", 84, "limit", 17), ("ModemLinkLaw", 86, "patience", 18), ("ModemLinkLaw", 88, "noise", 19), ("ModemLinkLaw", 241, "line 9;rates 8 1,20 9;train 1 1 1 1;patience 2;", 26), ("ModemLinkLaw", 243, "aabb", 27)]
/-- the texts that this claim has -/
abbrev xSok (i : Nat) : Prop := (10 ≤ i ∧ i < 20) ∨ i = 26 ∨ i = 27
theorem xSok_lt {i : Nat} (h : xSok i) : i < 28 := by omega
/-- the constant texts of the claim stand at the places 1000 and on, their bytes at 1100 and on; what their members read of static fields -/
def xStr (ad : Nat → Nat) (A : Nat → Prop) (U : State) (H : Heap) : Prop :=
  (∀ i : Nat, xSok i → va_O "java/lang/String" (ad (1000 + i)) A U H ∧ va_OF "java/lang/String" "coder" "B" (.int 0) (ad (1000 + i)) A U H ∧ va_OF "java/lang/String" "value" "[B" (.ref (ad (1000 + (100 + i)))) (ad (1000 + i)) A U H ∧ va_T .byte (ad (1000 + (100 + i))) (xSby.getD i []).length (fun j => .int ((xSby.getD i []).getD j 0)) A U H) ∧ (∀ r ∈ xSref, vk_R r.1 r.2.1 r.2.2.1 (ad (1000 + r.2.2.2)) U) ∧
    va_Z "java/lang/String" "COMPACT_STRINGS" "Z" (.int 1) A U H ∧ (va_Z "jdk/internal/util/Preconditions" "SIOOBE_FORMATTER" "Ljava/util/function/BiFunction;" .null A U H ∨ va_Z "jdk/internal/util/Preconditions" "SIOOBE_FORMATTER" "Ljava/util/function/BiFunction;" (.ref (ad (1000 + 200))) A U H)
theorem xStr.goes {ad ad' : Nat → Nat} {A B : Nat → Prop} {u U : State} {H H1 : Heap} (hW : u.WarmedH U.vm) (h : xStr ad A u H) (had : ∀ i : Nat, ad' (1000 + i) = ad (1000 + i)) (hq : ∀ a : Nat, a < H.size → ¬ A a → H1[a]? = H[a]?) (hAB : ∀ q, B q → A q) : xStr ad' B U H1 := by
  refine ⟨fun i hi => ?_, fun r hr => by rw [had]; exact (h.2.1 r hr).warm hW, ((h.2.2.1.moved hW.alike).kept hq).narrow hAB, ?_⟩
  · obtain ⟨h1, h2, h3, h4⟩ := h.1 i hi
    rw [had, had]
    exact ⟨(va_O.moved hW.alike (h1.kept hq)).narrow hAB, (va_OF.moved hW.alike (h2.kept hq)).narrow hAB, (va_OF.moved hW.alike (h3.kept hq)).narrow hAB, (va_T.moved hW.alike (h4.kept hq)).narrow hAB⟩
  · rw [had]
    rcases h.2.2.2 with h5 | h5
    · exact Or.inl (((h5.moved hW.alike).kept hq).narrow hAB)
    · exact Or.inr (((h5.moved hW.alike).kept hq).narrow hAB)
theorem xStr.same {ad : Nat → Nat} {A : Nat → Prop} {u U : State} {H : Heap} (hv : U.vm = u.vm) (h : xStr ad A u H) : xStr ad A U H := by
  have ha : u.vm.Alike U.vm := by rw [hv]; exact Vm.Alike.refl u.vm
  refine ⟨fun i hi => ?_, fun r hr => (h.2.1 r hr).same hv, h.2.2.1.moved ha, h.2.2.2.elim (fun h5 => Or.inl (h5.moved ha)) (fun h5 => Or.inr (h5.moved ha))⟩
  obtain ⟨h1, h2, h3, h4⟩ := h.1 i hi
  exact ⟨va_O.moved ha h1, va_OF.moved ha h2, va_OF.moved ha h3, va_T.moved ha h4⟩
/-! ===== runs over whole numbers: a state of a method is locals, a stack and a memory of whole numbers; rows of the kit, once for each instruction ===== -/
abbrev xV : Type := Int ⊕ (Int ⊕ Option Nat)
abbrev xM : Type := Nat → Nat → Int
/-- an object (class, fields: a number or a reference), or an array (kind, length, references) -/
abbrev xS : Type := (Nat × List (Option Nat)) ⊕ (Nat × Nat × List Nat)
def xw (x : Int) : Int := (Int32.ofInt x).toInt
def xwl (x : Int) : Int := (Int64.ofInt x).toInt
theorem xw_id {x : Int} (h : -2147483648 ≤ x) (h2 : x < 2147483648) : xw x = x := Int32.toInt_ofInt_of_le (by omega) (by omega)
theorem xwl_id {x : Int} (h : -9223372036854775808 ≤ x) (h2 : x < 9223372036854775808) : xwl x = x := Int64.toInt_ofInt_of_le (by omega) (by omega)
theorem xw_in (x : Int) : -2147483648 ≤ xw x ∧ xw x < 2147483648 := by
  have h1 := Int32.le_toInt (Int32.ofInt x)
  have h2 := Int32.toInt_lt (Int32.ofInt x)
  exact ⟨h1, h2⟩
theorem xw_xw (x : Int) : xw (xw x) = xw x := by unfold xw; rw [Int32.ofInt_toInt]
theorem xof_xw (x : Int) : Int32.ofInt (xw x) = Int32.ofInt x := by unfold xw; rw [Int32.ofInt_toInt]
theorem xof_eq {x y : Int} : Int32.ofInt x = Int32.ofInt y ↔ xw x = xw y := by unfold xw; rw [Int32.toInt_inj]
theorem xof_lt {x y : Int} : Int32.ofInt x < Int32.ofInt y ↔ xw x < xw y := by unfold xw; rw [Int32.lt_iff_toInt_lt]
theorem xof_le {x y : Int} : Int32.ofInt x ≤ Int32.ofInt y ↔ xw x ≤ xw y := by unfold xw; rw [Int32.le_iff_toInt_le]
theorem xw_0 : xw 0 = 0 := by decide
def xup (f : Nat → Int) (j : Nat) (x : Int) : Nat → Int := fun k => if k = j then x else f k
def xu (m : xM) (k j : Nat) (x : Int) : xM := fun k' => if k' = k then xup (m k) j x else m k'
def xval (ad : Nat → Nat) : xV → Value
  | .inl x => .int (Int32.ofInt x)
  | .inr (.inl x) => .long (Int64.ofInt x)
  | .inr (.inr none) => .null
  | .inr (.inr (some k)) => .ref (ad k)
def xfv (ad : Nat → Nat) (g : Nat → Int) : Nat → List (Option Nat) → List Value
  | _, [] => []
  | j, none :: t => Value.int (Int32.ofInt (g j)) :: xfv ad g (j + 1) t
  | j, some r :: t => Value.ref (ad r) :: xfv ad g (j + 1) t
def xent (ad : Nat → Nat) (dA : Nat → ClassId) (g : Nat → Int) : xS → va_E
  | .inl (ci, fs) => .inr (ci, xfv ad g 0 fs)
  | .inr (0, n, _) => .inl (dA 0, n, .inl (fun j => Int32.ofInt (g j)))
  | .inr (1, n, _) => .inl (dA 1, n, .inr (.inl (fun j => Int64.ofInt (g j))))
  | .inr (t, n, rs) => .inl (dA t, n, .inr (.inr (.inr (.inr (fun j => (rs[j]?).map ad)))))
def xwld (ad : Nat → Nat) (dA : Nat → ClassId) (m : xM) : Nat → List xS → va_W
  | _, [] => []
  | k, s :: t => (ad k, xent ad dA (m k) s) :: xwld ad dA m (k + 1) t
abbrev xtys (dA : Nat → ClassId) : List (ClassId × FieldType) := [(dA 0, .int), (dA 1, .long), (dA 2, .object "ModemLink$Line"), (dA 3, .boolean), (dA 4, .array .int), (dA 5, .array (.array .int))]
theorem xwld_get (ad : Nat → Nat) (dA : Nat → ClassId) (m : xM) : ∀ (lay : List xS) (b k : Nat), (xwld ad dA m b lay)[k]? = (lay[k]?).map (fun s => (ad (b + k), xent ad dA (m (b + k)) s))
  | [], _, _ => rfl
  | _ :: _, _, 0 => rfl
  | _ :: t, b, k + 1 => by
    show (xwld ad dA m (b + 1) t)[k]? = _
    rw [xwld_get ad dA m t (b + 1) k, show b + 1 + k = b + (k + 1) by omega]
    rfl
theorem xwld_at {ad : Nat → Nat} {dA : Nat → ClassId} {m : xM} {lay : List xS} {k : Nat} {s : xS} (h : lay[k]? = some s) : (xwld ad dA m 0 lay)[k]? = some (ad k, xent ad dA (m k) s) := by
  rw [xwld_get, h, Nat.zero_add]; rfl
theorem xwld_inv {ad : Nat → Nat} {dA : Nat → ClassId} {m : xM} {lay : List xS} {k : Nat} {q : Nat × va_E} (h : (xwld ad dA m 0 lay)[k]? = some q) : ∃ s, lay[k]? = some s ∧ q = (ad k, xent ad dA (m k) s) := by
  rw [xwld_get, Nat.zero_add] at h
  cases hs : lay[k]? with
  | none => rw [hs] at h; cases h
  | some s => rw [hs] at h; exact ⟨s, rfl, (Option.some.inj h).symm⟩
/-- one cell of a world is set -/
theorem xwld_set {ad : Nat → Nat} {dA : Nat → ClassId} {m m' : xM} {lay : List xS} {k : Nat} {s : xS} {e : va_E} (h : lay[k]? = some s) (he : e = xent ad dA (m' k) s) (ho : ∀ k', k' ≠ k → m' k' = m k') : (xwld ad dA m 0 lay).set k (ad k, e) = xwld ad dA m' 0 lay := by
  apply List.ext_getElem?
  intro i
  rw [List.getElem?_set]
  by_cases hi : k = i
  · subst hi
    have h1 : (xwld ad dA m 0 lay)[k]? = some (ad k, xent ad dA (m k) s) := xwld_at h
    rw [if_pos rfl, if_pos (List.getElem?_eq_some_iff.mp h1).1, xwld_get, h, Nat.zero_add, he]
    rfl
  · rw [if_neg hi, xwld_get, xwld_get, Nat.zero_add, ho i (fun q => hi q.symm)]
theorem xfv_get (ad : Nat → Nat) (g : Nat → Int) : ∀ (fs : List (Option Nat)) (b j : Nat), (xfv ad g b fs)[j]? = (fs[j]?).map (fun f => match f with | none => Value.int (Int32.ofInt (g (b + j))) | some r => Value.ref (ad r))
  | [], _, _ => rfl
  | none :: _, _, 0 => rfl
  | some _ :: _, _, 0 => rfl
  | none :: t, b, j + 1 => by
    show (xfv ad g (b + 1) t)[j]? = _
    rw [xfv_get ad g t (b + 1) j, show b + 1 + j = b + (j + 1) by omega]; rfl
  | some _ :: t, b, j + 1 => by
    show (xfv ad g (b + 1) t)[j]? = _
    rw [xfv_get ad g t (b + 1) j, show b + 1 + j = b + (j + 1) by omega]; rfl
theorem xfv_set {ad : Nat → Nat} {g g' : Nat → Int} {fs : List (Option Nat)} {j : Nat} {x : Int} (h : fs[j]? = some none) (hg : g' = xup g j x) : (xfv ad g 0 fs).set j (Value.int (Int32.ofInt x)) = xfv ad g' 0 fs := by
  subst hg
  apply List.ext_getElem?
  intro i
  rw [List.getElem?_set]
  by_cases hi : j = i
  · subst hi
    have h1 : (xfv ad g 0 fs)[j]? = some (Value.int (Int32.ofInt (g (0 + j)))) := by rw [xfv_get, h]; rfl
    rw [if_pos rfl, xfv_get, h, Nat.zero_add, if_pos (List.getElem?_eq_some_iff.mp h1).1]
    show some _ = some (Value.int (Int32.ofInt (xup g j x j)))
    rw [xup, if_pos rfl]
  · rw [if_neg hi, xfv_get, xfv_get, Nat.zero_add]
    congr 1
    funext f
    cases f with
    | none => show Value.int _ = Value.int _; rw [xup, if_neg (fun q => hi q.symm)]
    | some r => rfl
theorem xfv_len (ad : Nat → Nat) (g : Nat → Int) : ∀ (fs : List (Option Nat)) (b : Nat), (xfv ad g b fs).length = fs.length
  | [], _ => rfl
  | none :: t, b => by show (xfv ad g (b + 1) t).length + 1 = _; rw [xfv_len ad g t (b + 1)]; rfl
  | some _ :: t, b => by show (xfv ad g (b + 1) t).length + 1 = _; rw [xfv_len ad g t (b + 1)]; rfl
def xlv (ad : Nat → Nat) (L : List (Nat × xV)) : List (Nat × Value) := L.map fun q => (q.1, xval ad q.2)
def xas {α : Type} : List (Nat × α) → Nat → Option α
  | [], _ => none
  | q :: t, k => if q.1 = k then some q.2 else xas t k
theorem xas_mem {α : Type} {k : Nat} {v : α} : ∀ {L : List (Nat × α)}, xas L k = some v → (k, v) ∈ L
  | [], h => by cases h
  | q :: t, h => by
    unfold xas at h
    split at h
    next e => cases h; subst e; exact List.mem_cons_self
    next => exact List.mem_cons_of_mem _ (xas_mem h)
theorem xlv_get {ad : Nat → Nat} {L : List (Nat × xV)} {ls : Array Slot} {n k : Nat} {v : xV} (h : lv_has ls n (xlv ad L)) (hk : xas L k = some v) : ls[k]? = some (.val (xval ad v)) :=
  h.2.2 (k, xval ad v) (List.mem_map.mpr ⟨(k, v), xas_mem hk, rfl⟩)
/-- the new locals behind a store -/
def xcat : xV → Nat
  | .inr (.inl _) => 2
  | _ => 1
theorem xcat_val (ad : Nat → Nat) (v : xV) : (xval ad v).category = xcat v := by
  rcases v with x | x | _ | x <;> rfl
def xs1 (L : List (Nat × xV)) (i : Nat) (v : xV) : List (Nat × xV) := (i, v) :: L.filter (fun q => !(q.1 == i) && !(q.1 + 1 == i && xcat q.2 == 2))
def xs2 (L : List (Nat × xV)) (i : Nat) (v : xV) : List (Nat × xV) := (i, v) :: L.filter (fun q => !(q.1 == i) && (!(q.1 == i + 1) && !(q.1 + 1 == i && xcat q.2 == 2)))
theorem xs1_lv (ad : Nat → Nat) (L : List (Nat × xV)) (i : Nat) (v : xV) : (i, xval ad v) :: (xlv ad L).filter (fun q => !(q.1 == i) && !(q.1 + 1 == i && q.2.category == 2)) = xlv ad (xs1 L i v) := by
  unfold xlv xs1
  rw [List.map_cons, List.filter_map]
  congr 3
  funext q
  show (!(q.1 == i) && !(q.1 + 1 == i && (xval ad q.2).category == 2)) = _
  rw [xcat_val]
theorem xs2_lv (ad : Nat → Nat) (L : List (Nat × xV)) (i : Nat) (v : xV) : (i, xval ad v) :: (xlv ad L).filter (fun q => !(q.1 == i) && (!(q.1 == i + 1) && !(q.1 + 1 == i && q.2.category == 2))) = xlv ad (xs2 L i v) := by
  unfold xlv xs2
  rw [List.map_cons, List.filter_map]
  congr 3
  funext q
  show (!(q.1 == i) && (!(q.1 == i + 1) && !(q.1 + 1 == i && (xval ad q.2).category == 2))) = _
  rw [xcat_val]
/-- the frame in which a method runs -/
abbrev xG : Type := (Program × Launch × Env × Room × State × MethodId × Array Value × List Frame × Method × Code) × ((Nat → Prop) × (Nat → Nat) × (Nat → ClassId) × (Nat → Nat → Nat) × (Nat → ClassId)) × (Nat × Nat × (State → Prop))
def xW (Γ : xG) (lay : List xS) (nL pc : Nat) (L : List (Nat × xV)) (st : List xV) (m : xM) : Prop :=
  match Γ with
  | ((p, l, e, R, s, m0, args, below, meth, c), (A, ad, dC, dI, dA), (cells, slots, Q)) =>
    ∀ (H : Heap) (locs : List Loc) (ls : Array Slot), va_P (dC, dI) vwCl (xwld ad dA m 0 lay) H → va_S A s.heap H locs → lv_has ls nL (xlv ad L) → W p l e R s m0 args below meth c H locs cells slots Q (F0 m0 pc ls (st.map (xval ad)))
def xC (Γ : xG) (lay : List xS) (own : String) (cc : ByteArray) (nL d : Nat) : Prop :=
  match Γ with
  | ((p, l, e, R, s, m0, args, below, meth, c), (A, ad, dC, dI, dA), (cells, slots, Q)) =>
    p.tables.exec = Jvm.exec ∧ c.code = cc ∧ c.maxLocals = nL ∧ s.vm.findClass own = some m0.cls ∧ (∀ w ∈ wsL_law, w.before args s = true) ∧ va_K (dC, dI) vwCl (xtys dA) s ∧ ((∀ i j : Nat, i < lay.length → j < lay.length → ad i = ad j → i = j) ∧ ∀ i : Nat, i < lay.length → A (ad i)) ∧ (∀ q : Nat, s.heap.size ≤ q → A q) ∧ d ≤ R.frames ∧ 30 * d ≤ R.locals ∧ cells ≤ R.cells ∧ slots ≤ R.slots ∧ xStr ad A s s.heap
theorem xD_of {A : Nat → Prop} {ad : Nat → Nat} {dA : Nat → ClassId} {m : xM} {lay : List xS} (h : (∀ i j : Nat, i < lay.length → j < lay.length → ad i = ad j → i = j) ∧ ∀ i : Nat, i < lay.length → A (ad i)) : va_D A (xwld ad dA m 0 lay) := by
  refine ⟨fun i j p q hp hq e => ?_, fun k q hq => ?_⟩
  · obtain ⟨s1, h1, rfl⟩ := xwld_inv hp
    obtain ⟨s2, h2, rfl⟩ := xwld_inv hq
    exact h.1 i j (List.getElem?_eq_some_iff.mp h1).1 (List.getElem?_eq_some_iff.mp h2).1 e
  · obtain ⟨s1, h1, rfl⟩ := xwld_inv hq
    exact h.2 k (List.getElem?_eq_some_iff.mp h1).1
def xsame (L : List (Nat × xV)) : List (Nat × xV) → Prop
  | [] => True
  | q :: t => xas L q.1 = some q.2 ∧ xsame L t
theorem xsame_at {L : List (Nat × xV)} : ∀ {L' : List (Nat × xV)}, xsame L L' → ∀ q ∈ L', xas L q.1 = some q.2
  | [], _, q, h => by cases h
  | q0 :: t, hs, q, h => by
    rcases List.mem_cons.mp h with rfl | h
    · exact hs.1
    · exact xsame_at hs.2 q h
section XR
variable {Γ : xG} {lay : List xS} {own : String} {cc : ByteArray} {nL d pc : Nat} {L : List (Nat × xV)} {st : List xV} {m : xM}
theorem x_iload_n (C : xC Γ lay own cc nL d) {k : Fin 4} (hd : decode cc pc = .ok (.iload_n k, 1)) {x : Int} (hl : xas L (k : Nat) = some (.inl x)) (h : xW Γ lay nL (pc + 1) L (.inl x :: st) m) : xW Γ lay nL pc L st m := by
  obtain ⟨⟨p, l, e, R, s, m0, args, below, meth, c⟩, ⟨A, ad, dC, dI, dA⟩, cells, slots, Q⟩ := Γ
  obtain ⟨hx, hb, -⟩ := C
  intro H locs ls hP hS hv
  exact lv_iload_n hx hb hd rfl (xlv_get hv hl) (h H locs ls hP hS hv)
theorem x_iload (C : xC Γ lay own cc nL d) {k : Nat} (hd : decode cc pc = .ok (.iload k, 2)) {x : Int} (hl : xas L k = some (.inl x)) (h : xW Γ lay nL (pc + 2) L (.inl x :: st) m) : xW Γ lay nL pc L st m := by
  obtain ⟨⟨p, l, e, R, s, m0, args, below, meth, c⟩, ⟨A, ad, dC, dI, dA⟩, cells, slots, Q⟩ := Γ
  obtain ⟨hx, hb, -⟩ := C
  intro H locs ls hP hS hv
  exact lv_iload hx hb hd (xlv_get hv hl) (h H locs ls hP hS hv)
theorem x_lload_n (C : xC Γ lay own cc nL d) {k : Fin 4} (hd : decode cc pc = .ok (.lload_n k, 1)) {x : Int} (hl : xas L (k : Nat) = some (.inr (.inl x))) (h : xW Γ lay nL (pc + 1) L (.inr (.inl x) :: st) m) : xW Γ lay nL pc L st m := by
  obtain ⟨⟨p, l, e, R, s, m0, args, below, meth, c⟩, ⟨A, ad, dC, dI, dA⟩, cells, slots, Q⟩ := Γ
  obtain ⟨hx, hb, -⟩ := C
  intro H locs ls hP hS hv
  exact lv_lload_n hx hb hd rfl (xlv_get hv hl) (h H locs ls hP hS hv)
theorem x_lload (C : xC Γ lay own cc nL d) {k : Nat} (hd : decode cc pc = .ok (.lload k, 2)) {x : Int} (hl : xas L k = some (.inr (.inl x))) (h : xW Γ lay nL (pc + 2) L (.inr (.inl x) :: st) m) : xW Γ lay nL pc L st m := by
  obtain ⟨⟨p, l, e, R, s, m0, args, below, meth, c⟩, ⟨A, ad, dC, dI, dA⟩, cells, slots, Q⟩ := Γ
  obtain ⟨hx, hb, -⟩ := C
  intro H locs ls hP hS hv
  exact lv_lload hx hb hd (xlv_get hv hl) (h H locs ls hP hS hv)
theorem x_aload_n (C : xC Γ lay own cc nL d) {k : Fin 4} (hd : decode cc pc = .ok (.aload_n k, 1)) {x : Nat} (hl : xas L (k : Nat) = some (.inr (.inr (some x)))) (h : xW Γ lay nL (pc + 1) L (.inr (.inr (some x)) :: st) m) : xW Γ lay nL pc L st m := by
  obtain ⟨⟨p, l, e, R, s, m0, args, below, meth, c⟩, ⟨A, ad, dC, dI, dA⟩, cells, slots, Q⟩ := Γ
  obtain ⟨hx, hb, -⟩ := C
  intro H locs ls hP hS hv
  exact lv_aload_n hx hb hd rfl (xlv_get hv hl) (h H locs ls hP hS hv)
theorem x_aload (C : xC Γ lay own cc nL d) {k : Nat} (hd : decode cc pc = .ok (.aload k, 2)) {x : Nat} (hl : xas L k = some (.inr (.inr (some x)))) (h : xW Γ lay nL (pc + 2) L (.inr (.inr (some x)) :: st) m) : xW Γ lay nL pc L st m := by
  obtain ⟨⟨p, l, e, R, s, m0, args, below, meth, c⟩, ⟨A, ad, dC, dI, dA⟩, cells, slots, Q⟩ := Γ
  obtain ⟨hx, hb, -⟩ := C
  intro H locs ls hP hS hv
  exact lv_aload hx hb hd (xlv_get hv hl) (h H locs ls hP hS hv)
theorem x_istore_n (C : xC Γ lay own cc nL d) {k : Fin 4} (hd : decode cc pc = .ok (.istore_n k, 1)) (hn : (k : Nat) < nL) {x : Int} (h : xW Γ lay nL (pc + 1) (xs1 L (k : Nat) (.inl x)) st m) : xW Γ lay nL pc L (.inl x :: st) m := by
  obtain ⟨⟨p, l, e, R, s, m0, args, below, meth, c⟩, ⟨A, ad, dC, dI, dA⟩, cells, slots, Q⟩ := Γ
  obtain ⟨hx, hb, -⟩ := C
  intro H locs ls hP hS hv
  exact lv_istore_n hx hb hd rfl hv hn (xs1_lv ad L (k : Nat) (.inl x)) (fun ls' hv' => h H locs ls' hP hS hv')
theorem x_istore (C : xC Γ lay own cc nL d) {k : Nat} (hd : decode cc pc = .ok (.istore k, 2)) (hn : k < nL) {x : Int} (h : xW Γ lay nL (pc + 2) (xs1 L k (.inl x)) st m) : xW Γ lay nL pc L (.inl x :: st) m := by
  obtain ⟨⟨p, l, e, R, s, m0, args, below, meth, c⟩, ⟨A, ad, dC, dI, dA⟩, cells, slots, Q⟩ := Γ
  obtain ⟨hx, hb, -⟩ := C
  intro H locs ls hP hS hv
  exact lv_istore hx hb hd hv hn (xs1_lv ad L k (.inl x)) (fun ls' hv' => h H locs ls' hP hS hv')
theorem x_lstore_n (C : xC Γ lay own cc nL d) {k : Fin 4} (hd : decode cc pc = .ok (.lstore_n k, 1)) (hn : (k : Nat) + 1 < nL) {x : Int} (h : xW Γ lay nL (pc + 1) (xs2 L (k : Nat) (.inr (.inl x))) st m) : xW Γ lay nL pc L (.inr (.inl x) :: st) m := by
  obtain ⟨⟨p, l, e, R, s, m0, args, below, meth, c⟩, ⟨A, ad, dC, dI, dA⟩, cells, slots, Q⟩ := Γ
  obtain ⟨hx, hb, -⟩ := C
  intro H locs ls hP hS hv
  exact lv_lstore_n hx hb hd rfl hv hn (xs2_lv ad L (k : Nat) (.inr (.inl x))) (fun ls' hv' => h H locs ls' hP hS hv')
theorem x_lstore (C : xC Γ lay own cc nL d) {k : Nat} (hd : decode cc pc = .ok (.lstore k, 2)) (hn : k + 1 < nL) {x : Int} (h : xW Γ lay nL (pc + 2) (xs2 L k (.inr (.inl x))) st m) : xW Γ lay nL pc L (.inr (.inl x) :: st) m := by
  obtain ⟨⟨p, l, e, R, s, m0, args, below, meth, c⟩, ⟨A, ad, dC, dI, dA⟩, cells, slots, Q⟩ := Γ
  obtain ⟨hx, hb, -⟩ := C
  intro H locs ls hP hS hv
  exact lv_lstore hx hb hd hv hn (xs2_lv ad L k (.inr (.inl x))) (fun ls' hv' => h H locs ls' hP hS hv')
theorem x_astore_n (C : xC Γ lay own cc nL d) {k : Fin 4} (hd : decode cc pc = .ok (.astore_n k, 1)) (hn : (k : Nat) < nL) {x : Nat} (h : xW Γ lay nL (pc + 1) (xs1 L (k : Nat) (.inr (.inr (some x)))) st m) : xW Γ lay nL pc L (.inr (.inr (some x)) :: st) m := by
  obtain ⟨⟨p, l, e, R, s, m0, args, below, meth, c⟩, ⟨A, ad, dC, dI, dA⟩, cells, slots, Q⟩ := Γ
  obtain ⟨hx, hb, -⟩ := C
  intro H locs ls hP hS hv
  exact lv_astore_n hx hb hd rfl hv hn (xs1_lv ad L (k : Nat) (.inr (.inr (some x)))) (fun ls' hv' => h H locs ls' hP hS hv')
theorem x_astore (C : xC Γ lay own cc nL d) {k : Nat} (hd : decode cc pc = .ok (.astore k, 2)) (hn : k < nL) {x : Nat} (h : xW Γ lay nL (pc + 2) (xs1 L k (.inr (.inr (some x)))) st m) : xW Γ lay nL pc L (.inr (.inr (some x)) :: st) m := by
  obtain ⟨⟨p, l, e, R, s, m0, args, below, meth, c⟩, ⟨A, ad, dC, dI, dA⟩, cells, slots, Q⟩ := Γ
  obtain ⟨hx, hb, -⟩ := C
  intro H locs ls hP hS hv
  exact lv_astore hx hb hd hv hn (xs1_lv ad L k (.inr (.inr (some x)))) (fun ls' hv' => h H locs ls' hP hS hv')
theorem x_iinc (C : xC Γ lay own cc nL d) {k : Nat} {n : Int} (hd : decode cc pc = .ok (.iinc k n, 3)) (hn : k < nL) {x : Int} (hl : xas L k = some (.inl x)) (h : xW Γ lay nL (pc + 3) (xs1 L k (.inl (x + n))) st m) : xW Γ lay nL pc L st m := by
  obtain ⟨⟨p, l, e, R, s, m0, args, below, meth, c⟩, ⟨A, ad, dC, dI, dA⟩, cells, slots, Q⟩ := Γ
  obtain ⟨hx, hb, -⟩ := C
  intro H locs ls hP hS hv
  obtain ⟨j, hj⟩ := List.getElem?_of_mem (List.mem_map.mpr ⟨(k, .inl x), xas_mem hl, rfl⟩ : ((k, xval ad (.inl x)) : Nat × Value) ∈ xlv ad L)
  exact lv_iinc (v := Int32.ofInt (x + n)) hx hb hd hv hj (Int32.ofInt_add x n).symm hn (xs1_lv ad L k (.inl (x + n))) (fun ls' hv' => h H locs ls' hP hS hv')
theorem x_iconst (C : xC Γ lay own cc nL d) {n : Int} (hd : decode cc pc = .ok (.iconst n, 1)) (h : xW Γ lay nL (pc + 1) L (.inl n :: st) m) : xW Γ lay nL pc L st m := by
  obtain ⟨⟨p, l, e, R, s, m0, args, below, meth, c⟩, ⟨A, ad, dC, dI, dA⟩, cells, slots, Q⟩ := Γ
  obtain ⟨hx, hb, -⟩ := C
  intro H locs ls hP hS hv
  exact lv_iconst hx hb hd rfl (h H locs ls hP hS hv)
theorem x_bipush (C : xC Γ lay own cc nL d) {n : Int} (hd : decode cc pc = .ok (.bipush n, 2)) (hn : (Int8.ofInt n).toInt32 = Int32.ofInt n) (h : xW Γ lay nL (pc + 2) L (.inl n :: st) m) : xW Γ lay nL pc L st m := by
  obtain ⟨⟨p, l, e, R, s, m0, args, below, meth, c⟩, ⟨A, ad, dC, dI, dA⟩, cells, slots, Q⟩ := Γ
  obtain ⟨hx, hb, -⟩ := C
  intro H locs ls hP hS hv
  exact lv_bipush hx hb hd hn (h H locs ls hP hS hv)
theorem x_sipush (C : xC Γ lay own cc nL d) {n : Int} (hd : decode cc pc = .ok (.sipush n, 3)) (hn : (Int16.ofInt n).toInt32 = Int32.ofInt n) (h : xW Γ lay nL (pc + 3) L (.inl n :: st) m) : xW Γ lay nL pc L st m := by
  obtain ⟨⟨p, l, e, R, s, m0, args, below, meth, c⟩, ⟨A, ad, dC, dI, dA⟩, cells, slots, Q⟩ := Γ
  obtain ⟨hx, hb, -⟩ := C
  intro H locs ls hP hS hv
  exact lv_sipush hx hb hd hn (h H locs ls hP hS hv)
theorem x_ldc (C : xC Γ lay own cc nL d) {i : Nat} {v : Int32} (n : Int) (hd : decode cc pc = .ok (.ldc i, 2)) (hw : Cond.constant own i v ∈ wsL_law) (hn : v = Int32.ofInt n) (h : xW Γ lay nL (pc + 2) L (.inl n :: st) m) : xW Γ lay nL pc L st m := by
  obtain ⟨⟨p, l, e, R, s, m0, args, below, meth, c⟩, ⟨A, ad, dC, dI, dA⟩, cells, slots, Q⟩ := Γ
  obtain ⟨hx, hb, -, hown, hts, -⟩ := C
  subst hn
  intro H locs ls hP hS hv
  exact lv_ldc hx hb hown (hts _ hw) hd (h H locs ls hP hS hv)
theorem x_ldc_w (C : xC Γ lay own cc nL d) {i : Nat} {v : Int32} (n : Int) (hd : decode cc pc = .ok (.ldc_w i, 3)) (hw : Cond.constant own i v ∈ wsL_law) (hn : v = Int32.ofInt n) (h : xW Γ lay nL (pc + 3) L (.inl n :: st) m) : xW Γ lay nL pc L st m := by
  obtain ⟨⟨p, l, e, R, s, m0, args, below, meth, c⟩, ⟨A, ad, dC, dI, dA⟩, cells, slots, Q⟩ := Γ
  obtain ⟨hx, hb, -, hown, hts, -⟩ := C
  subst hn
  intro H locs ls hP hS hv
  exact lv_ldcw hx hb hown (hts _ hw) hd (h H locs ls hP hS hv)
theorem x_ldc2 (C : xC Γ lay own cc nL d) {i : Nat} {v : Int64} (n : Int) (hd : decode cc pc = .ok (.ldc2_w i, 3)) (hw : Cond.constantLong own i v ∈ wsL_law) (hn : v = Int64.ofInt n) (h : xW Γ lay nL (pc + 3) L (.inr (.inl n) :: st) m) : xW Γ lay nL pc L st m := by
  obtain ⟨⟨p, l, e, R, s, m0, args, below, meth, c⟩, ⟨A, ad, dC, dI, dA⟩, cells, slots, Q⟩ := Γ
  obtain ⟨hx, hb, -, hown, hts, -⟩ := C
  subst hn
  intro H locs ls hP hS hv
  exact lv_ldc2 hx hb hown (hts _ hw) hd (h H locs ls hP hS hv)
theorem x_lconst (C : xC Γ lay own cc nL d) {n : Fin 2} (hd : decode cc pc = .ok (.lconst n, 1)) (h : xW Γ lay nL (pc + 1) L (.inr (.inl ((n : Nat) : Int)) :: st) m) : xW Γ lay nL pc L st m := by
  obtain ⟨⟨p, l, e, R, s, m0, args, below, meth, c⟩, ⟨A, ad, dC, dI, dA⟩, cells, slots, Q⟩ := Γ
  obtain ⟨hx, hb, -⟩ := C
  intro H locs ls hP hS hv
  exact lv_lconst hx hb hd (by rw [Int64.ofInt_eq_ofNat]) (h H locs ls hP hS hv)
theorem x_iadd (C : xC Γ lay own cc nL d) {x y : Int} (hd : decode cc pc = .ok (.iadd, 1)) (h : xW Γ lay nL (pc + 1) L (.inl (x + y) :: st) m) : xW Γ lay nL pc L (.inl y :: .inl x :: st) m := by
  obtain ⟨⟨p, l, e, R, s, m0, args, below, meth, c⟩, ⟨A, ad, dC, dI, dA⟩, cells, slots, Q⟩ := Γ
  obtain ⟨hx, hb, -⟩ := C
  intro H locs ls hP hS hv
  have h1 := h H locs ls hP hS hv
  refine lv_iadd hx hb hd ?_
  rw [← Int32.ofInt_add]
  exact h1
theorem x_isub (C : xC Γ lay own cc nL d) {x y : Int} (hd : decode cc pc = .ok (.isub, 1)) (h : xW Γ lay nL (pc + 1) L (.inl (x - y) :: st) m) : xW Γ lay nL pc L (.inl y :: .inl x :: st) m := by
  obtain ⟨⟨p, l, e, R, s, m0, args, below, meth, c⟩, ⟨A, ad, dC, dI, dA⟩, cells, slots, Q⟩ := Γ
  obtain ⟨hx, hb, -⟩ := C
  intro H locs ls hP hS hv
  have h1 := h H locs ls hP hS hv
  refine lv_isub hx hb hd ?_
  rw [← Int32.ofInt_sub]
  exact h1
theorem x_imul (C : xC Γ lay own cc nL d) {x y : Int} (hd : decode cc pc = .ok (.imul, 1)) (h : xW Γ lay nL (pc + 1) L (.inl (x * y) :: st) m) : xW Γ lay nL pc L (.inl y :: .inl x :: st) m := by
  obtain ⟨⟨p, l, e, R, s, m0, args, below, meth, c⟩, ⟨A, ad, dC, dI, dA⟩, cells, slots, Q⟩ := Γ
  obtain ⟨hx, hb, -⟩ := C
  intro H locs ls hP hS hv
  have h1 := h H locs ls hP hS hv
  refine lv_imul hx hb hd ?_
  rw [← Int32.ofInt_mul]
  exact h1
theorem x_dup (C : xC Γ lay own cc nL d) {v : xV} (hd : decode cc pc = .ok (.dup, 1)) (hv1 : xcat v = 1) (h : xW Γ lay nL (pc + 1) L (v :: v :: st) m) : xW Γ lay nL pc L (v :: st) m := by
  obtain ⟨⟨p, l, e, R, s, m0, args, below, meth, c⟩, ⟨A, ad, dC, dI, dA⟩, cells, slots, Q⟩ := Γ
  obtain ⟨hx, hb, -⟩ := C
  intro H locs ls hP hS hv
  exact lv_dup hx hb hd ((xcat_val ad v).trans hv1) (h H locs ls hP hS hv)
theorem x_dup2 (C : xC Γ lay own cc nL d) {v v2 : xV} (hd : decode cc pc = .ok (.dup2, 1)) (hv1 : xcat v = 1) (hv2 : xcat v2 = 1) (h : xW Γ lay nL (pc + 1) L (v :: v2 :: v :: v2 :: st) m) : xW Γ lay nL pc L (v :: v2 :: st) m := by
  obtain ⟨⟨p, l, e, R, s, m0, args, below, meth, c⟩, ⟨A, ad, dC, dI, dA⟩, cells, slots, Q⟩ := Γ
  obtain ⟨hx, hb, -⟩ := C
  intro H locs ls hP hS hv
  exact lv_dup2_11 hx hb hd ((xcat_val ad v).trans hv1) ((xcat_val ad v2).trans hv2) (h H locs ls hP hS hv)
theorem x_pop (C : xC Γ lay own cc nL d) {v : xV} (hd : decode cc pc = .ok (.pop, 1)) (hv1 : xcat v = 1) (h : xW Γ lay nL (pc + 1) L st m) : xW Γ lay nL pc L (v :: st) m := by
  obtain ⟨⟨p, l, e, R, s, m0, args, below, meth, c⟩, ⟨A, ad, dC, dI, dA⟩, cells, slots, Q⟩ := Γ
  obtain ⟨hx, hb, -⟩ := C
  intro H locs ls hP hS hv
  exact lv_pop hx hb hd ((xcat_val ad v).trans hv1) (h H locs ls hP hS hv)
theorem x_goto (C : xC Γ lay own cc nL d) {off : Int} (tgt : Nat) (hd : decode cc pc = .ok (.goto off, 3)) (ht : (pc : Int) + off = (tgt : Int)) (h : xW Γ lay nL tgt L st m) : xW Γ lay nL pc L st m := by
  obtain ⟨⟨p, l, e, R, s, m0, args, below, meth, c⟩, ⟨A, ad, dC, dI, dA⟩, cells, slots, Q⟩ := Γ
  obtain ⟨hx, hb, -⟩ := C
  intro H locs ls hP hS hv
  exact lv_goto hx hb hd ht (h H locs ls hP hS hv)
/-- fewer locals, in any order -/
theorem x_loc (L' : List (Nat × xV)) (he : xsame L L') (h : xW Γ lay nL pc L' st m) : xW Γ lay nL pc L st m := by
  obtain ⟨⟨p, l, e, R, s, m0, args, below, meth, c⟩, ⟨A, ad, dC, dI, dA⟩, cells, slots, Q⟩ := Γ
  intro H locs ls hP hS hv
  refine h H locs ls hP hS ⟨hv.1, hv.2.1, fun q hq => ?_⟩
  obtain ⟨q2, h2, rfl⟩ := List.mem_map.mp hq
  exact xlv_get hv (xsame_at he q2 h2)
end XR

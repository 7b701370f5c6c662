/-! ===== from the class's constructor to the law's own cells ===== -/
theorem g_pigeon : ∀ (n a : Nat) (l : List Nat), l.Nodup → (∀ x ∈ l, a ≤ x ∧ x < a + n) → l.length ≤ n
  | 0, a, [], _, _ => Nat.le_refl _
  | 0, a, x :: t, _, h => by
    have := h x List.mem_cons_self
    omega
  | n + 1, a, l, hn, h => by
    by_cases hx : a + n ∈ l
    · have h1 := g_pigeon n a (l.erase (a + n)) (hn.erase _) (fun x hx' => by
        obtain ⟨h2, h3⟩ := hn.mem_erase_iff.mp hx'
        have := h x h3
        omega)
      rw [List.length_erase_of_mem hx] at h1
      omega
    · exact Nat.le_succ_of_le (g_pigeon n a l hn (fun x hx' => by
        have := h x hx'
        have h2 : x ≠ a + n := fun e => hx (e ▸ hx')
        omega))
theorem xfv_c {ad ad' : Nat → Nat} (g : Nat → Int) : ∀ (l : List (Option Nat)) (j : Nat), (∀ r, some r ∈ l → ad r = ad' r) → xfv ad g j l = xfv ad' g j l
  | [], _, _ => rfl
  | none :: t, j, h => by
    show Value.int (Int32.ofInt (g j)) :: xfv ad g (j + 1) t = Value.int (Int32.ofInt (g j)) :: xfv ad' g (j + 1) t
    rw [xfv_c g t (j + 1) (fun r hr => h r (List.mem_cons_of_mem _ hr))]
  | some r :: t, j, h => by
    show Value.ref (ad r) :: xfv ad g (j + 1) t = Value.ref (ad' r) :: xfv ad' g (j + 1) t
    rw [h r List.mem_cons_self, xfv_c g t (j + 1) (fun r hr => h r (List.mem_cons_of_mem _ hr))]
def xlo (n : Nat) : xS → Bool
  | .inl q => q.2.all (fun r => match r with | none => true | some k => decide (k < n))
  | .inr q => q.2.2.all (fun k => decide (k < n))
theorem xent_c {ad ad' : Nat → Nat} {n : Nat} (h : ∀ r, r < n → ad r = ad' r) (dA : Nat → ClassId) (g : Nat → Int) : ∀ s : xS, xlo n s = true → xent ad dA g s = xent ad' dA g s
  | .inl (ci, fs), hs => by
    show (.inr (ci, xfv ad g 0 fs) : va_E) = .inr (ci, xfv ad' g 0 fs)
    rw [xfv_c g fs 0 (fun r hr => h r (of_decide_eq_true (List.all_eq_true.mp hs _ hr)))]
  | .inr (0, _, _), _ => rfl
  | .inr (1, _, _), _ => rfl
  | .inr (t + 2, k, rs), hs => by
    show (.inl (dA (t + 2), k, .inr (.inr (.inr (.inr (fun j => (rs[j]?).map ad))))) : va_E) = .inl (dA (t + 2), k, .inr (.inr (.inr (.inr (fun j => (rs[j]?).map ad')))))
    have e : (fun j : Nat => (rs[j]?).map ad) = fun j : Nat => (rs[j]?).map ad' := funext fun j => by
      cases hj : rs[j]? with
      | none => rfl
      | some r => exact congrArg some (h r (of_decide_eq_true (List.all_eq_true.mp hs _ (List.mem_of_getElem? hj))))
    rw [e]
theorem xwld_c {ad ad' : Nat → Nat} {n : Nat} (h : ∀ r, r < n → ad r = ad' r) (dA : Nat → ClassId) (m : xM) : ∀ (lay : List xS) (b : Nat), lay.all (xlo n) = true → b + lay.length ≤ n → xwld ad dA m b lay = xwld ad' dA m b lay
  | [], _, _, _ => rfl
  | s :: t, b, hs, hb => by
    rw [List.all_cons, Bool.and_eq_true] at hs
    rw [List.length_cons] at hb
    show (ad b, xent ad dA (m b) s) :: xwld ad dA m (b + 1) t = (ad' b, xent ad' dA (m b) s) :: xwld ad' dA m (b + 1) t
    rw [h b (by omega), xent_c h dA (m b) s hs.1, xwld_c h dA m t (b + 1) hs.2 (by omega)]
theorem xSref_lo : ∀ r ∈ xSref, r.2.2.2 < 300 := fun r hr => of_decide_eq_true (List.all_eq_true.mp (by decide +kernel : xSref.all (fun r => decide (r.2.2.2 < 300)) = true) r hr)
theorem xStr.cong {ad ad' : Nat → Nat} {A : Nat → Prop} {U : State} {H : Heap} (h : xStr ad A U H) (had : ∀ i : Nat, i < 300 → ad' (1000 + i) = ad (1000 + i)) : xStr ad' A U H := by
  refine ⟨fun i hi => ?_, fun r hr => ?_, h.2.2.1, ?_⟩
  · have hi3 : i < 128 := by rcases hi with hi | hi | hi <;> omega
    obtain ⟨h1, h2, h3, h4⟩ := h.1 i hi
    rw [had i (by omega), had (100 + i) (by omega)]
    exact ⟨h1, h2, h3, h4⟩
  · rw [had r.2.2.2 (xSref_lo r hr)]
    exact h.2.1 r hr
  · rcases h.2.2.2 with h5 | h5
    · exact Or.inl h5
    · exact Or.inr (by rw [had 200 (by omega)]; exact h5)
/-- where all stands: the class's cells and the texts, the script at 1300, the law's own cells from z on -/
def gad (aX : Nat → Nat) (b z : Nat) : Nat → Nat := fun i => if i < 2000 then (if i = 1300 then b else aX i) else z + (i - 2000)
theorem gad_new (aX : Nat → Nat) (b z i : Nat) : gad aX b z (2000 + i) = z + i := by
  unfold gad
  rw [if_neg (by omega), Nat.add_sub_cancel_left]
theorem gad_lo (aX : Nat → Nat) (b z : Nat) {i : Nat} (h : i < 1300) : gad aX b z i = aX i := by
  unfold gad
  rw [if_pos (by omega), if_neg (by omega)]
theorem gad_b (aX : Nat → Nat) (b z : Nat) : gad aX b z 1300 = b := rfl
theorem g_ins {D : va_G} {ws w2 : va_W} {H : Heap} (h : va_P D vwCl (ws ++ w2) H) : va_P D vwCl ws H := fun k q hk => h k q (by rw [List.getElem?_append_left (List.getElem?_eq_some_iff.mp hk).1]; exact hk)
theorem g_insD {A : Nat → Prop} {ws w2 : va_W} (h : va_D A (ws ++ w2)) : va_D A ws := ⟨fun i j p q hi hj e => h.1 i j p q (by rw [List.getElem?_append_left (List.getElem?_eq_some_iff.mp hi).1]; exact hi) (by rw [List.getElem?_append_left (List.getElem?_eq_some_iff.mp hj).1]; exact hj) e, fun k q hk => h.2 k q (by rw [List.getElem?_append_left (List.getElem?_eq_some_iff.mp hk).1]; exact hk)⟩
theorem g_dnd {A : Nat → Prop} {ws : va_W} (h : va_D A ws) : (ws.map (fun q => q.1)).Nodup := by
  refine List.pairwise_iff_getElem.mpr (fun i j hi hj hij => ?_)
  rw [List.length_map] at hi hj
  rw [List.getElem_map, List.getElem_map]
  intro e
  have := h.1 i j ws[i] ws[j] (List.getElem?_eq_getElem hi) (List.getElem?_eq_getElem hj) e
  omega
/-- as many cells as were counted: the heap's size is known -/
theorem g_exact {D : va_G} {ws : va_W} {H H0 : Heap} {A : Nat → Prop} {locs : List Loc} (hP : va_P D vwCl ws H) (hD : va_D A ws) (hS : va_S A H0 H locs) (hA : ∀ q, A q → H0.size ≤ q) (hup : H.size ≤ H0.size + ws.length) : H.size = H0.size + ws.length := by
  have h1 := hS.1
  have h2 := g_pigeon (H.size - H0.size) H0.size (ws.map (fun q => q.1)) (g_dnd hD) (fun x hx => by
    obtain ⟨q, hq, rfl⟩ := List.mem_map.mp hx
    obtain ⟨k, hk, e⟩ := List.mem_iff_getElem.mp hq
    have hk2 : ws[k]? = some q := by rw [List.getElem?_eq_getElem hk, e]
    have h3 := (hP k q hk2).lt
    have h4 := hA _ (hD.2 k q hk2)
    omega)
  rw [List.length_map] at h2
  omega
theorem g_layX : lay_X.all (xlo 1000) = true := by decide +kernel
theorem g_layXn : lay_X.length = 445 := by decide +kernel
theorem g_first {p : Program} {l : Launch} {e : Env} {R : Room} {s : State} {m0 : MethodId} {args : Array Value} {below : List Frame} {meth : Method} {c : Code} {A : Nat → Prop} {dC : Nat → ClassId} {dI : Nat → Nat → Nat} {dA : Nat → ClassId} {Q : State → Prop} {own : String} {cc : ByteArray} {nL d pc k n b : Nat} {h9 : gH} {aX : Nat → Nat} {m : xM} {T : va_W} {H : Heap} {locs : List Loc} {ls : Array Slot} {L : List (Nat × xV)} {v : Int32}
    (C : gX ((p, l, e, R, s, m0, args, below, meth, c), (A, gad aX b (s.heap.size + k), dC, dI, dA), (0, 0, k, n, Q)) lay_X own cc nL d h9) (hAe : ∀ q, A q → s.heap.size ≤ q) (hk : k = (xwld aX dA m 0 lay_X ++ T).length) (hd : decode cc pc = .ok (.newarray .int, 2)) (hw : Cond.arrayClass .int ∈ wsL_law) (h1 : 1 ≤ h9.length) (h2 : 6 ≤ gsl h9) (hv0 : ¬ v < 0) (hv6 : v.toNatClampNeg = 6)
    (cont : gW ((p, l, e, R, s, m0, args, below, meth, c), (A, gad aX b (s.heap.size + k), dC, dI, dA), (0, 0, k, n, Q)) lay_X nL (pc + 2) L [.inr (.inr (some 2000))] m [.inl (0, List.replicate 6 0)])
    (hP : va_P (dC, dI) vwCl (xwld aX dA m 0 lay_X ++ T) H) (hD : va_D A (xwld aX dA m 0 lay_X ++ T)) (hS : va_S A s.heap H locs) (hv : lv_has ls nL (xlv (gad aX b (s.heap.size + k)) L)) : W p l e R s m0 args below meth c H locs k n Q (F0 m0 pc ls [.int v]) := by
  obtain ⟨hx, hb, hml, hown, hts, hK, had, hA, hfr, hlo, hlim, hstr, hTT⟩ := C
  intro T1 hT1 X
  have hup := X.heapSize
  rw [hT1] at hup
  have hsz := g_exact hP hD hS hAe (by rw [← hk]; exact hup)
  rw [← hk] at hsz
  have ew : xwld aX dA m 0 lay_X = xwld (gad aX b (s.heap.size + k)) dA m 0 lay_X := xwld_c (n := 1000) (fun r hr => (gad_lo aX b _ (by omega)).symm) dA m lay_X 0 g_layX (by rw [g_layXn]; omega)
  have hz : gad aX b (s.heap.size + k) (2000 + ([] : gH).length) = H.size := by rw [hsz]; exact gad_new _ _ _ 0
  have hP0 : va_P (dC, dI) vwCl (gwd (gad aX b (s.heap.size + k)) dA lay_X m []) H := by
    show va_P _ _ (xwld (gad aX b (s.heap.size + k)) dA m 0 lay_X ++ []) H
    rw [List.append_nil, ← ew]
    exact g_ins hP
  have hD0 : va_D A (gwd (gad aX b (s.heap.size + k)) dA lay_X m []) := by
    show va_D _ (xwld (gad aX b (s.heap.size + k)) dA m 0 lay_X ++ [])
    rw [List.append_nil, ← ew]
    exact g_insD hD
  have key : W p l e R s m0 args below meth c H locs k n Q (F0 m0 pc ls [.int v]) := by
    refine va_newaK (atype := .int) (N := 6) (h := H.size) hx hb (hts _ hw) rfl hd rfl hv0 hv6 (by decide) (by have := hlim.1; omega) (by have := hlim.2; omega) rfl (fun H1 cA e1 y1 o1 hAr hNm => ?_)
    have ecA : cA = dA 0 := Option.some.inj (hNm.symm.trans (hK.2 0 _ rfl).2)
    subst ecA
    obtain ⟨hP1, hD1, hS1⟩ := g_push (c := .inl (0, List.replicate 6 0)) hP0 hD0 hS hA hz (by
      show H1[H.size]? = some (arrV (dA 0) (List.replicate 6 (0 : Int)).length (fun j => Value.int (Int32.ofInt ((List.replicate 6 (0 : Int)).getD j 0))))
      rw [e1, List.length_replicate]
      congr 2
      funext j
      rw [grep_d]
      rfl) y1 o1
    have hc := cont H1 locs ls (k + 1) (n + 6) ⟨by show k + 1 + 0 = 1 + k; omega, by show n + 6 + 0 = 6 + 0 + n; omega, Or.inr (by show 0 < 1; omega)⟩ hP1 hD1 hS1 hv
    rw [List.map_cons, show xval (gad aX b (s.heap.size + k)) (.inr (.inr (some 2000))) = .ref H.size by show Value.ref (gad aX b (s.heap.size + k) 2000) = _; rw [← hz]; rfl] at hc
    exact hc
  exact key T1 hT1 X

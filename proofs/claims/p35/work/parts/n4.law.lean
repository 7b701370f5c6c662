/-! ===== the law from where its first array stands ===== -/
theorem law_runs {p : Program} {l : Launch} {e : Env} {s : State} {m0 : MethodId} {below : List Frame} {meth : Method} {c : Code} {A : Nat → Prop} {dC : Nat → ClassId} {dI : Nat → Nat → Nat} {dA : Nat → ClassId} {sa : Nat → Nat} {K N k n b Ln : Nat} {aX : Nat → Nat} {xs : Nat → Int32} {m m9 : xM} {h9 : gH} {T : va_W} {v : Int32}
    (C : yC ((p, l, e, room_1, s, m0, #[Value.ref b], below, meth, c), (A, dC, dI, dA, sa), lw_Z below #[Value.ref b] s) RL cL_law 14 13 K N) (hK : K ≤ 600086) (hN : N ≤ 7301442) (hg : gT s) (hsa : ∀ i : Nat, i < 300 → aX (1000 + i) = sa (1000 + i))
    (hr : meth.sig.returnType = ret) (hlocks : meth.locks = false) (hAe : ∀ q, A q → s.heap.size ≤ q) (hX : va_X b Ln xs s s.heap) (hAb : ¬ A b) (hL : Ln < 2147483648) (hk : k = (xwld aX dA m 0 lay_X ++ T).length)
    (hkK : h9.length + k ≤ K) (hnN : gsl h9 + n ≤ N) (hv0 : ¬ v < 0) (hv6 : v.toNatClampNeg = 6)
    (hf : f_L_law Ln (fun j => (xs j).toInt) 2000 m [.inl (0, List.replicate 6 0)] = some (1, m9, h9)) :
    yW ((p, l, e, room_1, s, m0, #[Value.ref b], below, meth, c), (A, dC, dI, dA, sa), lw_Z below #[Value.ref b] s) 14 10 [(0, .ref b), (1, .ref (aX 0))] [.int v] (xwld aX dA m 0 lay_X ++ T) k n := by
  have hx := C.1
  have hb := C.2.1
  have hG := gX_begin (b := b) (k := k) (n := n) (h9 := h9) (aX := aX) C hg hsa hkK hnN
  have hZ := gS_begin (p := p) (l := l) (e := e) (R := room_1) (m0 := m0) (args := #[Value.ref b]) (below := below) (meth := meth) (c := c) (dC := dC) (dI := dI) (dA := dA) (Q := lw_Z below #[Value.ref b] s) (k := k) (n := n) (aX := aX) hX hAb hL
  have hR := gR_end (p := p) (l := l) (e := e) (m0 := m0) (below := below) (c := c) (dC := dC) (dI := dI) (dA := dA) (ad := gad aX b (s.heap.size + k)) (k := k) (n := n) (b := b) (h9 := h9) (m9 := m9) hx hb hr hlocks hAe (Nat.le_trans hkK hK) (Nat.le_trans hnN hN)
  have J : gJ (fun Γ => Γ = ((p, l, e, room_1, s, m0, #[Value.ref b], below, meth, c), (A, gad aX b (s.heap.size + k), dC, dI, dA), (0, 0, k, n, lw_Z below #[Value.ref b] s))) lay_X 14 12 [(0, .inr (.inr (some 1300))), (1, .inr (.inr (some 0)))] [.inr (.inr (some 2000))] m [.inl (0, List.replicate 6 0)] h9 := by
    have CC : ∀ Γ, Γ = ((p, l, e, room_1, s, m0, #[Value.ref b], below, meth, c), (A, gad aX b (s.heap.size + k), dC, dI, dA), (0, 0, k, n, lw_Z below #[Value.ref b] s)) → gX Γ lay_X RL cL_law 14 13 h9 := fun Γ q => by subst q; exact hG
    refine g_astore_n CC dL_law_12 (by decide) ?_
    refine g_loc [(0, .inr (.inr (some 1300))), (1, .inr (.inr (some 0))), (2, .inr (.inr (some 2000)))] ⟨rfl, rfl, rfl, trivial⟩ ?_
    exact t_L_law (by omega) CC _ _ _ (fun Γ q => by subst q; exact hR) (fun Γ q => by subst q; exact hZ) _ _ hf
  intro H locs ls hP hD hS hv
  refine g_first hG hAe hk dL_law_10 (xin_1 _ (List.mem_of_getElem? (i := 3) rfl)) ?_ ?_ hv0 hv6 (J.2 _ rfl) hP hD hS hv
  · exact J.1.1
  · exact J.1.2

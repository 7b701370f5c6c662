/-! ===== the law's end ===== -/
theorem gR_end {p : Program} {l : Launch} {e : Env} {s : State} {m0 : MethodId} {below : List Frame} {meth : Method} {c : Code} {A : Nat → Prop} {dC : Nat → ClassId} {dI : Nat → Nat → Nat} {dA : Nat → ClassId} {ad : Nat → Nat} {k n b : Nat} {h9 : gH} {m9 : xM} (hx : p.tables.exec = Jvm.exec) (hb : c.code = code) (hr : meth.sig.returnType = ret) (hlocks : meth.locks = false) (hAe : ∀ q, A q → s.heap.size ≤ q) (hk : h9.length + k ≤ 600086) (hn : gsl h9 + n ≤ 7301442) :
    gRz ((p, l, e, room_1, s, m0, #[Value.ref b], below, meth, c), (A, ad, dC, dI, dA), (0, 0, k, n, lw_Z below #[Value.ref b] s)) lay_X cL_law 1 m9 h9 := by
  intro _ H locs ls pc kk nn hc hP hD hS hd
  refine va_forget (fun q hq => hAe _ (hS.2.2 q hq)) ?_
  refine W.widen (k := 600086) (n := 7301442) (by have := hc.1; omega) (by have := hc.2; omega) ?_
  exact lw_ret hx hb hr hlocks hd

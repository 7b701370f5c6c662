/-! ===== the law's frame: what it has, its script, its end ===== -/
section GB
variable {p : Program} {l : Launch} {e : Env} {R : Room} {s : State} {m0 : MethodId} {args : Array Value} {below : List Frame} {meth : Method} {c : Code} {A : Nat → Prop} {dC : Nat → ClassId} {dI : Nat → Nat → Nat} {dA : Nat → ClassId} {sa : Nat → Nat} {Q : State → Prop} {own : String} {cc : ByteArray} {nL d K N k n b Ln : Nat} {h9 : gH} {aX : Nat → Nat} {xs : Nat → Int32}
theorem gX_begin (C : yC ((p, l, e, R, s, m0, args, below, meth, c), (A, dC, dI, dA, sa), Q) own cc nL d K N) (hg : gT s) (hsa : ∀ i : Nat, i < 300 → aX (1000 + i) = sa (1000 + i)) (hk : h9.length + k ≤ K) (hn : gsl h9 + n ≤ N) : gX ((p, l, e, R, s, m0, args, below, meth, c), (A, gad aX b (s.heap.size + k), dC, dI, dA), (0, 0, k, n, Q)) lay_X own cc nL d h9 := by
  obtain ⟨hx, hb, hml, hown, hts, hK, hA, ⟨hfr, hlo⟩, ⟨hce, hsl⟩, hT, hX⟩ := C
  refine ⟨hx, hb, hml, hown, hts, hK.sub (tys' := xtys dA) [0, 1, 2, 3, 4, 5] rfl, fun i => ?_, hA, hfr, hlo, ⟨by omega, by omega⟩, hX.1.cong (fun i hi => ?_), hg⟩
  · rw [show 2000 + 0 + i = 2000 + i by omega]
    exact gad_new _ _ _ i
  · rw [gad_lo _ _ _ (by omega)]
    exact hsa i hi
theorem gS_begin (hX : va_X b Ln xs s s.heap) (hA : ¬ A b) (hL : Ln < 2147483648) : gS ((p, l, e, R, s, m0, args, below, meth, c), (A, gad aX b (s.heap.size + k), dC, dI, dA), (0, 0, k, n, Q)) Ln (fun j => (xs j).toInt) := by
  obtain ⟨cell, h1, h2, h3, h4, h5⟩ := hX
  refine ⟨cell, h1, h2, h3, Nat.le_of_eq h4.symm, by rw [h4], fun j hj => ?_, hA⟩
  rw [h5 j hj]
  show some (Value.int (xs j)) = some (Value.int (Int32.ofInt (xs j).toInt))
  rw [Int32.ofInt_toInt]
end GB

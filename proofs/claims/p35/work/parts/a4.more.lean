/-! ===== more steps of worlds that grow ===== -/
section YZ
variable {Γ : yG} {own : String} {cc : ByteArray} {nL d pc K N k n : Nat} {L : List (Nat × Value)} {st : List Value} {ws : va_W}
theorem y_ra {s : State} {C : String} {c1 c2 : ClassId} (h1 : va_RA s c1 (.object C)) (h2 : va_RA s c2 (.object C)) : c1 = c2 := by
  obtain ⟨_, _, _, _, _, h1⟩ := h1
  obtain ⟨_, _, _, _, _, h2⟩ := h2
  exact Option.some.inj (h1.symm.trans h2)
theorem y_anewL (C : yC Γ own cc nL d K N) {idx : Nat} {v : Int32} {N' : Nat} (hd : decode cc pc = .ok (.anewarray idx, 3)) (hw : Cond.classLink own idx "ModemLink$Line" ∈ wsL_law) (h0 : ¬ v < 0) (hN : v.toNatClampNeg = N') (hb4 : N' * 4 ≤ 536870912) (hk : k + 1 ≤ K) (hn : n + N' ≤ N)
    (h : ∀ q : Nat, yW Γ nL (pc + 3) L (.ref q :: st) (ws ++ [(q, .inl (yDA Γ 2, N', .inr (.inr (.inr (.inr (fun _ => none))))))]) (k + 1) (n + N')) : yW Γ nL pc L (.int v :: st) ws k n := by
  obtain ⟨⟨p, l, e, R, s, m0, args, below, meth, c⟩, ⟨A, dC, dI, dA, sa⟩, Q⟩ := Γ
  obtain ⟨hx, hb, hml, hown, hts, hK, hA, hfr, hce, hT, hX⟩ := C
  intro H locs ls hP hD hS hl
  refine va_newq hx hb hown (hts _ hw) hT.2 hK hP hD hS hA (N' := N') h0 hN hb4 (by omega) (by omega) hd (fun q cA H1 hK1 hP1 hD1 hS1 => ?_)
  obtain rfl : cA = dA 2 := y_ra (hK1.2 7 _ rfl).2 (hK1.2 2 _ rfl).2
  exact h q H1 locs ls hP1 hD1 hS1 hl
theorem y_astL (C : yC Γ own cc nL d K N) {x v N' iN : Nat} {i : Int32} {f : Nat → Option Nat} {fs : List Value} (q0 qk : Nat) (hd : decode cc pc = .ok (.aastore, 1)) (ha : ws[q0]? = some (x, .inl (yDA Γ 2, N', .inr (.inr (.inr (.inr f)))))) (hv : ws[qk]? = some (v, .inr (4, fs))) (hin : vp_in i N') (hiN : i.toNatClampNeg = iN)
    (h : yW Γ nL (pc + 1) L st (ws.set q0 (x, .inl (yDA Γ 2, N', .inr (.inr (.inr (.inr (va_up f iN (some v)))))))) k n) : yW Γ nL pc L (.ref v :: .int i :: .ref x :: st) ws k n := by
  subst hiN
  obtain ⟨⟨p, l, e, R, s, m0, args, below, meth, c⟩, ⟨A, dC, dI, dA, sa⟩, Q⟩ := Γ
  obtain ⟨hx, hb, hml, hown, hts, hK, hA, hfr, hce, hT, hX⟩ := C
  intro H locs ls hP hD hS hl
  exact va_astq hx hb hK hP hD hS q0 2 qk 4 (r := (RX3, TX3, 17)) ha rfl hv rfl hin hd (fun H1 locs1 hP1 hD1 hS1 => h H1 locs1 ls hP1 hD1 hS1 hl)
theorem y_alenL (C : yC Γ own cc nL d K N) {x N' : Nat} {v : Int32} {f : Nat → Option Nat} (q0 : Nat) (hd : decode cc pc = .ok (.arraylength, 1)) (ha : ws[q0]? = some (x, .inl (yDA Γ 2, N', .inr (.inr (.inr (.inr f)))))) (hv : Int32.ofNat N' = v) (h : yW Γ nL (pc + 1) L (.int v :: st) ws k n) : yW Γ nL pc L (.ref x :: st) ws k n := by
  subst hv
  obtain ⟨⟨p, l, e, R, s, m0, args, below, meth, c⟩, ⟨A, dC, dI, dA, sa⟩, Q⟩ := Γ
  obtain ⟨hx, hb, hml, hown, hts, hK, hA, hfr, hce, hT, hX⟩ := C
  intro H locs ls hP hD hS hl
  exact va_alen hx hb hK hP q0 2 ha rfl (v := Int32.ofNat N') rfl hd (h H locs ls hP hD hS hl)
theorem y_iload (C : yC Γ own cc nL d K N) {kk : Fin 4} {i : Nat} {x : Int32} (pl : Nat) (hd : decode cc pc = .ok (.iload_n kk, 1)) (hi : (kk : Nat) = i) (hL : L[pl]? = some (i, .int x)) (h : yW Γ nL (pc + 1) L (.int x :: st) ws k n) : yW Γ nL pc L st ws k n := by
  obtain ⟨⟨p, l, e, R, s, m0, args, below, meth, c⟩, ⟨A, dC, dI, dA, sa⟩, Q⟩ := Γ
  obtain ⟨hx, hb, -⟩ := C
  intro H locs ls hP hD hS hv
  exact lv_iload_n hx hb hd hi (lv_at hv pl hL) (h H locs ls hP hD hS hv)
theorem y_istore (C : yC Γ own cc nL d K N) {kk : Fin 4} {i : Nat} {x : Int32} {L' : List (Nat × Value)} (hd : decode cc pc = .ok (.istore_n kk, 1)) (hi : (kk : Nat) = i) (hn9 : i < nL) (hL : (i, Value.int x) :: L.filter (fun q => !(q.1 == i) && !(q.1 + 1 == i && q.2.category == 2)) = L') (h : yW Γ nL (pc + 1) L' st ws k n) : yW Γ nL pc L (.int x :: st) ws k n := by
  obtain ⟨⟨p, l, e, R, s, m0, args, below, meth, c⟩, ⟨A, dC, dI, dA, sa⟩, Q⟩ := Γ
  obtain ⟨hx, hb, -⟩ := C
  intro H locs ls hP hD hS hv
  exact lv_istore_n hx hb hd hi hv hn9 hL (fun ls' hv' => h H locs ls' hP hD hS hv')
theorem y_iinc (C : yC Γ own cc nL d K N) {i : Nat} {z : Int} {x v : Int32} {L' : List (Nat × Value)} (pl : Nat) (hd : decode cc pc = .ok (.iinc i z, 3)) (hk9 : L[pl]? = some (i, .int x)) (hv9 : x + Int32.ofInt z = v) (hn9 : i < nL) (hL : (i, Value.int v) :: L.filter (fun q => !(q.1 == i) && !(q.1 + 1 == i && q.2.category == 2)) = L') (h : yW Γ nL (pc + 3) L' st ws k n) : yW Γ nL pc L st ws k n := by
  obtain ⟨⟨p, l, e, R, s, m0, args, below, meth, c⟩, ⟨A, dC, dI, dA, sa⟩, Q⟩ := Γ
  obtain ⟨hx, hb, -⟩ := C
  intro H locs ls hP hD hS hv
  exact lv_iinc (k := pl) hx hb hd hv hk9 hv9 hn9 hL (fun ls' hv' => h H locs ls' hP hD hS hv')
theorem y_icmpge (C : yC Γ own cc nL d K N) {x y : Int32} {off : Int} (tgt : Nat) (hd : decode cc pc = .ok (.if_icmp .ge off, 3)) (ht : (pc : Int) + off = (tgt : Int)) (h1 : y ≤ x → yW Γ nL tgt L st ws k n) (h2 : ¬ y ≤ x → yW Γ nL (pc + 3) L st ws k n) : yW Γ nL pc L (.int y :: .int x :: st) ws k n := by
  obtain ⟨⟨p, l, e, R, s, m0, args, below, meth, c⟩, ⟨A, dC, dI, dA, sa⟩, Q⟩ := Γ
  obtain ⟨hx, hb, -⟩ := C
  intro H locs ls hP hD hS hv
  exact lv_icmp_ge hx hb hd ht (fun h => h1 h H locs ls hP hD hS hv) (fun h => h2 h H locs ls hP hD hS hv)
theorem y_goto (C : yC Γ own cc nL d K N) {off : Int} (tgt : Nat) (hd : decode cc pc = .ok (.goto off, 3)) (ht : (pc : Int) + off = (tgt : Int)) (h : yW Γ nL tgt L st ws k n) : yW Γ nL pc L st ws k n := by
  obtain ⟨⟨p, l, e, R, s, m0, args, below, meth, c⟩, ⟨A, dC, dI, dA, sa⟩, Q⟩ := Γ
  obtain ⟨hx, hb, -⟩ := C
  intro H locs ls hP hD hS hv
  exact lv_goto hx hb hd ht (h H locs ls hP hD hS hv)
theorem y_compact (C : yC Γ own cc nL d K N) {idx : Nat} (hd : decode cc pc = .ok (.getstatic idx, 3)) (hw : Cond.fieldLink own idx "java/lang/String" "COMPACT_STRINGS" "Z" ∈ wsL_law) (h : yW Γ nL (pc + 3) L (.int 1 :: st) ws k n) : yW Γ nL pc L st ws k n := by
  obtain ⟨⟨p, l, e, R, s, m0, args, below, meth, c⟩, ⟨A, dC, dI, dA, sa⟩, Q⟩ := Γ
  obtain ⟨hx, hb, hml, hown, hts, hK, hA, hfr, hce, hT, hX⟩ := C
  intro H locs ls hP hD hS hv
  exact va_gets hx hb hX.2 hS hown (hts _ hw) (fun _ h => h) hd (h H locs ls hP hD hS hv)
theorem y_ifeq1 (C : yC Γ own cc nL d K N) {off : Int} (tgt : Nat) (hd : decode cc pc = .ok (.ifCond .eq off, 3)) (ht : (pc : Int) + off = (tgt : Int)) (h : yW Γ nL (pc + 3) L st ws k n) : yW Γ nL pc L (.int 1 :: st) ws k n := by
  obtain ⟨⟨p, l, e, R, s, m0, args, below, meth, c⟩, ⟨A, dC, dI, dA, sa⟩, Q⟩ := Γ
  obtain ⟨hx, hb, -⟩ := C
  intro H locs ls hP hD hS hv
  exact lv_if_eq hx hb hd ht (fun h => absurd h (by decide)) (fun _ => h H locs ls hP hD hS hv)
theorem y_newb (C : yC Γ own cc nL d K N) {v : Int32} {N' : Nat} (hd : decode cc pc = .ok (.newarray .byte, 2)) (hw : Cond.arrayClass .byte ∈ wsL_law) (h0 : ¬ v < 0) (hN : v.toNatClampNeg = N') (hb4 : N' * 1 ≤ 536870912) (hk : k + 1 ≤ K) (hn : n + N' ≤ N)
    (h : ∀ q : Nat, yW Γ nL (pc + 2) L (.ref q :: st) (ws ++ [(q, .inl (yDA Γ 6, N', .inl (fun _ => 0)))]) (k + 1) (n + N')) : yW Γ nL pc L (.int v :: st) ws k n := by
  obtain ⟨⟨p, l, e, R, s, m0, args, below, meth, c⟩, ⟨A, dC, dI, dA, sa⟩, Q⟩ := Γ
  obtain ⟨hx, hb, hml, hown, hts, hK, hA, hfr, hce, hT⟩ := C
  intro H locs ls hP hD hS hl
  refine va_newa (atype := .byte) hx hb (hts _ hw) rfl hK hP hD hS hA (N' := N') (a0 := (N', .inl (fun _ => 0))) (fun _ => rfl) h0 hN hb4 (by omega) (by omega) hd (fun q cA H1 hK1 hP1 hD1 hS1 => ?_)
  have e1 : cA = dA 6 := by
    have h1 : s.vm.findClass ("[" ++ (FieldType.byte).toString) = some cA := (hK1.2 7 _ rfl).2
    have h2 : s.vm.findClass ("[" ++ (FieldType.byte).toString) = some (dA 6) := (hK1.2 6 _ rfl).2
    exact Option.some.inj (h1.symm.trans h2)
  subst e1
  exact h q H1 locs ls hP1 hD1 hS1 hl
/-- a field of the builder of texts, told by the class that declares it -/
def yFJ (own : String) (idx j : Nat) (t : FieldType) : Prop := j < 4 ∧ Cond.fieldLink own idx RJ5 (TJ4 j).2.1 (TJ4 j).2.2.1 ∈ wsL_law ∧ tyJ4 j = t ∧ (TJ4 j).2.2.2 = false ∧ (TJ4 j).1 = RJ5
theorem y_putJ (C : yC Γ own cc nL d K N) {idx j h0 : Nat} {t : FieldType} {v : Value} {fs : List Value} {wr : va_W} (hd : decode cc pc = .ok (.putfield idx, 3)) (hF : yFJ own idx j t) (hnar : narrow t v = v) (hfit : fits t v = true) (hj : j < fs.length)
    (h : yW Γ nL (pc + 3) L st ((h0, .inr (0, fs.set j v)) :: wr) k n) : yW Γ nL pc L (v :: .ref h0 :: st) ((h0, .inr (0, fs)) :: wr) k n := by
  obtain ⟨⟨p, l, e, R, s, m0, args, below, meth, c⟩, ⟨A, dC, dI, dA, sa⟩, Q⟩ := Γ
  obtain ⟨hx, hb, hml, hown, hts, hK, hA, hfr, hce, hT, hX⟩ := C
  obtain ⟨h2, h3, h8, h9, h4⟩ := hF
  intro H locs ls hP hD hS hl
  exact va_put (own := own) (ref := RJ5) (C := RJ4) (T := TJ4) (N := 4) hx hb hts inlJ4 tyJ4 tyJ4_ok nmJ4 hown hK hP hD hS 0 rfl rfl j h2 (hts _ h3) (fun z hz => by rw [h4] at hz; exact hz) h9 (ty := t) (v := v) (by rw [tyJ4_ok j h2, h8]) hnar hfit hj hd (fun H1 locs1 hP1 hD1 hS1 => h H1 locs1 ls hP1 hD1 hS1 hl)
end YZ

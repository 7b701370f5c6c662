/-! ===== what the Statement gives of the start: the constant texts, the statics ===== -/
def l_flat : List Cond := flatC (Cond.and given_1 narrow_1)
theorem l_eqr {args : Array Value} {s : State} {t1 t2 : Term} {a : Nat} (h : (Cond.eq t1 t2).before args s = true) (h1 : t1.eval args s none [] s = some (.ref a)) : t2.eval args s none [] s = some (.ref a) := by
  cases hv : t2.eval args s none [] s with
  | none => simp [Cond.before, Cond.holds, Cond.value, h1, hv] at h
  | some w => cases w <;> simp [Cond.before, Cond.holds, Cond.value, h1, hv] at h ⊢ <;> exact h.symm
/-- a constant text at the start -/
def l_S (A : Nat → Prop) (s : State) (byt : List Int32) (a : Nat) : Prop := va_O "java/lang/String" a A s s.heap ∧ va_OF "java/lang/String" "coder" "B" (.int 0) a A s s.heap ∧ ∃ q : Nat, va_OF "java/lang/String" "value" "[B" (.ref q) a A s s.heap ∧ va_T .byte q byt.length (fun j => .int (byt.getD j 0)) A s s.heap
theorem l_Sof {args : Array Value} {s : State} {A : Nat → Prop} (t : Term) (byt : List Int32) (hN : byt.length < 2 ^ 31) (hex : (Cond.exactly t "java/lang/String").before args s = true) (hco : (Cond.eq (.field t "java/lang/String" "coder" "B") (.int 0)).before args s = true)
    (har : (Cond.arrayOf (.field t "java/lang/String" "value" "[B") .byte).before args s = true) (hle : (Cond.eq (.length (.field t "java/lang/String" "value" "[B")) (.int (Int32.ofNat byt.length))).before args s = true)
    (hel : ∀ j : Nat, j < byt.length → (Cond.eq (.elem (.field t "java/lang/String" "value" "[B") (.int (Int32.ofNat j))) (.int (byt.getD j 0))).before args s = true) (hA : ∀ a : Nat, a < s.heap.size → ¬ A a) :
    ∃ a : Nat, t.eval args s none [] s = some (.ref a) ∧ l_S A s byt a := by
  obtain ⟨a, c, cA, kA, q1, q2, q3, q4, q5, q6, -⟩ := Cond.exactly_spec (args := args) (first := s) (o := none) (s := s) (idx := []) (t := t) (cls := "java/lang/String") hex
  obtain ⟨t9, ht, hT⟩ := va_Tof (f := fun j => .int (byt.getD j 0)) (A := A) hN har (va_eqt hle) (fun j hj => va_eqt (hel j hj)) hA
  exact ⟨a, q1, ⟨cA, q3, q5, by rw [q6]; exact q2, hA a (Array.getElem?_eq_some_iff.mp q3).1⟩, vk_OFof q1 (va_eqt hco) hA, t9, vk_OFof q1 ht hA, hT⟩
theorem l_str_10 {args : Array Value} {s : State} (g : ∀ w ∈ l_flat, w.before args s = true) {A : Nat → Prop} (hA : ∀ a : Nat, a < s.heap.size → ¬ A a) : ∃ a : Nat, (Term.string "ModemLink$SetupReader" 20).eval args s none [] s = some (.ref a) ∧ l_S A s [108, 105, 110, 101] a := by
  refine l_Sof (.string "ModemLink$SetupReader" 20) [108, 105, 110, 101] (by decide) (g _ (List.mem_of_getElem? (i := 29) (by decide +kernel))) (g _ (List.mem_of_getElem? (i := 30) (by decide +kernel))) (g _ (List.mem_of_getElem? (i := 31) (by decide +kernel))) (g _ (List.mem_of_getElem? (i := 32) (by decide +kernel))) (fun j hj => ?_) hA
  rcases (show j = 0 ∨ j = 1 ∨ j = 2 ∨ j = 3 by have : j < 4 := hj; omega) with rfl | rfl | rfl | rfl
  · exact (g _ (List.mem_of_getElem? (i := 33) (by decide +kernel)))
  · exact (g _ (List.mem_of_getElem? (i := 34) (by decide +kernel)))
  · exact (g _ (List.mem_of_getElem? (i := 35) (by decide +kernel)))
  · exact (g _ (List.mem_of_getElem? (i := 36) (by decide +kernel)))
theorem l_str_11 {args : Array Value} {s : State} (g : ∀ w ∈ l_flat, w.before args s = true) {A : Nat → Prop} (hA : ∀ a : Nat, a < s.heap.size → ¬ A a) : ∃ a : Nat, (Term.string "ModemLink$SetupReader" 36).eval args s none [] s = some (.ref a) ∧ l_S A s [114, 97, 116, 101, 115] a := by
  refine l_Sof (.string "ModemLink$SetupReader" 36) [114, 97, 116, 101, 115] (by decide) (g _ (List.mem_of_getElem? (i := 37) (by decide +kernel))) (g _ (List.mem_of_getElem? (i := 38) (by decide +kernel))) (g _ (List.mem_of_getElem? (i := 39) (by decide +kernel))) (g _ (List.mem_of_getElem? (i := 40) (by decide +kernel))) (fun j hj => ?_) hA
  rcases (show j = 0 ∨ j = 1 ∨ j = 2 ∨ j = 3 ∨ j = 4 by have : j < 5 := hj; omega) with rfl | rfl | rfl | rfl | rfl
  · exact (g _ (List.mem_of_getElem? (i := 41) (by decide +kernel)))
  · exact (g _ (List.mem_of_getElem? (i := 42) (by decide +kernel)))
  · exact (g _ (List.mem_of_getElem? (i := 43) (by decide +kernel)))
  · exact (g _ (List.mem_of_getElem? (i := 44) (by decide +kernel)))
  · exact (g _ (List.mem_of_getElem? (i := 45) (by decide +kernel)))
theorem l_str_12 {args : Array Value} {s : State} (g : ∀ w ∈ l_flat, w.before args s = true) {A : Nat → Prop} (hA : ∀ a : Nat, a < s.heap.size → ¬ A a) : ∃ a : Nat, (Term.string "ModemLink$SetupReader" 88).eval args s none [] s = some (.ref a) ∧ l_S A s [116, 114, 97, 105, 110] a := by
  refine l_Sof (.string "ModemLink$SetupReader" 88) [116, 114, 97, 105, 110] (by decide) (g _ (List.mem_of_getElem? (i := 46) (by decide +kernel))) (g _ (List.mem_of_getElem? (i := 47) (by decide +kernel))) (g _ (List.mem_of_getElem? (i := 48) (by decide +kernel))) (g _ (List.mem_of_getElem? (i := 49) (by decide +kernel))) (fun j hj => ?_) hA
  rcases (show j = 0 ∨ j = 1 ∨ j = 2 ∨ j = 3 ∨ j = 4 by have : j < 5 := hj; omega) with rfl | rfl | rfl | rfl | rfl
  · exact (g _ (List.mem_of_getElem? (i := 50) (by decide +kernel)))
  · exact (g _ (List.mem_of_getElem? (i := 51) (by decide +kernel)))
  · exact (g _ (List.mem_of_getElem? (i := 52) (by decide +kernel)))
  · exact (g _ (List.mem_of_getElem? (i := 53) (by decide +kernel)))
  · exact (g _ (List.mem_of_getElem? (i := 54) (by decide +kernel)))
theorem l_str_13 {args : Array Value} {s : State} (g : ∀ w ∈ l_flat, w.before args s = true) {A : Nat → Prop} (hA : ∀ a : Nat, a < s.heap.size → ¬ A a) : ∃ a : Nat, (Term.string "ModemLink$SetupReader" 109).eval args s none [] s = some (.ref a) ∧ l_S A s [114, 101, 116, 114, 105, 101, 115] a := by
  refine l_Sof (.string "ModemLink$SetupReader" 109) [114, 101, 116, 114, 105, 101, 115] (by decide) (g _ (List.mem_of_getElem? (i := 73) (by decide +kernel))) (g _ (List.mem_of_getElem? (i := 74) (by decide +kernel))) (g _ (List.mem_of_getElem? (i := 75) (by decide +kernel))) (g _ (List.mem_of_getElem? (i := 76) (by decide +kernel))) (fun j hj => ?_) hA
  rcases (show j = 0 ∨ j = 1 ∨ j = 2 ∨ j = 3 ∨ j = 4 ∨ j = 5 ∨ j = 6 by have : j < 7 := hj; omega) with rfl | rfl | rfl | rfl | rfl | rfl | rfl
  · exact (g _ (List.mem_of_getElem? (i := 77) (by decide +kernel)))
  · exact (g _ (List.mem_of_getElem? (i := 78) (by decide +kernel)))
  · exact (g _ (List.mem_of_getElem? (i := 79) (by decide +kernel)))
  · exact (g _ (List.mem_of_getElem? (i := 80) (by decide +kernel)))
  · exact (g _ (List.mem_of_getElem? (i := 81) (by decide +kernel)))
  · exact (g _ (List.mem_of_getElem? (i := 82) (by decide +kernel)))
  · exact (g _ (List.mem_of_getElem? (i := 83) (by decide +kernel)))
theorem l_str_14 {args : Array Value} {s : State} (g : ∀ w ∈ l_flat, w.before args s = true) {A : Nat → Prop} (hA : ∀ a : Nat, a < s.heap.size → ¬ A a) : ∃ a : Nat, (Term.string "ModemLink$SetupReader" 113).eval args s none [] s = some (.ref a) ∧ l_S A s [104, 111, 108, 100] a := by
  refine l_Sof (.string "ModemLink$SetupReader" 113) [104, 111, 108, 100] (by decide) (g _ (List.mem_of_getElem? (i := 84) (by decide +kernel))) (g _ (List.mem_of_getElem? (i := 85) (by decide +kernel))) (g _ (List.mem_of_getElem? (i := 86) (by decide +kernel))) (g _ (List.mem_of_getElem? (i := 87) (by decide +kernel))) (fun j hj => ?_) hA
  rcases (show j = 0 ∨ j = 1 ∨ j = 2 ∨ j = 3 by have : j < 4 := hj; omega) with rfl | rfl | rfl | rfl
  · exact (g _ (List.mem_of_getElem? (i := 88) (by decide +kernel)))
  · exact (g _ (List.mem_of_getElem? (i := 89) (by decide +kernel)))
  · exact (g _ (List.mem_of_getElem? (i := 90) (by decide +kernel)))
  · exact (g _ (List.mem_of_getElem? (i := 91) (by decide +kernel)))
theorem l_str_15 {args : Array Value} {s : State} (g : ∀ w ∈ l_flat, w.before args s = true) {A : Nat → Prop} (hA : ∀ a : Nat, a < s.heap.size → ¬ A a) : ∃ a : Nat, (Term.string "ModemLink$SetupReader" 117).eval args s none [] s = some (.ref a) ∧ l_S A s [119, 105, 110, 100, 111, 119] a := by
  refine l_Sof (.string "ModemLink$SetupReader" 117) [119, 105, 110, 100, 111, 119] (by decide) (g _ (List.mem_of_getElem? (i := 92) (by decide +kernel))) (g _ (List.mem_of_getElem? (i := 93) (by decide +kernel))) (g _ (List.mem_of_getElem? (i := 94) (by decide +kernel))) (g _ (List.mem_of_getElem? (i := 95) (by decide +kernel))) (fun j hj => ?_) hA
  rcases (show j = 0 ∨ j = 1 ∨ j = 2 ∨ j = 3 ∨ j = 4 ∨ j = 5 by have : j < 6 := hj; omega) with rfl | rfl | rfl | rfl | rfl | rfl
  · exact (g _ (List.mem_of_getElem? (i := 96) (by decide +kernel)))
  · exact (g _ (List.mem_of_getElem? (i := 97) (by decide +kernel)))
  · exact (g _ (List.mem_of_getElem? (i := 98) (by decide +kernel)))
  · exact (g _ (List.mem_of_getElem? (i := 99) (by decide +kernel)))
  · exact (g _ (List.mem_of_getElem? (i := 100) (by decide +kernel)))
  · exact (g _ (List.mem_of_getElem? (i := 101) (by decide +kernel)))
theorem l_str_16 {args : Array Value} {s : State} (g : ∀ w ∈ l_flat, w.before args s = true) {A : Nat → Prop} (hA : ∀ a : Nat, a < s.heap.size → ¬ A a) : ∃ a : Nat, (Term.string "ModemLink$SetupReader" 96).eval args s none [] s = some (.ref a) ∧ l_S A s [100, 101, 108, 97, 121] a := by
  refine l_Sof (.string "ModemLink$SetupReader" 96) [100, 101, 108, 97, 121] (by decide) (g _ (List.mem_of_getElem? (i := 55) (by decide +kernel))) (g _ (List.mem_of_getElem? (i := 56) (by decide +kernel))) (g _ (List.mem_of_getElem? (i := 57) (by decide +kernel))) (g _ (List.mem_of_getElem? (i := 58) (by decide +kernel))) (fun j hj => ?_) hA
  rcases (show j = 0 ∨ j = 1 ∨ j = 2 ∨ j = 3 ∨ j = 4 by have : j < 5 := hj; omega) with rfl | rfl | rfl | rfl | rfl
  · exact (g _ (List.mem_of_getElem? (i := 59) (by decide +kernel)))
  · exact (g _ (List.mem_of_getElem? (i := 60) (by decide +kernel)))
  · exact (g _ (List.mem_of_getElem? (i := 61) (by decide +kernel)))
  · exact (g _ (List.mem_of_getElem? (i := 62) (by decide +kernel)))
  · exact (g _ (List.mem_of_getElem? (i := 63) (by decide +kernel)))
theorem l_str_17 {args : Array Value} {s : State} (g : ∀ w ∈ l_flat, w.before args s = true) {A : Nat → Prop} (hA : ∀ a : Nat, a < s.heap.size → ¬ A a) : ∃ a : Nat, (Term.string "ModemLink$SetupReader" 121).eval args s none [] s = some (.ref a) ∧ l_S A s [108, 105, 109, 105, 116] a := by
  refine l_Sof (.string "ModemLink$SetupReader" 121) [108, 105, 109, 105, 116] (by decide) (g _ (List.mem_of_getElem? (i := 102) (by decide +kernel))) (g _ (List.mem_of_getElem? (i := 103) (by decide +kernel))) (g _ (List.mem_of_getElem? (i := 104) (by decide +kernel))) (g _ (List.mem_of_getElem? (i := 105) (by decide +kernel))) (fun j hj => ?_) hA
  rcases (show j = 0 ∨ j = 1 ∨ j = 2 ∨ j = 3 ∨ j = 4 by have : j < 5 := hj; omega) with rfl | rfl | rfl | rfl | rfl
  · exact (g _ (List.mem_of_getElem? (i := 106) (by decide +kernel)))
  · exact (g _ (List.mem_of_getElem? (i := 107) (by decide +kernel)))
  · exact (g _ (List.mem_of_getElem? (i := 108) (by decide +kernel)))
  · exact (g _ (List.mem_of_getElem? (i := 109) (by decide +kernel)))
  · exact (g _ (List.mem_of_getElem? (i := 110) (by decide +kernel)))
theorem l_str_18 {args : Array Value} {s : State} (g : ∀ w ∈ l_flat, w.before args s = true) {A : Nat → Prop} (hA : ∀ a : Nat, a < s.heap.size → ¬ A a) : ∃ a : Nat, (Term.string "ModemLink$SetupReader" 125).eval args s none [] s = some (.ref a) ∧ l_S A s [112, 97, 116, 105, 101, 110, 99, 101] a := by
  refine l_Sof (.string "ModemLink$SetupReader" 125) [112, 97, 116, 105, 101, 110, 99, 101] (by decide) (g _ (List.mem_of_getElem? (i := 111) (by decide +kernel))) (g _ (List.mem_of_getElem? (i := 112) (by decide +kernel))) (g _ (List.mem_of_getElem? (i := 113) (by decide +kernel))) (g _ (List.mem_of_getElem? (i := 114) (by decide +kernel))) (fun j hj => ?_) hA
  rcases (show j = 0 ∨ j = 1 ∨ j = 2 ∨ j = 3 ∨ j = 4 ∨ j = 5 ∨ j = 6 ∨ j = 7 by have : j < 8 := hj; omega) with rfl | rfl | rfl | rfl | rfl | rfl | rfl | rfl
  · exact (g _ (List.mem_of_getElem? (i := 115) (by decide +kernel)))
  · exact (g _ (List.mem_of_getElem? (i := 116) (by decide +kernel)))
  · exact (g _ (List.mem_of_getElem? (i := 117) (by decide +kernel)))
  · exact (g _ (List.mem_of_getElem? (i := 118) (by decide +kernel)))
  · exact (g _ (List.mem_of_getElem? (i := 119) (by decide +kernel)))
  · exact (g _ (List.mem_of_getElem? (i := 120) (by decide +kernel)))
  · exact (g _ (List.mem_of_getElem? (i := 121) (by decide +kernel)))
  · exact (g _ (List.mem_of_getElem? (i := 122) (by decide +kernel)))
theorem l_str_19 {args : Array Value} {s : State} (g : ∀ w ∈ l_flat, w.before args s = true) {A : Nat → Prop} (hA : ∀ a : Nat, a < s.heap.size → ¬ A a) : ∃ a : Nat, (Term.string "ModemLink$SetupReader" 101).eval args s none [] s = some (.ref a) ∧ l_S A s [110, 111, 105, 115, 101] a := by
  refine l_Sof (.string "ModemLink$SetupReader" 101) [110, 111, 105, 115, 101] (by decide) (g _ (List.mem_of_getElem? (i := 64) (by decide +kernel))) (g _ (List.mem_of_getElem? (i := 65) (by decide +kernel))) (g _ (List.mem_of_getElem? (i := 66) (by decide +kernel))) (g _ (List.mem_of_getElem? (i := 67) (by decide +kernel))) (fun j hj => ?_) hA
  rcases (show j = 0 ∨ j = 1 ∨ j = 2 ∨ j = 3 ∨ j = 4 by have : j < 5 := hj; omega) with rfl | rfl | rfl | rfl | rfl
  · exact (g _ (List.mem_of_getElem? (i := 68) (by decide +kernel)))
  · exact (g _ (List.mem_of_getElem? (i := 69) (by decide +kernel)))
  · exact (g _ (List.mem_of_getElem? (i := 70) (by decide +kernel)))
  · exact (g _ (List.mem_of_getElem? (i := 71) (by decide +kernel)))
  · exact (g _ (List.mem_of_getElem? (i := 72) (by decide +kernel)))
theorem l_str_26 {args : Array Value} {s : State} (g : ∀ w ∈ l_flat, w.before args s = true) {A : Nat → Prop} (hA : ∀ a : Nat, a < s.heap.size → ¬ A a) : ∃ a : Nat, (Term.string "ModemLinkLaw" 241).eval args s none [] s = some (.ref a) ∧ l_S A s [108, 105, 110, 101, 32, 57, 59, 114, 97, 116, 101, 115, 32, 56, 32, 49, 44, 50, 48, 32, 57, 59, 116, 114, 97, 105, 110, 32, 49, 32, 49, 32, 49, 32, 49, 59, 112, 97, 116, 105, 101, 110, 99, 101, 32, 50, 59] a := by
  refine l_Sof (.string "ModemLinkLaw" 241) [108, 105, 110, 101, 32, 57, 59, 114, 97, 116, 101, 115, 32, 56, 32, 49, 44, 50, 48, 32, 57, 59, 116, 114, 97, 105, 110, 32, 49, 32, 49, 32, 49, 32, 49, 59, 112, 97, 116, 105, 101, 110, 99, 101, 32, 50, 59] (by decide) (g _ (List.mem_of_getElem? (i := 440) (by decide +kernel))) (g _ (List.mem_of_getElem? (i := 441) (by decide +kernel))) (g _ (List.mem_of_getElem? (i := 442) (by decide +kernel))) (g _ (List.mem_of_getElem? (i := 443) (by decide +kernel))) (fun j hj => ?_) hA
  rcases (show j = 0 ∨ j = 1 ∨ j = 2 ∨ j = 3 ∨ j = 4 ∨ j = 5 ∨ j = 6 ∨ j = 7 ∨ j = 8 ∨ j = 9 ∨ j = 10 ∨ j = 11 ∨ j = 12 ∨ j = 13 ∨ j = 14 ∨ j = 15 ∨ j = 16 ∨ j = 17 ∨ j = 18 ∨ j = 19 ∨ j = 20 ∨ j = 21 ∨ j = 22 ∨ j = 23 ∨ j = 24 ∨ j = 25 ∨ j = 26 ∨ j = 27 ∨ j = 28 ∨ j = 29 ∨ j = 30 ∨ j = 31 ∨ j = 32 ∨ j = 33 ∨ j = 34 ∨ j = 35 ∨ j = 36 ∨ j = 37 ∨ j = 38 ∨ j = 39 ∨ j = 40 ∨ j = 41 ∨ j = 42 ∨ j = 43 ∨ j = 44 ∨ j = 45 ∨ j = 46 by have : j < 47 := hj; omega) with rfl | rfl | rfl | rfl | rfl | rfl | rfl | rfl | rfl | rfl | rfl | rfl | rfl | rfl | rfl | rfl | rfl | rfl | rfl | rfl | rfl | rfl | rfl | rfl | rfl | rfl | rfl | rfl | rfl | rfl | rfl | rfl | rfl | rfl | rfl | rfl | rfl | rfl | rfl | rfl | rfl | rfl | rfl | rfl | rfl | rfl | rfl
  · exact (g _ (List.mem_of_getElem? (i := 444) (by decide +kernel)))
  · exact (g _ (List.mem_of_getElem? (i := 445) (by decide +kernel)))
  · exact (g _ (List.mem_of_getElem? (i := 446) (by decide +kernel)))
  · exact (g _ (List.mem_of_getElem? (i := 447) (by decide +kernel)))
  · exact (g _ (List.mem_of_getElem? (i := 448) (by decide +kernel)))
  · exact (g _ (List.mem_of_getElem? (i := 449) (by decide +kernel)))
  · exact (g _ (List.mem_of_getElem? (i := 450) (by decide +kernel)))
  · exact (g _ (List.mem_of_getElem? (i := 451) (by decide +kernel)))
  · exact (g _ (List.mem_of_getElem? (i := 452) (by decide +kernel)))
  · exact (g _ (List.mem_of_getElem? (i := 453) (by decide +kernel)))
  · exact (g _ (List.mem_of_getElem? (i := 454) (by decide +kernel)))
  · exact (g _ (List.mem_of_getElem? (i := 455) (by decide +kernel)))
  · exact (g _ (List.mem_of_getElem? (i := 456) (by decide +kernel)))
  · exact (g _ (List.mem_of_getElem? (i := 457) (by decide +kernel)))
  · exact (g _ (List.mem_of_getElem? (i := 458) (by decide +kernel)))
  · exact (g _ (List.mem_of_getElem? (i := 459) (by decide +kernel)))
  · exact (g _ (List.mem_of_getElem? (i := 460) (by decide +kernel)))
  · exact (g _ (List.mem_of_getElem? (i := 461) (by decide +kernel)))
  · exact (g _ (List.mem_of_getElem? (i := 462) (by decide +kernel)))
  · exact (g _ (List.mem_of_getElem? (i := 463) (by decide +kernel)))
  · exact (g _ (List.mem_of_getElem? (i := 464) (by decide +kernel)))
  · exact (g _ (List.mem_of_getElem? (i := 465) (by decide +kernel)))
  · exact (g _ (List.mem_of_getElem? (i := 466) (by decide +kernel)))
  · exact (g _ (List.mem_of_getElem? (i := 467) (by decide +kernel)))
  · exact (g _ (List.mem_of_getElem? (i := 468) (by decide +kernel)))
  · exact (g _ (List.mem_of_getElem? (i := 469) (by decide +kernel)))
  · exact (g _ (List.mem_of_getElem? (i := 470) (by decide +kernel)))
  · exact (g _ (List.mem_of_getElem? (i := 471) (by decide +kernel)))
  · exact (g _ (List.mem_of_getElem? (i := 472) (by decide +kernel)))
  · exact (g _ (List.mem_of_getElem? (i := 473) (by decide +kernel)))
  · exact (g _ (List.mem_of_getElem? (i := 474) (by decide +kernel)))
  · exact (g _ (List.mem_of_getElem? (i := 475) (by decide +kernel)))
  · exact (g _ (List.mem_of_getElem? (i := 476) (by decide +kernel)))
  · exact (g _ (List.mem_of_getElem? (i := 477) (by decide +kernel)))
  · exact (g _ (List.mem_of_getElem? (i := 478) (by decide +kernel)))
  · exact (g _ (List.mem_of_getElem? (i := 479) (by decide +kernel)))
  · exact (g _ (List.mem_of_getElem? (i := 480) (by decide +kernel)))
  · exact (g _ (List.mem_of_getElem? (i := 481) (by decide +kernel)))
  · exact (g _ (List.mem_of_getElem? (i := 482) (by decide +kernel)))
  · exact (g _ (List.mem_of_getElem? (i := 483) (by decide +kernel)))
  · exact (g _ (List.mem_of_getElem? (i := 484) (by decide +kernel)))
  · exact (g _ (List.mem_of_getElem? (i := 485) (by decide +kernel)))
  · exact (g _ (List.mem_of_getElem? (i := 486) (by decide +kernel)))
  · exact (g _ (List.mem_of_getElem? (i := 487) (by decide +kernel)))
  · exact (g _ (List.mem_of_getElem? (i := 488) (by decide +kernel)))
  · exact (g _ (List.mem_of_getElem? (i := 489) (by decide +kernel)))
  · exact (g _ (List.mem_of_getElem? (i := 490) (by decide +kernel)))
theorem l_str_27 {args : Array Value} {s : State} (g : ∀ w ∈ l_flat, w.before args s = true) {A : Nat → Prop} (hA : ∀ a : Nat, a < s.heap.size → ¬ A a) : ∃ a : Nat, (Term.string "ModemLinkLaw" 243).eval args s none [] s = some (.ref a) ∧ l_S A s [97, 97, 98, 98] a := by
  refine l_Sof (.string "ModemLinkLaw" 243) [97, 97, 98, 98] (by decide) (g _ (List.mem_of_getElem? (i := 491) (by decide +kernel))) (g _ (List.mem_of_getElem? (i := 492) (by decide +kernel))) (g _ (List.mem_of_getElem? (i := 493) (by decide +kernel))) (g _ (List.mem_of_getElem? (i := 494) (by decide +kernel))) (fun j hj => ?_) hA
  rcases (show j = 0 ∨ j = 1 ∨ j = 2 ∨ j = 3 by have : j < 4 := hj; omega) with rfl | rfl | rfl | rfl
  · exact (g _ (List.mem_of_getElem? (i := 495) (by decide +kernel)))
  · exact (g _ (List.mem_of_getElem? (i := 496) (by decide +kernel)))
  · exact (g _ (List.mem_of_getElem? (i := 497) (by decide +kernel)))
  · exact (g _ (List.mem_of_getElem? (i := 498) (by decide +kernel)))

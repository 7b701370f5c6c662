/-! ===== what the Statement gives of the start: the constant texts, the statics ===== -/
def l_flat : List Cond := flatC (Cond.and given_1 narrow_1)
theorem l_eqr {args : Array Value} {s : State} {t1 t2 : Term} {a : Nat} (h : (Cond.eq t1 t2).before args s = true) (h1 : t1.eval args s none [] s = some (.ref a)) : t2.eval args s none [] s = some (.ref a) := by
  cases hv : t2.eval args s none [] s with
  | none => simp [Cond.before, Cond.holds, Cond.value, h1, hv] at h
  | some w => cases w <;> simp [Cond.before, Cond.holds, Cond.value, h1, hv] at h ⊢ <;> exact h.symm
/-- a constant text at the start -/
def l_S (A : Nat → Prop) (s : State) (byt : List Int32) (a : Nat) : Prop := va_O "java/lang/String" a A s s.heap ∧ va_OF "java/lang/String" "coder" "B" (.int 0) a A s s.heap ∧ ∃ q : Nat, va_OF "java/lang/String" "value" "[B" (.ref q) a A s s.heap ∧ va_T .byte q byt.length (fun j => .int (byt.getD j 0)) A s s.heap
theorem l_Sof {args : Array Value} {s : State} {A : Nat → Prop} (t : Term) (byt : List Int32) (hN : byt.length < 2 ^ 31) (hex : (Cond.exactly t "java/lang/String").before args s = true) (hco : (Cond.eq (.field t "java/lang/String" "coder" "B") (.int 0)).before args s = true)
    (har : (Cond.arrayOf (.field t "java/lang/String" "value" "[B") .byte).before args s = true) (hle : (Cond.eq (.length (.field t "java/lang/String" "value" "[B")) (.int (Int32.ofNat byt.length))).before args s = true)
    (hel : ∀ j : Nat, j < byt.length → (Cond.eq (.elem (.field t "java/lang/String" "value" "[B") (.int (Int32.ofNat j))) (.int (byt.getD j 0))).before args s = true) (hA : ∀ a : Nat, a < s.heap.size → ¬ A a) :
    ∃ a : Nat, t.eval args s none [] s = some (.ref a) ∧ l_S A s byt a := by
  obtain ⟨a, c, cA, kA, q1, q2, q3, q4, q5, q6, -⟩ := Cond.exactly_spec (args := args) (first := s) (o := none) (s := s) (idx := []) (t := t) (cls := "java/lang/String") hex
  obtain ⟨t9, ht, hT⟩ := va_Tof (f := fun j => .int (byt.getD j 0)) (A := A) hN har (va_eqt hle) (fun j hj => va_eqt (hel j hj)) hA
  exact ⟨a, q1, ⟨cA, q3, q5, by rw [q6]; exact q2, hA a (Array.getElem?_eq_some_iff.mp q3).1⟩, vk_OFof q1 (va_eqt hco) hA, t9, vk_OFof q1 ht hA, hT⟩
theorem l_str_0 {args : Array Value} {s : State} (g : ∀ w ∈ l_flat, w.before args s = true) {A : Nat → Prop} (hA : ∀ a : Nat, a < s.heap.size → ¬ A a) : ∃ a : Nat, (Term.string "ModemLink$QueryReader" 100).eval args s none [] s = some (.ref a) ∧ l_S A s [101, 118, 101, 110, 116] a := by
  refine l_Sof (.string "ModemLink$QueryReader" 100) [101, 118, 101, 110, 116] (by decide) (g _ (List.mem_of_getElem? (i := 706) (by decide +kernel))) (g _ (List.mem_of_getElem? (i := 707) (by decide +kernel))) (g _ (List.mem_of_getElem? (i := 708) (by decide +kernel))) (g _ (List.mem_of_getElem? (i := 709) (by decide +kernel))) (fun j hj => ?_) hA
  rcases (show j = 0 ∨ j = 1 ∨ j = 2 ∨ j = 3 ∨ j = 4 by have : j < 5 := hj; omega) with rfl | rfl | rfl | rfl | rfl
  · exact (g _ (List.mem_of_getElem? (i := 710) (by decide +kernel)))
  · exact (g _ (List.mem_of_getElem? (i := 711) (by decide +kernel)))
  · exact (g _ (List.mem_of_getElem? (i := 712) (by decide +kernel)))
  · exact (g _ (List.mem_of_getElem? (i := 713) (by decide +kernel)))
  · exact (g _ (List.mem_of_getElem? (i := 714) (by decide +kernel)))
theorem l_str_1 {args : Array Value} {s : State} (g : ∀ w ∈ l_flat, w.before args s = true) {A : Nat → Prop} (hA : ∀ a : Nat, a < s.heap.size → ¬ A a) : ∃ a : Nat, (Term.string "ModemLink$QueryReader" 102).eval args s none [] s = some (.ref a) ∧ l_S A s [116, 105, 99, 107] a := by
  refine l_Sof (.string "ModemLink$QueryReader" 102) [116, 105, 99, 107] (by decide) (g _ (List.mem_of_getElem? (i := 715) (by decide +kernel))) (g _ (List.mem_of_getElem? (i := 716) (by decide +kernel))) (g _ (List.mem_of_getElem? (i := 717) (by decide +kernel))) (g _ (List.mem_of_getElem? (i := 718) (by decide +kernel))) (fun j hj => ?_) hA
  rcases (show j = 0 ∨ j = 1 ∨ j = 2 ∨ j = 3 by have : j < 4 := hj; omega) with rfl | rfl | rfl | rfl
  · exact (g _ (List.mem_of_getElem? (i := 719) (by decide +kernel)))
  · exact (g _ (List.mem_of_getElem? (i := 720) (by decide +kernel)))
  · exact (g _ (List.mem_of_getElem? (i := 721) (by decide +kernel)))
  · exact (g _ (List.mem_of_getElem? (i := 722) (by decide +kernel)))
theorem l_str_2 {args : Array Value} {s : State} (g : ∀ w ∈ l_flat, w.before args s = true) {A : Nat → Prop} (hA : ∀ a : Nat, a < s.heap.size → ¬ A a) : ∃ a : Nat, (Term.string "ModemLink$QueryReader" 104).eval args s none [] s = some (.ref a) ∧ l_S A s [107, 105, 110, 100] a := by
  refine l_Sof (.string "ModemLink$QueryReader" 104) [107, 105, 110, 100] (by decide) (g _ (List.mem_of_getElem? (i := 723) (by decide +kernel))) (g _ (List.mem_of_getElem? (i := 724) (by decide +kernel))) (g _ (List.mem_of_getElem? (i := 725) (by decide +kernel))) (g _ (List.mem_of_getElem? (i := 726) (by decide +kernel))) (fun j hj => ?_) hA
  rcases (show j = 0 ∨ j = 1 ∨ j = 2 ∨ j = 3 by have : j < 4 := hj; omega) with rfl | rfl | rfl | rfl
  · exact (g _ (List.mem_of_getElem? (i := 727) (by decide +kernel)))
  · exact (g _ (List.mem_of_getElem? (i := 728) (by decide +kernel)))
  · exact (g _ (List.mem_of_getElem? (i := 729) (by decide +kernel)))
  · exact (g _ (List.mem_of_getElem? (i := 730) (by decide +kernel)))
theorem l_str_3 {args : Array Value} {s : State} (g : ∀ w ∈ l_flat, w.before args s = true) {A : Nat → Prop} (hA : ∀ a : Nat, a < s.heap.size → ¬ A a) : ∃ a : Nat, (Term.string "ModemLink$QueryReader" 105).eval args s none [] s = some (.ref a) ∧ l_S A s [101, 110, 100] a := by
  refine l_Sof (.string "ModemLink$QueryReader" 105) [101, 110, 100] (by decide) (g _ (List.mem_of_getElem? (i := 731) (by decide +kernel))) (g _ (List.mem_of_getElem? (i := 732) (by decide +kernel))) (g _ (List.mem_of_getElem? (i := 733) (by decide +kernel))) (g _ (List.mem_of_getElem? (i := 734) (by decide +kernel))) (fun j hj => ?_) hA
  rcases (show j = 0 ∨ j = 1 ∨ j = 2 by have : j < 3 := hj; omega) with rfl | rfl | rfl
  · exact (g _ (List.mem_of_getElem? (i := 735) (by decide +kernel)))
  · exact (g _ (List.mem_of_getElem? (i := 736) (by decide +kernel)))
  · exact (g _ (List.mem_of_getElem? (i := 737) (by decide +kernel)))
theorem l_str_4 {args : Array Value} {s : State} (g : ∀ w ∈ l_flat, w.before args s = true) {A : Nat → Prop} (hA : ∀ a : Nat, a < s.heap.size → ¬ A a) : ∃ a : Nat, (Term.string "ModemLink$QueryReader" 107).eval args s none [] s = some (.ref a) ∧ l_S A s [114, 97, 116, 101] a := by
  refine l_Sof (.string "ModemLink$QueryReader" 107) [114, 97, 116, 101] (by decide) (g _ (List.mem_of_getElem? (i := 738) (by decide +kernel))) (g _ (List.mem_of_getElem? (i := 739) (by decide +kernel))) (g _ (List.mem_of_getElem? (i := 740) (by decide +kernel))) (g _ (List.mem_of_getElem? (i := 741) (by decide +kernel))) (fun j hj => ?_) hA
  rcases (show j = 0 ∨ j = 1 ∨ j = 2 ∨ j = 3 by have : j < 4 := hj; omega) with rfl | rfl | rfl | rfl
  · exact (g _ (List.mem_of_getElem? (i := 742) (by decide +kernel)))
  · exact (g _ (List.mem_of_getElem? (i := 743) (by decide +kernel)))
  · exact (g _ (List.mem_of_getElem? (i := 744) (by decide +kernel)))
  · exact (g _ (List.mem_of_getElem? (i := 745) (by decide +kernel)))
theorem l_str_5 {args : Array Value} {s : State} (g : ∀ w ∈ l_flat, w.before args s = true) {A : Nat → Prop} (hA : ∀ a : Nat, a < s.heap.size → ¬ A a) : ∃ a : Nat, (Term.string "ModemLink$QueryReader" 27).eval args s none [] s = some (.ref a) ∧ l_S A s [102, 105, 114, 115, 116] a := by
  refine l_Sof (.string "ModemLink$QueryReader" 27) [102, 105, 114, 115, 116] (by decide) (g _ (List.mem_of_getElem? (i := 690) (by decide +kernel))) (g _ (List.mem_of_getElem? (i := 691) (by decide +kernel))) (g _ (List.mem_of_getElem? (i := 692) (by decide +kernel))) (g _ (List.mem_of_getElem? (i := 693) (by decide +kernel))) (fun j hj => ?_) hA
  rcases (show j = 0 ∨ j = 1 ∨ j = 2 ∨ j = 3 ∨ j = 4 by have : j < 5 := hj; omega) with rfl | rfl | rfl | rfl | rfl
  · exact (g _ (List.mem_of_getElem? (i := 694) (by decide +kernel)))
  · exact (g _ (List.mem_of_getElem? (i := 695) (by decide +kernel)))
  · exact (g _ (List.mem_of_getElem? (i := 696) (by decide +kernel)))
  · exact (g _ (List.mem_of_getElem? (i := 697) (by decide +kernel)))
  · exact (g _ (List.mem_of_getElem? (i := 698) (by decide +kernel)))
theorem l_str_6 {args : Array Value} {s : State} (g : ∀ w ∈ l_flat, w.before args s = true) {A : Nat → Prop} (hA : ∀ a : Nat, a < s.heap.size → ¬ A a) : ∃ a : Nat, (Term.string "ModemLink$QueryReader" 19).eval args s none [] s = some (.ref a) ∧ l_S A s [109, 97, 110, 121] a := by
  refine l_Sof (.string "ModemLink$QueryReader" 19) [109, 97, 110, 121] (by decide) (g _ (List.mem_of_getElem? (i := 682) (by decide +kernel))) (g _ (List.mem_of_getElem? (i := 683) (by decide +kernel))) (g _ (List.mem_of_getElem? (i := 684) (by decide +kernel))) (g _ (List.mem_of_getElem? (i := 685) (by decide +kernel))) (fun j hj => ?_) hA
  rcases (show j = 0 ∨ j = 1 ∨ j = 2 ∨ j = 3 by have : j < 4 := hj; omega) with rfl | rfl | rfl | rfl
  · exact (g _ (List.mem_of_getElem? (i := 686) (by decide +kernel)))
  · exact (g _ (List.mem_of_getElem? (i := 687) (by decide +kernel)))
  · exact (g _ (List.mem_of_getElem? (i := 688) (by decide +kernel)))
  · exact (g _ (List.mem_of_getElem? (i := 689) (by decide +kernel)))
theorem l_str_7 {args : Array Value} {s : State} (g : ∀ w ∈ l_flat, w.before args s = true) {A : Nat → Prop} (hA : ∀ a : Nat, a < s.heap.size → ¬ A a) : ∃ a : Nat, (Term.string "ModemLink$QueryReader" 56).eval args s none [] s = some (.ref a) ∧ l_S A s [111, 114] a := by
  refine l_Sof (.string "ModemLink$QueryReader" 56) [111, 114] (by decide) (g _ (List.mem_of_getElem? (i := 753) (by decide +kernel))) (g _ (List.mem_of_getElem? (i := 754) (by decide +kernel))) (g _ (List.mem_of_getElem? (i := 755) (by decide +kernel))) (g _ (List.mem_of_getElem? (i := 756) (by decide +kernel))) (fun j hj => ?_) hA
  rcases (show j = 0 ∨ j = 1 by have : j < 2 := hj; omega) with rfl | rfl
  · exact (g _ (List.mem_of_getElem? (i := 757) (by decide +kernel)))
  · exact (g _ (List.mem_of_getElem? (i := 758) (by decide +kernel)))
theorem l_str_8 {args : Array Value} {s : State} (g : ∀ w ∈ l_flat, w.before args s = true) {A : Nat → Prop} (hA : ∀ a : Nat, a < s.heap.size → ¬ A a) : ∃ a : Nat, (Term.string "ModemLink$QueryReader" 61).eval args s none [] s = some (.ref a) ∧ l_S A s [97, 110, 100] a := by
  refine l_Sof (.string "ModemLink$QueryReader" 61) [97, 110, 100] (by decide) (g _ (List.mem_of_getElem? (i := 746) (by decide +kernel))) (g _ (List.mem_of_getElem? (i := 747) (by decide +kernel))) (g _ (List.mem_of_getElem? (i := 748) (by decide +kernel))) (g _ (List.mem_of_getElem? (i := 749) (by decide +kernel))) (fun j hj => ?_) hA
  rcases (show j = 0 ∨ j = 1 ∨ j = 2 by have : j < 3 := hj; omega) with rfl | rfl | rfl
  · exact (g _ (List.mem_of_getElem? (i := 750) (by decide +kernel)))
  · exact (g _ (List.mem_of_getElem? (i := 751) (by decide +kernel)))
  · exact (g _ (List.mem_of_getElem? (i := 752) (by decide +kernel)))
theorem l_str_9 {args : Array Value} {s : State} (g : ∀ w ∈ l_flat, w.before args s = true) {A : Nat → Prop} (hA : ∀ a : Nat, a < s.heap.size → ¬ A a) : ∃ a : Nat, (Term.string "ModemLink$QueryReader" 63).eval args s none [] s = some (.ref a) ∧ l_S A s [110, 111, 116] a := by
  refine l_Sof (.string "ModemLink$QueryReader" 63) [110, 111, 116] (by decide) (g _ (List.mem_of_getElem? (i := 699) (by decide +kernel))) (g _ (List.mem_of_getElem? (i := 700) (by decide +kernel))) (g _ (List.mem_of_getElem? (i := 701) (by decide +kernel))) (g _ (List.mem_of_getElem? (i := 702) (by decide +kernel))) (fun j hj => ?_) hA
  rcases (show j = 0 ∨ j = 1 ∨ j = 2 by have : j < 3 := hj; omega) with rfl | rfl | rfl
  · exact (g _ (List.mem_of_getElem? (i := 703) (by decide +kernel)))
  · exact (g _ (List.mem_of_getElem? (i := 704) (by decide +kernel)))
  · exact (g _ (List.mem_of_getElem? (i := 705) (by decide +kernel)))
theorem l_str_10 {args : Array Value} {s : State} (g : ∀ w ∈ l_flat, w.before args s = true) {A : Nat → Prop} (hA : ∀ a : Nat, a < s.heap.size → ¬ A a) : ∃ a : Nat, (Term.string "ModemLink$SetupReader" 20).eval args s none [] s = some (.ref a) ∧ l_S A s [108, 105, 110, 101] a := by
  refine l_Sof (.string "ModemLink$SetupReader" 20) [108, 105, 110, 101] (by decide) (g _ (List.mem_of_getElem? (i := 347) (by decide +kernel))) (g _ (List.mem_of_getElem? (i := 348) (by decide +kernel))) (g _ (List.mem_of_getElem? (i := 349) (by decide +kernel))) (g _ (List.mem_of_getElem? (i := 350) (by decide +kernel))) (fun j hj => ?_) hA
  rcases (show j = 0 ∨ j = 1 ∨ j = 2 ∨ j = 3 by have : j < 4 := hj; omega) with rfl | rfl | rfl | rfl
  · exact (g _ (List.mem_of_getElem? (i := 351) (by decide +kernel)))
  · exact (g _ (List.mem_of_getElem? (i := 352) (by decide +kernel)))
  · exact (g _ (List.mem_of_getElem? (i := 353) (by decide +kernel)))
  · exact (g _ (List.mem_of_getElem? (i := 354) (by decide +kernel)))
theorem l_str_11 {args : Array Value} {s : State} (g : ∀ w ∈ l_flat, w.before args s = true) {A : Nat → Prop} (hA : ∀ a : Nat, a < s.heap.size → ¬ A a) : ∃ a : Nat, (Term.string "ModemLink$SetupReader" 36).eval args s none [] s = some (.ref a) ∧ l_S A s [114, 97, 116, 101, 115] a := by
  refine l_Sof (.string "ModemLink$SetupReader" 36) [114, 97, 116, 101, 115] (by decide) (g _ (List.mem_of_getElem? (i := 355) (by decide +kernel))) (g _ (List.mem_of_getElem? (i := 356) (by decide +kernel))) (g _ (List.mem_of_getElem? (i := 357) (by decide +kernel))) (g _ (List.mem_of_getElem? (i := 358) (by decide +kernel))) (fun j hj => ?_) hA
  rcases (show j = 0 ∨ j = 1 ∨ j = 2 ∨ j = 3 ∨ j = 4 by have : j < 5 := hj; omega) with rfl | rfl | rfl | rfl | rfl
  · exact (g _ (List.mem_of_getElem? (i := 359) (by decide +kernel)))
  · exact (g _ (List.mem_of_getElem? (i := 360) (by decide +kernel)))
  · exact (g _ (List.mem_of_getElem? (i := 361) (by decide +kernel)))
  · exact (g _ (List.mem_of_getElem? (i := 362) (by decide +kernel)))
  · exact (g _ (List.mem_of_getElem? (i := 363) (by decide +kernel)))
theorem l_str_12 {args : Array Value} {s : State} (g : ∀ w ∈ l_flat, w.before args s = true) {A : Nat → Prop} (hA : ∀ a : Nat, a < s.heap.size → ¬ A a) : ∃ a : Nat, (Term.string "ModemLink$SetupReader" 88).eval args s none [] s = some (.ref a) ∧ l_S A s [116, 114, 97, 105, 110] a := by
  refine l_Sof (.string "ModemLink$SetupReader" 88) [116, 114, 97, 105, 110] (by decide) (g _ (List.mem_of_getElem? (i := 364) (by decide +kernel))) (g _ (List.mem_of_getElem? (i := 365) (by decide +kernel))) (g _ (List.mem_of_getElem? (i := 366) (by decide +kernel))) (g _ (List.mem_of_getElem? (i := 367) (by decide +kernel))) (fun j hj => ?_) hA
  rcases (show j = 0 ∨ j = 1 ∨ j = 2 ∨ j = 3 ∨ j = 4 by have : j < 5 := hj; omega) with rfl | rfl | rfl | rfl | rfl
  · exact (g _ (List.mem_of_getElem? (i := 368) (by decide +kernel)))
  · exact (g _ (List.mem_of_getElem? (i := 369) (by decide +kernel)))
  · exact (g _ (List.mem_of_getElem? (i := 370) (by decide +kernel)))
  · exact (g _ (List.mem_of_getElem? (i := 371) (by decide +kernel)))
  · exact (g _ (List.mem_of_getElem? (i := 372) (by decide +kernel)))
theorem l_str_13 {args : Array Value} {s : State} (g : ∀ w ∈ l_flat, w.before args s = true) {A : Nat → Prop} (hA : ∀ a : Nat, a < s.heap.size → ¬ A a) : ∃ a : Nat, (Term.string "ModemLink$SetupReader" 109).eval args s none [] s = some (.ref a) ∧ l_S A s [114, 101, 116, 114, 105, 101, 115] a := by
  refine l_Sof (.string "ModemLink$SetupReader" 109) [114, 101, 116, 114, 105, 101, 115] (by decide) (g _ (List.mem_of_getElem? (i := 391) (by decide +kernel))) (g _ (List.mem_of_getElem? (i := 392) (by decide +kernel))) (g _ (List.mem_of_getElem? (i := 393) (by decide +kernel))) (g _ (List.mem_of_getElem? (i := 394) (by decide +kernel))) (fun j hj => ?_) hA
  rcases (show j = 0 ∨ j = 1 ∨ j = 2 ∨ j = 3 ∨ j = 4 ∨ j = 5 ∨ j = 6 by have : j < 7 := hj; omega) with rfl | rfl | rfl | rfl | rfl | rfl | rfl
  · exact (g _ (List.mem_of_getElem? (i := 395) (by decide +kernel)))
  · exact (g _ (List.mem_of_getElem? (i := 396) (by decide +kernel)))
  · exact (g _ (List.mem_of_getElem? (i := 397) (by decide +kernel)))
  · exact (g _ (List.mem_of_getElem? (i := 398) (by decide +kernel)))
  · exact (g _ (List.mem_of_getElem? (i := 399) (by decide +kernel)))
  · exact (g _ (List.mem_of_getElem? (i := 400) (by decide +kernel)))
  · exact (g _ (List.mem_of_getElem? (i := 401) (by decide +kernel)))
theorem l_str_14 {args : Array Value} {s : State} (g : ∀ w ∈ l_flat, w.before args s = true) {A : Nat → Prop} (hA : ∀ a : Nat, a < s.heap.size → ¬ A a) : ∃ a : Nat, (Term.string "ModemLink$SetupReader" 113).eval args s none [] s = some (.ref a) ∧ l_S A s [104, 111, 108, 100] a := by
  refine l_Sof (.string "ModemLink$SetupReader" 113) [104, 111, 108, 100] (by decide) (g _ (List.mem_of_getElem? (i := 402) (by decide +kernel))) (g _ (List.mem_of_getElem? (i := 403) (by decide +kernel))) (g _ (List.mem_of_getElem? (i := 404) (by decide +kernel))) (g _ (List.mem_of_getElem? (i := 405) (by decide +kernel))) (fun j hj => ?_) hA
  rcases (show j = 0 ∨ j = 1 ∨ j = 2 ∨ j = 3 by have : j < 4 := hj; omega) with rfl | rfl | rfl | rfl
  · exact (g _ (List.mem_of_getElem? (i := 406) (by decide +kernel)))
  · exact (g _ (List.mem_of_getElem? (i := 407) (by decide +kernel)))
  · exact (g _ (List.mem_of_getElem? (i := 408) (by decide +kernel)))
  · exact (g _ (List.mem_of_getElem? (i := 409) (by decide +kernel)))
theorem l_str_15 {args : Array Value} {s : State} (g : ∀ w ∈ l_flat, w.before args s = true) {A : Nat → Prop} (hA : ∀ a : Nat, a < s.heap.size → ¬ A a) : ∃ a : Nat, (Term.string "ModemLink$SetupReader" 117).eval args s none [] s = some (.ref a) ∧ l_S A s [119, 105, 110, 100, 111, 119] a := by
  refine l_Sof (.string "ModemLink$SetupReader" 117) [119, 105, 110, 100, 111, 119] (by decide) (g _ (List.mem_of_getElem? (i := 410) (by decide +kernel))) (g _ (List.mem_of_getElem? (i := 411) (by decide +kernel))) (g _ (List.mem_of_getElem? (i := 412) (by decide +kernel))) (g _ (List.mem_of_getElem? (i := 413) (by decide +kernel))) (fun j hj => ?_) hA
  rcases (show j = 0 ∨ j = 1 ∨ j = 2 ∨ j = 3 ∨ j = 4 ∨ j = 5 by have : j < 6 := hj; omega) with rfl | rfl | rfl | rfl | rfl | rfl
  · exact (g _ (List.mem_of_getElem? (i := 414) (by decide +kernel)))
  · exact (g _ (List.mem_of_getElem? (i := 415) (by decide +kernel)))
  · exact (g _ (List.mem_of_getElem? (i := 416) (by decide +kernel)))
  · exact (g _ (List.mem_of_getElem? (i := 417) (by decide +kernel)))
  · exact (g _ (List.mem_of_getElem? (i := 418) (by decide +kernel)))
  · exact (g _ (List.mem_of_getElem? (i := 419) (by decide +kernel)))
theorem l_str_16 {args : Array Value} {s : State} (g : ∀ w ∈ l_flat, w.before args s = true) {A : Nat → Prop} (hA : ∀ a : Nat, a < s.heap.size → ¬ A a) : ∃ a : Nat, (Term.string "ModemLink$SetupReader" 96).eval args s none [] s = some (.ref a) ∧ l_S A s [100, 101, 108, 97, 121] a := by
  refine l_Sof (.string "ModemLink$SetupReader" 96) [100, 101, 108, 97, 121] (by decide) (g _ (List.mem_of_getElem? (i := 373) (by decide +kernel))) (g _ (List.mem_of_getElem? (i := 374) (by decide +kernel))) (g _ (List.mem_of_getElem? (i := 375) (by decide +kernel))) (g _ (List.mem_of_getElem? (i := 376) (by decide +kernel))) (fun j hj => ?_) hA
  rcases (show j = 0 ∨ j = 1 ∨ j = 2 ∨ j = 3 ∨ j = 4 by have : j < 5 := hj; omega) with rfl | rfl | rfl | rfl | rfl
  · exact (g _ (List.mem_of_getElem? (i := 377) (by decide +kernel)))
  · exact (g _ (List.mem_of_getElem? (i := 378) (by decide +kernel)))
  · exact (g _ (List.mem_of_getElem? (i := 379) (by decide +kernel)))
  · exact (g _ (List.mem_of_getElem? (i := 380) (by decide +kernel)))
  · exact (g _ (List.mem_of_getElem? (i := 381) (by decide +kernel)))
theorem l_str_17 {args : Array Value} {s : State} (g : ∀ w ∈ l_flat, w.before args s = true) {A : Nat → Prop} (hA : ∀ a : Nat, a < s.heap.size → ¬ A a) : ∃ a : Nat, (Term.string "ModemLink$SetupReader" 121).eval args s none [] s = some (.ref a) ∧ l_S A s [108, 105, 109, 105, 116] a := by
  refine l_Sof (.string "ModemLink$SetupReader" 121) [108, 105, 109, 105, 116] (by decide) (g _ (List.mem_of_getElem? (i := 420) (by decide +kernel))) (g _ (List.mem_of_getElem? (i := 421) (by decide +kernel))) (g _ (List.mem_of_getElem? (i := 422) (by decide +kernel))) (g _ (List.mem_of_getElem? (i := 423) (by decide +kernel))) (fun j hj => ?_) hA
  rcases (show j = 0 ∨ j = 1 ∨ j = 2 ∨ j = 3 ∨ j = 4 by have : j < 5 := hj; omega) with rfl | rfl | rfl | rfl | rfl
  · exact (g _ (List.mem_of_getElem? (i := 424) (by decide +kernel)))
  · exact (g _ (List.mem_of_getElem? (i := 425) (by decide +kernel)))
  · exact (g _ (List.mem_of_getElem? (i := 426) (by decide +kernel)))
  · exact (g _ (List.mem_of_getElem? (i := 427) (by decide +kernel)))
  · exact (g _ (List.mem_of_getElem? (i := 428) (by decide +kernel)))
theorem l_str_18 {args : Array Value} {s : State} (g : ∀ w ∈ l_flat, w.before args s = true) {A : Nat → Prop} (hA : ∀ a : Nat, a < s.heap.size → ¬ A a) : ∃ a : Nat, (Term.string "ModemLink$SetupReader" 125).eval args s none [] s = some (.ref a) ∧ l_S A s [112, 97, 116, 105, 101, 110, 99, 101] a := by
  refine l_Sof (.string "ModemLink$SetupReader" 125) [112, 97, 116, 105, 101, 110, 99, 101] (by decide) (g _ (List.mem_of_getElem? (i := 429) (by decide +kernel))) (g _ (List.mem_of_getElem? (i := 430) (by decide +kernel))) (g _ (List.mem_of_getElem? (i := 431) (by decide +kernel))) (g _ (List.mem_of_getElem? (i := 432) (by decide +kernel))) (fun j hj => ?_) hA
  rcases (show j = 0 ∨ j = 1 ∨ j = 2 ∨ j = 3 ∨ j = 4 ∨ j = 5 ∨ j = 6 ∨ j = 7 by have : j < 8 := hj; omega) with rfl | rfl | rfl | rfl | rfl | rfl | rfl | rfl
  · exact (g _ (List.mem_of_getElem? (i := 433) (by decide +kernel)))
  · exact (g _ (List.mem_of_getElem? (i := 434) (by decide +kernel)))
  · exact (g _ (List.mem_of_getElem? (i := 435) (by decide +kernel)))
  · exact (g _ (List.mem_of_getElem? (i := 436) (by decide +kernel)))
  · exact (g _ (List.mem_of_getElem? (i := 437) (by decide +kernel)))
  · exact (g _ (List.mem_of_getElem? (i := 438) (by decide +kernel)))
  · exact (g _ (List.mem_of_getElem? (i := 439) (by decide +kernel)))
  · exact (g _ (List.mem_of_getElem? (i := 440) (by decide +kernel)))
theorem l_str_19 {args : Array Value} {s : State} (g : ∀ w ∈ l_flat, w.before args s = true) {A : Nat → Prop} (hA : ∀ a : Nat, a < s.heap.size → ¬ A a) : ∃ a : Nat, (Term.string "ModemLink$SetupReader" 101).eval args s none [] s = some (.ref a) ∧ l_S A s [110, 111, 105, 115, 101] a := by
  refine l_Sof (.string "ModemLink$SetupReader" 101) [110, 111, 105, 115, 101] (by decide) (g _ (List.mem_of_getElem? (i := 382) (by decide +kernel))) (g _ (List.mem_of_getElem? (i := 383) (by decide +kernel))) (g _ (List.mem_of_getElem? (i := 384) (by decide +kernel))) (g _ (List.mem_of_getElem? (i := 385) (by decide +kernel))) (fun j hj => ?_) hA
  rcases (show j = 0 ∨ j = 1 ∨ j = 2 ∨ j = 3 ∨ j = 4 by have : j < 5 := hj; omega) with rfl | rfl | rfl | rfl | rfl
  · exact (g _ (List.mem_of_getElem? (i := 386) (by decide +kernel)))
  · exact (g _ (List.mem_of_getElem? (i := 387) (by decide +kernel)))
  · exact (g _ (List.mem_of_getElem? (i := 388) (by decide +kernel)))
  · exact (g _ (List.mem_of_getElem? (i := 389) (by decide +kernel)))
  · exact (g _ (List.mem_of_getElem? (i := 390) (by decide +kernel)))
theorem l_str_20 {args : Array Value} {s : State} (g : ∀ w ∈ l_flat, w.before args s = true) {A : Nat → Prop} (hA : ∀ a : Nat, a < s.heap.size → ¬ A a) : ∃ a : Nat, (Term.string "ModemLink" 346).eval args s none [] s = some (.ref a) ∧ l_S A s [105, 100, 108, 101] a := by
  refine l_Sof (.string "ModemLink" 346) [105, 100, 108, 101] (by decide) (g _ (List.mem_of_getElem? (i := 321) (by decide +kernel))) (g _ (List.mem_of_getElem? (i := 322) (by decide +kernel))) (g _ (List.mem_of_getElem? (i := 323) (by decide +kernel))) (g _ (List.mem_of_getElem? (i := 324) (by decide +kernel))) (fun j hj => ?_) hA
  rcases (show j = 0 ∨ j = 1 ∨ j = 2 ∨ j = 3 by have : j < 4 := hj; omega) with rfl | rfl | rfl | rfl
  · exact (g _ (List.mem_of_getElem? (i := 325) (by decide +kernel)))
  · exact (g _ (List.mem_of_getElem? (i := 326) (by decide +kernel)))
  · exact (g _ (List.mem_of_getElem? (i := 327) (by decide +kernel)))
  · exact (g _ (List.mem_of_getElem? (i := 328) (by decide +kernel)))
theorem l_str_21 {args : Array Value} {s : State} (g : ∀ w ∈ l_flat, w.before args s = true) {A : Nat → Prop} (hA : ∀ a : Nat, a < s.heap.size → ¬ A a) : ∃ a : Nat, (Term.string "ModemLinkModel" 260).eval args s none [] s = some (.ref a) ∧ l_S A s [116, 114, 97, 105, 110, 105, 110, 103] a := by
  refine l_Sof (.string "ModemLinkModel" 260) [116, 114, 97, 105, 110, 105, 110, 103] (by decide) (g _ (List.mem_of_getElem? (i := 813) (by decide +kernel))) (g _ (List.mem_of_getElem? (i := 814) (by decide +kernel))) (g _ (List.mem_of_getElem? (i := 815) (by decide +kernel))) (g _ (List.mem_of_getElem? (i := 816) (by decide +kernel))) (fun j hj => ?_) hA
  rcases (show j = 0 ∨ j = 1 ∨ j = 2 ∨ j = 3 ∨ j = 4 ∨ j = 5 ∨ j = 6 ∨ j = 7 by have : j < 8 := hj; omega) with rfl | rfl | rfl | rfl | rfl | rfl | rfl | rfl
  · exact (g _ (List.mem_of_getElem? (i := 817) (by decide +kernel)))
  · exact (g _ (List.mem_of_getElem? (i := 818) (by decide +kernel)))
  · exact (g _ (List.mem_of_getElem? (i := 819) (by decide +kernel)))
  · exact (g _ (List.mem_of_getElem? (i := 820) (by decide +kernel)))
  · exact (g _ (List.mem_of_getElem? (i := 821) (by decide +kernel)))
  · exact (g _ (List.mem_of_getElem? (i := 822) (by decide +kernel)))
  · exact (g _ (List.mem_of_getElem? (i := 823) (by decide +kernel)))
  · exact (g _ (List.mem_of_getElem? (i := 824) (by decide +kernel)))
theorem l_str_22 {args : Array Value} {s : State} (g : ∀ w ∈ l_flat, w.before args s = true) {A : Nat → Prop} (hA : ∀ a : Nat, a < s.heap.size → ¬ A a) : ∃ a : Nat, (Term.string "ModemLinkModel" 262).eval args s none [] s = some (.ref a) ∧ l_S A s [111, 110, 108, 105, 110, 101] a := by
  refine l_Sof (.string "ModemLinkModel" 262) [111, 110, 108, 105, 110, 101] (by decide) (g _ (List.mem_of_getElem? (i := 825) (by decide +kernel))) (g _ (List.mem_of_getElem? (i := 826) (by decide +kernel))) (g _ (List.mem_of_getElem? (i := 827) (by decide +kernel))) (g _ (List.mem_of_getElem? (i := 828) (by decide +kernel))) (fun j hj => ?_) hA
  rcases (show j = 0 ∨ j = 1 ∨ j = 2 ∨ j = 3 ∨ j = 4 ∨ j = 5 by have : j < 6 := hj; omega) with rfl | rfl | rfl | rfl | rfl | rfl
  · exact (g _ (List.mem_of_getElem? (i := 829) (by decide +kernel)))
  · exact (g _ (List.mem_of_getElem? (i := 830) (by decide +kernel)))
  · exact (g _ (List.mem_of_getElem? (i := 831) (by decide +kernel)))
  · exact (g _ (List.mem_of_getElem? (i := 832) (by decide +kernel)))
  · exact (g _ (List.mem_of_getElem? (i := 833) (by decide +kernel)))
  · exact (g _ (List.mem_of_getElem? (i := 834) (by decide +kernel)))
theorem l_str_23 {args : Array Value} {s : State} (g : ∀ w ∈ l_flat, w.before args s = true) {A : Nat → Prop} (hA : ∀ a : Nat, a < s.heap.size → ¬ A a) : ∃ a : Nat, (Term.string "ModemLink" 344).eval args s none [] s = some (.ref a) ∧ l_S A s [108, 111, 115, 116] a := by
  refine l_Sof (.string "ModemLink" 344) [108, 111, 115, 116] (by decide) (g _ (List.mem_of_getElem? (i := 313) (by decide +kernel))) (g _ (List.mem_of_getElem? (i := 314) (by decide +kernel))) (g _ (List.mem_of_getElem? (i := 315) (by decide +kernel))) (g _ (List.mem_of_getElem? (i := 316) (by decide +kernel))) (fun j hj => ?_) hA
  rcases (show j = 0 ∨ j = 1 ∨ j = 2 ∨ j = 3 by have : j < 4 := hj; omega) with rfl | rfl | rfl | rfl
  · exact (g _ (List.mem_of_getElem? (i := 317) (by decide +kernel)))
  · exact (g _ (List.mem_of_getElem? (i := 318) (by decide +kernel)))
  · exact (g _ (List.mem_of_getElem? (i := 319) (by decide +kernel)))
  · exact (g _ (List.mem_of_getElem? (i := 320) (by decide +kernel)))
theorem l_str_24 {args : Array Value} {s : State} (g : ∀ w ∈ l_flat, w.before args s = true) {A : Nat → Prop} (hA : ∀ a : Nat, a < s.heap.size → ¬ A a) : ∃ a : Nat, (Term.string "ModemLink" 342).eval args s none [] s = some (.ref a) ∧ l_S A s [111, 110, 108, 105, 110, 101, 32] a := by
  refine l_Sof (.string "ModemLink" 342) [111, 110, 108, 105, 110, 101, 32] (by decide) (g _ (List.mem_of_getElem? (i := 302) (by decide +kernel))) (g _ (List.mem_of_getElem? (i := 303) (by decide +kernel))) (g _ (List.mem_of_getElem? (i := 304) (by decide +kernel))) (g _ (List.mem_of_getElem? (i := 305) (by decide +kernel))) (fun j hj => ?_) hA
  rcases (show j = 0 ∨ j = 1 ∨ j = 2 ∨ j = 3 ∨ j = 4 ∨ j = 5 ∨ j = 6 by have : j < 7 := hj; omega) with rfl | rfl | rfl | rfl | rfl | rfl | rfl
  · exact (g _ (List.mem_of_getElem? (i := 306) (by decide +kernel)))
  · exact (g _ (List.mem_of_getElem? (i := 307) (by decide +kernel)))
  · exact (g _ (List.mem_of_getElem? (i := 308) (by decide +kernel)))
  · exact (g _ (List.mem_of_getElem? (i := 309) (by decide +kernel)))
  · exact (g _ (List.mem_of_getElem? (i := 310) (by decide +kernel)))
  · exact (g _ (List.mem_of_getElem? (i := 311) (by decide +kernel)))
  · exact (g _ (List.mem_of_getElem? (i := 312) (by decide +kernel)))
theorem l_str_25 {args : Array Value} {s : State} (g : ∀ w ∈ l_flat, w.before args s = true) {A : Nat → Prop} (hA : ∀ a : Nat, a < s.heap.size → ¬ A a) : ∃ a : Nat, (Term.string "ModemLink" 334).eval args s none [] s = some (.ref a) ∧ l_S A s [116, 114, 97, 105, 110, 105, 110, 103, 32] a := by
  refine l_Sof (.string "ModemLink" 334) [116, 114, 97, 105, 110, 105, 110, 103, 32] (by decide) (g _ (List.mem_of_getElem? (i := 289) (by decide +kernel))) (g _ (List.mem_of_getElem? (i := 290) (by decide +kernel))) (g _ (List.mem_of_getElem? (i := 291) (by decide +kernel))) (g _ (List.mem_of_getElem? (i := 292) (by decide +kernel))) (fun j hj => ?_) hA
  rcases (show j = 0 ∨ j = 1 ∨ j = 2 ∨ j = 3 ∨ j = 4 ∨ j = 5 ∨ j = 6 ∨ j = 7 ∨ j = 8 by have : j < 9 := hj; omega) with rfl | rfl | rfl | rfl | rfl | rfl | rfl | rfl | rfl
  · exact (g _ (List.mem_of_getElem? (i := 293) (by decide +kernel)))
  · exact (g _ (List.mem_of_getElem? (i := 294) (by decide +kernel)))
  · exact (g _ (List.mem_of_getElem? (i := 295) (by decide +kernel)))
  · exact (g _ (List.mem_of_getElem? (i := 296) (by decide +kernel)))
  · exact (g _ (List.mem_of_getElem? (i := 297) (by decide +kernel)))
  · exact (g _ (List.mem_of_getElem? (i := 298) (by decide +kernel)))
  · exact (g _ (List.mem_of_getElem? (i := 299) (by decide +kernel)))
  · exact (g _ (List.mem_of_getElem? (i := 300) (by decide +kernel)))
  · exact (g _ (List.mem_of_getElem? (i := 301) (by decide +kernel)))

/-! ===== branches, memory, calls, ends ===== -/
abbrev xib (i : Int) (n : Nat) : Prop := 0 ≤ xw i ∧ xw i < (n : Int)
abbrev xix (i : Int) : Nat := (xw i).toNat
abbrev xbz (i : Int) : Prop := xw i = 0 ∨ xw i = 1
theorem x_some {α : Type} {c : Prop} [Decidable c] {a : α} {b : Option α} {r : α} (h : (if c then b else none) = some r) : c ∧ b = some r := by
  by_cases hc : c
  · rw [if_pos hc] at h; exact ⟨hc, h⟩
  · rw [if_neg hc] at h; cases h
theorem xib_in {i : Int} {n : Nat} (h : xib i n) : vp_in (Int32.ofInt i) n := by
  rw [vp_in_iff]
  exact h
theorem x0_of : (0 : Int32) = Int32.ofInt 0 := by decide
theorem xz_eq {x : Int} : Int32.ofInt x = 0 ↔ xw x = 0 := by rw [x0_of, xof_eq, xw_0]
theorem xz_lt {x : Int} : Int32.ofInt x < 0 ↔ xw x < 0 := by rw [x0_of, xof_lt, xw_0]
theorem xz_ge {x : Int} : 0 ≤ Int32.ofInt x ↔ ¬ xw x < 0 := by rw [x0_of, xof_le, xw_0]; omega
theorem xz_gt {x : Int} : 0 < Int32.ofInt x ↔ 0 < xw x := by rw [x0_of, xof_lt, xw_0]
theorem xz_le {x : Int} : Int32.ofInt x ≤ 0 ↔ ¬ 0 < xw x := by rw [x0_of, xof_le, xw_0]; omega
theorem xy_eq {x y : Int} : Int32.ofInt x = Int32.ofInt y ↔ xw x = xw y := xof_eq
theorem xy_lt {x y : Int} : Int32.ofInt x < Int32.ofInt y ↔ xw x < xw y := xof_lt
theorem xy_ge {x y : Int} : Int32.ofInt y ≤ Int32.ofInt x ↔ ¬ xw x < xw y := by rw [xof_le]; omega
theorem xy_gt {x y : Int} : Int32.ofInt y < Int32.ofInt x ↔ xw y < xw x := xof_lt
theorem xy_le {x y : Int} : Int32.ofInt x ≤ Int32.ofInt y ↔ ¬ xw y < xw x := by rw [xof_le]; omega
section XB
variable {Γ : xG} {lay : List xS} {own : String} {cc : ByteArray} {nL d pc : Nat} {L : List (Nat × xV)} {st : List xV} {m : xM}
theorem x_if_eq (C : xC Γ lay own cc nL d) {off : Int} (tgt : Nat) (hd : decode cc pc = .ok (.ifCond .eq off, 3)) (ht : (pc : Int) + off = (tgt : Int)) {x : Int} {α : Type} {a b : Option α} {r : α} (h : (if xw x = 0 then a else b) = some r) (kt : a = some r → xW Γ lay nL tgt L st m) (kf : b = some r → xW Γ lay nL (pc + 3) L st m) : xW Γ lay nL pc L (.inl x :: st) m := by
  obtain ⟨⟨p, l, e, R, s, m0, args, below, meth, c⟩, ⟨A, ad, dC, dI, dA⟩, cells, slots, Q⟩ := Γ
  obtain ⟨hx, hb, -⟩ := C
  intro H locs ls hP hS hv
  exact lv_if_eq hx hb hd ht (fun hc => kt (by rw [if_pos (xz_eq.mp hc)] at h; exact h) H locs ls hP hS hv) (fun hc => kf (by rw [if_neg (fun q => hc (xz_eq.mpr q))] at h; exact h) H locs ls hP hS hv)
theorem x_if_eqT (C : xC Γ lay own cc nL d) {off : Int} (tgt : Nat) (hd : decode cc pc = .ok (.ifCond .eq off, 3)) (ht : (pc : Int) + off = (tgt : Int)) {x : Int} (hk : xw x = 0) (k : xW Γ lay nL tgt L st m) : xW Γ lay nL pc L (.inl x :: st) m := by
  obtain ⟨⟨p, l, e, R, s, m0, args, below, meth, c⟩, ⟨A, ad, dC, dI, dA⟩, cells, slots, Q⟩ := Γ
  obtain ⟨hx, hb, -⟩ := C
  intro H locs ls hP hS hv
  exact lv_if_eq hx hb hd ht (fun hc => k H locs ls hP hS hv) (fun hc => absurd (xz_eq.mpr hk) hc)
theorem x_if_eqN (C : xC Γ lay own cc nL d) {off : Int} (tgt : Nat) (hd : decode cc pc = .ok (.ifCond .eq off, 3)) (ht : (pc : Int) + off = (tgt : Int)) {x : Int} (hk : ¬ (xw x = 0)) (k : xW Γ lay nL (pc + 3) L st m) : xW Γ lay nL pc L (.inl x :: st) m := by
  obtain ⟨⟨p, l, e, R, s, m0, args, below, meth, c⟩, ⟨A, ad, dC, dI, dA⟩, cells, slots, Q⟩ := Γ
  obtain ⟨hx, hb, -⟩ := C
  intro H locs ls hP hS hv
  exact lv_if_eq hx hb hd ht (fun hc => absurd (xz_eq.mp hc) hk) (fun hc => k H locs ls hP hS hv)
theorem x_if_ne (C : xC Γ lay own cc nL d) {off : Int} (tgt : Nat) (hd : decode cc pc = .ok (.ifCond .ne off, 3)) (ht : (pc : Int) + off = (tgt : Int)) {x : Int} {α : Type} {a b : Option α} {r : α} (h : (if xw x = 0 then a else b) = some r) (kt : b = some r → xW Γ lay nL tgt L st m) (kf : a = some r → xW Γ lay nL (pc + 3) L st m) : xW Γ lay nL pc L (.inl x :: st) m := by
  obtain ⟨⟨p, l, e, R, s, m0, args, below, meth, c⟩, ⟨A, ad, dC, dI, dA⟩, cells, slots, Q⟩ := Γ
  obtain ⟨hx, hb, -⟩ := C
  intro H locs ls hP hS hv
  exact lv_if_ne hx hb hd ht (fun hc => kt (by rw [if_neg (fun q => hc (xz_eq.mpr q))] at h; exact h) H locs ls hP hS hv) (fun hc => kf (by rw [if_pos (xz_eq.mp hc)] at h; exact h) H locs ls hP hS hv)
theorem x_if_neT (C : xC Γ lay own cc nL d) {off : Int} (tgt : Nat) (hd : decode cc pc = .ok (.ifCond .ne off, 3)) (ht : (pc : Int) + off = (tgt : Int)) {x : Int} (hk : ¬ (xw x = 0)) (k : xW Γ lay nL tgt L st m) : xW Γ lay nL pc L (.inl x :: st) m := by
  obtain ⟨⟨p, l, e, R, s, m0, args, below, meth, c⟩, ⟨A, ad, dC, dI, dA⟩, cells, slots, Q⟩ := Γ
  obtain ⟨hx, hb, -⟩ := C
  intro H locs ls hP hS hv
  exact lv_if_ne hx hb hd ht (fun hc => k H locs ls hP hS hv) (fun hc => absurd (xz_eq.mp hc) hk)
theorem x_if_neN (C : xC Γ lay own cc nL d) {off : Int} (tgt : Nat) (hd : decode cc pc = .ok (.ifCond .ne off, 3)) (ht : (pc : Int) + off = (tgt : Int)) {x : Int} (hk : xw x = 0) (k : xW Γ lay nL (pc + 3) L st m) : xW Γ lay nL pc L (.inl x :: st) m := by
  obtain ⟨⟨p, l, e, R, s, m0, args, below, meth, c⟩, ⟨A, ad, dC, dI, dA⟩, cells, slots, Q⟩ := Γ
  obtain ⟨hx, hb, -⟩ := C
  intro H locs ls hP hS hv
  exact lv_if_ne hx hb hd ht (fun hc => absurd (xz_eq.mpr hk) hc) (fun hc => k H locs ls hP hS hv)
theorem x_if_lt (C : xC Γ lay own cc nL d) {off : Int} (tgt : Nat) (hd : decode cc pc = .ok (.ifCond .lt off, 3)) (ht : (pc : Int) + off = (tgt : Int)) {x : Int} {α : Type} {a b : Option α} {r : α} (h : (if xw x < 0 then a else b) = some r) (kt : a = some r → xW Γ lay nL tgt L st m) (kf : b = some r → xW Γ lay nL (pc + 3) L st m) : xW Γ lay nL pc L (.inl x :: st) m := by
  obtain ⟨⟨p, l, e, R, s, m0, args, below, meth, c⟩, ⟨A, ad, dC, dI, dA⟩, cells, slots, Q⟩ := Γ
  obtain ⟨hx, hb, -⟩ := C
  intro H locs ls hP hS hv
  exact lv_if_lt hx hb hd ht (fun hc => kt (by rw [if_pos (xz_lt.mp hc)] at h; exact h) H locs ls hP hS hv) (fun hc => kf (by rw [if_neg (fun q => hc (xz_lt.mpr q))] at h; exact h) H locs ls hP hS hv)
theorem x_if_ltT (C : xC Γ lay own cc nL d) {off : Int} (tgt : Nat) (hd : decode cc pc = .ok (.ifCond .lt off, 3)) (ht : (pc : Int) + off = (tgt : Int)) {x : Int} (hk : xw x < 0) (k : xW Γ lay nL tgt L st m) : xW Γ lay nL pc L (.inl x :: st) m := by
  obtain ⟨⟨p, l, e, R, s, m0, args, below, meth, c⟩, ⟨A, ad, dC, dI, dA⟩, cells, slots, Q⟩ := Γ
  obtain ⟨hx, hb, -⟩ := C
  intro H locs ls hP hS hv
  exact lv_if_lt hx hb hd ht (fun hc => k H locs ls hP hS hv) (fun hc => absurd (xz_lt.mpr hk) hc)
theorem x_if_ltN (C : xC Γ lay own cc nL d) {off : Int} (tgt : Nat) (hd : decode cc pc = .ok (.ifCond .lt off, 3)) (ht : (pc : Int) + off = (tgt : Int)) {x : Int} (hk : ¬ (xw x < 0)) (k : xW Γ lay nL (pc + 3) L st m) : xW Γ lay nL pc L (.inl x :: st) m := by
  obtain ⟨⟨p, l, e, R, s, m0, args, below, meth, c⟩, ⟨A, ad, dC, dI, dA⟩, cells, slots, Q⟩ := Γ
  obtain ⟨hx, hb, -⟩ := C
  intro H locs ls hP hS hv
  exact lv_if_lt hx hb hd ht (fun hc => absurd (xz_lt.mp hc) hk) (fun hc => k H locs ls hP hS hv)
theorem x_if_ge (C : xC Γ lay own cc nL d) {off : Int} (tgt : Nat) (hd : decode cc pc = .ok (.ifCond .ge off, 3)) (ht : (pc : Int) + off = (tgt : Int)) {x : Int} {α : Type} {a b : Option α} {r : α} (h : (if xw x < 0 then a else b) = some r) (kt : b = some r → xW Γ lay nL tgt L st m) (kf : a = some r → xW Γ lay nL (pc + 3) L st m) : xW Γ lay nL pc L (.inl x :: st) m := by
  obtain ⟨⟨p, l, e, R, s, m0, args, below, meth, c⟩, ⟨A, ad, dC, dI, dA⟩, cells, slots, Q⟩ := Γ
  obtain ⟨hx, hb, -⟩ := C
  intro H locs ls hP hS hv
  exact lv_if_ge hx hb hd ht (fun hc => kt (by rw [if_neg (xz_ge.mp hc)] at h; exact h) H locs ls hP hS hv) (fun hc => kf (by rw [if_pos (Decidable.not_not.mp (fun q => hc (xz_ge.mpr q)))] at h; exact h) H locs ls hP hS hv)
theorem x_if_geT (C : xC Γ lay own cc nL d) {off : Int} (tgt : Nat) (hd : decode cc pc = .ok (.ifCond .ge off, 3)) (ht : (pc : Int) + off = (tgt : Int)) {x : Int} (hk : ¬ (xw x < 0)) (k : xW Γ lay nL tgt L st m) : xW Γ lay nL pc L (.inl x :: st) m := by
  obtain ⟨⟨p, l, e, R, s, m0, args, below, meth, c⟩, ⟨A, ad, dC, dI, dA⟩, cells, slots, Q⟩ := Γ
  obtain ⟨hx, hb, -⟩ := C
  intro H locs ls hP hS hv
  exact lv_if_ge hx hb hd ht (fun hc => k H locs ls hP hS hv) (fun hc => absurd (xz_ge.mpr hk) hc)
theorem x_if_geN (C : xC Γ lay own cc nL d) {off : Int} (tgt : Nat) (hd : decode cc pc = .ok (.ifCond .ge off, 3)) (ht : (pc : Int) + off = (tgt : Int)) {x : Int} (hk : xw x < 0) (k : xW Γ lay nL (pc + 3) L st m) : xW Γ lay nL pc L (.inl x :: st) m := by
  obtain ⟨⟨p, l, e, R, s, m0, args, below, meth, c⟩, ⟨A, ad, dC, dI, dA⟩, cells, slots, Q⟩ := Γ
  obtain ⟨hx, hb, -⟩ := C
  intro H locs ls hP hS hv
  exact lv_if_ge hx hb hd ht (fun hc => absurd hk (xz_ge.mp hc)) (fun hc => k H locs ls hP hS hv)
theorem x_if_gt (C : xC Γ lay own cc nL d) {off : Int} (tgt : Nat) (hd : decode cc pc = .ok (.ifCond .gt off, 3)) (ht : (pc : Int) + off = (tgt : Int)) {x : Int} {α : Type} {a b : Option α} {r : α} (h : (if 0 < xw x then a else b) = some r) (kt : a = some r → xW Γ lay nL tgt L st m) (kf : b = some r → xW Γ lay nL (pc + 3) L st m) : xW Γ lay nL pc L (.inl x :: st) m := by
  obtain ⟨⟨p, l, e, R, s, m0, args, below, meth, c⟩, ⟨A, ad, dC, dI, dA⟩, cells, slots, Q⟩ := Γ
  obtain ⟨hx, hb, -⟩ := C
  intro H locs ls hP hS hv
  exact lv_if_gt hx hb hd ht (fun hc => kt (by rw [if_pos (xz_gt.mp hc)] at h; exact h) H locs ls hP hS hv) (fun hc => kf (by rw [if_neg (fun q => hc (xz_gt.mpr q))] at h; exact h) H locs ls hP hS hv)
theorem x_if_gtT (C : xC Γ lay own cc nL d) {off : Int} (tgt : Nat) (hd : decode cc pc = .ok (.ifCond .gt off, 3)) (ht : (pc : Int) + off = (tgt : Int)) {x : Int} (hk : 0 < xw x) (k : xW Γ lay nL tgt L st m) : xW Γ lay nL pc L (.inl x :: st) m := by
  obtain ⟨⟨p, l, e, R, s, m0, args, below, meth, c⟩, ⟨A, ad, dC, dI, dA⟩, cells, slots, Q⟩ := Γ
  obtain ⟨hx, hb, -⟩ := C
  intro H locs ls hP hS hv
  exact lv_if_gt hx hb hd ht (fun hc => k H locs ls hP hS hv) (fun hc => absurd (xz_gt.mpr hk) hc)
theorem x_if_gtN (C : xC Γ lay own cc nL d) {off : Int} (tgt : Nat) (hd : decode cc pc = .ok (.ifCond .gt off, 3)) (ht : (pc : Int) + off = (tgt : Int)) {x : Int} (hk : ¬ (0 < xw x)) (k : xW Γ lay nL (pc + 3) L st m) : xW Γ lay nL pc L (.inl x :: st) m := by
  obtain ⟨⟨p, l, e, R, s, m0, args, below, meth, c⟩, ⟨A, ad, dC, dI, dA⟩, cells, slots, Q⟩ := Γ
  obtain ⟨hx, hb, -⟩ := C
  intro H locs ls hP hS hv
  exact lv_if_gt hx hb hd ht (fun hc => absurd (xz_gt.mp hc) hk) (fun hc => k H locs ls hP hS hv)
theorem x_if_le (C : xC Γ lay own cc nL d) {off : Int} (tgt : Nat) (hd : decode cc pc = .ok (.ifCond .le off, 3)) (ht : (pc : Int) + off = (tgt : Int)) {x : Int} {α : Type} {a b : Option α} {r : α} (h : (if 0 < xw x then a else b) = some r) (kt : b = some r → xW Γ lay nL tgt L st m) (kf : a = some r → xW Γ lay nL (pc + 3) L st m) : xW Γ lay nL pc L (.inl x :: st) m := by
  obtain ⟨⟨p, l, e, R, s, m0, args, below, meth, c⟩, ⟨A, ad, dC, dI, dA⟩, cells, slots, Q⟩ := Γ
  obtain ⟨hx, hb, -⟩ := C
  intro H locs ls hP hS hv
  exact lv_if_le hx hb hd ht (fun hc => kt (by rw [if_neg (xz_le.mp hc)] at h; exact h) H locs ls hP hS hv) (fun hc => kf (by rw [if_pos (Decidable.not_not.mp (fun q => hc (xz_le.mpr q)))] at h; exact h) H locs ls hP hS hv)
theorem x_if_leT (C : xC Γ lay own cc nL d) {off : Int} (tgt : Nat) (hd : decode cc pc = .ok (.ifCond .le off, 3)) (ht : (pc : Int) + off = (tgt : Int)) {x : Int} (hk : ¬ (0 < xw x)) (k : xW Γ lay nL tgt L st m) : xW Γ lay nL pc L (.inl x :: st) m := by
  obtain ⟨⟨p, l, e, R, s, m0, args, below, meth, c⟩, ⟨A, ad, dC, dI, dA⟩, cells, slots, Q⟩ := Γ
  obtain ⟨hx, hb, -⟩ := C
  intro H locs ls hP hS hv
  exact lv_if_le hx hb hd ht (fun hc => k H locs ls hP hS hv) (fun hc => absurd (xz_le.mpr hk) hc)
theorem x_if_leN (C : xC Γ lay own cc nL d) {off : Int} (tgt : Nat) (hd : decode cc pc = .ok (.ifCond .le off, 3)) (ht : (pc : Int) + off = (tgt : Int)) {x : Int} (hk : 0 < xw x) (k : xW Γ lay nL (pc + 3) L st m) : xW Γ lay nL pc L (.inl x :: st) m := by
  obtain ⟨⟨p, l, e, R, s, m0, args, below, meth, c⟩, ⟨A, ad, dC, dI, dA⟩, cells, slots, Q⟩ := Γ
  obtain ⟨hx, hb, -⟩ := C
  intro H locs ls hP hS hv
  exact lv_if_le hx hb hd ht (fun hc => absurd hk (xz_le.mp hc)) (fun hc => k H locs ls hP hS hv)
theorem x_icmp_eq (C : xC Γ lay own cc nL d) {off : Int} (tgt : Nat) (hd : decode cc pc = .ok (.if_icmp .eq off, 3)) (ht : (pc : Int) + off = (tgt : Int)) {x y : Int} {α : Type} {a b : Option α} {r : α} (h : (if xw x = xw y then a else b) = some r) (kt : a = some r → xW Γ lay nL tgt L st m) (kf : b = some r → xW Γ lay nL (pc + 3) L st m) : xW Γ lay nL pc L (.inl y :: .inl x :: st) m := by
  obtain ⟨⟨p, l, e, R, s, m0, args, below, meth, c⟩, ⟨A, ad, dC, dI, dA⟩, cells, slots, Q⟩ := Γ
  obtain ⟨hx, hb, -⟩ := C
  intro H locs ls hP hS hv
  exact lv_icmp_eq hx hb hd ht (fun hc => kt (by rw [if_pos (xy_eq.mp hc)] at h; exact h) H locs ls hP hS hv) (fun hc => kf (by rw [if_neg (fun q => hc (xy_eq.mpr q))] at h; exact h) H locs ls hP hS hv)
theorem x_icmp_eqT (C : xC Γ lay own cc nL d) {off : Int} (tgt : Nat) (hd : decode cc pc = .ok (.if_icmp .eq off, 3)) (ht : (pc : Int) + off = (tgt : Int)) {x y : Int} (hk : xw x = xw y) (k : xW Γ lay nL tgt L st m) : xW Γ lay nL pc L (.inl y :: .inl x :: st) m := by
  obtain ⟨⟨p, l, e, R, s, m0, args, below, meth, c⟩, ⟨A, ad, dC, dI, dA⟩, cells, slots, Q⟩ := Γ
  obtain ⟨hx, hb, -⟩ := C
  intro H locs ls hP hS hv
  exact lv_icmp_eq hx hb hd ht (fun hc => k H locs ls hP hS hv) (fun hc => absurd (xy_eq.mpr hk) hc)
theorem x_icmp_eqN (C : xC Γ lay own cc nL d) {off : Int} (tgt : Nat) (hd : decode cc pc = .ok (.if_icmp .eq off, 3)) (ht : (pc : Int) + off = (tgt : Int)) {x y : Int} (hk : ¬ (xw x = xw y)) (k : xW Γ lay nL (pc + 3) L st m) : xW Γ lay nL pc L (.inl y :: .inl x :: st) m := by
  obtain ⟨⟨p, l, e, R, s, m0, args, below, meth, c⟩, ⟨A, ad, dC, dI, dA⟩, cells, slots, Q⟩ := Γ
  obtain ⟨hx, hb, -⟩ := C
  intro H locs ls hP hS hv
  exact lv_icmp_eq hx hb hd ht (fun hc => absurd (xy_eq.mp hc) hk) (fun hc => k H locs ls hP hS hv)
theorem x_icmp_ne (C : xC Γ lay own cc nL d) {off : Int} (tgt : Nat) (hd : decode cc pc = .ok (.if_icmp .ne off, 3)) (ht : (pc : Int) + off = (tgt : Int)) {x y : Int} {α : Type} {a b : Option α} {r : α} (h : (if xw x = xw y then a else b) = some r) (kt : b = some r → xW Γ lay nL tgt L st m) (kf : a = some r → xW Γ lay nL (pc + 3) L st m) : xW Γ lay nL pc L (.inl y :: .inl x :: st) m := by
  obtain ⟨⟨p, l, e, R, s, m0, args, below, meth, c⟩, ⟨A, ad, dC, dI, dA⟩, cells, slots, Q⟩ := Γ
  obtain ⟨hx, hb, -⟩ := C
  intro H locs ls hP hS hv
  exact lv_icmp_ne hx hb hd ht (fun hc => kt (by rw [if_neg (fun q => hc (xy_eq.mpr q))] at h; exact h) H locs ls hP hS hv) (fun hc => kf (by rw [if_pos (xy_eq.mp hc)] at h; exact h) H locs ls hP hS hv)
theorem x_icmp_neT (C : xC Γ lay own cc nL d) {off : Int} (tgt : Nat) (hd : decode cc pc = .ok (.if_icmp .ne off, 3)) (ht : (pc : Int) + off = (tgt : Int)) {x y : Int} (hk : ¬ (xw x = xw y)) (k : xW Γ lay nL tgt L st m) : xW Γ lay nL pc L (.inl y :: .inl x :: st) m := by
  obtain ⟨⟨p, l, e, R, s, m0, args, below, meth, c⟩, ⟨A, ad, dC, dI, dA⟩, cells, slots, Q⟩ := Γ
  obtain ⟨hx, hb, -⟩ := C
  intro H locs ls hP hS hv
  exact lv_icmp_ne hx hb hd ht (fun hc => k H locs ls hP hS hv) (fun hc => absurd (xy_eq.mp hc) hk)
theorem x_icmp_neN (C : xC Γ lay own cc nL d) {off : Int} (tgt : Nat) (hd : decode cc pc = .ok (.if_icmp .ne off, 3)) (ht : (pc : Int) + off = (tgt : Int)) {x y : Int} (hk : xw x = xw y) (k : xW Γ lay nL (pc + 3) L st m) : xW Γ lay nL pc L (.inl y :: .inl x :: st) m := by
  obtain ⟨⟨p, l, e, R, s, m0, args, below, meth, c⟩, ⟨A, ad, dC, dI, dA⟩, cells, slots, Q⟩ := Γ
  obtain ⟨hx, hb, -⟩ := C
  intro H locs ls hP hS hv
  exact lv_icmp_ne hx hb hd ht (fun hc => absurd (xy_eq.mpr hk) hc) (fun hc => k H locs ls hP hS hv)
theorem x_icmp_lt (C : xC Γ lay own cc nL d) {off : Int} (tgt : Nat) (hd : decode cc pc = .ok (.if_icmp .lt off, 3)) (ht : (pc : Int) + off = (tgt : Int)) {x y : Int} {α : Type} {a b : Option α} {r : α} (h : (if xw x < xw y then a else b) = some r) (kt : a = some r → xW Γ lay nL tgt L st m) (kf : b = some r → xW Γ lay nL (pc + 3) L st m) : xW Γ lay nL pc L (.inl y :: .inl x :: st) m := by
  obtain ⟨⟨p, l, e, R, s, m0, args, below, meth, c⟩, ⟨A, ad, dC, dI, dA⟩, cells, slots, Q⟩ := Γ
  obtain ⟨hx, hb, -⟩ := C
  intro H locs ls hP hS hv
  exact lv_icmp_lt hx hb hd ht (fun hc => kt (by rw [if_pos (xy_lt.mp hc)] at h; exact h) H locs ls hP hS hv) (fun hc => kf (by rw [if_neg (fun q => hc (xy_lt.mpr q))] at h; exact h) H locs ls hP hS hv)
theorem x_icmp_ltT (C : xC Γ lay own cc nL d) {off : Int} (tgt : Nat) (hd : decode cc pc = .ok (.if_icmp .lt off, 3)) (ht : (pc : Int) + off = (tgt : Int)) {x y : Int} (hk : xw x < xw y) (k : xW Γ lay nL tgt L st m) : xW Γ lay nL pc L (.inl y :: .inl x :: st) m := by
  obtain ⟨⟨p, l, e, R, s, m0, args, below, meth, c⟩, ⟨A, ad, dC, dI, dA⟩, cells, slots, Q⟩ := Γ
  obtain ⟨hx, hb, -⟩ := C
  intro H locs ls hP hS hv
  exact lv_icmp_lt hx hb hd ht (fun hc => k H locs ls hP hS hv) (fun hc => absurd (xy_lt.mpr hk) hc)
theorem x_icmp_ltN (C : xC Γ lay own cc nL d) {off : Int} (tgt : Nat) (hd : decode cc pc = .ok (.if_icmp .lt off, 3)) (ht : (pc : Int) + off = (tgt : Int)) {x y : Int} (hk : ¬ (xw x < xw y)) (k : xW Γ lay nL (pc + 3) L st m) : xW Γ lay nL pc L (.inl y :: .inl x :: st) m := by
  obtain ⟨⟨p, l, e, R, s, m0, args, below, meth, c⟩, ⟨A, ad, dC, dI, dA⟩, cells, slots, Q⟩ := Γ
  obtain ⟨hx, hb, -⟩ := C
  intro H locs ls hP hS hv
  exact lv_icmp_lt hx hb hd ht (fun hc => absurd (xy_lt.mp hc) hk) (fun hc => k H locs ls hP hS hv)
theorem x_icmp_ge (C : xC Γ lay own cc nL d) {off : Int} (tgt : Nat) (hd : decode cc pc = .ok (.if_icmp .ge off, 3)) (ht : (pc : Int) + off = (tgt : Int)) {x y : Int} {α : Type} {a b : Option α} {r : α} (h : (if xw x < xw y then a else b) = some r) (kt : b = some r → xW Γ lay nL tgt L st m) (kf : a = some r → xW Γ lay nL (pc + 3) L st m) : xW Γ lay nL pc L (.inl y :: .inl x :: st) m := by
  obtain ⟨⟨p, l, e, R, s, m0, args, below, meth, c⟩, ⟨A, ad, dC, dI, dA⟩, cells, slots, Q⟩ := Γ
  obtain ⟨hx, hb, -⟩ := C
  intro H locs ls hP hS hv
  exact lv_icmp_ge hx hb hd ht (fun hc => kt (by rw [if_neg (xy_ge.mp hc)] at h; exact h) H locs ls hP hS hv) (fun hc => kf (by rw [if_pos (Decidable.not_not.mp (fun q => hc (xy_ge.mpr q)))] at h; exact h) H locs ls hP hS hv)
theorem x_icmp_geT (C : xC Γ lay own cc nL d) {off : Int} (tgt : Nat) (hd : decode cc pc = .ok (.if_icmp .ge off, 3)) (ht : (pc : Int) + off = (tgt : Int)) {x y : Int} (hk : ¬ (xw x < xw y)) (k : xW Γ lay nL tgt L st m) : xW Γ lay nL pc L (.inl y :: .inl x :: st) m := by
  obtain ⟨⟨p, l, e, R, s, m0, args, below, meth, c⟩, ⟨A, ad, dC, dI, dA⟩, cells, slots, Q⟩ := Γ
  obtain ⟨hx, hb, -⟩ := C
  intro H locs ls hP hS hv
  exact lv_icmp_ge hx hb hd ht (fun hc => k H locs ls hP hS hv) (fun hc => absurd (xy_ge.mpr hk) hc)
theorem x_icmp_geN (C : xC Γ lay own cc nL d) {off : Int} (tgt : Nat) (hd : decode cc pc = .ok (.if_icmp .ge off, 3)) (ht : (pc : Int) + off = (tgt : Int)) {x y : Int} (hk : xw x < xw y) (k : xW Γ lay nL (pc + 3) L st m) : xW Γ lay nL pc L (.inl y :: .inl x :: st) m := by
  obtain ⟨⟨p, l, e, R, s, m0, args, below, meth, c⟩, ⟨A, ad, dC, dI, dA⟩, cells, slots, Q⟩ := Γ
  obtain ⟨hx, hb, -⟩ := C
  intro H locs ls hP hS hv
  exact lv_icmp_ge hx hb hd ht (fun hc => absurd hk (xy_ge.mp hc)) (fun hc => k H locs ls hP hS hv)
theorem x_icmp_gt (C : xC Γ lay own cc nL d) {off : Int} (tgt : Nat) (hd : decode cc pc = .ok (.if_icmp .gt off, 3)) (ht : (pc : Int) + off = (tgt : Int)) {x y : Int} {α : Type} {a b : Option α} {r : α} (h : (if xw y < xw x then a else b) = some r) (kt : a = some r → xW Γ lay nL tgt L st m) (kf : b = some r → xW Γ lay nL (pc + 3) L st m) : xW Γ lay nL pc L (.inl y :: .inl x :: st) m := by
  obtain ⟨⟨p, l, e, R, s, m0, args, below, meth, c⟩, ⟨A, ad, dC, dI, dA⟩, cells, slots, Q⟩ := Γ
  obtain ⟨hx, hb, -⟩ := C
  intro H locs ls hP hS hv
  exact lv_icmp_gt hx hb hd ht (fun hc => kt (by rw [if_pos (xy_gt.mp hc)] at h; exact h) H locs ls hP hS hv) (fun hc => kf (by rw [if_neg (fun q => hc (xy_gt.mpr q))] at h; exact h) H locs ls hP hS hv)
theorem x_icmp_gtT (C : xC Γ lay own cc nL d) {off : Int} (tgt : Nat) (hd : decode cc pc = .ok (.if_icmp .gt off, 3)) (ht : (pc : Int) + off = (tgt : Int)) {x y : Int} (hk : xw y < xw x) (k : xW Γ lay nL tgt L st m) : xW Γ lay nL pc L (.inl y :: .inl x :: st) m := by
  obtain ⟨⟨p, l, e, R, s, m0, args, below, meth, c⟩, ⟨A, ad, dC, dI, dA⟩, cells, slots, Q⟩ := Γ
  obtain ⟨hx, hb, -⟩ := C
  intro H locs ls hP hS hv
  exact lv_icmp_gt hx hb hd ht (fun hc => k H locs ls hP hS hv) (fun hc => absurd (xy_gt.mpr hk) hc)
theorem x_icmp_gtN (C : xC Γ lay own cc nL d) {off : Int} (tgt : Nat) (hd : decode cc pc = .ok (.if_icmp .gt off, 3)) (ht : (pc : Int) + off = (tgt : Int)) {x y : Int} (hk : ¬ (xw y < xw x)) (k : xW Γ lay nL (pc + 3) L st m) : xW Γ lay nL pc L (.inl y :: .inl x :: st) m := by
  obtain ⟨⟨p, l, e, R, s, m0, args, below, meth, c⟩, ⟨A, ad, dC, dI, dA⟩, cells, slots, Q⟩ := Γ
  obtain ⟨hx, hb, -⟩ := C
  intro H locs ls hP hS hv
  exact lv_icmp_gt hx hb hd ht (fun hc => absurd (xy_gt.mp hc) hk) (fun hc => k H locs ls hP hS hv)
theorem x_icmp_le (C : xC Γ lay own cc nL d) {off : Int} (tgt : Nat) (hd : decode cc pc = .ok (.if_icmp .le off, 3)) (ht : (pc : Int) + off = (tgt : Int)) {x y : Int} {α : Type} {a b : Option α} {r : α} (h : (if xw y < xw x then a else b) = some r) (kt : b = some r → xW Γ lay nL tgt L st m) (kf : a = some r → xW Γ lay nL (pc + 3) L st m) : xW Γ lay nL pc L (.inl y :: .inl x :: st) m := by
  obtain ⟨⟨p, l, e, R, s, m0, args, below, meth, c⟩, ⟨A, ad, dC, dI, dA⟩, cells, slots, Q⟩ := Γ
  obtain ⟨hx, hb, -⟩ := C
  intro H locs ls hP hS hv
  exact lv_icmp_le hx hb hd ht (fun hc => kt (by rw [if_neg (xy_le.mp hc)] at h; exact h) H locs ls hP hS hv) (fun hc => kf (by rw [if_pos (Decidable.not_not.mp (fun q => hc (xy_le.mpr q)))] at h; exact h) H locs ls hP hS hv)
theorem x_icmp_leT (C : xC Γ lay own cc nL d) {off : Int} (tgt : Nat) (hd : decode cc pc = .ok (.if_icmp .le off, 3)) (ht : (pc : Int) + off = (tgt : Int)) {x y : Int} (hk : ¬ (xw y < xw x)) (k : xW Γ lay nL tgt L st m) : xW Γ lay nL pc L (.inl y :: .inl x :: st) m := by
  obtain ⟨⟨p, l, e, R, s, m0, args, below, meth, c⟩, ⟨A, ad, dC, dI, dA⟩, cells, slots, Q⟩ := Γ
  obtain ⟨hx, hb, -⟩ := C
  intro H locs ls hP hS hv
  exact lv_icmp_le hx hb hd ht (fun hc => k H locs ls hP hS hv) (fun hc => absurd (xy_le.mpr hk) hc)
theorem x_icmp_leN (C : xC Γ lay own cc nL d) {off : Int} (tgt : Nat) (hd : decode cc pc = .ok (.if_icmp .le off, 3)) (ht : (pc : Int) + off = (tgt : Int)) {x y : Int} (hk : xw y < xw x) (k : xW Γ lay nL (pc + 3) L st m) : xW Γ lay nL pc L (.inl y :: .inl x :: st) m := by
  obtain ⟨⟨p, l, e, R, s, m0, args, below, meth, c⟩, ⟨A, ad, dC, dI, dA⟩, cells, slots, Q⟩ := Γ
  obtain ⟨hx, hb, -⟩ := C
  intro H locs ls hP hS hv
  exact lv_icmp_le hx hb hd ht (fun hc => absurd hk (xy_le.mp hc)) (fun hc => k H locs ls hP hS hv)
def xiand (x y : Int) : Int := (Int32.ofInt x &&& Int32.ofInt y).toInt
theorem x_iand (C : xC Γ lay own cc nL d) {x y : Int} (hd : decode cc pc = .ok (.iand, 1)) (h : xW Γ lay nL (pc + 1) L (.inl (xiand x y) :: st) m) : xW Γ lay nL pc L (.inl y :: .inl x :: st) m := by
  obtain ⟨⟨p, l, e, R, s, m0, args, below, meth, c⟩, ⟨A, ad, dC, dI, dA⟩, cells, slots, Q⟩ := Γ
  obtain ⟨hx, hb, -⟩ := C
  intro H locs ls hP hS hv
  have h1 := h H locs ls hP hS hv
  refine lv_iand hx hb hd ?_
  have e : Int32.ofInt (xiand x y) = Int32.ofInt x &&& Int32.ofInt y := Int32.ofInt_toInt _
  rw [← e]; exact h1
def xior (x y : Int) : Int := (Int32.ofInt x ||| Int32.ofInt y).toInt
theorem x_ior (C : xC Γ lay own cc nL d) {x y : Int} (hd : decode cc pc = .ok (.ior, 1)) (h : xW Γ lay nL (pc + 1) L (.inl (xior x y) :: st) m) : xW Γ lay nL pc L (.inl y :: .inl x :: st) m := by
  obtain ⟨⟨p, l, e, R, s, m0, args, below, meth, c⟩, ⟨A, ad, dC, dI, dA⟩, cells, slots, Q⟩ := Γ
  obtain ⟨hx, hb, -⟩ := C
  intro H locs ls hP hS hv
  have h1 := h H locs ls hP hS hv
  refine lv_ior hx hb hd ?_
  have e : Int32.ofInt (xior x y) = Int32.ofInt x ||| Int32.ofInt y := Int32.ofInt_toInt _
  rw [← e]; exact h1
def xixor (x y : Int) : Int := (Int32.ofInt x ^^^ Int32.ofInt y).toInt
theorem x_ixor (C : xC Γ lay own cc nL d) {x y : Int} (hd : decode cc pc = .ok (.ixor, 1)) (h : xW Γ lay nL (pc + 1) L (.inl (xixor x y) :: st) m) : xW Γ lay nL pc L (.inl y :: .inl x :: st) m := by
  obtain ⟨⟨p, l, e, R, s, m0, args, below, meth, c⟩, ⟨A, ad, dC, dI, dA⟩, cells, slots, Q⟩ := Γ
  obtain ⟨hx, hb, -⟩ := C
  intro H locs ls hP hS hv
  have h1 := h H locs ls hP hS hv
  refine lv_ixor hx hb hd ?_
  have e : Int32.ofInt (xixor x y) = Int32.ofInt x ^^^ Int32.ofInt y := Int32.ofInt_toInt _
  rw [← e]; exact h1
def xishr (x y : Int) : Int := (Int32.ofInt x >>> (Int32.ofInt y &&& 31)).toInt
theorem x_ishr (C : xC Γ lay own cc nL d) {x y : Int} (hd : decode cc pc = .ok (.ishr, 1)) (h : xW Γ lay nL (pc + 1) L (.inl (xishr x y) :: st) m) : xW Γ lay nL pc L (.inl y :: .inl x :: st) m := by
  obtain ⟨⟨p, l, e, R, s, m0, args, below, meth, c⟩, ⟨A, ad, dC, dI, dA⟩, cells, slots, Q⟩ := Γ
  obtain ⟨hx, hb, -⟩ := C
  intro H locs ls hP hS hv
  have h1 := h H locs ls hP hS hv
  refine lv_ishr hx hb hd ?_
  have e : Int32.ofInt (xishr x y) = Int32.ofInt x >>> (Int32.ofInt y &&& 31) := Int32.ofInt_toInt _
  rw [← e]; exact h1
def xidiv (x y : Int) : Int := (Int32.ofInt x / Int32.ofInt y).toInt
def xirem (x y : Int) : Int := (Int32.ofInt x - Int32.ofInt x / Int32.ofInt y * Int32.ofInt y).toInt
theorem x_idiv (C : xC Γ lay own cc nL d) {x y : Int} (hd : decode cc pc = .ok (.idiv, 1)) {α : Type} {a : Option α} {r : α} (h : (if xw y = 0 then none else a) = some r) (k : ¬ xw y = 0 → a = some r → xW Γ lay nL (pc + 1) L (.inl (xidiv x y) :: st) m) : xW Γ lay nL pc L (.inl y :: .inl x :: st) m := by
  obtain ⟨⟨p, l, e, R, s, m0, args, below, meth, c⟩, ⟨A, ad, dC, dI, dA⟩, cells, slots, Q⟩ := Γ
  obtain ⟨hx, hb, -⟩ := C
  intro H locs ls hP hS hv
  by_cases hy : xw y = 0
  · rw [if_pos hy] at h; cases h
  · rw [if_neg hy] at h
    have h1 := k hy h H locs ls hP hS hv
    refine lv_idiv hx hb hd (fun q => hy (xz_eq.mp q)) ?_
    have e : Int32.ofInt (xidiv x y) = Int32.ofInt x / Int32.ofInt y := Int32.ofInt_toInt _
    rw [← e]; exact h1
theorem x_irem (C : xC Γ lay own cc nL d) {x y : Int} (hd : decode cc pc = .ok (.irem, 1)) {α : Type} {a : Option α} {r : α} (h : (if xw y = 0 then none else a) = some r) (k : ¬ xw y = 0 → a = some r → xW Γ lay nL (pc + 1) L (.inl (xirem x y) :: st) m) : xW Γ lay nL pc L (.inl y :: .inl x :: st) m := by
  obtain ⟨⟨p, l, e, R, s, m0, args, below, meth, c⟩, ⟨A, ad, dC, dI, dA⟩, cells, slots, Q⟩ := Γ
  obtain ⟨hx, hb, -⟩ := C
  intro H locs ls hP hS hv
  by_cases hy : xw y = 0
  · rw [if_pos hy] at h; cases h
  · rw [if_neg hy] at h
    have h1 := k hy h H locs ls hP hS hv
    refine lv_irem hx hb hd (fun q => hy (xz_eq.mp q)) ?_
    have e : Int32.ofInt (xirem x y) = Int32.ofInt x - Int32.ofInt x / Int32.ofInt y * Int32.ofInt y := Int32.ofInt_toInt _
    rw [← e]; exact h1
theorem x_ladd (C : xC Γ lay own cc nL d) {x y : Int} (hd : decode cc pc = .ok (.ladd, 1)) (h : xW Γ lay nL (pc + 1) L (.inr (.inl (x + y)) :: st) m) : xW Γ lay nL pc L (.inr (.inl y) :: .inr (.inl x) :: st) m := by
  obtain ⟨⟨p, l, e, R, s, m0, args, below, meth, c⟩, ⟨A, ad, dC, dI, dA⟩, cells, slots, Q⟩ := Γ
  obtain ⟨hx, hb, -⟩ := C
  intro H locs ls hP hS hv
  have h1 := h H locs ls hP hS hv
  refine lv_ladd hx hb hd ?_
  rw [← Int64.ofInt_add]; exact h1
theorem x_lsub (C : xC Γ lay own cc nL d) {x y : Int} (hd : decode cc pc = .ok (.lsub, 1)) (h : xW Γ lay nL (pc + 1) L (.inr (.inl (x - y)) :: st) m) : xW Γ lay nL pc L (.inr (.inl y) :: .inr (.inl x) :: st) m := by
  obtain ⟨⟨p, l, e, R, s, m0, args, below, meth, c⟩, ⟨A, ad, dC, dI, dA⟩, cells, slots, Q⟩ := Γ
  obtain ⟨hx, hb, -⟩ := C
  intro H locs ls hP hS hv
  have h1 := h H locs ls hP hS hv
  refine lv_lsub hx hb hd ?_
  rw [← Int64.ofInt_sub]; exact h1
theorem x_lmul (C : xC Γ lay own cc nL d) {x y : Int} (hd : decode cc pc = .ok (.lmul, 1)) (h : xW Γ lay nL (pc + 1) L (.inr (.inl (x * y)) :: st) m) : xW Γ lay nL pc L (.inr (.inl y) :: .inr (.inl x) :: st) m := by
  obtain ⟨⟨p, l, e, R, s, m0, args, below, meth, c⟩, ⟨A, ad, dC, dI, dA⟩, cells, slots, Q⟩ := Γ
  obtain ⟨hx, hb, -⟩ := C
  intro H locs ls hP hS hv
  have h1 := h H locs ls hP hS hv
  refine lv_lmul hx hb hd ?_
  rw [← Int64.ofInt_mul]; exact h1
def xland (x y : Int) : Int := (Int64.ofInt x &&& Int64.ofInt y).toInt
theorem x_land (C : xC Γ lay own cc nL d) {x y : Int} (hd : decode cc pc = .ok (.land, 1)) (h : xW Γ lay nL (pc + 1) L (.inr (.inl (xland x y)) :: st) m) : xW Γ lay nL pc L (.inr (.inl y) :: .inr (.inl x) :: st) m := by
  obtain ⟨⟨p, l, e, R, s, m0, args, below, meth, c⟩, ⟨A, ad, dC, dI, dA⟩, cells, slots, Q⟩ := Γ
  obtain ⟨hx, hb, -⟩ := C
  intro H locs ls hP hS hv
  have h1 := h H locs ls hP hS hv
  refine lv_land hx hb hd ?_
  have e : Int64.ofInt (xland x y) = Int64.ofInt x &&& Int64.ofInt y := Int64.ofInt_toInt _
  rw [← e]; exact h1
def xlor (x y : Int) : Int := (Int64.ofInt x ||| Int64.ofInt y).toInt
theorem x_lor (C : xC Γ lay own cc nL d) {x y : Int} (hd : decode cc pc = .ok (.lor, 1)) (h : xW Γ lay nL (pc + 1) L (.inr (.inl (xlor x y)) :: st) m) : xW Γ lay nL pc L (.inr (.inl y) :: .inr (.inl x) :: st) m := by
  obtain ⟨⟨p, l, e, R, s, m0, args, below, meth, c⟩, ⟨A, ad, dC, dI, dA⟩, cells, slots, Q⟩ := Γ
  obtain ⟨hx, hb, -⟩ := C
  intro H locs ls hP hS hv
  have h1 := h H locs ls hP hS hv
  refine lv_lor hx hb hd ?_
  have e : Int64.ofInt (xlor x y) = Int64.ofInt x ||| Int64.ofInt y := Int64.ofInt_toInt _
  rw [← e]; exact h1
def xlxor (x y : Int) : Int := (Int64.ofInt x ^^^ Int64.ofInt y).toInt
theorem x_lxor (C : xC Γ lay own cc nL d) {x y : Int} (hd : decode cc pc = .ok (.lxor, 1)) (h : xW Γ lay nL (pc + 1) L (.inr (.inl (xlxor x y)) :: st) m) : xW Γ lay nL pc L (.inr (.inl y) :: .inr (.inl x) :: st) m := by
  obtain ⟨⟨p, l, e, R, s, m0, args, below, meth, c⟩, ⟨A, ad, dC, dI, dA⟩, cells, slots, Q⟩ := Γ
  obtain ⟨hx, hb, -⟩ := C
  intro H locs ls hP hS hv
  have h1 := h H locs ls hP hS hv
  refine lv_lxor hx hb hd ?_
  have e : Int64.ofInt (xlxor x y) = Int64.ofInt x ^^^ Int64.ofInt y := Int64.ofInt_toInt _
  rw [← e]; exact h1
def xlshl (x y : Int) : Int := (Int64.ofInt x <<< ((Int32.ofInt y).toInt64 &&& 63)).toInt
theorem x_lshl (C : xC Γ lay own cc nL d) {x y : Int} (hd : decode cc pc = .ok (.lshl, 1)) (h : xW Γ lay nL (pc + 1) L (.inr (.inl (xlshl x y)) :: st) m) : xW Γ lay nL pc L (.inl y :: .inr (.inl x) :: st) m := by
  obtain ⟨⟨p, l, e, R, s, m0, args, below, meth, c⟩, ⟨A, ad, dC, dI, dA⟩, cells, slots, Q⟩ := Γ
  obtain ⟨hx, hb, -⟩ := C
  intro H locs ls hP hS hv
  have h1 := h H locs ls hP hS hv
  refine lv_lshl hx hb hd rfl ?_
  have e : Int64.ofInt (xlshl x y) = Int64.ofInt x <<< ((Int32.ofInt y).toInt64 &&& 63) := Int64.ofInt_toInt _
  rw [← e]; exact h1
theorem x_i2l (C : xC Γ lay own cc nL d) {x : Int} (hd : decode cc pc = .ok (.i2l, 1)) (h : xW Γ lay nL (pc + 1) L (.inr (.inl (xw x)) :: st) m) : xW Γ lay nL pc L (.inl x :: st) m := by
  obtain ⟨⟨p, l, e, R, s, m0, args, below, meth, c⟩, ⟨A, ad, dC, dI, dA⟩, cells, slots, Q⟩ := Γ
  obtain ⟨hx, hb, -⟩ := C
  intro H locs ls hP hS hv
  exact lv_i2l hx hb hd (Int64.ofInt_int32ToInt (Int32.ofInt x)).symm (h H locs ls hP hS hv)
theorem x_l2i (C : xC Γ lay own cc nL d) {x : Int} (hd : decode cc pc = .ok (.l2i, 1)) (h : xW Γ lay nL (pc + 1) L (.inl x :: st) m) : xW Γ lay nL pc L (.inr (.inl x) :: st) m := by
  obtain ⟨⟨p, l, e, R, s, m0, args, below, meth, c⟩, ⟨A, ad, dC, dI, dA⟩, cells, slots, Q⟩ := Γ
  obtain ⟨hx, hb, -⟩ := C
  intro H locs ls hP hS hv
  exact lv_l2i hx hb hd Int64.toInt32_ofInt (h H locs ls hP hS hv)
def xlcmp (x y : Int) : Int := (lg_cmp (Int64.ofInt x) (Int64.ofInt y)).toInt
theorem x_lcmp (C : xC Γ lay own cc nL d) {x y : Int} (hd : decode cc pc = .ok (.lcmp, 1)) (h : xW Γ lay nL (pc + 1) L (.inl (xlcmp x y) :: st) m) : xW Γ lay nL pc L (.inr (.inl y) :: .inr (.inl x) :: st) m := by
  obtain ⟨⟨p, l, e, R, s, m0, args, below, meth, c⟩, ⟨A, ad, dC, dI, dA⟩, cells, slots, Q⟩ := Γ
  obtain ⟨hx, hb, -⟩ := C
  intro H locs ls hP hS hv
  have h1 := h H locs ls hP hS hv
  refine W.lcmp hx hb hd ?_
  have e : Int32.ofInt (xlcmp x y) = lg_cmp (Int64.ofInt x) (Int64.ofInt y) := Int32.ofInt_toInt _
  rw [← e]; exact h1
end XB
section XM
variable {Γ : xG} {lay : List xS} {own : String} {cc : ByteArray} {nL d pc : Nat} {L : List (Nat × xV)} {st : List xV} {m : xM}

/-- what the tables say of a field: its class by number, its place, its type, whether it is final -/
def xF (own : String) (idx ci j : Nat) (t : FieldType) (fin : Bool) : Prop := ∃ (C : String) (T : u_T) (N : Nat) (ty : Nat → FieldType), vwCl[ci]? = some (C, T, N) ∧ j < N ∧ Cond.fieldLink own idx C (T j).2.1 (T j).2.2.1 ∈ wsL_law ∧ (T j).1 = C ∧ (∀ w ∈ u_ws C T N, w ∈ wsL_law) ∧ (∀ k, k < N → parseFieldDescriptor (T k).2.2.1 = some (ty k)) ∧ (∀ a, a < N → ∀ b, b < N → a ≠ b → (T a).2.1 ≠ (T b).2.1) ∧ ty j = t ∧ (T j).2.2.2 = fin
theorem x_getI (C : xC Γ lay own cc nL d) {idx ci j k : Nat} {t : FieldType} {fin : Bool} {fs : List (Option Nat)} (hd : decode cc pc = .ok (.getfield idx, 3)) (hF : xF own idx ci j t fin) (hs : lay[k]? = some (.inl (ci, fs))) (hf : fs[j]? = some none) (h : xW Γ lay nL (pc + 3) L (.inl (m k j) :: st) m) : xW Γ lay nL pc L (.inr (.inr (some k)) :: st) m := by
  obtain ⟨⟨p, l, e, R, s, m0, args, below, meth, c⟩, ⟨A, ad, dC, dI, dA⟩, cells, slots, Q⟩ := Γ
  obtain ⟨hx, hb, hml, hown, hts, hK, hD, hA, -⟩ := C
  obtain ⟨C, T, N, ty, h1, h2, h3, h4, h5, h6, h7, h8, h9⟩ := hF
  intro H locs ls hP hS hv
  refine va_get (own := own) (ref := C) (C := C) (T := T) (N := N) hx hb hts h5 hown hK hP k (xwld_at hs) h1 j h2 (hts _ h3) (fun z hz => by rw [h4] at hz; exact hz) (v := Value.int (Int32.ofInt (m k j))) ?_ hd (h H locs ls hP hS hv)
  rw [xfv_get, hf, Nat.zero_add]; rfl
theorem x_getR (C : xC Γ lay own cc nL d) {idx ci j k r : Nat} {t : FieldType} {fin : Bool} {fs : List (Option Nat)} (hd : decode cc pc = .ok (.getfield idx, 3)) (hF : xF own idx ci j t fin) (hs : lay[k]? = some (.inl (ci, fs))) (hf : fs[j]? = some (some r)) (h : xW Γ lay nL (pc + 3) L (.inr (.inr (some r)) :: st) m) : xW Γ lay nL pc L (.inr (.inr (some k)) :: st) m := by
  obtain ⟨⟨p, l, e, R, s, m0, args, below, meth, c⟩, ⟨A, ad, dC, dI, dA⟩, cells, slots, Q⟩ := Γ
  obtain ⟨hx, hb, hml, hown, hts, hK, hD, hA, -⟩ := C
  obtain ⟨C, T, N, ty, h1, h2, h3, h4, h5, h6, h7, h8, h9⟩ := hF
  intro H locs ls hP hS hv
  refine va_get (own := own) (ref := C) (C := C) (T := T) (N := N) hx hb hts h5 hown hK hP k (xwld_at hs) h1 j h2 (hts _ h3) (fun z hz => by rw [h4] at hz; exact hz) (v := Value.ref (ad r)) ?_ hd (h H locs ls hP hS hv)
  rw [xfv_get, hf]; rfl
theorem x_putI (C : xC Γ lay own cc nL d) {idx ci j k : Nat} {fs : List (Option Nat)} {x : Int} (hd : decode cc pc = .ok (.putfield idx, 3)) (hF : xF own idx ci j .int false) (hs : lay[k]? = some (.inl (ci, fs))) (hf : fs[j]? = some none) (h : xW Γ lay nL (pc + 3) L st (xu m k j x)) : xW Γ lay nL pc L (.inl x :: .inr (.inr (some k)) :: st) m := by
  obtain ⟨⟨p, l, e, R, s, m0, args, below, meth, c⟩, ⟨A, ad, dC, dI, dA⟩, cells, slots, Q⟩ := Γ
  obtain ⟨hx, hb, hml, hown, hts, hK, hD, hA, -⟩ := C
  obtain ⟨C, T, N, ty, h1, h2, h3, h4, h5, h6, h7, h8, h9⟩ := hF
  intro H locs ls hP hS hv
  refine va_put (own := own) (ref := C) (C := C) (T := T) (N := N) hx hb hts h5 ty h6 h7 hown hK hP (xD_of hD) hS k (xwld_at hs) h1 j h2 (hts _ h3) (fun z hz => by rw [h4] at hz; exact hz) h9 (ty := .int) (v := Value.int (Int32.ofInt x)) (by rw [h6 j h2, h8]) rfl rfl ?_ hd (fun H1 locs1 hP1 hD1 hS1 => ?_)
  · rw [xfv_len]; exact (List.getElem?_eq_some_iff.mp hf).1
  · rw [xfv_set (g' := (xu m k j x) k) hf (by unfold xu; rw [if_pos rfl]), xwld_set (m' := xu m k j x) (e := .inr (ci, xfv ad ((xu m k j x) k) 0 fs)) hs rfl (fun k' hk => by unfold xu; rw [if_neg hk])] at hP1
    exact h H1 locs1 ls hP1 hS1 hv
theorem xbz_nar {x : Int} (h : xbz x) : narrow .boolean (.int (Int32.ofInt x)) = .int (Int32.ofInt x) ∧ fits .boolean (.int (Int32.ofInt x)) = true := by
  rcases h with h | h
  · have e : Int32.ofInt x = 0 := xz_eq.mpr h
    rw [e]; exact ⟨rfl, rfl⟩
  · have e : Int32.ofInt x = 1 := by
      have : Int32.ofInt x = Int32.ofInt 1 := xof_eq.mpr (by rw [h]; decide)
      exact this
    rw [e]; exact ⟨rfl, rfl⟩
theorem x_putZ (C : xC Γ lay own cc nL d) {idx ci j k : Nat} {fs : List (Option Nat)} {x : Int} (hd : decode cc pc = .ok (.putfield idx, 3)) (hF : xF own idx ci j .boolean false) (hs : lay[k]? = some (.inl (ci, fs))) (hf : fs[j]? = some none) (hz : xbz x) (h : xW Γ lay nL (pc + 3) L st (xu m k j x)) : xW Γ lay nL pc L (.inl x :: .inr (.inr (some k)) :: st) m := by
  obtain ⟨⟨p, l, e, R, s, m0, args, below, meth, c⟩, ⟨A, ad, dC, dI, dA⟩, cells, slots, Q⟩ := Γ
  obtain ⟨hx, hb, hml, hown, hts, hK, hD, hA, -⟩ := C
  obtain ⟨C, T, N, ty, h1, h2, h3, h4, h5, h6, h7, h8, h9⟩ := hF
  intro H locs ls hP hS hv
  refine va_put (own := own) (ref := C) (C := C) (T := T) (N := N) hx hb hts h5 ty h6 h7 hown hK hP (xD_of hD) hS k (xwld_at hs) h1 j h2 (hts _ h3) (fun z hz => by rw [h4] at hz; exact hz) h9 (ty := .boolean) (v := Value.int (Int32.ofInt x)) (by rw [h6 j h2, h8]) (xbz_nar hz).1 (xbz_nar hz).2 ?_ hd (fun H1 locs1 hP1 hD1 hS1 => ?_)
  · rw [xfv_len]; exact (List.getElem?_eq_some_iff.mp hf).1
  · rw [xfv_set (g' := (xu m k j x) k) hf (by unfold xu; rw [if_pos rfl]), xwld_set (m' := xu m k j x) (e := .inr (ci, xfv ad ((xu m k j x) k) 0 fs)) hs rfl (fun k' hk => by unfold xu; rw [if_neg hk])] at hP1
    exact h H1 locs1 ls hP1 hS1 hv
theorem x_putZc (C : xC Γ lay own cc nL d) {idx ci j k : Nat} {fs : List (Option Nat)} {x : Int} (hd : decode cc pc = .ok (.putfield idx, 3)) (hF : xF own idx ci j .boolean false) (hs : lay[k]? = some (.inl (ci, fs))) (hf : fs[j]? = some none) {α : Type} {a : Option α} {r : α} (h : (if xbz x then a else none) = some r) (k2 : a = some r → xW Γ lay nL (pc + 3) L st (xu m k j x)) : xW Γ lay nL pc L (.inl x :: .inr (.inr (some k)) :: st) m := x_putZ C hd hF hs hf (x_some (a := r) h).1 (k2 (x_some (a := r) h).2)
theorem x_len (C : xC Γ lay own cc nL d) {k n : Nat} {rs : List Nat} (hd : decode cc pc = .ok (.arraylength, 1)) (hs : lay[k]? = some (.inr (0, n, rs))) (h : xW Γ lay nL (pc + 1) L (.inl (n : Int) :: st) m) : xW Γ lay nL pc L (.inr (.inr (some k)) :: st) m := by
  obtain ⟨⟨p, l, e, R, s, m0, args, below, meth, c⟩, ⟨A, ad, dC, dI, dA⟩, cells, slots, Q⟩ := Γ
  obtain ⟨hx, hb, hml, hown, hts, hK, hD, hA, -⟩ := C
  intro H locs ls hP hS hv
  exact va_alen hx hb hK hP k 0 (xwld_at hs) (ty := .int) rfl (v := Int32.ofInt (n : Int)) (by rw [Int32.ofInt_eq_ofNat]) hd (h H locs ls hP hS hv)
theorem x_lenR (C : xC Γ lay own cc nL d) {k n t : Nat} {rs : List Nat} {ty : FieldType} (hd : decode cc pc = .ok (.arraylength, 1)) (ht : ∀ dA : Nat → ClassId, (xtys dA)[t + 2]? = some (dA (t + 2), ty)) (hs : lay[k]? = some (.inr (t + 2, n, rs))) (h : xW Γ lay nL (pc + 1) L (.inl (n : Int) :: st) m) : xW Γ lay nL pc L (.inr (.inr (some k)) :: st) m := by
  obtain ⟨⟨p, l, e, R, s, m0, args, below, meth, c⟩, ⟨A, ad, dC, dI, dA⟩, cells, slots, Q⟩ := Γ
  obtain ⟨hx, hb, hml, hown, hts, hK, hD, hA, -⟩ := C
  intro H locs ls hP hS hv
  exact va_alen hx hb hK hP k (t + 2) (xwld_at hs) (ht dA) (v := Int32.ofInt (n : Int)) (by rw [Int32.ofInt_eq_ofNat]) hd (h H locs ls hP hS hv)
theorem x_iaload (C : xC Γ lay own cc nL d) {k n : Nat} {rs : List Nat} {i : Int} (hd : decode cc pc = .ok (.iaload, 1)) (hs : lay[k]? = some (.inr (0, n, rs))) {α : Type} {a : Option α} {r : α} (h : (if xib i n then a else none) = some r) (k2 : a = some r → xW Γ lay nL (pc + 1) L (.inl (m k (xix i)) :: st) m) : xW Γ lay nL pc L (.inl i :: .inr (.inr (some k)) :: st) m := by
  obtain ⟨hi, ha⟩ := x_some (a := r) h
  obtain ⟨⟨p, l, e, R, s, m0, args, below, meth, c⟩, ⟨A, ad, dC, dI, dA⟩, cells, slots, Q⟩ := Γ
  obtain ⟨hx, hb, hml, hown, hts, hK, hD, hA, -⟩ := C
  intro H locs ls hP hS hv
  exact va_iald hx hb hK hP k 0 (xwld_at hs) rfl (xib_in hi) hd (k2 ha H locs ls hP hS hv)
theorem x_laload (C : xC Γ lay own cc nL d) {k n : Nat} {rs : List Nat} {i : Int} (hd : decode cc pc = .ok (.laload, 1)) (hs : lay[k]? = some (.inr (1, n, rs))) {α : Type} {a : Option α} {r : α} (h : (if xib i n then a else none) = some r) (k2 : a = some r → xW Γ lay nL (pc + 1) L (.inr (.inl (m k (xix i))) :: st) m) : xW Γ lay nL pc L (.inl i :: .inr (.inr (some k)) :: st) m := by
  obtain ⟨hi, ha⟩ := x_some (a := r) h
  obtain ⟨⟨p, l, e, R, s, m0, args, below, meth, c⟩, ⟨A, ad, dC, dI, dA⟩, cells, slots, Q⟩ := Γ
  obtain ⟨hx, hb, hml, hown, hts, hK, hD, hA, -⟩ := C
  intro H locs ls hP hS hv
  exact va_lald hx hb hK hP k 1 (xwld_at hs) rfl (xib_in hi) hd (k2 ha H locs ls hP hS hv)
theorem x_aaload (C : xC Γ lay own cc nL d) {k n t : Nat} {rs : List Nat} {i : Int} {E : String} {q : Nat} (hd : decode cc pc = .ok (.aaload, 1)) (ht : ∀ dA : Nat → ClassId, (xtys dA)[t + 2]? = some (dA (t + 2), .object E)) (hs : lay[k]? = some (.inr (t + 2, n, rs))) (hi : xib i n) (hq : rs[xix i]? = some q) (k2 : xW Γ lay nL (pc + 1) L (.inr (.inr (some q)) :: st) m) : xW Γ lay nL pc L (.inl i :: .inr (.inr (some k)) :: st) m := by
  obtain ⟨⟨p, l, e, R, s, m0, args, below, meth, c⟩, ⟨A, ad, dC, dI, dA⟩, cells, slots, Q⟩ := Γ
  obtain ⟨hx, hb, hml, hown, hts, hK, hD, hA, -⟩ := C
  intro H locs ls hP hS hv
  have h1 := k2 H locs ls hP hS hv
  refine va_aldq hx hb hK hP k (t + 2) (xwld_at hs) (ht dA) (xib_in hi) hd ?_
  show W p l e R s m0 args below meth c H locs cells slots Q (F0 m0 (pc + 1) ls (va_rf ((rs[xix i]?).map ad) :: st.map (xval ad)))
  rw [hq]
  exact h1
theorem x_iastore (C : xC Γ lay own cc nL d) {k n : Nat} {rs : List Nat} {i x : Int} (hd : decode cc pc = .ok (.iastore, 1)) (hs : lay[k]? = some (.inr (0, n, rs))) {α : Type} {a : Option α} {r : α} (h : (if xib i n then a else none) = some r) (k2 : a = some r → xW Γ lay nL (pc + 1) L st (xu m k (xix i) x)) : xW Γ lay nL pc L (.inl x :: .inl i :: .inr (.inr (some k)) :: st) m := by
  obtain ⟨hi, ha⟩ := x_some (a := r) h
  obtain ⟨⟨p, l, e, R, s, m0, args, below, meth, c⟩, ⟨A, ad, dC, dI, dA⟩, cells, slots, Q⟩ := Γ
  obtain ⟨hx, hb, hml, hown, hts, hK, hD, hA, -⟩ := C
  intro H locs ls hP hS hv
  refine va_iast hx hb hK hP (xD_of hD) hS k 0 (xwld_at hs) rfl (xib_in hi) hd (fun H1 locs1 hP1 hD1 hS1 => ?_)
  rw [xwld_set (m' := xu m k (xix i) x) hs ?_ (fun k' hk => by unfold xu; rw [if_neg hk])] at hP1
  · exact k2 ha H1 locs1 ls hP1 hS1 hv
  · show Sum.inl (dA 0, n, Sum.inl _) = Sum.inl (dA 0, n, Sum.inl _)
    congr 4
    funext z
    show (if z = xix i then Int32.ofInt x else Int32.ofInt (m k z)) = Int32.ofInt (xu m k (xix i) x k z)
    unfold xu xup
    rw [if_pos rfl]
    by_cases hz : z = xix i
    · rw [if_pos hz, if_pos hz]
    · rw [if_neg hz, if_neg hz]
theorem x_lastore (C : xC Γ lay own cc nL d) {k n : Nat} {rs : List Nat} {i x : Int} (hd : decode cc pc = .ok (.lastore, 1)) (hs : lay[k]? = some (.inr (1, n, rs))) {α : Type} {a : Option α} {r : α} (h : (if xib i n then a else none) = some r) (k2 : a = some r → xW Γ lay nL (pc + 1) L st (xu m k (xix i) x)) : xW Γ lay nL pc L (.inr (.inl x) :: .inl i :: .inr (.inr (some k)) :: st) m := by
  obtain ⟨hi, ha⟩ := x_some (a := r) h
  obtain ⟨⟨p, l, e, R, s, m0, args, below, meth, c⟩, ⟨A, ad, dC, dI, dA⟩, cells, slots, Q⟩ := Γ
  obtain ⟨hx, hb, hml, hown, hts, hK, hD, hA, -⟩ := C
  intro H locs ls hP hS hv
  refine va_last hx hb hK hP (xD_of hD) hS k 1 (xwld_at hs) rfl (xib_in hi) hd (fun H1 locs1 hP1 hD1 hS1 => ?_)
  rw [xwld_set (m' := xu m k (xix i) x) hs ?_ (fun k' hk => by unfold xu; rw [if_neg hk])] at hP1
  · exact k2 ha H1 locs1 ls hP1 hS1 hv
  · show Sum.inl (dA 1, n, Sum.inr (Sum.inl _)) = Sum.inl (dA 1, n, Sum.inr (Sum.inl _))
    congr 5
    funext z
    show (if z = xix i then Int64.ofInt x else Int64.ofInt (m k z)) = Int64.ofInt (xu m k (xix i) x k z)
    unfold xu xup
    rw [if_pos rfl]
    by_cases hz : z = xix i
    · rw [if_pos hz, if_pos hz]
    · rw [if_neg hz, if_neg hz]
end XM

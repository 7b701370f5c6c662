/-! ===== yX11_format ===== -/
theorem x_ldcSW {Γ : xG} {lay : List xS} {own : String} {cc : ByteArray} {nL d pc : Nat} {L : List (Nat × xV)} {st : List xV} {m : xM} (C : xC Γ lay own cc nL d) {idx : Nat} (tx : String) (i : Nat) (hd : decode cc pc = .ok (.ldc_w idx, 3)) (hr : (own, idx, tx, i) ∈ xSref) (h : xW Γ lay nL (pc + 3) L (.inr (.inr (some (1000 + i))) :: st) m) : xW Γ lay nL pc L st m := by
  obtain ⟨⟨p, l, e, R, s, m0, args, below, meth, c⟩, ⟨A, ad, dC, dI, dA⟩, cells, slots, Q⟩ := Γ
  obtain ⟨hx, hb, hml, hown, hts, hK, hD, hA, hfr, hlo, hce, hsl, hstr⟩ := C
  intro H locs ls hP hS hv T hT X
  obtain ⟨t, a1, b1⟩ := h H locs ls hP hS hv T hT X
  exact ⟨t, X.ldcStringW hx hown (text := tx) (a := ad (1000 + i)) (hstr.2.1 _ hr).1 (hstr.2.1 _ hr).2 (g := F0 m0 pc ls (st.map (xval ad))) rfl (by rw [hb]; exact hd) t a1, b1⟩
theorem xy_X11_putWord : xY yX11_putWord cX11_putWord 3 none 1 := ⟨(xin_63 _ (List.mem_of_getElem? (i := 17) rfl)), (xin_1 _ (List.mem_of_getElem? (i := 5) rfl)), by decide, by decide, by decide +kernel⟩
theorem xi_X11_putWord : Cond.instanceMethod yX11_putWord ∈ wsL_law := (xin_63 _ (List.mem_of_getElem? (i := 15) rfl))
theorem xs_X11_putWord : Cond.selects yX11_putWord.cls yX11_putWord yX11_putWord ∈ wsL_law := (xin_63 _ (List.mem_of_getElem? (i := 16) rfl))
theorem xy_X11_putNumber : xY yX11_putNumber cX11_putNumber 3 none 1 := ⟨(xin_64 _ (List.mem_of_getElem? (i := 1) rfl)), (xin_1 _ (List.mem_of_getElem? (i := 5) rfl)), by decide, by decide, by decide +kernel⟩
theorem xi_X11_putNumber : Cond.instanceMethod yX11_putNumber ∈ wsL_law := (xin_63 _ (List.mem_of_getElem? (i := 23) rfl))
theorem xs_X11_putNumber : Cond.selects yX11_putNumber.cls yX11_putNumber yX11_putNumber ∈ wsL_law := (xin_64 _ (List.mem_of_getElem? (i := 0) rfl))
theorem dX11_format_0 : decode cX11_format 0 = .ok (.aload_n 0, 1) := by decide +kernel
theorem dX11_format_1 : decode cX11_format 1 = .ok (.iconst 0, 1) := by decide +kernel
theorem dX11_format_2 : decode cX11_format 2 = .ok (.putfield 66, 3) := by decide +kernel
theorem dX11_format_5 : decode cX11_format 5 = .ok (.aload_n 0, 1) := by decide +kernel
theorem dX11_format_6 : decode cX11_format 6 = .ok (.iconst 0, 1) := by decide +kernel
theorem dX11_format_7 : decode cX11_format 7 = .ok (.putfield 245, 3) := by decide +kernel
theorem dX11_format_10 : decode cX11_format 10 = .ok (.aload_n 0, 1) := by decide +kernel
theorem dX11_format_11 : decode cX11_format 11 = .ok (.aload_n 0, 1) := by decide +kernel
theorem dX11_format_12 : decode cX11_format 12 = .ok (.iconst 0, 1) := by decide +kernel
theorem dX11_format_13 : decode cX11_format 13 = .ok (.invokevirtual 77, 3) := by decide +kernel
theorem dX11_format_16 : decode cX11_format 16 = .ok (.ifCond .eq 9, 3) := by decide +kernel
theorem dX11_format_19 : decode cX11_format 19 = .ok (.ldc_w 258, 3) := by decide +kernel
theorem dX11_format_22 : decode cX11_format 22 = .ok (.goto 34, 3) := by decide +kernel
theorem dX11_format_25 : decode cX11_format 25 = .ok (.aload_n 0, 1) := by decide +kernel
theorem dX11_format_26 : decode cX11_format 26 = .ok (.iconst 1, 1) := by decide +kernel
theorem dX11_format_27 : decode cX11_format 27 = .ok (.invokevirtual 77, 3) := by decide +kernel
theorem dX11_format_30 : decode cX11_format 30 = .ok (.ifCond .eq 9, 3) := by decide +kernel
theorem dX11_format_33 : decode cX11_format 33 = .ok (.ldc_w 260, 3) := by decide +kernel
theorem dX11_format_36 : decode cX11_format 36 = .ok (.goto 20, 3) := by decide +kernel
theorem dX11_format_39 : decode cX11_format 39 = .ok (.aload_n 0, 1) := by decide +kernel
theorem dX11_format_40 : decode cX11_format 40 = .ok (.iconst 2, 1) := by decide +kernel
theorem dX11_format_41 : decode cX11_format 41 = .ok (.invokevirtual 77, 3) := by decide +kernel
theorem dX11_format_44 : decode cX11_format 44 = .ok (.ifCond .eq 9, 3) := by decide +kernel
theorem dX11_format_47 : decode cX11_format 47 = .ok (.ldc_w 262, 3) := by decide +kernel
theorem dX11_format_50 : decode cX11_format 50 = .ok (.goto 6, 3) := by decide +kernel
theorem dX11_format_53 : decode cX11_format 53 = .ok (.ldc_w 264, 3) := by decide +kernel
theorem dX11_format_56 : decode cX11_format 56 = .ok (.invokevirtual 266, 3) := by decide +kernel
theorem dX11_format_59 : decode cX11_format 59 = .ok (.aload_n 0, 1) := by decide +kernel
theorem dX11_format_60 : decode cX11_format 60 = .ok (.iconst 1, 1) := by decide +kernel
theorem dX11_format_61 : decode cX11_format 61 = .ok (.invokevirtual 77, 3) := by decide +kernel
theorem dX11_format_64 : decode cX11_format 64 = .ok (.ifCond .ne 11, 3) := by decide +kernel
theorem dX11_format_67 : decode cX11_format 67 = .ok (.aload_n 0, 1) := by decide +kernel
theorem dX11_format_68 : decode cX11_format 68 = .ok (.iconst 2, 1) := by decide +kernel
theorem dX11_format_69 : decode cX11_format 69 = .ok (.invokevirtual 77, 3) := by decide +kernel
theorem dX11_format_72 : decode cX11_format 72 = .ok (.ifCond .eq 36, 3) := by decide +kernel
theorem dX11_format_75 : decode cX11_format 75 = .ok (.aload_n 0, 1) := by decide +kernel
theorem dX11_format_76 : decode cX11_format 76 = .ok (.bipush 32, 2) := by decide +kernel
theorem dX11_format_78 : decode cX11_format 78 = .ok (.invokevirtual 255, 3) := by decide +kernel
theorem dX11_format_81 : decode cX11_format 81 = .ok (.aload_n 0, 1) := by decide +kernel
theorem dX11_format_82 : decode cX11_format 82 = .ok (.aload_n 0, 1) := by decide +kernel
theorem dX11_format_83 : decode cX11_format 83 = .ok (.iconst 2, 1) := by decide +kernel
theorem dX11_format_84 : decode cX11_format 84 = .ok (.invokevirtual 77, 3) := by decide +kernel
theorem dX11_format_87 : decode cX11_format 87 = .ok (.ifCond .eq 12, 3) := by decide +kernel
theorem dX11_format_90 : decode cX11_format 90 = .ok (.aload_n 0, 1) := by decide +kernel
theorem dX11_format_91 : decode cX11_format 91 = .ok (.getfield 9, 3) := by decide +kernel
theorem dX11_format_94 : decode cX11_format 94 = .ok (.iconst 3, 1) := by decide +kernel
theorem dX11_format_95 : decode cX11_format 95 = .ok (.iaload, 1) := by decide +kernel
theorem dX11_format_96 : decode cX11_format 96 = .ok (.goto 9, 3) := by decide +kernel
theorem dX11_format_99 : decode cX11_format 99 = .ok (.aload_n 0, 1) := by decide +kernel
theorem dX11_format_100 : decode cX11_format 100 = .ok (.getfield 9, 3) := by decide +kernel
theorem dX11_format_103 : decode cX11_format 103 = .ok (.iconst 4, 1) := by decide +kernel
theorem dX11_format_104 : decode cX11_format 104 = .ok (.iaload, 1) := by decide +kernel
theorem dX11_format_105 : decode cX11_format 105 = .ok (.invokevirtual 270, 3) := by decide +kernel
theorem dX11_format_108 : decode cX11_format 108 = .ok (.iconst 0, 1) := by decide +kernel
theorem dX11_format_109 : decode cX11_format 109 = .ok (.istore_n 1, 1) := by decide +kernel
theorem dX11_format_110 : decode cX11_format 110 = .ok (.iload_n 1, 1) := by decide +kernel
theorem dX11_format_111 : decode cX11_format 111 = .ok (.iconst 2, 1) := by decide +kernel
theorem dX11_format_112 : decode cX11_format 112 = .ok (.if_icmp .ge 57, 3) := by decide +kernel
theorem dX11_format_115 : decode cX11_format 115 = .ok (.aload_n 0, 1) := by decide +kernel
theorem dX11_format_116 : decode cX11_format 116 = .ok (.bipush 32, 2) := by decide +kernel
theorem dX11_format_118 : decode cX11_format 118 = .ok (.invokevirtual 255, 3) := by decide +kernel
theorem dX11_format_121 : decode cX11_format 121 = .ok (.aload_n 0, 1) := by decide +kernel
theorem dX11_format_122 : decode cX11_format 122 = .ok (.aload_n 0, 1) := by decide +kernel
theorem dX11_format_123 : decode cX11_format 123 = .ok (.iload_n 1, 1) := by decide +kernel
theorem dX11_format_124 : decode cX11_format 124 = .ok (.iconst 0, 1) := by decide +kernel
theorem dX11_format_125 : decode cX11_format 125 = .ok (.invokevirtual 101, 3) := by decide +kernel
theorem dX11_format_128 : decode cX11_format 128 = .ok (.invokevirtual 270, 3) := by decide +kernel
theorem dX11_format_131 : decode cX11_format 131 = .ok (.aload_n 0, 1) := by decide +kernel
theorem dX11_format_132 : decode cX11_format 132 = .ok (.bipush 47, 2) := by decide +kernel
theorem dX11_format_134 : decode cX11_format 134 = .ok (.invokevirtual 255, 3) := by decide +kernel
theorem dX11_format_137 : decode cX11_format 137 = .ok (.aload_n 0, 1) := by decide +kernel
theorem dX11_format_138 : decode cX11_format 138 = .ok (.aload_n 0, 1) := by decide +kernel
theorem dX11_format_139 : decode cX11_format 139 = .ok (.iload_n 1, 1) := by decide +kernel
theorem dX11_format_140 : decode cX11_format 140 = .ok (.iconst 1, 1) := by decide +kernel
theorem dX11_format_141 : decode cX11_format 141 = .ok (.invokevirtual 101, 3) := by decide +kernel
theorem dX11_format_144 : decode cX11_format 144 = .ok (.invokevirtual 270, 3) := by decide +kernel
theorem dX11_format_147 : decode cX11_format 147 = .ok (.aload_n 0, 1) := by decide +kernel
theorem dX11_format_148 : decode cX11_format 148 = .ok (.bipush 47, 2) := by decide +kernel
theorem dX11_format_150 : decode cX11_format 150 = .ok (.invokevirtual 255, 3) := by decide +kernel
theorem dX11_format_153 : decode cX11_format 153 = .ok (.aload_n 0, 1) := by decide +kernel
theorem dX11_format_154 : decode cX11_format 154 = .ok (.aload_n 0, 1) := by decide +kernel
theorem dX11_format_155 : decode cX11_format 155 = .ok (.iload_n 1, 1) := by decide +kernel
theorem dX11_format_156 : decode cX11_format 156 = .ok (.iconst 4, 1) := by decide +kernel
theorem dX11_format_157 : decode cX11_format 157 = .ok (.invokevirtual 101, 3) := by decide +kernel
theorem dX11_format_160 : decode cX11_format 160 = .ok (.invokevirtual 270, 3) := by decide +kernel
theorem dX11_format_163 : decode cX11_format 163 = .ok (.iinc 1 1, 3) := by decide +kernel
theorem dX11_format_166 : decode cX11_format 166 = .ok (.goto (-56), 3) := by decide +kernel
theorem dX11_format_169 : decode cX11_format 169 = .ok (.aload_n 0, 1) := by decide +kernel
theorem dX11_format_170 : decode cX11_format 170 = .ok (.getfield 245, 3) := by decide +kernel
theorem dX11_format_173 : decode cX11_format 173 = .ok (.ireturn, 1) := by decide +kernel
def f_m_format_169 (m : xM) : Option (Int × xM) :=
     some ((m 0 11), m)
set_option maxRecDepth 1000000 in
set_option maxHeartbeats 4000000 in
theorem t_m_format_169 {Γ : xG} {d : Nat} (hd9 : 5 ≤ d) (C : xC Γ lay_M RX11 cX11_format 2 d) {r : Int} {m9 : xM} (hR : xRi Γ lay_M cX11_format r m9) (m : xM) (h : f_m_format_169 m = some (r, m9)) : xW Γ lay_M 2 169 [(0, .inr (.inr (some 0)))] [] m := by
  unfold f_m_format_169 at h
  refine x_aload_n C dX11_format_169 rfl ?_
  refine x_getI C dX11_format_170 fF_X11_245 rfl rfl ?_
  exact x_ireturn hR dX11_format_173 h
def f_m_format_110 : Nat → Int → xM → Option (Int × xM)
  | 0, _, _ => none
  | n + 1, x1, m =>
     (if xw x1 < xw 2 then (Option.bind (f_m_put 32 m) fun q8 =>
      (Option.bind (f_m_of x1 0 q8) fun q9 =>
      (Option.bind (f_m_putNumber q9 q8) fun q10 =>
      (Option.bind (f_m_put 47 q10) fun q11 =>
      (Option.bind (f_m_of x1 1 q11) fun q12 =>
      (Option.bind (f_m_putNumber q12 q11) fun q13 =>
      (Option.bind (f_m_put 47 q13) fun q14 =>
      (Option.bind (f_m_of x1 4 q14) fun q15 =>
      (Option.bind (f_m_putNumber q15 q14) fun q16 =>
      f_m_format_110 n (x1 + 1) q16)))))))))
      else f_m_format_169 m)
set_option maxRecDepth 1000000 in
set_option maxHeartbeats 4000000 in
theorem t_m_format_110 {Γ : xG} {d : Nat} (hd9 : 5 ≤ d) (C : xC Γ lay_M RX11 cX11_format 2 d) {r : Int} {m9 : xM} (hR : xRi Γ lay_M cX11_format r m9) : ∀ (n : Nat) (x1 : Int) (m : xM), f_m_format_110 n x1 m = some (r, m9) → xW Γ lay_M 2 110 [(0, .inr (.inr (some 0))), (1, .inl x1)] [] m := by
  intro n
  induction n with
  | zero => intro _ _ h; cases h
  | succ n ih =>
    intro x1 m h
    rw [f_m_format_110] at h
    refine x_iload_n C dX11_format_110 rfl ?_
    refine x_iconst C dX11_format_111 ?_
    refine x_icmp_ge C 169 dX11_format_112 (by decide) h (fun h => ?_) (fun h => ?_)
    · refine x_loc [(0, .inr (.inr (some 0)))] ⟨rfl, trivial⟩ ?_
      exact t_m_format_169 hd9 C hR _ h
    · refine x_aload_n C dX11_format_115 rfl ?_
      refine x_bipush C dX11_format_116 (by decide) ?_
      obtain ⟨q8, hq8, h⟩ := x_bind h
      refine x_callVI C dX11_format_118 (xin_63 _ (List.mem_of_getElem? (i := 18) rfl)) xy_X11_put (xi_X11_put) (xs_X11_put) (by omega) (by decide) (b := 0) rfl ⟨_, _, rfl⟩ (av := [.inl 32]) rfl (Nat.le_of_ble_eq_true rfl) (c_m_put _ _ _ _ hq8) rfl ?_
      refine x_aload_n C dX11_format_121 rfl ?_
      refine x_aload_n C dX11_format_122 rfl ?_
      refine x_iload_n C dX11_format_123 rfl ?_
      refine x_iconst C dX11_format_124 ?_
      obtain ⟨q9, hq9, h⟩ := x_bind h
      refine x_callVI C dX11_format_125 (xin_27 _ (List.mem_of_getElem? (i := 14) rfl)) xy_X11_of (xi_X11_of) (xs_X11_of) (by omega) (by decide) (b := 0) rfl ⟨_, _, rfl⟩ (av := [.inl x1, .inl 0]) rfl (Nat.le_of_ble_eq_true rfl) (c_m_of _ _ _ _ _ hq9) rfl ?_
      obtain ⟨q10, hq10, h⟩ := x_bind h
      refine x_callVI C dX11_format_128 (xin_63 _ (List.mem_of_getElem? (i := 22) rfl)) xy_X11_putNumber (xi_X11_putNumber) (xs_X11_putNumber) (by omega) (by decide) (b := 0) rfl ⟨_, _, rfl⟩ (av := [.inl q9]) rfl (Nat.le_of_ble_eq_true rfl) (c_m_putNumber _ _ _ _ hq10) rfl ?_
      refine x_aload_n C dX11_format_131 rfl ?_
      refine x_bipush C dX11_format_132 (by decide) ?_
      obtain ⟨q11, hq11, h⟩ := x_bind h
      refine x_callVI C dX11_format_134 (xin_63 _ (List.mem_of_getElem? (i := 18) rfl)) xy_X11_put (xi_X11_put) (xs_X11_put) (by omega) (by decide) (b := 0) rfl ⟨_, _, rfl⟩ (av := [.inl 47]) rfl (Nat.le_of_ble_eq_true rfl) (c_m_put _ _ _ _ hq11) rfl ?_
      refine x_aload_n C dX11_format_137 rfl ?_
      refine x_aload_n C dX11_format_138 rfl ?_
      refine x_iload_n C dX11_format_139 rfl ?_
      refine x_iconst C dX11_format_140 ?_
      obtain ⟨q12, hq12, h⟩ := x_bind h
      refine x_callVI C dX11_format_141 (xin_27 _ (List.mem_of_getElem? (i := 14) rfl)) xy_X11_of (xi_X11_of) (xs_X11_of) (by omega) (by decide) (b := 0) rfl ⟨_, _, rfl⟩ (av := [.inl x1, .inl 1]) rfl (Nat.le_of_ble_eq_true rfl) (c_m_of _ _ _ _ _ hq12) rfl ?_
      obtain ⟨q13, hq13, h⟩ := x_bind h
      refine x_callVI C dX11_format_144 (xin_63 _ (List.mem_of_getElem? (i := 22) rfl)) xy_X11_putNumber (xi_X11_putNumber) (xs_X11_putNumber) (by omega) (by decide) (b := 0) rfl ⟨_, _, rfl⟩ (av := [.inl q12]) rfl (Nat.le_of_ble_eq_true rfl) (c_m_putNumber _ _ _ _ hq13) rfl ?_
      refine x_aload_n C dX11_format_147 rfl ?_
      refine x_bipush C dX11_format_148 (by decide) ?_
      obtain ⟨q14, hq14, h⟩ := x_bind h
      refine x_callVI C dX11_format_150 (xin_63 _ (List.mem_of_getElem? (i := 18) rfl)) xy_X11_put (xi_X11_put) (xs_X11_put) (by omega) (by decide) (b := 0) rfl ⟨_, _, rfl⟩ (av := [.inl 47]) rfl (Nat.le_of_ble_eq_true rfl) (c_m_put _ _ _ _ hq14) rfl ?_
      refine x_aload_n C dX11_format_153 rfl ?_
      refine x_aload_n C dX11_format_154 rfl ?_
      refine x_iload_n C dX11_format_155 rfl ?_
      refine x_iconst C dX11_format_156 ?_
      obtain ⟨q15, hq15, h⟩ := x_bind h
      refine x_callVI C dX11_format_157 (xin_27 _ (List.mem_of_getElem? (i := 14) rfl)) xy_X11_of (xi_X11_of) (xs_X11_of) (by omega) (by decide) (b := 0) rfl ⟨_, _, rfl⟩ (av := [.inl x1, .inl 4]) rfl (Nat.le_of_ble_eq_true rfl) (c_m_of _ _ _ _ _ hq15) rfl ?_
      obtain ⟨q16, hq16, h⟩ := x_bind h
      refine x_callVI C dX11_format_160 (xin_63 _ (List.mem_of_getElem? (i := 22) rfl)) xy_X11_putNumber (xi_X11_putNumber) (xs_X11_putNumber) (by omega) (by decide) (b := 0) rfl ⟨_, _, rfl⟩ (av := [.inl q15]) rfl (Nat.le_of_ble_eq_true rfl) (c_m_putNumber _ _ _ _ hq16) rfl ?_
      refine x_iinc C dX11_format_163 (by decide) rfl ?_
      refine x_goto C 110 dX11_format_166 (by decide) ?_
      refine x_loc [(0, .inr (.inr (some 0))), (1, .inl (x1 + 1))] ⟨rfl, rfl, trivial⟩ ?_
      exact ih _ _ h
def f_m_format_108 (m : xM) : Option (Int × xM) :=
     f_m_format_110 fu 0 m
set_option maxRecDepth 1000000 in
set_option maxHeartbeats 4000000 in
theorem t_m_format_108 {Γ : xG} {d : Nat} (hd9 : 5 ≤ d) (C : xC Γ lay_M RX11 cX11_format 2 d) {r : Int} {m9 : xM} (hR : xRi Γ lay_M cX11_format r m9) (m : xM) (h : f_m_format_108 m = some (r, m9)) : xW Γ lay_M 2 108 [(0, .inr (.inr (some 0)))] [] m := by
  unfold f_m_format_108 at h
  refine x_iconst C dX11_format_108 ?_
  refine x_istore_n C dX11_format_109 (by decide) ?_
  refine x_loc [(0, .inr (.inr (some 0))), (1, .inl 0)] ⟨rfl, rfl, trivial⟩ ?_
  exact t_m_format_110 hd9 C hR fu _ _ h
def f_m_format_105 (s0 : Int) (m : xM) : Option (Int × xM) :=
     (Option.bind (f_m_putNumber s0 m) fun q7 =>
      f_m_format_108 q7)
set_option maxRecDepth 1000000 in
set_option maxHeartbeats 4000000 in
theorem t_m_format_105 {Γ : xG} {d : Nat} (hd9 : 5 ≤ d) (C : xC Γ lay_M RX11 cX11_format 2 d) {r : Int} {m9 : xM} (hR : xRi Γ lay_M cX11_format r m9) (s0 : Int) (m : xM) (h : f_m_format_105 s0 m = some (r, m9)) : xW Γ lay_M 2 105 [(0, .inr (.inr (some 0)))] [.inl s0, .inr (.inr (some 0))] m := by
  unfold f_m_format_105 at h
  obtain ⟨q7, hq7, h⟩ := x_bind h
  refine x_callVI C dX11_format_105 (xin_63 _ (List.mem_of_getElem? (i := 22) rfl)) xy_X11_putNumber (xi_X11_putNumber) (xs_X11_putNumber) (by omega) (by decide) (b := 0) rfl ⟨_, _, rfl⟩ (av := [.inl s0]) rfl (Nat.le_of_ble_eq_true rfl) (c_m_putNumber _ _ _ _ hq7) rfl ?_
  refine x_loc [(0, .inr (.inr (some 0)))] ⟨rfl, trivial⟩ ?_
  exact t_m_format_108 hd9 C hR _ h
def f_m_format_75 (m : xM) : Option (Int × xM) :=
     (Option.bind (f_m_put 32 m) fun q5 =>
      (Option.bind (f_m_isPhase 2 q5) fun q6 =>
      (if xw q6 = 0 then (if xib 4 3530 then f_m_format_105 (q5 1 4) q5
      else none)
      else (if xib 3 3530 then f_m_format_105 (q5 1 3) q5
      else none))))
set_option maxRecDepth 1000000 in
set_option maxHeartbeats 4000000 in
theorem t_m_format_75 {Γ : xG} {d : Nat} (hd9 : 5 ≤ d) (C : xC Γ lay_M RX11 cX11_format 2 d) {r : Int} {m9 : xM} (hR : xRi Γ lay_M cX11_format r m9) (m : xM) (h : f_m_format_75 m = some (r, m9)) : xW Γ lay_M 2 75 [(0, .inr (.inr (some 0)))] [] m := by
  unfold f_m_format_75 at h
  refine x_aload_n C dX11_format_75 rfl ?_
  refine x_bipush C dX11_format_76 (by decide) ?_
  obtain ⟨q5, hq5, h⟩ := x_bind h
  refine x_callVI C dX11_format_78 (xin_63 _ (List.mem_of_getElem? (i := 18) rfl)) xy_X11_put (xi_X11_put) (xs_X11_put) (by omega) (by decide) (b := 0) rfl ⟨_, _, rfl⟩ (av := [.inl 32]) rfl (Nat.le_of_ble_eq_true rfl) (c_m_put _ _ _ _ hq5) rfl ?_
  refine x_aload_n C dX11_format_81 rfl ?_
  refine x_aload_n C dX11_format_82 rfl ?_
  refine x_iconst C dX11_format_83 ?_
  obtain ⟨q6, hq6, h⟩ := x_bind h
  refine x_callVI C dX11_format_84 (xin_25 _ (List.mem_of_getElem? (i := 12) rfl)) xy_X11_isPhase (xi_X11_isPhase) (xs_X11_isPhase) (by omega) (by decide) (b := 0) rfl ⟨_, _, rfl⟩ (av := [.inl 2]) rfl (Nat.le_of_ble_eq_true rfl) (c_m_isPhase _ _ _ _ hq6) rfl ?_
  refine x_if_eq C 99 dX11_format_87 (by decide) h (fun h => ?_) (fun h => ?_)
  · refine x_aload_n C dX11_format_99 rfl ?_
    refine x_getR C dX11_format_100 fF_X11_9 rfl rfl ?_
    refine x_iconst C dX11_format_103 ?_
    refine x_iaload C dX11_format_104 rfl h (fun h => ?_)
    refine x_loc [(0, .inr (.inr (some 0)))] ⟨rfl, trivial⟩ ?_
    exact t_m_format_105 hd9 C hR _ _ h
  · refine x_aload_n C dX11_format_90 rfl ?_
    refine x_getR C dX11_format_91 fF_X11_9 rfl rfl ?_
    refine x_iconst C dX11_format_94 ?_
    refine x_iaload C dX11_format_95 rfl h (fun h => ?_)
    refine x_goto C 105 dX11_format_96 (by decide) ?_
    refine x_loc [(0, .inr (.inr (some 0)))] ⟨rfl, trivial⟩ ?_
    exact t_m_format_105 hd9 C hR _ _ h
def f_m_format_56 (m : xM) : Option (Int × xM) :=
     (Option.bind (f_m_putWord 23 m) fun q3 =>
      (Option.bind (f_m_isPhase 1 q3) fun q4 =>
      (if xw q4 = 0 then (Option.bind (f_m_isPhase 2 q3) fun q17 =>
      (if xw q17 = 0 then f_m_format_108 q3
      else f_m_format_75 q3))
      else f_m_format_75 q3)))
set_option maxRecDepth 1000000 in
set_option maxHeartbeats 4000000 in
theorem t_m_format_56 {Γ : xG} {d : Nat} (hd9 : 5 ≤ d) (C : xC Γ lay_M RX11 cX11_format 2 d) {r : Int} {m9 : xM} (hR : xRi Γ lay_M cX11_format r m9) (m : xM) (h : f_m_format_56 m = some (r, m9)) : xW Γ lay_M 2 56 [(0, .inr (.inr (some 0)))] [.inr (.inr (some 1023)), .inr (.inr (some 0))] m := by
  unfold f_m_format_56 at h
  obtain ⟨q3, hq3, h⟩ := x_bind h
  refine x_callVI C dX11_format_56 (xin_63 _ (List.mem_of_getElem? (i := 14) rfl)) xy_X11_putWord (xi_X11_putWord) (xs_X11_putWord) (by omega) (by decide) (b := 0) rfl ⟨_, _, rfl⟩ (av := [.inr (.inr (some 1023))]) rfl (Nat.le_of_ble_eq_true rfl) (c_m_putWord _ 23 (by decide) _ _ hq3) rfl ?_
  refine x_aload_n C dX11_format_59 rfl ?_
  refine x_iconst C dX11_format_60 ?_
  obtain ⟨q4, hq4, h⟩ := x_bind h
  refine x_callVI C dX11_format_61 (xin_25 _ (List.mem_of_getElem? (i := 12) rfl)) xy_X11_isPhase (xi_X11_isPhase) (xs_X11_isPhase) (by omega) (by decide) (b := 0) rfl ⟨_, _, rfl⟩ (av := [.inl 1]) rfl (Nat.le_of_ble_eq_true rfl) (c_m_isPhase _ _ _ _ hq4) rfl ?_
  refine x_if_ne C 75 dX11_format_64 (by decide) h (fun h => ?_) (fun h => ?_)
  · refine x_loc [(0, .inr (.inr (some 0)))] ⟨rfl, trivial⟩ ?_
    exact t_m_format_75 hd9 C hR _ h
  · refine x_aload_n C dX11_format_67 rfl ?_
    refine x_iconst C dX11_format_68 ?_
    obtain ⟨q17, hq17, h⟩ := x_bind h
    refine x_callVI C dX11_format_69 (xin_25 _ (List.mem_of_getElem? (i := 12) rfl)) xy_X11_isPhase (xi_X11_isPhase) (xs_X11_isPhase) (by omega) (by decide) (b := 0) rfl ⟨_, _, rfl⟩ (av := [.inl 2]) rfl (Nat.le_of_ble_eq_true rfl) (c_m_isPhase _ _ _ _ hq17) rfl ?_
    refine x_if_eq C 108 dX11_format_72 (by decide) h (fun h => ?_) (fun h => ?_)
    · refine x_loc [(0, .inr (.inr (some 0)))] ⟨rfl, trivial⟩ ?_
      exact t_m_format_108 hd9 C hR _ h
    · refine x_loc [(0, .inr (.inr (some 0)))] ⟨rfl, trivial⟩ ?_
      exact t_m_format_75 hd9 C hR _ h
def f_m_format_56_010220 (m : xM) : Option (Int × xM) :=
     (Option.bind (f_m_putWord 22 m) fun q18 =>
      (Option.bind (f_m_isPhase 1 q18) fun q19 =>
      (if xw q19 = 0 then (Option.bind (f_m_isPhase 2 q18) fun q20 =>
      (if xw q20 = 0 then f_m_format_108 q18
      else f_m_format_75 q18))
      else f_m_format_75 q18)))
set_option maxRecDepth 1000000 in
set_option maxHeartbeats 4000000 in
theorem t_m_format_56_010220 {Γ : xG} {d : Nat} (hd9 : 5 ≤ d) (C : xC Γ lay_M RX11 cX11_format 2 d) {r : Int} {m9 : xM} (hR : xRi Γ lay_M cX11_format r m9) (m : xM) (h : f_m_format_56_010220 m = some (r, m9)) : xW Γ lay_M 2 56 [(0, .inr (.inr (some 0)))] [.inr (.inr (some 1022)), .inr (.inr (some 0))] m := by
  unfold f_m_format_56_010220 at h
  obtain ⟨q18, hq18, h⟩ := x_bind h
  refine x_callVI C dX11_format_56 (xin_63 _ (List.mem_of_getElem? (i := 14) rfl)) xy_X11_putWord (xi_X11_putWord) (xs_X11_putWord) (by omega) (by decide) (b := 0) rfl ⟨_, _, rfl⟩ (av := [.inr (.inr (some 1022))]) rfl (Nat.le_of_ble_eq_true rfl) (c_m_putWord _ 22 (by decide) _ _ hq18) rfl ?_
  refine x_aload_n C dX11_format_59 rfl ?_
  refine x_iconst C dX11_format_60 ?_
  obtain ⟨q19, hq19, h⟩ := x_bind h
  refine x_callVI C dX11_format_61 (xin_25 _ (List.mem_of_getElem? (i := 12) rfl)) xy_X11_isPhase (xi_X11_isPhase) (xs_X11_isPhase) (by omega) (by decide) (b := 0) rfl ⟨_, _, rfl⟩ (av := [.inl 1]) rfl (Nat.le_of_ble_eq_true rfl) (c_m_isPhase _ _ _ _ hq19) rfl ?_
  refine x_if_ne C 75 dX11_format_64 (by decide) h (fun h => ?_) (fun h => ?_)
  · refine x_loc [(0, .inr (.inr (some 0)))] ⟨rfl, trivial⟩ ?_
    exact t_m_format_75 hd9 C hR _ h
  · refine x_aload_n C dX11_format_67 rfl ?_
    refine x_iconst C dX11_format_68 ?_
    obtain ⟨q20, hq20, h⟩ := x_bind h
    refine x_callVI C dX11_format_69 (xin_25 _ (List.mem_of_getElem? (i := 12) rfl)) xy_X11_isPhase (xi_X11_isPhase) (xs_X11_isPhase) (by omega) (by decide) (b := 0) rfl ⟨_, _, rfl⟩ (av := [.inl 2]) rfl (Nat.le_of_ble_eq_true rfl) (c_m_isPhase _ _ _ _ hq20) rfl ?_
    refine x_if_eq C 108 dX11_format_72 (by decide) h (fun h => ?_) (fun h => ?_)
    · refine x_loc [(0, .inr (.inr (some 0)))] ⟨rfl, trivial⟩ ?_
      exact t_m_format_108 hd9 C hR _ h
    · refine x_loc [(0, .inr (.inr (some 0)))] ⟨rfl, trivial⟩ ?_
      exact t_m_format_75 hd9 C hR _ h
def f_m_format_56_010210 (m : xM) : Option (Int × xM) :=
     (Option.bind (f_m_putWord 21 m) fun q21 =>
      (Option.bind (f_m_isPhase 1 q21) fun q22 =>
      (if xw q22 = 0 then (Option.bind (f_m_isPhase 2 q21) fun q23 =>
      (if xw q23 = 0 then f_m_format_108 q21
      else f_m_format_75 q21))
      else f_m_format_75 q21)))
set_option maxRecDepth 1000000 in
set_option maxHeartbeats 4000000 in
theorem t_m_format_56_010210 {Γ : xG} {d : Nat} (hd9 : 5 ≤ d) (C : xC Γ lay_M RX11 cX11_format 2 d) {r : Int} {m9 : xM} (hR : xRi Γ lay_M cX11_format r m9) (m : xM) (h : f_m_format_56_010210 m = some (r, m9)) : xW Γ lay_M 2 56 [(0, .inr (.inr (some 0)))] [.inr (.inr (some 1021)), .inr (.inr (some 0))] m := by
  unfold f_m_format_56_010210 at h
  obtain ⟨q21, hq21, h⟩ := x_bind h
  refine x_callVI C dX11_format_56 (xin_63 _ (List.mem_of_getElem? (i := 14) rfl)) xy_X11_putWord (xi_X11_putWord) (xs_X11_putWord) (by omega) (by decide) (b := 0) rfl ⟨_, _, rfl⟩ (av := [.inr (.inr (some 1021))]) rfl (Nat.le_of_ble_eq_true rfl) (c_m_putWord _ 21 (by decide) _ _ hq21) rfl ?_
  refine x_aload_n C dX11_format_59 rfl ?_
  refine x_iconst C dX11_format_60 ?_
  obtain ⟨q22, hq22, h⟩ := x_bind h
  refine x_callVI C dX11_format_61 (xin_25 _ (List.mem_of_getElem? (i := 12) rfl)) xy_X11_isPhase (xi_X11_isPhase) (xs_X11_isPhase) (by omega) (by decide) (b := 0) rfl ⟨_, _, rfl⟩ (av := [.inl 1]) rfl (Nat.le_of_ble_eq_true rfl) (c_m_isPhase _ _ _ _ hq22) rfl ?_
  refine x_if_ne C 75 dX11_format_64 (by decide) h (fun h => ?_) (fun h => ?_)
  · refine x_loc [(0, .inr (.inr (some 0)))] ⟨rfl, trivial⟩ ?_
    exact t_m_format_75 hd9 C hR _ h
  · refine x_aload_n C dX11_format_67 rfl ?_
    refine x_iconst C dX11_format_68 ?_
    obtain ⟨q23, hq23, h⟩ := x_bind h
    refine x_callVI C dX11_format_69 (xin_25 _ (List.mem_of_getElem? (i := 12) rfl)) xy_X11_isPhase (xi_X11_isPhase) (xs_X11_isPhase) (by omega) (by decide) (b := 0) rfl ⟨_, _, rfl⟩ (av := [.inl 2]) rfl (Nat.le_of_ble_eq_true rfl) (c_m_isPhase _ _ _ _ hq23) rfl ?_
    refine x_if_eq C 108 dX11_format_72 (by decide) h (fun h => ?_) (fun h => ?_)
    · refine x_loc [(0, .inr (.inr (some 0)))] ⟨rfl, trivial⟩ ?_
      exact t_m_format_108 hd9 C hR _ h
    · refine x_loc [(0, .inr (.inr (some 0)))] ⟨rfl, trivial⟩ ?_
      exact t_m_format_75 hd9 C hR _ h
def f_m_format_56_010200 (m : xM) : Option (Int × xM) :=
     (Option.bind (f_m_putWord 20 m) fun q24 =>
      (Option.bind (f_m_isPhase 1 q24) fun q25 =>
      (if xw q25 = 0 then (Option.bind (f_m_isPhase 2 q24) fun q26 =>
      (if xw q26 = 0 then f_m_format_108 q24
      else f_m_format_75 q24))
      else f_m_format_75 q24)))
set_option maxRecDepth 1000000 in
set_option maxHeartbeats 4000000 in
theorem t_m_format_56_010200 {Γ : xG} {d : Nat} (hd9 : 5 ≤ d) (C : xC Γ lay_M RX11 cX11_format 2 d) {r : Int} {m9 : xM} (hR : xRi Γ lay_M cX11_format r m9) (m : xM) (h : f_m_format_56_010200 m = some (r, m9)) : xW Γ lay_M 2 56 [(0, .inr (.inr (some 0)))] [.inr (.inr (some 1020)), .inr (.inr (some 0))] m := by
  unfold f_m_format_56_010200 at h
  obtain ⟨q24, hq24, h⟩ := x_bind h
  refine x_callVI C dX11_format_56 (xin_63 _ (List.mem_of_getElem? (i := 14) rfl)) xy_X11_putWord (xi_X11_putWord) (xs_X11_putWord) (by omega) (by decide) (b := 0) rfl ⟨_, _, rfl⟩ (av := [.inr (.inr (some 1020))]) rfl (Nat.le_of_ble_eq_true rfl) (c_m_putWord _ 20 (by decide) _ _ hq24) rfl ?_
  refine x_aload_n C dX11_format_59 rfl ?_
  refine x_iconst C dX11_format_60 ?_
  obtain ⟨q25, hq25, h⟩ := x_bind h
  refine x_callVI C dX11_format_61 (xin_25 _ (List.mem_of_getElem? (i := 12) rfl)) xy_X11_isPhase (xi_X11_isPhase) (xs_X11_isPhase) (by omega) (by decide) (b := 0) rfl ⟨_, _, rfl⟩ (av := [.inl 1]) rfl (Nat.le_of_ble_eq_true rfl) (c_m_isPhase _ _ _ _ hq25) rfl ?_
  refine x_if_ne C 75 dX11_format_64 (by decide) h (fun h => ?_) (fun h => ?_)
  · refine x_loc [(0, .inr (.inr (some 0)))] ⟨rfl, trivial⟩ ?_
    exact t_m_format_75 hd9 C hR _ h
  · refine x_aload_n C dX11_format_67 rfl ?_
    refine x_iconst C dX11_format_68 ?_
    obtain ⟨q26, hq26, h⟩ := x_bind h
    refine x_callVI C dX11_format_69 (xin_25 _ (List.mem_of_getElem? (i := 12) rfl)) xy_X11_isPhase (xi_X11_isPhase) (xs_X11_isPhase) (by omega) (by decide) (b := 0) rfl ⟨_, _, rfl⟩ (av := [.inl 2]) rfl (Nat.le_of_ble_eq_true rfl) (c_m_isPhase _ _ _ _ hq26) rfl ?_
    refine x_if_eq C 108 dX11_format_72 (by decide) h (fun h => ?_) (fun h => ?_)
    · refine x_loc [(0, .inr (.inr (some 0)))] ⟨rfl, trivial⟩ ?_
      exact t_m_format_108 hd9 C hR _ h
    · refine x_loc [(0, .inr (.inr (some 0)))] ⟨rfl, trivial⟩ ?_
      exact t_m_format_75 hd9 C hR _ h
def f_m_format (m : xM) : Option (Int × xM) :=
     (Option.bind (f_m_isPhase 0 (xu (xu m 0 6 0) 0 11 0)) fun q0 =>
      (if xw q0 = 0 then (Option.bind (f_m_isPhase 1 (xu (xu m 0 6 0) 0 11 0)) fun q1 =>
      (if xw q1 = 0 then (Option.bind (f_m_isPhase 2 (xu (xu m 0 6 0) 0 11 0)) fun q2 =>
      (if xw q2 = 0 then f_m_format_56 (xu (xu m 0 6 0) 0 11 0)
      else f_m_format_56_010220 (xu (xu m 0 6 0) 0 11 0)))
      else f_m_format_56_010210 (xu (xu m 0 6 0) 0 11 0)))
      else f_m_format_56_010200 (xu (xu m 0 6 0) 0 11 0)))
set_option maxRecDepth 1000000 in
set_option maxHeartbeats 4000000 in
theorem t_m_format {Γ : xG} {d : Nat} (hd9 : 5 ≤ d) (C : xC Γ lay_M RX11 cX11_format 2 d) {r : Int} {m9 : xM} (hR : xRi Γ lay_M cX11_format r m9) (m : xM) (h : f_m_format m = some (r, m9)) : xW Γ lay_M 2 0 [(0, .inr (.inr (some 0)))] [] m := by
  unfold f_m_format at h
  refine x_aload_n C dX11_format_0 rfl ?_
  refine x_iconst C dX11_format_1 ?_
  refine x_putI C dX11_format_2 fF_X11_66 rfl rfl ?_
  refine x_aload_n C dX11_format_5 rfl ?_
  refine x_iconst C dX11_format_6 ?_
  refine x_putI C dX11_format_7 fF_X11_245 rfl rfl ?_
  refine x_aload_n C dX11_format_10 rfl ?_
  refine x_aload_n C dX11_format_11 rfl ?_
  refine x_iconst C dX11_format_12 ?_
  obtain ⟨q0, hq0, h⟩ := x_bind h
  refine x_callVI C dX11_format_13 (xin_25 _ (List.mem_of_getElem? (i := 12) rfl)) xy_X11_isPhase (xi_X11_isPhase) (xs_X11_isPhase) (by omega) (by decide) (b := 0) rfl ⟨_, _, rfl⟩ (av := [.inl 0]) rfl (Nat.le_of_ble_eq_true rfl) (c_m_isPhase _ _ _ _ hq0) rfl ?_
  refine x_if_eq C 25 dX11_format_16 (by decide) h (fun h => ?_) (fun h => ?_)
  · refine x_aload_n C dX11_format_25 rfl ?_
    refine x_iconst C dX11_format_26 ?_
    obtain ⟨q1, hq1, h⟩ := x_bind h
    refine x_callVI C dX11_format_27 (xin_25 _ (List.mem_of_getElem? (i := 12) rfl)) xy_X11_isPhase (xi_X11_isPhase) (xs_X11_isPhase) (by omega) (by decide) (b := 0) rfl ⟨_, _, rfl⟩ (av := [.inl 1]) rfl (Nat.le_of_ble_eq_true rfl) (c_m_isPhase _ _ _ _ hq1) rfl ?_
    refine x_if_eq C 39 dX11_format_30 (by decide) h (fun h => ?_) (fun h => ?_)
    · refine x_aload_n C dX11_format_39 rfl ?_
      refine x_iconst C dX11_format_40 ?_
      obtain ⟨q2, hq2, h⟩ := x_bind h
      refine x_callVI C dX11_format_41 (xin_25 _ (List.mem_of_getElem? (i := 12) rfl)) xy_X11_isPhase (xi_X11_isPhase) (xs_X11_isPhase) (by omega) (by decide) (b := 0) rfl ⟨_, _, rfl⟩ (av := [.inl 2]) rfl (Nat.le_of_ble_eq_true rfl) (c_m_isPhase _ _ _ _ hq2) rfl ?_
      refine x_if_eq C 53 dX11_format_44 (by decide) h (fun h => ?_) (fun h => ?_)
      · refine x_ldcSW C "lost" 23 dX11_format_53 (List.mem_of_getElem? (i := 32) rfl) ?_
        refine x_loc [(0, .inr (.inr (some 0)))] ⟨rfl, trivial⟩ ?_
        exact t_m_format_56 hd9 C hR _ h
      · refine x_ldcSW C "online" 22 dX11_format_47 (List.mem_of_getElem? (i := 31) rfl) ?_
        refine x_goto C 56 dX11_format_50 (by decide) ?_
        refine x_loc [(0, .inr (.inr (some 0)))] ⟨rfl, trivial⟩ ?_
        exact t_m_format_56_010220 hd9 C hR _ h
    · refine x_ldcSW C "training" 21 dX11_format_33 (List.mem_of_getElem? (i := 30) rfl) ?_
      refine x_goto C 56 dX11_format_36 (by decide) ?_
      refine x_loc [(0, .inr (.inr (some 0)))] ⟨rfl, trivial⟩ ?_
      exact t_m_format_56_010210 hd9 C hR _ h
  · refine x_ldcSW C "idle" 20 dX11_format_19 (List.mem_of_getElem? (i := 29) rfl) ?_
    refine x_goto C 56 dX11_format_22 (by decide) ?_
    refine x_loc [(0, .inr (.inr (some 0)))] ⟨rfl, trivial⟩ ?_
    exact t_m_format_56_010200 hd9 C hR _ h
theorem c_m_format (l : Launch) (m : xM) (r : Int) (m9 : xM) (h : f_m_format m = some (r, m9)) : xMet l yX11_format cX11_format 2 (some .int) 5 lay_M [.inr (.inr (some 0))] m (some (.inl r)) m9 :=
  xMet_i (by decide +kernel) (Nat.le_of_ble_eq_true rfl) (fun Γ C hR hl9 => t_m_format (Nat.le_refl _) C hR m h)
/-! ===== yX11_formattedByte ===== -/
theorem dX11_formattedByte_0 : decode cX11_formattedByte 0 = .ok (.aload_n 0, 1) := by decide +kernel
theorem dX11_formattedByte_1 : decode cX11_formattedByte 1 = .ok (.iconst 0, 1) := by decide +kernel
theorem dX11_formattedByte_2 : decode cX11_formattedByte 2 = .ok (.putfield 66, 3) := by decide +kernel
theorem dX11_formattedByte_5 : decode cX11_formattedByte 5 = .ok (.iload_n 1, 1) := by decide +kernel
theorem dX11_formattedByte_6 : decode cX11_formattedByte 6 = .ok (.iconst 0, 1) := by decide +kernel
theorem dX11_formattedByte_7 : decode cX11_formattedByte 7 = .ok (.aload_n 0, 1) := by decide +kernel
theorem dX11_formattedByte_8 : decode cX11_formattedByte 8 = .ok (.getfield 245, 3) := by decide +kernel
theorem dX11_formattedByte_11 : decode cX11_formattedByte 11 = .ok (.iconst 1, 1) := by decide +kernel
theorem dX11_formattedByte_12 : decode cX11_formattedByte 12 = .ok (.isub, 1) := by decide +kernel
theorem dX11_formattedByte_13 : decode cX11_formattedByte 13 = .ok (.invokestatic 81, 3) := by decide +kernel
theorem dX11_formattedByte_16 : decode cX11_formattedByte 16 = .ok (.ifCond .eq 12, 3) := by decide +kernel
theorem dX11_formattedByte_19 : decode cX11_formattedByte 19 = .ok (.aload_n 0, 1) := by decide +kernel
theorem dX11_formattedByte_20 : decode cX11_formattedByte 20 = .ok (.getfield 29, 3) := by decide +kernel
theorem dX11_formattedByte_23 : decode cX11_formattedByte 23 = .ok (.iload_n 1, 1) := by decide +kernel
theorem dX11_formattedByte_24 : decode cX11_formattedByte 24 = .ok (.iaload, 1) := by decide +kernel
theorem dX11_formattedByte_25 : decode cX11_formattedByte 25 = .ok (.goto 4, 3) := by decide +kernel
theorem dX11_formattedByte_28 : decode cX11_formattedByte 28 = .ok (.iconst (-1), 1) := by decide +kernel
theorem dX11_formattedByte_29 : decode cX11_formattedByte 29 = .ok (.ireturn, 1) := by decide +kernel
def f_m_formattedByte (p : Int) (m : xM) : Option (Int × xM) :=
     (Option.bind (f_m_inRange p 0 ((m 0 11) - 1) (xvw [] (xu m 0 6 0))) fun q0 =>
      (if xw q0 = 0 then some ((-1), (xu m 0 6 0))
      else (if xib p 60 then some ((m 7 (xix p)), (xu m 0 6 0))
      else none)))
set_option maxRecDepth 1000000 in
set_option maxHeartbeats 4000000 in
theorem t_m_formattedByte {Γ : xG} {d : Nat} (hd9 : 2 ≤ d) (C : xC Γ lay_M RX11 cX11_formattedByte 2 d) (p : Int) {r : Int} {m9 : xM} (hR : xRi Γ lay_M cX11_formattedByte r m9) (m : xM) (h : f_m_formattedByte p m = some (r, m9)) : xW Γ lay_M 2 0 [(0, .inr (.inr (some 0))), (1, .inl p)] [] m := by
  unfold f_m_formattedByte at h
  refine x_aload_n C dX11_formattedByte_0 rfl ?_
  refine x_iconst C dX11_formattedByte_1 ?_
  refine x_putI C dX11_formattedByte_2 fF_X11_66 rfl rfl ?_
  refine x_iload_n C dX11_formattedByte_5 rfl ?_
  refine x_iconst C dX11_formattedByte_6 ?_
  refine x_aload_n C dX11_formattedByte_7 rfl ?_
  refine x_getI C dX11_formattedByte_8 fF_X11_245 rfl rfl ?_
  refine x_iconst C dX11_formattedByte_11 ?_
  refine x_isub C dX11_formattedByte_12 ?_
  obtain ⟨q0, hq0, h⟩ := x_bind h
  refine x_callSp C dX11_formattedByte_13 (xin_18 _ (List.mem_of_getElem? (i := 19) rfl)) xy_X11_inRange (xt_X11_inRange) [] xv_49 (by omega) (by decide) (av := [.inl p, .inl 0, .inl ((m 0 11) - 1)]) rfl (Nat.le_of_ble_eq_true rfl) (c_m_inRange _ _ _ _ _ _ hq0) rfl ?_
  refine x_if_eq C 28 dX11_formattedByte_16 (by decide) h (fun h => ?_) (fun h => ?_)
  · refine x_iconst C dX11_formattedByte_28 ?_
    exact x_ireturn hR dX11_formattedByte_29 h
  · refine x_aload_n C dX11_formattedByte_19 rfl ?_
    refine x_getR C dX11_formattedByte_20 fF_X11_29 rfl rfl ?_
    refine x_iload_n C dX11_formattedByte_23 rfl ?_
    refine x_iaload C dX11_formattedByte_24 rfl h (fun h => ?_)
    refine x_goto C 29 dX11_formattedByte_25 (by decide) ?_
    exact x_ireturn hR dX11_formattedByte_29 h
theorem c_m_formattedByte (l : Launch) (p : Int) (m : xM) (r : Int) (m9 : xM) (h : f_m_formattedByte p m = some (r, m9)) : xMet l yX11_formattedByte cX11_formattedByte 2 (some .int) 2 lay_M [.inr (.inr (some 0)), .inl p] m (some (.inl r)) m9 :=
  xMet_i (by decide +kernel) (Nat.le_of_ble_eq_true rfl) (fun Γ C hR hl9 => t_m_formattedByte (Nat.le_refl _) C p hR m h)
/-! ===== yX11_clear ===== -/
theorem dX11_clear_0 : decode cX11_clear 0 = .ok (.iconst 0, 1) := by decide +kernel
theorem dX11_clear_1 : decode cX11_clear 1 = .ok (.istore_n 1, 1) := by decide +kernel
theorem dX11_clear_2 : decode cX11_clear 2 = .ok (.iload_n 1, 1) := by decide +kernel
theorem dX11_clear_3 : decode cX11_clear 3 = .ok (.sipush 3530, 3) := by decide +kernel
theorem dX11_clear_6 : decode cX11_clear 6 = .ok (.if_icmp .ge 13, 3) := by decide +kernel
theorem dX11_clear_9 : decode cX11_clear 9 = .ok (.aload_n 0, 1) := by decide +kernel
theorem dX11_clear_10 : decode cX11_clear 10 = .ok (.iload_n 1, 1) := by decide +kernel
theorem dX11_clear_11 : decode cX11_clear 11 = .ok (.iconst 0, 1) := by decide +kernel
theorem dX11_clear_12 : decode cX11_clear 12 = .ok (.iastore, 1) := by decide +kernel
theorem dX11_clear_13 : decode cX11_clear 13 = .ok (.iinc 1 1, 3) := by decide +kernel
theorem dX11_clear_16 : decode cX11_clear 16 = .ok (.goto (-14), 3) := by decide +kernel
theorem dX11_clear_19 : decode cX11_clear 19 = .ok (.iconst 0, 1) := by decide +kernel
theorem dX11_clear_20 : decode cX11_clear 20 = .ok (.istore_n 1, 1) := by decide +kernel
theorem dX11_clear_21 : decode cX11_clear 21 = .ok (.iload_n 1, 1) := by decide +kernel
theorem dX11_clear_22 : decode cX11_clear 22 = .ok (.iconst 4, 1) := by decide +kernel
theorem dX11_clear_23 : decode cX11_clear 23 = .ok (.if_icmp .ge 16, 3) := by decide +kernel
theorem dX11_clear_26 : decode cX11_clear 26 = .ok (.aload_n 0, 1) := by decide +kernel
theorem dX11_clear_27 : decode cX11_clear 27 = .ok (.bipush 21, 2) := by decide +kernel
theorem dX11_clear_29 : decode cX11_clear 29 = .ok (.iload_n 1, 1) := by decide +kernel
theorem dX11_clear_30 : decode cX11_clear 30 = .ok (.iadd, 1) := by decide +kernel
theorem dX11_clear_31 : decode cX11_clear 31 = .ok (.iconst 2, 1) := by decide +kernel
theorem dX11_clear_32 : decode cX11_clear 32 = .ok (.iastore, 1) := by decide +kernel
theorem dX11_clear_33 : decode cX11_clear 33 = .ok (.iinc 1 1, 3) := by decide +kernel
theorem dX11_clear_36 : decode cX11_clear 36 = .ok (.goto (-15), 3) := by decide +kernel
theorem dX11_clear_39 : decode cX11_clear 39 = .ok (.aload_n 0, 1) := by decide +kernel
theorem dX11_clear_40 : decode cX11_clear 40 = .ok (.bipush 12, 2) := by decide +kernel
theorem dX11_clear_42 : decode cX11_clear 42 = .ok (.iconst 2, 1) := by decide +kernel
theorem dX11_clear_43 : decode cX11_clear 43 = .ok (.iastore, 1) := by decide +kernel
theorem dX11_clear_44 : decode cX11_clear 44 = .ok (.aload_n 0, 1) := by decide +kernel
theorem dX11_clear_45 : decode cX11_clear 45 = .ok (.bipush 13, 2) := by decide +kernel
theorem dX11_clear_47 : decode cX11_clear 47 = .ok (.iconst 5, 1) := by decide +kernel
theorem dX11_clear_48 : decode cX11_clear 48 = .ok (.iastore, 1) := by decide +kernel
theorem dX11_clear_49 : decode cX11_clear 49 = .ok (.aload_n 0, 1) := by decide +kernel
theorem dX11_clear_50 : decode cX11_clear 50 = .ok (.bipush 14, 2) := by decide +kernel
theorem dX11_clear_52 : decode cX11_clear 52 = .ok (.iconst 4, 1) := by decide +kernel
theorem dX11_clear_53 : decode cX11_clear 53 = .ok (.iastore, 1) := by decide +kernel
theorem dX11_clear_54 : decode cX11_clear 54 = .ok (.aload_n 0, 1) := by decide +kernel
theorem dX11_clear_55 : decode cX11_clear 55 = .ok (.bipush 15, 2) := by decide +kernel
theorem dX11_clear_57 : decode cX11_clear 57 = .ok (.iconst 1, 1) := by decide +kernel
theorem dX11_clear_58 : decode cX11_clear 58 = .ok (.iastore, 1) := by decide +kernel
theorem dX11_clear_59 : decode cX11_clear 59 = .ok (.aload_n 0, 1) := by decide +kernel
theorem dX11_clear_60 : decode cX11_clear 60 = .ok (.bipush 16, 2) := by decide +kernel
theorem dX11_clear_62 : decode cX11_clear 62 = .ok (.iconst 3, 1) := by decide +kernel
theorem dX11_clear_63 : decode cX11_clear 63 = .ok (.iastore, 1) := by decide +kernel
theorem dX11_clear_64 : decode cX11_clear 64 = .ok (.aload_n 0, 1) := by decide +kernel
theorem dX11_clear_65 : decode cX11_clear 65 = .ok (.bipush 17, 2) := by decide +kernel
theorem dX11_clear_67 : decode cX11_clear 67 = .ok (.iconst 2, 1) := by decide +kernel
theorem dX11_clear_68 : decode cX11_clear 68 = .ok (.iastore, 1) := by decide +kernel
theorem dX11_clear_69 : decode cX11_clear 69 = .ok (.aload_n 0, 1) := by decide +kernel
theorem dX11_clear_70 : decode cX11_clear 70 = .ok (.bipush 18, 2) := by decide +kernel
theorem dX11_clear_72 : decode cX11_clear 72 = .ok (.bipush 8, 2) := by decide +kernel
theorem dX11_clear_74 : decode cX11_clear 74 = .ok (.iastore, 1) := by decide +kernel
theorem dX11_clear_75 : decode cX11_clear 75 = .ok (.aload_n 0, 1) := by decide +kernel
theorem dX11_clear_76 : decode cX11_clear 76 = .ok (.bipush 19, 2) := by decide +kernel
theorem dX11_clear_78 : decode cX11_clear 78 = .ok (.iconst 1, 1) := by decide +kernel
theorem dX11_clear_79 : decode cX11_clear 79 = .ok (.iastore, 1) := by decide +kernel
theorem dX11_clear_80 : decode cX11_clear 80 = .ok (.return_, 1) := by decide +kernel
def f_m_clear_64 (m : xM) : Option (xM) :=
     (if xib 17 3530 then (if xib 18 3530 then (if xib 19 3530 then some (xu (xu (xu m 0 17 2) 0 18 8) 0 19 1)
      else none)
      else none)
      else none)
set_option maxRecDepth 1000000 in
set_option maxHeartbeats 4000000 in
theorem t_m_clear_64 {Γ : xG} {d : Nat} (hd9 : 1 ≤ d) (C : xC Γ lay_row RX11 cX11_clear 2 d) {m9 : xM} (hR : xRv Γ lay_row cX11_clear m9) (m : xM) (h : f_m_clear_64 m = some m9) : xW Γ lay_row 2 64 [(0, .inr (.inr (some 0)))] [] m := by
  unfold f_m_clear_64 at h
  refine x_aload_n C dX11_clear_64 rfl ?_
  refine x_bipush C dX11_clear_65 (by decide) ?_
  refine x_iconst C dX11_clear_67 ?_
  refine x_iastore C dX11_clear_68 rfl h (fun h => ?_)
  refine x_aload_n C dX11_clear_69 rfl ?_
  refine x_bipush C dX11_clear_70 (by decide) ?_
  refine x_bipush C dX11_clear_72 (by decide) ?_
  refine x_iastore C dX11_clear_74 rfl h (fun h => ?_)
  refine x_aload_n C dX11_clear_75 rfl ?_
  refine x_bipush C dX11_clear_76 (by decide) ?_
  refine x_iconst C dX11_clear_78 ?_
  refine x_iastore C dX11_clear_79 rfl h (fun h => ?_)
  exact x_returnV hR dX11_clear_80 h
def f_m_clear_39 (m : xM) : Option (xM) :=
     (if xib 12 3530 then (if xib 13 3530 then (if xib 14 3530 then (if xib 15 3530 then (if xib 16 3530 then f_m_clear_64 (xu (xu (xu (xu (xu m 0 12 2) 0 13 5) 0 14 4) 0 15 1) 0 16 3)
      else none)
      else none)
      else none)
      else none)
      else none)
set_option maxRecDepth 1000000 in
set_option maxHeartbeats 4000000 in
theorem t_m_clear_39 {Γ : xG} {d : Nat} (hd9 : 1 ≤ d) (C : xC Γ lay_row RX11 cX11_clear 2 d) {m9 : xM} (hR : xRv Γ lay_row cX11_clear m9) (m : xM) (h : f_m_clear_39 m = some m9) : xW Γ lay_row 2 39 [(0, .inr (.inr (some 0)))] [] m := by
  unfold f_m_clear_39 at h
  refine x_aload_n C dX11_clear_39 rfl ?_
  refine x_bipush C dX11_clear_40 (by decide) ?_
  refine x_iconst C dX11_clear_42 ?_
  refine x_iastore C dX11_clear_43 rfl h (fun h => ?_)
  refine x_aload_n C dX11_clear_44 rfl ?_
  refine x_bipush C dX11_clear_45 (by decide) ?_
  refine x_iconst C dX11_clear_47 ?_
  refine x_iastore C dX11_clear_48 rfl h (fun h => ?_)
  refine x_aload_n C dX11_clear_49 rfl ?_
  refine x_bipush C dX11_clear_50 (by decide) ?_
  refine x_iconst C dX11_clear_52 ?_
  refine x_iastore C dX11_clear_53 rfl h (fun h => ?_)
  refine x_aload_n C dX11_clear_54 rfl ?_
  refine x_bipush C dX11_clear_55 (by decide) ?_
  refine x_iconst C dX11_clear_57 ?_
  refine x_iastore C dX11_clear_58 rfl h (fun h => ?_)
  refine x_aload_n C dX11_clear_59 rfl ?_
  refine x_bipush C dX11_clear_60 (by decide) ?_
  refine x_iconst C dX11_clear_62 ?_
  refine x_iastore C dX11_clear_63 rfl h (fun h => ?_)
  refine x_loc [(0, .inr (.inr (some 0)))] ⟨rfl, trivial⟩ ?_
  exact t_m_clear_64 hd9 C hR _ h
def f_m_clear_21 : Nat → Int → xM → Option (xM)
  | 0, _, _ => none
  | n + 1, x1, m =>
     (if xw x1 < xw 4 then (if xib (21 + x1) 3530 then f_m_clear_21 n (x1 + 1) (xu m 0 (xix (21 + x1)) 2)
      else none)
      else f_m_clear_39 m)
set_option maxRecDepth 1000000 in
set_option maxHeartbeats 4000000 in
theorem t_m_clear_21 {Γ : xG} {d : Nat} (hd9 : 1 ≤ d) (C : xC Γ lay_row RX11 cX11_clear 2 d) {m9 : xM} (hR : xRv Γ lay_row cX11_clear m9) : ∀ (n : Nat) (x1 : Int) (m : xM), f_m_clear_21 n x1 m = some m9 → xW Γ lay_row 2 21 [(0, .inr (.inr (some 0))), (1, .inl x1)] [] m := by
  intro n
  induction n with
  | zero => intro _ _ h; cases h
  | succ n ih =>
    intro x1 m h
    rw [f_m_clear_21] at h
    refine x_iload_n C dX11_clear_21 rfl ?_
    refine x_iconst C dX11_clear_22 ?_
    refine x_icmp_ge C 39 dX11_clear_23 (by decide) h (fun h => ?_) (fun h => ?_)
    · refine x_loc [(0, .inr (.inr (some 0)))] ⟨rfl, trivial⟩ ?_
      exact t_m_clear_39 hd9 C hR _ h
    · refine x_aload_n C dX11_clear_26 rfl ?_
      refine x_bipush C dX11_clear_27 (by decide) ?_
      refine x_iload_n C dX11_clear_29 rfl ?_
      refine x_iadd C dX11_clear_30 ?_
      refine x_iconst C dX11_clear_31 ?_
      refine x_iastore C dX11_clear_32 rfl h (fun h => ?_)
      refine x_iinc C dX11_clear_33 (by decide) rfl ?_
      refine x_goto C 21 dX11_clear_36 (by decide) ?_
      refine x_loc [(0, .inr (.inr (some 0))), (1, .inl (x1 + 1))] ⟨rfl, rfl, trivial⟩ ?_
      exact ih _ _ h
def f_m_clear_19 (m : xM) : Option (xM) :=
     f_m_clear_21 fu 0 m
set_option maxRecDepth 1000000 in
set_option maxHeartbeats 4000000 in
theorem t_m_clear_19 {Γ : xG} {d : Nat} (hd9 : 1 ≤ d) (C : xC Γ lay_row RX11 cX11_clear 2 d) {m9 : xM} (hR : xRv Γ lay_row cX11_clear m9) (m : xM) (h : f_m_clear_19 m = some m9) : xW Γ lay_row 2 19 [(0, .inr (.inr (some 0)))] [] m := by
  unfold f_m_clear_19 at h
  refine x_iconst C dX11_clear_19 ?_
  refine x_istore_n C dX11_clear_20 (by decide) ?_
  refine x_loc [(0, .inr (.inr (some 0))), (1, .inl 0)] ⟨rfl, rfl, trivial⟩ ?_
  exact t_m_clear_21 hd9 C hR fu _ _ h
def f_m_clear_2 : Nat → Int → xM → Option (xM)
  | 0, _, _ => none
  | n + 1, x1, m =>
     (if xw x1 < xw 3530 then (if xib x1 3530 then f_m_clear_2 n (x1 + 1) (xu m 0 (xix x1) 0)
      else none)
      else f_m_clear_19 m)
set_option maxRecDepth 1000000 in
set_option maxHeartbeats 4000000 in
theorem t_m_clear_2 {Γ : xG} {d : Nat} (hd9 : 1 ≤ d) (C : xC Γ lay_row RX11 cX11_clear 2 d) {m9 : xM} (hR : xRv Γ lay_row cX11_clear m9) : ∀ (n : Nat) (x1 : Int) (m : xM), f_m_clear_2 n x1 m = some m9 → xW Γ lay_row 2 2 [(0, .inr (.inr (some 0))), (1, .inl x1)] [] m := by
  intro n
  induction n with
  | zero => intro _ _ h; cases h
  | succ n ih =>
    intro x1 m h
    rw [f_m_clear_2] at h
    refine x_iload_n C dX11_clear_2 rfl ?_
    refine x_sipush C dX11_clear_3 (by decide) ?_
    refine x_icmp_ge C 19 dX11_clear_6 (by decide) h (fun h => ?_) (fun h => ?_)
    · refine x_loc [(0, .inr (.inr (some 0)))] ⟨rfl, trivial⟩ ?_
      exact t_m_clear_19 hd9 C hR _ h
    · refine x_aload_n C dX11_clear_9 rfl ?_
      refine x_iload_n C dX11_clear_10 rfl ?_
      refine x_iconst C dX11_clear_11 ?_
      refine x_iastore C dX11_clear_12 rfl h (fun h => ?_)
      refine x_iinc C dX11_clear_13 (by decide) rfl ?_
      refine x_goto C 2 dX11_clear_16 (by decide) ?_
      refine x_loc [(0, .inr (.inr (some 0))), (1, .inl (x1 + 1))] ⟨rfl, rfl, trivial⟩ ?_
      exact ih _ _ h
def f_m_clear (m : xM) : Option (xM) :=
     f_m_clear_2 fu 0 m
set_option maxRecDepth 1000000 in
set_option maxHeartbeats 4000000 in
theorem t_m_clear {Γ : xG} {d : Nat} (hd9 : 1 ≤ d) (C : xC Γ lay_row RX11 cX11_clear 2 d) {m9 : xM} (hR : xRv Γ lay_row cX11_clear m9) (m : xM) (h : f_m_clear m = some m9) : xW Γ lay_row 2 0 [(0, .inr (.inr (some 0)))] [] m := by
  unfold f_m_clear at h
  refine x_iconst C dX11_clear_0 ?_
  refine x_istore_n C dX11_clear_1 (by decide) ?_
  refine x_loc [(0, .inr (.inr (some 0))), (1, .inl 0)] ⟨rfl, rfl, trivial⟩ ?_
  exact t_m_clear_2 hd9 C hR fu _ _ h
theorem c_m_clear (l : Launch) (m m9 : xM) (h : f_m_clear m = some m9) : xMet l yX11_clear cX11_clear 2 none 1 lay_row [.inr (.inr (some 0))] m none m9 :=
  xMet_v (by decide +kernel) (Nat.le_of_ble_eq_true rfl) (fun Γ C hR hl9 => t_m_clear (Nat.le_refl _) C hR m h)
/-! ===== yX11_undoCount ===== -/
theorem dX11_undoCount_0 : decode cX11_undoCount 0 = .ok (.aload_n 0, 1) := by decide +kernel
theorem dX11_undoCount_1 : decode cX11_undoCount 1 = .ok (.iconst 0, 1) := by decide +kernel
theorem dX11_undoCount_2 : decode cX11_undoCount 2 = .ok (.putfield 66, 3) := by decide +kernel
theorem dX11_undoCount_5 : decode cX11_undoCount 5 = .ok (.aload_n 0, 1) := by decide +kernel
theorem dX11_undoCount_6 : decode cX11_undoCount 6 = .ok (.getfield 273, 3) := by decide +kernel
theorem dX11_undoCount_9 : decode cX11_undoCount 9 = .ok (.ireturn, 1) := by decide +kernel
def f_m_undoCount (m : xM) : Option (Int × xM) :=
     some ((m 0 5), (xu m 0 6 0))
set_option maxRecDepth 1000000 in
set_option maxHeartbeats 4000000 in
theorem t_m_undoCount {Γ : xG} {d : Nat} (hd9 : 1 ≤ d) (C : xC Γ lay_M RX11 cX11_undoCount 1 d) {r : Int} {m9 : xM} (hR : xRi Γ lay_M cX11_undoCount r m9) (m : xM) (h : f_m_undoCount m = some (r, m9)) : xW Γ lay_M 1 0 [(0, .inr (.inr (some 0)))] [] m := by
  unfold f_m_undoCount at h
  refine x_aload_n C dX11_undoCount_0 rfl ?_
  refine x_iconst C dX11_undoCount_1 ?_
  refine x_putI C dX11_undoCount_2 fF_X11_66 rfl rfl ?_
  refine x_aload_n C dX11_undoCount_5 rfl ?_
  refine x_getI C dX11_undoCount_6 fF_X11_273 rfl rfl ?_
  exact x_ireturn hR dX11_undoCount_9 h
theorem c_m_undoCount (l : Launch) (m : xM) (r : Int) (m9 : xM) (h : f_m_undoCount m = some (r, m9)) : xMet l yX11_undoCount cX11_undoCount 1 (some .int) 1 lay_M [.inr (.inr (some 0))] m (some (.inl r)) m9 :=
  xMet_i (by decide +kernel) (Nat.le_of_ble_eq_true rfl) (fun Γ C hR hl9 => t_m_undoCount (Nat.le_refl _) C hR m h)
/-! ===== yX11_undo ===== -/
theorem xv_54 : xview lay_M lay_cC [5, 1] := xview_of (by decide +kernel)
theorem dX11_undo_0 : decode cX11_undo 0 = .ok (.aload_n 0, 1) := by decide +kernel
theorem dX11_undo_1 : decode cX11_undo 1 = .ok (.iconst 0, 1) := by decide +kernel
theorem dX11_undo_2 : decode cX11_undo 2 = .ok (.putfield 66, 3) := by decide +kernel
theorem dX11_undo_5 : decode cX11_undo 5 = .ok (.aload_n 0, 1) := by decide +kernel
theorem dX11_undo_6 : decode cX11_undo 6 = .ok (.getfield 273, 3) := by decide +kernel
theorem dX11_undo_9 : decode cX11_undo 9 = .ok (.ifCond .ne 5, 3) := by decide +kernel
theorem dX11_undo_12 : decode cX11_undo 12 = .ok (.iconst (-1), 1) := by decide +kernel
theorem dX11_undo_13 : decode cX11_undo 13 = .ok (.ireturn, 1) := by decide +kernel
theorem dX11_undo_14 : decode cX11_undo 14 = .ok (.aload_n 0, 1) := by decide +kernel
theorem dX11_undo_15 : decode cX11_undo 15 = .ok (.dup, 1) := by decide +kernel
theorem dX11_undo_16 : decode cX11_undo 16 = .ok (.getfield 273, 3) := by decide +kernel
theorem dX11_undo_19 : decode cX11_undo 19 = .ok (.iconst 1, 1) := by decide +kernel
theorem dX11_undo_20 : decode cX11_undo 20 = .ok (.isub, 1) := by decide +kernel
theorem dX11_undo_21 : decode cX11_undo 21 = .ok (.putfield 273, 3) := by decide +kernel
theorem dX11_undo_24 : decode cX11_undo 24 = .ok (.aload_n 0, 1) := by decide +kernel
theorem dX11_undo_25 : decode cX11_undo 25 = .ok (.getfield 23, 3) := by decide +kernel
theorem dX11_undo_28 : decode cX11_undo 28 = .ok (.aload_n 0, 1) := by decide +kernel
theorem dX11_undo_29 : decode cX11_undo 29 = .ok (.getfield 273, 3) := by decide +kernel
theorem dX11_undo_32 : decode cX11_undo 32 = .ok (.aload_n 0, 1) := by decide +kernel
theorem dX11_undo_33 : decode cX11_undo 33 = .ok (.getfield 9, 3) := by decide +kernel
theorem dX11_undo_36 : decode cX11_undo 36 = .ok (.iconst 0, 1) := by decide +kernel
theorem dX11_undo_37 : decode cX11_undo 37 = .ok (.invokestatic 228, 3) := by decide +kernel
theorem dX11_undo_40 : decode cX11_undo 40 = .ok (.aload_n 0, 1) := by decide +kernel
theorem dX11_undo_41 : decode cX11_undo 41 = .ok (.getfield 273, 3) := by decide +kernel
theorem dX11_undo_44 : decode cX11_undo 44 = .ok (.ireturn, 1) := by decide +kernel
def f_m_undo (m : xM) : Option (Int × xM) :=
     (if xw (m 0 5) = 0 then some ((-1), (xu m 0 6 0))
      else (Option.bind (f_m_copyC ((m 0 5) - 1) 0 (xvw [5, 1] (xu (xu m 0 6 0) 0 5 ((m 0 5) - 1)))) fun q0 =>
      some (((xmg [5, 1] 2 (xu (xu m 0 6 0) 0 5 ((m 0 5) - 1)) q0) 0 5), (xmg [5, 1] 2 (xu (xu m 0 6 0) 0 5 ((m 0 5) - 1)) q0))))
set_option maxRecDepth 1000000 in
set_option maxHeartbeats 4000000 in
theorem t_m_undo {Γ : xG} {d : Nat} (hd9 : 2 ≤ d) (C : xC Γ lay_M RX11 cX11_undo 1 d) {r : Int} {m9 : xM} (hR : xRi Γ lay_M cX11_undo r m9) (m : xM) (h : f_m_undo m = some (r, m9)) : xW Γ lay_M 1 0 [(0, .inr (.inr (some 0)))] [] m := by
  unfold f_m_undo at h
  refine x_aload_n C dX11_undo_0 rfl ?_
  refine x_iconst C dX11_undo_1 ?_
  refine x_putI C dX11_undo_2 fF_X11_66 rfl rfl ?_
  refine x_aload_n C dX11_undo_5 rfl ?_
  refine x_getI C dX11_undo_6 fF_X11_273 rfl rfl ?_
  refine x_if_ne C 14 dX11_undo_9 (by decide) h (fun h => ?_) (fun h => ?_)
  · refine x_aload_n C dX11_undo_14 rfl ?_
    refine x_dup C dX11_undo_15 rfl ?_
    refine x_getI C dX11_undo_16 fF_X11_273 rfl rfl ?_
    refine x_iconst C dX11_undo_19 ?_
    refine x_isub C dX11_undo_20 ?_
    refine x_putI C dX11_undo_21 fF_X11_273 rfl rfl ?_
    refine x_aload_n C dX11_undo_24 rfl ?_
    refine x_getR C dX11_undo_25 fF_X11_23 rfl rfl ?_
    refine x_aload_n C dX11_undo_28 rfl ?_
    refine x_getI C dX11_undo_29 fF_X11_273 rfl rfl ?_
    refine x_aload_n C dX11_undo_32 rfl ?_
    refine x_getR C dX11_undo_33 fF_X11_9 rfl rfl ?_
    refine x_iconst C dX11_undo_36 ?_
    obtain ⟨q0, hq0, h⟩ := x_bind h
    refine x_callS C dX11_undo_37 (xin_23 _ (List.mem_of_getElem? (i := 16) rfl)) xy_X11_copy (xt_X11_copy) [5, 1] xv_54 (by omega) (by decide) (av := [.inr (.inr (some 0)), .inl ((m 0 5) - 1), .inr (.inr (some 1)), .inl 0]) rfl (Nat.le_of_ble_eq_true rfl) (c_m_copyC _ _ _ _ _ hq0) rfl ?_
    refine x_aload_n C dX11_undo_40 rfl ?_
    refine x_getI C dX11_undo_41 fF_X11_273 rfl rfl ?_
    exact x_ireturn hR dX11_undo_44 h
  · refine x_iconst C dX11_undo_12 ?_
    exact x_ireturn hR dX11_undo_13 h
theorem c_m_undo (l : Launch) (m : xM) (r : Int) (m9 : xM) (h : f_m_undo m = some (r, m9)) : xMet l yX11_undo cX11_undo 1 (some .int) 2 lay_M [.inr (.inr (some 0))] m (some (.inl r)) m9 :=
  xMet_i (by decide +kernel) (Nat.le_of_ble_eq_true rfl) (fun Γ C hR hl9 => t_m_undo (Nat.le_refl _) C hR m h)
/-! ===== yX11_saveSnapshot ===== -/
theorem fF_X11_19 : xF RX11 19 13 3 (.array .int) true := ⟨RX11, TX11, 26, tyX11, rfl, by decide, (xin_9 _ (List.mem_of_getElem? (i := 5) rfl)), rfl, inlX11, tyX11_ok, nmX11, rfl, rfl⟩
theorem xv_55 : xview lay_M lay_cA [1, 4] := xview_of (by decide +kernel)
theorem fF_X11_276 : xF RX11 276 13 7 .boolean false := ⟨RX11, TX11, 26, tyX11, rfl, by decide, (xin_18 _ (List.mem_of_getElem? (i := 18) rfl)), rfl, inlX11, tyX11_ok, nmX11, rfl, rfl⟩
theorem dX11_saveSnapshot_0 : decode cX11_saveSnapshot 0 = .ok (.aload_n 0, 1) := by decide +kernel
theorem dX11_saveSnapshot_1 : decode cX11_saveSnapshot 1 = .ok (.iconst 0, 1) := by decide +kernel
theorem dX11_saveSnapshot_2 : decode cX11_saveSnapshot 2 = .ok (.putfield 66, 3) := by decide +kernel
theorem dX11_saveSnapshot_5 : decode cX11_saveSnapshot 5 = .ok (.aload_n 0, 1) := by decide +kernel
theorem dX11_saveSnapshot_6 : decode cX11_saveSnapshot 6 = .ok (.getfield 9, 3) := by decide +kernel
theorem dX11_saveSnapshot_9 : decode cX11_saveSnapshot 9 = .ok (.iconst 0, 1) := by decide +kernel
theorem dX11_saveSnapshot_10 : decode cX11_saveSnapshot 10 = .ok (.aload_n 0, 1) := by decide +kernel
theorem dX11_saveSnapshot_11 : decode cX11_saveSnapshot 11 = .ok (.getfield 19, 3) := by decide +kernel
theorem dX11_saveSnapshot_14 : decode cX11_saveSnapshot 14 = .ok (.iconst 0, 1) := by decide +kernel
theorem dX11_saveSnapshot_15 : decode cX11_saveSnapshot 15 = .ok (.invokestatic 228, 3) := by decide +kernel
theorem dX11_saveSnapshot_18 : decode cX11_saveSnapshot 18 = .ok (.aload_n 0, 1) := by decide +kernel
theorem dX11_saveSnapshot_19 : decode cX11_saveSnapshot 19 = .ok (.iconst 1, 1) := by decide +kernel
theorem dX11_saveSnapshot_20 : decode cX11_saveSnapshot 20 = .ok (.putfield 276, 3) := by decide +kernel
theorem dX11_saveSnapshot_23 : decode cX11_saveSnapshot 23 = .ok (.return_, 1) := by decide +kernel
def f_m_saveSnapshot (m : xM) : Option (xM) :=
     (Option.bind (f_m_copyA 0 0 (xvw [1, 4] (xu m 0 6 0))) fun q0 =>
      some (xu (xmg [1, 4] 2 (xu m 0 6 0) q0) 0 7 1))
set_option maxRecDepth 1000000 in
set_option maxHeartbeats 4000000 in
theorem t_m_saveSnapshot {Γ : xG} {d : Nat} (hd9 : 2 ≤ d) (C : xC Γ lay_M RX11 cX11_saveSnapshot 1 d) {m9 : xM} (hR : xRv Γ lay_M cX11_saveSnapshot m9) (m : xM) (h : f_m_saveSnapshot m = some m9) : xW Γ lay_M 1 0 [(0, .inr (.inr (some 0)))] [] m := by
  unfold f_m_saveSnapshot at h
  refine x_aload_n C dX11_saveSnapshot_0 rfl ?_
  refine x_iconst C dX11_saveSnapshot_1 ?_
  refine x_putI C dX11_saveSnapshot_2 fF_X11_66 rfl rfl ?_
  refine x_aload_n C dX11_saveSnapshot_5 rfl ?_
  refine x_getR C dX11_saveSnapshot_6 fF_X11_9 rfl rfl ?_
  refine x_iconst C dX11_saveSnapshot_9 ?_
  refine x_aload_n C dX11_saveSnapshot_10 rfl ?_
  refine x_getR C dX11_saveSnapshot_11 fF_X11_19 rfl rfl ?_
  refine x_iconst C dX11_saveSnapshot_14 ?_
  obtain ⟨q0, hq0, h⟩ := x_bind h
  refine x_callS C dX11_saveSnapshot_15 (xin_23 _ (List.mem_of_getElem? (i := 16) rfl)) xy_X11_copy (xt_X11_copy) [1, 4] xv_55 (by omega) (by decide) (av := [.inr (.inr (some 0)), .inl 0, .inr (.inr (some 1)), .inl 0]) rfl (Nat.le_of_ble_eq_true rfl) (c_m_copyA _ _ _ _ _ hq0) rfl ?_
  refine x_aload_n C dX11_saveSnapshot_18 rfl ?_
  refine x_iconst C dX11_saveSnapshot_19 ?_
  refine x_putZ C dX11_saveSnapshot_20 fF_X11_276 rfl rfl (by decide) ?_
  exact x_returnV hR dX11_saveSnapshot_23 h
theorem c_m_saveSnapshot (l : Launch) (m m9 : xM) (h : f_m_saveSnapshot m = some m9) : xMet l yX11_saveSnapshot cX11_saveSnapshot 1 none 2 lay_M [.inr (.inr (some 0))] m none m9 :=
  xMet_v (by decide +kernel) (Nat.le_of_ble_eq_true rfl) (fun Γ C hR hl9 => t_m_saveSnapshot (Nat.le_refl _) C hR m h)
/-! ===== yX11_restoreSnapshot ===== -/
theorem xv_56 : xview lay_M lay_cA [4, 1] := xview_of (by decide +kernel)
theorem dX11_restoreSnapshot_0 : decode cX11_restoreSnapshot 0 = .ok (.aload_n 0, 1) := by decide +kernel
theorem dX11_restoreSnapshot_1 : decode cX11_restoreSnapshot 1 = .ok (.iconst 0, 1) := by decide +kernel
theorem dX11_restoreSnapshot_2 : decode cX11_restoreSnapshot 2 = .ok (.putfield 66, 3) := by decide +kernel
theorem dX11_restoreSnapshot_5 : decode cX11_restoreSnapshot 5 = .ok (.aload_n 0, 1) := by decide +kernel
theorem dX11_restoreSnapshot_6 : decode cX11_restoreSnapshot 6 = .ok (.getfield 276, 3) := by decide +kernel
theorem dX11_restoreSnapshot_9 : decode cX11_restoreSnapshot 9 = .ok (.ifCond .ne 5, 3) := by decide +kernel
theorem dX11_restoreSnapshot_12 : decode cX11_restoreSnapshot 12 = .ok (.iconst 0, 1) := by decide +kernel
theorem dX11_restoreSnapshot_13 : decode cX11_restoreSnapshot 13 = .ok (.ireturn, 1) := by decide +kernel
theorem dX11_restoreSnapshot_14 : decode cX11_restoreSnapshot 14 = .ok (.aload_n 0, 1) := by decide +kernel
theorem dX11_restoreSnapshot_15 : decode cX11_restoreSnapshot 15 = .ok (.getfield 19, 3) := by decide +kernel
theorem dX11_restoreSnapshot_18 : decode cX11_restoreSnapshot 18 = .ok (.iconst 0, 1) := by decide +kernel
theorem dX11_restoreSnapshot_19 : decode cX11_restoreSnapshot 19 = .ok (.aload_n 0, 1) := by decide +kernel
theorem dX11_restoreSnapshot_20 : decode cX11_restoreSnapshot 20 = .ok (.getfield 9, 3) := by decide +kernel
theorem dX11_restoreSnapshot_23 : decode cX11_restoreSnapshot 23 = .ok (.iconst 0, 1) := by decide +kernel
theorem dX11_restoreSnapshot_24 : decode cX11_restoreSnapshot 24 = .ok (.invokestatic 228, 3) := by decide +kernel
theorem dX11_restoreSnapshot_27 : decode cX11_restoreSnapshot 27 = .ok (.aload_n 0, 1) := by decide +kernel
theorem dX11_restoreSnapshot_28 : decode cX11_restoreSnapshot 28 = .ok (.iconst 0, 1) := by decide +kernel
theorem dX11_restoreSnapshot_29 : decode cX11_restoreSnapshot 29 = .ok (.putfield 273, 3) := by decide +kernel
theorem dX11_restoreSnapshot_32 : decode cX11_restoreSnapshot 32 = .ok (.iconst 1, 1) := by decide +kernel
theorem dX11_restoreSnapshot_33 : decode cX11_restoreSnapshot 33 = .ok (.ireturn, 1) := by decide +kernel
def f_m_restoreSnapshot (m : xM) : Option (Int × xM) :=
     (if xw (m 0 7) = 0 then some (0, (xu m 0 6 0))
      else (Option.bind (f_m_copyA 0 0 (xvw [4, 1] (xu m 0 6 0))) fun q0 =>
      some (1, (xu (xmg [4, 1] 2 (xu m 0 6 0) q0) 0 5 0))))
set_option maxRecDepth 1000000 in
set_option maxHeartbeats 4000000 in
theorem t_m_restoreSnapshot {Γ : xG} {d : Nat} (hd9 : 2 ≤ d) (C : xC Γ lay_M RX11 cX11_restoreSnapshot 1 d) {r : Int} {m9 : xM} (hR : xRz Γ lay_M cX11_restoreSnapshot r m9) (m : xM) (h : f_m_restoreSnapshot m = some (r, m9)) : xW Γ lay_M 1 0 [(0, .inr (.inr (some 0)))] [] m := by
  unfold f_m_restoreSnapshot at h
  refine x_aload_n C dX11_restoreSnapshot_0 rfl ?_
  refine x_iconst C dX11_restoreSnapshot_1 ?_
  refine x_putI C dX11_restoreSnapshot_2 fF_X11_66 rfl rfl ?_
  refine x_aload_n C dX11_restoreSnapshot_5 rfl ?_
  refine x_getI C dX11_restoreSnapshot_6 fF_X11_276 rfl rfl ?_
  refine x_if_ne C 14 dX11_restoreSnapshot_9 (by decide) h (fun h => ?_) (fun h => ?_)
  · refine x_aload_n C dX11_restoreSnapshot_14 rfl ?_
    refine x_getR C dX11_restoreSnapshot_15 fF_X11_19 rfl rfl ?_
    refine x_iconst C dX11_restoreSnapshot_18 ?_
    refine x_aload_n C dX11_restoreSnapshot_19 rfl ?_
    refine x_getR C dX11_restoreSnapshot_20 fF_X11_9 rfl rfl ?_
    refine x_iconst C dX11_restoreSnapshot_23 ?_
    obtain ⟨q0, hq0, h⟩ := x_bind h
    refine x_callS C dX11_restoreSnapshot_24 (xin_23 _ (List.mem_of_getElem? (i := 16) rfl)) xy_X11_copy (xt_X11_copy) [4, 1] xv_56 (by omega) (by decide) (av := [.inr (.inr (some 0)), .inl 0, .inr (.inr (some 1)), .inl 0]) rfl (Nat.le_of_ble_eq_true rfl) (c_m_copyA _ _ _ _ _ hq0) rfl ?_
    refine x_aload_n C dX11_restoreSnapshot_27 rfl ?_
    refine x_iconst C dX11_restoreSnapshot_28 ?_
    refine x_putI C dX11_restoreSnapshot_29 fF_X11_273 rfl rfl ?_
    refine x_iconst C dX11_restoreSnapshot_32 ?_
    exact x_zreturn hR (by decide) dX11_restoreSnapshot_33 h
  · refine x_iconst C dX11_restoreSnapshot_12 ?_
    exact x_zreturn hR (by decide) dX11_restoreSnapshot_13 h
theorem c_m_restoreSnapshot (l : Launch) (m : xM) (r : Int) (m9 : xM) (h : f_m_restoreSnapshot m = some (r, m9)) : xMet l yX11_restoreSnapshot cX11_restoreSnapshot 1 (some .boolean) 2 lay_M [.inr (.inr (some 0))] m (some (.inl r)) m9 :=
  xMet_z (by decide +kernel) (Nat.le_of_ble_eq_true rfl) (fun Γ C hR hl9 => t_m_restoreSnapshot (Nat.le_refl _) C hR m h)
/-! ===== yX11_feed ===== -/
theorem dX11_feed_0 : decode cX11_feed 0 = .ok (.aload_n 0, 1) := by decide +kernel
theorem dX11_feed_1 : decode cX11_feed 1 = .ok (.iconst 0, 1) := by decide +kernel
theorem dX11_feed_2 : decode cX11_feed 2 = .ok (.putfield 66, 3) := by decide +kernel
theorem dX11_feed_5 : decode cX11_feed 5 = .ok (.aload_n 0, 1) := by decide +kernel
theorem dX11_feed_6 : decode cX11_feed 6 = .ok (.getfield 209, 3) := by decide +kernel
theorem dX11_feed_9 : decode cX11_feed 9 = .ok (.bipush 20, 2) := by decide +kernel
theorem dX11_feed_11 : decode cX11_feed 11 = .ok (.iadd, 1) := by decide +kernel
theorem dX11_feed_12 : decode cX11_feed 12 = .ok (.sipush 600, 3) := by decide +kernel
theorem dX11_feed_15 : decode cX11_feed 15 = .ok (.if_icmp .le 5, 3) := by decide +kernel
theorem dX11_feed_18 : decode cX11_feed 18 = .ok (.iconst (-1), 1) := by decide +kernel
theorem dX11_feed_19 : decode cX11_feed 19 = .ok (.ireturn, 1) := by decide +kernel
theorem dX11_feed_20 : decode cX11_feed 20 = .ok (.iconst 0, 1) := by decide +kernel
theorem dX11_feed_21 : decode cX11_feed 21 = .ok (.istore 6, 2) := by decide +kernel
theorem dX11_feed_23 : decode cX11_feed 23 = .ok (.iload 6, 2) := by decide +kernel
theorem dX11_feed_25 : decode cX11_feed 25 = .ok (.bipush 20, 2) := by decide +kernel
theorem dX11_feed_27 : decode cX11_feed 27 = .ok (.if_icmp .ge 93, 3) := by decide +kernel
theorem dX11_feed_30 : decode cX11_feed 30 = .ok (.iload 6, 2) := by decide +kernel
theorem dX11_feed_32 : decode cX11_feed 32 = .ok (.iconst 4, 1) := by decide +kernel
theorem dX11_feed_33 : decode cX11_feed 33 = .ok (.if_icmp .ge 7, 3) := by decide +kernel
theorem dX11_feed_36 : decode cX11_feed 36 = .ok (.iload_n 1, 1) := by decide +kernel
theorem dX11_feed_37 : decode cX11_feed 37 = .ok (.goto 39, 3) := by decide +kernel
theorem dX11_feed_40 : decode cX11_feed 40 = .ok (.iload 6, 2) := by decide +kernel
theorem dX11_feed_42 : decode cX11_feed 42 = .ok (.bipush 8, 2) := by decide +kernel
theorem dX11_feed_44 : decode cX11_feed 44 = .ok (.if_icmp .ge 7, 3) := by decide +kernel
theorem dX11_feed_47 : decode cX11_feed 47 = .ok (.iload_n 2, 1) := by decide +kernel
theorem dX11_feed_48 : decode cX11_feed 48 = .ok (.goto 28, 3) := by decide +kernel
theorem dX11_feed_51 : decode cX11_feed 51 = .ok (.iload 6, 2) := by decide +kernel
theorem dX11_feed_53 : decode cX11_feed 53 = .ok (.bipush 12, 2) := by decide +kernel
theorem dX11_feed_55 : decode cX11_feed 55 = .ok (.if_icmp .ge 7, 3) := by decide +kernel
theorem dX11_feed_58 : decode cX11_feed 58 = .ok (.iload_n 3, 1) := by decide +kernel
theorem dX11_feed_59 : decode cX11_feed 59 = .ok (.goto 17, 3) := by decide +kernel
theorem dX11_feed_62 : decode cX11_feed 62 = .ok (.iload 6, 2) := by decide +kernel
theorem dX11_feed_64 : decode cX11_feed 64 = .ok (.bipush 16, 2) := by decide +kernel
theorem dX11_feed_66 : decode cX11_feed 66 = .ok (.if_icmp .ge 8, 3) := by decide +kernel
theorem dX11_feed_69 : decode cX11_feed 69 = .ok (.iload 4, 2) := by decide +kernel
theorem dX11_feed_71 : decode cX11_feed 71 = .ok (.goto 5, 3) := by decide +kernel
theorem dX11_feed_74 : decode cX11_feed 74 = .ok (.iload 5, 2) := by decide +kernel
theorem dX11_feed_76 : decode cX11_feed 76 = .ok (.istore 7, 2) := by decide +kernel
theorem dX11_feed_78 : decode cX11_feed 78 = .ok (.aload_n 0, 1) := by decide +kernel
theorem dX11_feed_79 : decode cX11_feed 79 = .ok (.getfield 32, 3) := by decide +kernel
theorem dX11_feed_82 : decode cX11_feed 82 = .ok (.aload_n 0, 1) := by decide +kernel
theorem dX11_feed_83 : decode cX11_feed 83 = .ok (.getfield 209, 3) := by decide +kernel
theorem dX11_feed_86 : decode cX11_feed 86 = .ok (.iload 7, 2) := by decide +kernel
theorem dX11_feed_88 : decode cX11_feed 88 = .ok (.bipush 24, 2) := by decide +kernel
theorem dX11_feed_90 : decode cX11_feed 90 = .ok (.bipush 8, 2) := by decide +kernel
theorem dX11_feed_92 : decode cX11_feed 92 = .ok (.iload 6, 2) := by decide +kernel
theorem dX11_feed_94 : decode cX11_feed 94 = .ok (.iconst 4, 1) := by decide +kernel
theorem dX11_feed_95 : decode cX11_feed 95 = .ok (.irem, 1) := by decide +kernel
theorem dX11_feed_96 : decode cX11_feed 96 = .ok (.imul, 1) := by decide +kernel
theorem dX11_feed_97 : decode cX11_feed 97 = .ok (.isub, 1) := by decide +kernel
theorem dX11_feed_98 : decode cX11_feed 98 = .ok (.ishr, 1) := by decide +kernel
theorem dX11_feed_99 : decode cX11_feed 99 = .ok (.sipush 255, 3) := by decide +kernel
theorem dX11_feed_102 : decode cX11_feed 102 = .ok (.iand, 1) := by decide +kernel
theorem dX11_feed_103 : decode cX11_feed 103 = .ok (.iastore, 1) := by decide +kernel
theorem dX11_feed_104 : decode cX11_feed 104 = .ok (.aload_n 0, 1) := by decide +kernel
theorem dX11_feed_105 : decode cX11_feed 105 = .ok (.dup, 1) := by decide +kernel
theorem dX11_feed_106 : decode cX11_feed 106 = .ok (.getfield 209, 3) := by decide +kernel
theorem dX11_feed_109 : decode cX11_feed 109 = .ok (.iconst 1, 1) := by decide +kernel
theorem dX11_feed_110 : decode cX11_feed 110 = .ok (.iadd, 1) := by decide +kernel
theorem dX11_feed_111 : decode cX11_feed 111 = .ok (.putfield 209, 3) := by decide +kernel
theorem dX11_feed_114 : decode cX11_feed 114 = .ok (.iinc 6 1, 3) := by decide +kernel
theorem dX11_feed_117 : decode cX11_feed 117 = .ok (.goto (-94), 3) := by decide +kernel
theorem dX11_feed_120 : decode cX11_feed 120 = .ok (.aload_n 0, 1) := by decide +kernel
theorem dX11_feed_121 : decode cX11_feed 121 = .ok (.getfield 209, 3) := by decide +kernel
theorem dX11_feed_124 : decode cX11_feed 124 = .ok (.ireturn, 1) := by decide +kernel
def f_m_feed_120 (a : Int) (b : Int) (c : Int) (d0 : Int) (e : Int) (m : xM) : Option (Int × xM) :=
     some ((m 0 13), m)
set_option maxRecDepth 1000000 in
set_option maxHeartbeats 4000000 in
theorem t_m_feed_120 {Γ : xG} {d : Nat} (hd9 : 1 ≤ d) (C : xC Γ lay_M RX11 cX11_feed 8 d) (a : Int) (b : Int) (c : Int) (d0 : Int) (e : Int) {r : Int} {m9 : xM} (hR : xRi Γ lay_M cX11_feed r m9) (m : xM) (h : f_m_feed_120 a b c d0 e m = some (r, m9)) : xW Γ lay_M 8 120 [(0, .inr (.inr (some 0)))] [] m := by
  unfold f_m_feed_120 at h
  refine x_aload_n C dX11_feed_120 rfl ?_
  refine x_getI C dX11_feed_121 fF_X11_209 rfl rfl ?_
  exact x_ireturn hR dX11_feed_124 h
def f_m_feed_104 (a : Int) (b : Int) (c : Int) (d0 : Int) (e : Int) (k23 : Int → xM → Option (Int × xM)) (x6 : Int) (m : xM) : Option (Int × xM) :=
     k23 (x6 + 1) (xu m 0 13 ((m 0 13) + 1))
set_option maxRecDepth 1000000 in
set_option maxHeartbeats 4000000 in
theorem t_m_feed_104 {Γ : xG} {d : Nat} (hd9 : 1 ≤ d) (C : xC Γ lay_M RX11 cX11_feed 8 d) (a : Int) (b : Int) (c : Int) (d0 : Int) (e : Int) {r : Int} {m9 : xM} (hR : xRi Γ lay_M cX11_feed r m9) {k23 : Int → xM → Option (Int × xM)} (hk23 : ∀ (x6 : Int) (m : xM), k23 x6 m = some (r, m9) → xW Γ lay_M 8 23 [(0, .inr (.inr (some 0))), (1, .inl a), (2, .inl b), (3, .inl c), (4, .inl d0), (5, .inl e), (6, .inl x6)] [] m) (x6 : Int) (m : xM) (h : f_m_feed_104 a b c d0 e k23 x6 m = some (r, m9)) : xW Γ lay_M 8 104 [(0, .inr (.inr (some 0))), (1, .inl a), (2, .inl b), (3, .inl c), (4, .inl d0), (5, .inl e), (6, .inl x6)] [] m := by
  unfold f_m_feed_104 at h
  refine x_aload_n C dX11_feed_104 rfl ?_
  refine x_dup C dX11_feed_105 rfl ?_
  refine x_getI C dX11_feed_106 fF_X11_209 rfl rfl ?_
  refine x_iconst C dX11_feed_109 ?_
  refine x_iadd C dX11_feed_110 ?_
  refine x_putI C dX11_feed_111 fF_X11_209 rfl rfl ?_
  refine x_iinc C dX11_feed_114 (by decide) rfl ?_
  refine x_goto C 23 dX11_feed_117 (by decide) ?_
  refine x_loc [(0, .inr (.inr (some 0))), (1, .inl a), (2, .inl b), (3, .inl c), (4, .inl d0), (5, .inl e), (6, .inl (x6 + 1))] ⟨rfl, rfl, rfl, rfl, rfl, rfl, rfl, trivial⟩ ?_
  exact hk23 _ _ h
def f_m_feed_76 (a : Int) (b : Int) (c : Int) (d0 : Int) (e : Int) (k23 : Int → xM → Option (Int × xM)) (x6 : Int) (s0 : Int) (m : xM) : Option (Int × xM) :=
     (if xw 4 = 0 then none
      else (if xib (m 0 13) 600 then f_m_feed_104 a b c d0 e k23 x6 (xu m 8 (xix (m 0 13)) (xiand (xishr s0 (24 - (8 * (xirem x6 4)))) 255))
      else none))
set_option maxRecDepth 1000000 in
set_option maxHeartbeats 4000000 in
theorem t_m_feed_76 {Γ : xG} {d : Nat} (hd9 : 1 ≤ d) (C : xC Γ lay_M RX11 cX11_feed 8 d) (a : Int) (b : Int) (c : Int) (d0 : Int) (e : Int) {r : Int} {m9 : xM} (hR : xRi Γ lay_M cX11_feed r m9) {k23 : Int → xM → Option (Int × xM)} (hk23 : ∀ (x6 : Int) (m : xM), k23 x6 m = some (r, m9) → xW Γ lay_M 8 23 [(0, .inr (.inr (some 0))), (1, .inl a), (2, .inl b), (3, .inl c), (4, .inl d0), (5, .inl e), (6, .inl x6)] [] m) (x6 : Int) (s0 : Int) (m : xM) (h : f_m_feed_76 a b c d0 e k23 x6 s0 m = some (r, m9)) : xW Γ lay_M 8 76 [(0, .inr (.inr (some 0))), (1, .inl a), (2, .inl b), (3, .inl c), (4, .inl d0), (5, .inl e), (6, .inl x6)] [.inl s0] m := by
  unfold f_m_feed_76 at h
  refine x_istore C dX11_feed_76 (by decide) ?_
  refine x_aload_n C dX11_feed_78 rfl ?_
  refine x_getR C dX11_feed_79 fF_X11_32 rfl rfl ?_
  refine x_aload_n C dX11_feed_82 rfl ?_
  refine x_getI C dX11_feed_83 fF_X11_209 rfl rfl ?_
  refine x_iload C dX11_feed_86 rfl ?_
  refine x_bipush C dX11_feed_88 (by decide) ?_
  refine x_bipush C dX11_feed_90 (by decide) ?_
  refine x_iload C dX11_feed_92 rfl ?_
  refine x_iconst C dX11_feed_94 ?_
  refine x_irem C dX11_feed_95 h (fun h9 h => ?_)
  refine x_imul C dX11_feed_96 ?_
  refine x_isub C dX11_feed_97 ?_
  refine x_ishr C dX11_feed_98 ?_
  refine x_sipush C dX11_feed_99 (by decide) ?_
  refine x_iand C dX11_feed_102 ?_
  refine x_iastore C dX11_feed_103 rfl h (fun h => ?_)
  refine x_loc [(0, .inr (.inr (some 0))), (1, .inl a), (2, .inl b), (3, .inl c), (4, .inl d0), (5, .inl e), (6, .inl x6)] ⟨rfl, rfl, rfl, rfl, rfl, rfl, rfl, trivial⟩ ?_
  exact t_m_feed_104 hd9 C _ _ _ _ _ hR hk23 _ _ h
def f_m_feed_23 (a : Int) (b : Int) (c : Int) (d0 : Int) (e : Int) : Nat → Int → xM → Option (Int × xM)
  | 0, _, _ => none
  | n + 1, x6, m =>
     (if xw x6 < xw 20 then (if xw x6 < xw 4 then f_m_feed_76 a b c d0 e (f_m_feed_23 a b c d0 e n) x6 a m
      else (if xw x6 < xw 8 then f_m_feed_76 a b c d0 e (f_m_feed_23 a b c d0 e n) x6 b m
      else (if xw x6 < xw 12 then f_m_feed_76 a b c d0 e (f_m_feed_23 a b c d0 e n) x6 c m
      else (if xw x6 < xw 16 then f_m_feed_76 a b c d0 e (f_m_feed_23 a b c d0 e n) x6 d0 m
      else f_m_feed_76 a b c d0 e (f_m_feed_23 a b c d0 e n) x6 e m))))
      else f_m_feed_120 a b c d0 e m)
set_option maxRecDepth 1000000 in
set_option maxHeartbeats 4000000 in
theorem t_m_feed_23 {Γ : xG} {d : Nat} (hd9 : 1 ≤ d) (C : xC Γ lay_M RX11 cX11_feed 8 d) (a : Int) (b : Int) (c : Int) (d0 : Int) (e : Int) {r : Int} {m9 : xM} (hR : xRi Γ lay_M cX11_feed r m9) : ∀ (n : Nat) (x6 : Int) (m : xM), f_m_feed_23 a b c d0 e n x6 m = some (r, m9) → xW Γ lay_M 8 23 [(0, .inr (.inr (some 0))), (1, .inl a), (2, .inl b), (3, .inl c), (4, .inl d0), (5, .inl e), (6, .inl x6)] [] m := by
  intro n
  induction n with
  | zero => intro _ _ h; cases h
  | succ n ih =>
    intro x6 m h
    rw [f_m_feed_23] at h
    refine x_iload C dX11_feed_23 rfl ?_
    refine x_bipush C dX11_feed_25 (by decide) ?_
    refine x_icmp_ge C 120 dX11_feed_27 (by decide) h (fun h => ?_) (fun h => ?_)
    · refine x_loc [(0, .inr (.inr (some 0)))] ⟨rfl, trivial⟩ ?_
      exact t_m_feed_120 hd9 C _ _ _ _ _ hR _ h
    · refine x_iload C dX11_feed_30 rfl ?_
      refine x_iconst C dX11_feed_32 ?_
      refine x_icmp_ge C 40 dX11_feed_33 (by decide) h (fun h => ?_) (fun h => ?_)
      · refine x_iload C dX11_feed_40 rfl ?_
        refine x_bipush C dX11_feed_42 (by decide) ?_
        refine x_icmp_ge C 51 dX11_feed_44 (by decide) h (fun h => ?_) (fun h => ?_)
        · refine x_iload C dX11_feed_51 rfl ?_
          refine x_bipush C dX11_feed_53 (by decide) ?_
          refine x_icmp_ge C 62 dX11_feed_55 (by decide) h (fun h => ?_) (fun h => ?_)
          · refine x_iload C dX11_feed_62 rfl ?_
            refine x_bipush C dX11_feed_64 (by decide) ?_
            refine x_icmp_ge C 74 dX11_feed_66 (by decide) h (fun h => ?_) (fun h => ?_)
            · refine x_iload C dX11_feed_74 rfl ?_
              refine x_loc [(0, .inr (.inr (some 0))), (1, .inl a), (2, .inl b), (3, .inl c), (4, .inl d0), (5, .inl e), (6, .inl x6)] ⟨rfl, rfl, rfl, rfl, rfl, rfl, rfl, trivial⟩ ?_
              exact t_m_feed_76 hd9 C _ _ _ _ _ hR ih _ _ _ h
            · refine x_iload C dX11_feed_69 rfl ?_
              refine x_goto C 76 dX11_feed_71 (by decide) ?_
              refine x_loc [(0, .inr (.inr (some 0))), (1, .inl a), (2, .inl b), (3, .inl c), (4, .inl d0), (5, .inl e), (6, .inl x6)] ⟨rfl, rfl, rfl, rfl, rfl, rfl, rfl, trivial⟩ ?_
              exact t_m_feed_76 hd9 C _ _ _ _ _ hR ih _ _ _ h
          · refine x_iload_n C dX11_feed_58 rfl ?_
            refine x_goto C 76 dX11_feed_59 (by decide) ?_
            refine x_loc [(0, .inr (.inr (some 0))), (1, .inl a), (2, .inl b), (3, .inl c), (4, .inl d0), (5, .inl e), (6, .inl x6)] ⟨rfl, rfl, rfl, rfl, rfl, rfl, rfl, trivial⟩ ?_
            exact t_m_feed_76 hd9 C _ _ _ _ _ hR ih _ _ _ h
        · refine x_iload_n C dX11_feed_47 rfl ?_
          refine x_goto C 76 dX11_feed_48 (by decide) ?_
          refine x_loc [(0, .inr (.inr (some 0))), (1, .inl a), (2, .inl b), (3, .inl c), (4, .inl d0), (5, .inl e), (6, .inl x6)] ⟨rfl, rfl, rfl, rfl, rfl, rfl, rfl, trivial⟩ ?_
          exact t_m_feed_76 hd9 C _ _ _ _ _ hR ih _ _ _ h
      · refine x_iload_n C dX11_feed_36 rfl ?_
        refine x_goto C 76 dX11_feed_37 (by decide) ?_
        refine x_loc [(0, .inr (.inr (some 0))), (1, .inl a), (2, .inl b), (3, .inl c), (4, .inl d0), (5, .inl e), (6, .inl x6)] ⟨rfl, rfl, rfl, rfl, rfl, rfl, rfl, trivial⟩ ?_
        exact t_m_feed_76 hd9 C _ _ _ _ _ hR ih _ _ _ h
def f_m_feed (a : Int) (b : Int) (c : Int) (d0 : Int) (e : Int) (m : xM) : Option (Int × xM) :=
     (if xw 600 < xw ((m 0 13) + 20) then some ((-1), (xu m 0 6 0))
      else f_m_feed_23 a b c d0 e fu 0 (xu m 0 6 0))
set_option maxRecDepth 1000000 in
set_option maxHeartbeats 4000000 in
theorem t_m_feed {Γ : xG} {d : Nat} (hd9 : 1 ≤ d) (C : xC Γ lay_M RX11 cX11_feed 8 d) (a : Int) (b : Int) (c : Int) (d0 : Int) (e : Int) {r : Int} {m9 : xM} (hR : xRi Γ lay_M cX11_feed r m9) (m : xM) (h : f_m_feed a b c d0 e m = some (r, m9)) : xW Γ lay_M 8 0 [(0, .inr (.inr (some 0))), (1, .inl a), (2, .inl b), (3, .inl c), (4, .inl d0), (5, .inl e)] [] m := by
  unfold f_m_feed at h
  refine x_aload_n C dX11_feed_0 rfl ?_
  refine x_iconst C dX11_feed_1 ?_
  refine x_putI C dX11_feed_2 fF_X11_66 rfl rfl ?_
  refine x_aload_n C dX11_feed_5 rfl ?_
  refine x_getI C dX11_feed_6 fF_X11_209 rfl rfl ?_
  refine x_bipush C dX11_feed_9 (by decide) ?_
  refine x_iadd C dX11_feed_11 ?_
  refine x_sipush C dX11_feed_12 (by decide) ?_
  refine x_icmp_le C 20 dX11_feed_15 (by decide) h (fun h => ?_) (fun h => ?_)
  · refine x_iconst C dX11_feed_20 ?_
    refine x_istore C dX11_feed_21 (by decide) ?_
    refine x_loc [(0, .inr (.inr (some 0))), (1, .inl a), (2, .inl b), (3, .inl c), (4, .inl d0), (5, .inl e), (6, .inl 0)] ⟨rfl, rfl, rfl, rfl, rfl, rfl, rfl, trivial⟩ ?_
    exact t_m_feed_23 hd9 C _ _ _ _ _ hR fu _ _ h
  · refine x_iconst C dX11_feed_18 ?_
    exact x_ireturn hR dX11_feed_19 h
theorem c_m_feed (l : Launch) (a : Int) (b : Int) (c : Int) (d0 : Int) (e : Int) (m : xM) (r : Int) (m9 : xM) (h : f_m_feed a b c d0 e m = some (r, m9)) : xMet l yX11_feed cX11_feed 8 (some .int) 1 lay_M [.inr (.inr (some 0)), .inl a, .inl b, .inl c, .inl d0, .inl e] m (some (.inl r)) m9 :=
  xMet_i (by decide +kernel) (Nat.le_of_ble_eq_true rfl) (fun Γ C hR hl9 => t_m_feed (Nat.le_refl _) C a b c d0 e hR m h)
/-! ===== yX11_errorPosition ===== -/
theorem fF_X11_35 : xF RX11 35 13 20 .int false := ⟨RX11, TX11, 26, tyX11, rfl, by decide, (xin_9 _ (List.mem_of_getElem? (i := 11) rfl)), rfl, inlX11, tyX11_ok, nmX11, rfl, rfl⟩
theorem dX11_errorPosition_0 : decode cX11_errorPosition 0 = .ok (.aload_n 0, 1) := by decide +kernel
theorem dX11_errorPosition_1 : decode cX11_errorPosition 1 = .ok (.iconst 0, 1) := by decide +kernel
theorem dX11_errorPosition_2 : decode cX11_errorPosition 2 = .ok (.putfield 66, 3) := by decide +kernel
theorem dX11_errorPosition_5 : decode cX11_errorPosition 5 = .ok (.aload_n 0, 1) := by decide +kernel
theorem dX11_errorPosition_6 : decode cX11_errorPosition 6 = .ok (.getfield 35, 3) := by decide +kernel
theorem dX11_errorPosition_9 : decode cX11_errorPosition 9 = .ok (.ireturn, 1) := by decide +kernel
def f_m_errorPosition (m : xM) : Option (Int × xM) :=
     some ((m 0 20), (xu m 0 6 0))
set_option maxRecDepth 1000000 in
set_option maxHeartbeats 4000000 in
theorem t_m_errorPosition {Γ : xG} {d : Nat} (hd9 : 1 ≤ d) (C : xC Γ lay_M RX11 cX11_errorPosition 1 d) {r : Int} {m9 : xM} (hR : xRi Γ lay_M cX11_errorPosition r m9) (m : xM) (h : f_m_errorPosition m = some (r, m9)) : xW Γ lay_M 1 0 [(0, .inr (.inr (some 0)))] [] m := by
  unfold f_m_errorPosition at h
  refine x_aload_n C dX11_errorPosition_0 rfl ?_
  refine x_iconst C dX11_errorPosition_1 ?_
  refine x_putI C dX11_errorPosition_2 fF_X11_66 rfl rfl ?_
  refine x_aload_n C dX11_errorPosition_5 rfl ?_
  refine x_getI C dX11_errorPosition_6 fF_X11_35 rfl rfl ?_
  exact x_ireturn hR dX11_errorPosition_9 h
theorem c_m_errorPosition (l : Launch) (m : xM) (r : Int) (m9 : xM) (h : f_m_errorPosition m = some (r, m9)) : xMet l yX11_errorPosition cX11_errorPosition 1 (some .int) 1 lay_M [.inr (.inr (some 0))] m (some (.inl r)) m9 :=
  xMet_i (by decide +kernel) (Nat.le_of_ble_eq_true rfl) (fun Γ C hR hl9 => t_m_errorPosition (Nat.le_refl _) C hR m h)
/-! ===== yX11_byteAt ===== -/
theorem fF_X11_280 : xF RX11 280 13 14 .int false := ⟨RX11, TX11, 26, tyX11, rfl, by decide, (xin_19 _ (List.mem_of_getElem? (i := 6) rfl)), rfl, inlX11, tyX11_ok, nmX11, rfl, rfl⟩
theorem dX11_byteAt_0 : decode cX11_byteAt 0 = .ok (.iload_n 1, 1) := by decide +kernel
theorem dX11_byteAt_1 : decode cX11_byteAt 1 = .ok (.aload_n 0, 1) := by decide +kernel
theorem dX11_byteAt_2 : decode cX11_byteAt 2 = .ok (.getfield 280, 3) := by decide +kernel
theorem dX11_byteAt_5 : decode cX11_byteAt 5 = .ok (.if_icmp .ge 12, 3) := by decide +kernel
theorem dX11_byteAt_8 : decode cX11_byteAt 8 = .ok (.aload_n 0, 1) := by decide +kernel
theorem dX11_byteAt_9 : decode cX11_byteAt 9 = .ok (.getfield 32, 3) := by decide +kernel
theorem dX11_byteAt_12 : decode cX11_byteAt 12 = .ok (.iload_n 1, 1) := by decide +kernel
theorem dX11_byteAt_13 : decode cX11_byteAt 13 = .ok (.iaload, 1) := by decide +kernel
theorem dX11_byteAt_14 : decode cX11_byteAt 14 = .ok (.goto 4, 3) := by decide +kernel
theorem dX11_byteAt_17 : decode cX11_byteAt 17 = .ok (.iconst (-1), 1) := by decide +kernel
theorem dX11_byteAt_18 : decode cX11_byteAt 18 = .ok (.ireturn, 1) := by decide +kernel
def f_m_byteAt (p : Int) (m : xM) : Option (Int) :=
     (if xw p < xw (m 0 14) then (if xib p 600 then some (m 8 (xix p))
      else none)
      else some (-1))
set_option maxRecDepth 1000000 in
set_option maxHeartbeats 4000000 in
theorem t_m_byteAt {Γ : xG} {d : Nat} (hd9 : 1 ≤ d) (C : xC Γ lay_M RX11 cX11_byteAt 2 d) (p : Int) {r : Int} {m : xM} (hR : xRi Γ lay_M cX11_byteAt r m) (h : f_m_byteAt p m = some r) : xW Γ lay_M 2 0 [(0, .inr (.inr (some 0))), (1, .inl p)] [] m := by
  unfold f_m_byteAt at h
  refine x_iload_n C dX11_byteAt_0 rfl ?_
  refine x_aload_n C dX11_byteAt_1 rfl ?_
  refine x_getI C dX11_byteAt_2 fF_X11_280 rfl rfl ?_
  refine x_icmp_ge C 17 dX11_byteAt_5 (by decide) h (fun h => ?_) (fun h => ?_)
  · refine x_iconst C dX11_byteAt_17 ?_
    exact x_ireturnP hR dX11_byteAt_18 h
  · refine x_aload_n C dX11_byteAt_8 rfl ?_
    refine x_getR C dX11_byteAt_9 fF_X11_32 rfl rfl ?_
    refine x_iload_n C dX11_byteAt_12 rfl ?_
    refine x_iaload C dX11_byteAt_13 rfl h (fun h => ?_)
    refine x_goto C 18 dX11_byteAt_14 (by decide) ?_
    exact x_ireturnP hR dX11_byteAt_18 h
theorem c_m_byteAt (l : Launch) (p : Int) (m : xM) (r : Int) (h : f_m_byteAt p m = some r) : xMet l yX11_byteAt cX11_byteAt 2 (some .int) 1 lay_M [.inr (.inr (some 0)), .inl p] m (some (.inl r)) m :=
  xMet_i (by decide +kernel) (Nat.le_of_ble_eq_true rfl) (fun Γ C hR hl9 => t_m_byteAt (Nat.le_refl _) C p hR h)
/-! ===== yX11_isLetter ===== -/
theorem xy_X11_byteAt : xY yX11_byteAt cX11_byteAt 2 (some .int) 1 := ⟨(xin_19 _ (List.mem_of_getElem? (i := 18) rfl)), (xin_1 _ (List.mem_of_getElem? (i := 5) rfl)), by decide, by decide, by decide +kernel⟩
theorem xi_X11_byteAt : Cond.instanceMethod yX11_byteAt ∈ wsL_law := (xin_19 _ (List.mem_of_getElem? (i := 16) rfl))
theorem xs_X11_byteAt : Cond.selects yX11_byteAt.cls yX11_byteAt yX11_byteAt ∈ wsL_law := (xin_19 _ (List.mem_of_getElem? (i := 17) rfl))
theorem dX11_isLetter_0 : decode cX11_isLetter 0 = .ok (.aload_n 0, 1) := by decide +kernel
theorem dX11_isLetter_1 : decode cX11_isLetter 1 = .ok (.iload_n 1, 1) := by decide +kernel
theorem dX11_isLetter_2 : decode cX11_isLetter 2 = .ok (.invokevirtual 283, 3) := by decide +kernel
theorem dX11_isLetter_5 : decode cX11_isLetter 5 = .ok (.bipush 97, 2) := by decide +kernel
theorem dX11_isLetter_7 : decode cX11_isLetter 7 = .ok (.if_icmp .lt 17, 3) := by decide +kernel
theorem dX11_isLetter_10 : decode cX11_isLetter 10 = .ok (.aload_n 0, 1) := by decide +kernel
theorem dX11_isLetter_11 : decode cX11_isLetter 11 = .ok (.iload_n 1, 1) := by decide +kernel
theorem dX11_isLetter_12 : decode cX11_isLetter 12 = .ok (.invokevirtual 283, 3) := by decide +kernel
theorem dX11_isLetter_15 : decode cX11_isLetter 15 = .ok (.bipush 122, 2) := by decide +kernel
theorem dX11_isLetter_17 : decode cX11_isLetter 17 = .ok (.if_icmp .gt 7, 3) := by decide +kernel
theorem dX11_isLetter_20 : decode cX11_isLetter 20 = .ok (.iconst 1, 1) := by decide +kernel
theorem dX11_isLetter_21 : decode cX11_isLetter 21 = .ok (.goto 4, 3) := by decide +kernel
theorem dX11_isLetter_24 : decode cX11_isLetter 24 = .ok (.iconst 0, 1) := by decide +kernel
theorem dX11_isLetter_25 : decode cX11_isLetter 25 = .ok (.ireturn, 1) := by decide +kernel
def f_m_isLetter (p : Int) (m : xM) : Option (Int) :=
     (Option.bind (f_m_byteAt p m) fun q0 =>
      (if xw q0 < xw 97 then some 0
      else (Option.bind (f_m_byteAt p m) fun q1 =>
      (if xw 122 < xw q1 then some 0
      else some 1))))
set_option maxRecDepth 1000000 in
set_option maxHeartbeats 4000000 in
theorem t_m_isLetter {Γ : xG} {d : Nat} (hd9 : 2 ≤ d) (C : xC Γ lay_M RX11 cX11_isLetter 2 d) (p : Int) {r : Int} {m : xM} (hR : xRz Γ lay_M cX11_isLetter r m) (h : f_m_isLetter p m = some r) : xW Γ lay_M 2 0 [(0, .inr (.inr (some 0))), (1, .inl p)] [] m := by
  unfold f_m_isLetter at h
  refine x_aload_n C dX11_isLetter_0 rfl ?_
  refine x_iload_n C dX11_isLetter_1 rfl ?_
  obtain ⟨q0, hq0, h⟩ := x_bind h
  refine x_callVI C dX11_isLetter_2 (xin_19 _ (List.mem_of_getElem? (i := 15) rfl)) xy_X11_byteAt (xi_X11_byteAt) (xs_X11_byteAt) (by omega) (by decide) (b := 0) rfl ⟨_, _, rfl⟩ (av := [.inl p]) rfl (Nat.le_of_ble_eq_true rfl) (c_m_byteAt _ _ _ _ hq0) rfl ?_
  refine x_bipush C dX11_isLetter_5 (by decide) ?_
  refine x_icmp_lt C 24 dX11_isLetter_7 (by decide) h (fun h => ?_) (fun h => ?_)
  · refine x_iconst C dX11_isLetter_24 ?_
    exact x_zreturnP hR (by decide) dX11_isLetter_25 h
  · refine x_aload_n C dX11_isLetter_10 rfl ?_
    refine x_iload_n C dX11_isLetter_11 rfl ?_
    obtain ⟨q1, hq1, h⟩ := x_bind h
    refine x_callVI C dX11_isLetter_12 (xin_19 _ (List.mem_of_getElem? (i := 15) rfl)) xy_X11_byteAt (xi_X11_byteAt) (xs_X11_byteAt) (by omega) (by decide) (b := 0) rfl ⟨_, _, rfl⟩ (av := [.inl p]) rfl (Nat.le_of_ble_eq_true rfl) (c_m_byteAt _ _ _ _ hq1) rfl ?_
    refine x_bipush C dX11_isLetter_15 (by decide) ?_
    refine x_icmp_gt C 24 dX11_isLetter_17 (by decide) h (fun h => ?_) (fun h => ?_)
    · refine x_iconst C dX11_isLetter_24 ?_
      exact x_zreturnP hR (by decide) dX11_isLetter_25 h
    · refine x_iconst C dX11_isLetter_20 ?_
      refine x_goto C 25 dX11_isLetter_21 (by decide) ?_
      exact x_zreturnP hR (by decide) dX11_isLetter_25 h
theorem c_m_isLetter (l : Launch) (p : Int) (m : xM) (r : Int) (h : f_m_isLetter p m = some r) : xMet l yX11_isLetter cX11_isLetter 2 (some .boolean) 2 lay_M [.inr (.inr (some 0)), .inl p] m (some (.inl r)) m :=
  xMet_z (by decide +kernel) (Nat.le_of_ble_eq_true rfl) (fun Γ C hR hl9 => t_m_isLetter (Nat.le_refl _) C p hR h)
/-! ===== yX11_isDigit ===== -/
theorem dX11_isDigit_0 : decode cX11_isDigit 0 = .ok (.aload_n 0, 1) := by decide +kernel
theorem dX11_isDigit_1 : decode cX11_isDigit 1 = .ok (.iload_n 1, 1) := by decide +kernel
theorem dX11_isDigit_2 : decode cX11_isDigit 2 = .ok (.invokevirtual 283, 3) := by decide +kernel
theorem dX11_isDigit_5 : decode cX11_isDigit 5 = .ok (.bipush 48, 2) := by decide +kernel
theorem dX11_isDigit_7 : decode cX11_isDigit 7 = .ok (.if_icmp .lt 17, 3) := by decide +kernel
theorem dX11_isDigit_10 : decode cX11_isDigit 10 = .ok (.aload_n 0, 1) := by decide +kernel
theorem dX11_isDigit_11 : decode cX11_isDigit 11 = .ok (.iload_n 1, 1) := by decide +kernel
theorem dX11_isDigit_12 : decode cX11_isDigit 12 = .ok (.invokevirtual 283, 3) := by decide +kernel
theorem dX11_isDigit_15 : decode cX11_isDigit 15 = .ok (.bipush 57, 2) := by decide +kernel
theorem dX11_isDigit_17 : decode cX11_isDigit 17 = .ok (.if_icmp .gt 7, 3) := by decide +kernel
theorem dX11_isDigit_20 : decode cX11_isDigit 20 = .ok (.iconst 1, 1) := by decide +kernel
theorem dX11_isDigit_21 : decode cX11_isDigit 21 = .ok (.goto 4, 3) := by decide +kernel
theorem dX11_isDigit_24 : decode cX11_isDigit 24 = .ok (.iconst 0, 1) := by decide +kernel
theorem dX11_isDigit_25 : decode cX11_isDigit 25 = .ok (.ireturn, 1) := by decide +kernel
def f_m_isDigit (p : Int) (m : xM) : Option (Int) :=
     (Option.bind (f_m_byteAt p m) fun q0 =>
      (if xw q0 < xw 48 then some 0
      else (Option.bind (f_m_byteAt p m) fun q1 =>
      (if xw 57 < xw q1 then some 0
      else some 1))))
set_option maxRecDepth 1000000 in
set_option maxHeartbeats 4000000 in
theorem t_m_isDigit {Γ : xG} {d : Nat} (hd9 : 2 ≤ d) (C : xC Γ lay_M RX11 cX11_isDigit 2 d) (p : Int) {r : Int} {m : xM} (hR : xRz Γ lay_M cX11_isDigit r m) (h : f_m_isDigit p m = some r) : xW Γ lay_M 2 0 [(0, .inr (.inr (some 0))), (1, .inl p)] [] m := by
  unfold f_m_isDigit at h
  refine x_aload_n C dX11_isDigit_0 rfl ?_
  refine x_iload_n C dX11_isDigit_1 rfl ?_
  obtain ⟨q0, hq0, h⟩ := x_bind h
  refine x_callVI C dX11_isDigit_2 (xin_19 _ (List.mem_of_getElem? (i := 15) rfl)) xy_X11_byteAt (xi_X11_byteAt) (xs_X11_byteAt) (by omega) (by decide) (b := 0) rfl ⟨_, _, rfl⟩ (av := [.inl p]) rfl (Nat.le_of_ble_eq_true rfl) (c_m_byteAt _ _ _ _ hq0) rfl ?_
  refine x_bipush C dX11_isDigit_5 (by decide) ?_
  refine x_icmp_lt C 24 dX11_isDigit_7 (by decide) h (fun h => ?_) (fun h => ?_)
  · refine x_iconst C dX11_isDigit_24 ?_
    exact x_zreturnP hR (by decide) dX11_isDigit_25 h
  · refine x_aload_n C dX11_isDigit_10 rfl ?_
    refine x_iload_n C dX11_isDigit_11 rfl ?_
    obtain ⟨q1, hq1, h⟩ := x_bind h
    refine x_callVI C dX11_isDigit_12 (xin_19 _ (List.mem_of_getElem? (i := 15) rfl)) xy_X11_byteAt (xi_X11_byteAt) (xs_X11_byteAt) (by omega) (by decide) (b := 0) rfl ⟨_, _, rfl⟩ (av := [.inl p]) rfl (Nat.le_of_ble_eq_true rfl) (c_m_byteAt _ _ _ _ hq1) rfl ?_
    refine x_bipush C dX11_isDigit_15 (by decide) ?_
    refine x_icmp_gt C 24 dX11_isDigit_17 (by decide) h (fun h => ?_) (fun h => ?_)
    · refine x_iconst C dX11_isDigit_24 ?_
      exact x_zreturnP hR (by decide) dX11_isDigit_25 h
    · refine x_iconst C dX11_isDigit_20 ?_
      refine x_goto C 25 dX11_isDigit_21 (by decide) ?_
      exact x_zreturnP hR (by decide) dX11_isDigit_25 h
theorem c_m_isDigit (l : Launch) (p : Int) (m : xM) (r : Int) (h : f_m_isDigit p m = some r) : xMet l yX11_isDigit cX11_isDigit 2 (some .boolean) 2 lay_M [.inr (.inr (some 0)), .inl p] m (some (.inl r)) m :=
  xMet_z (by decide +kernel) (Nat.le_of_ble_eq_true rfl) (fun Γ C hR hl9 => t_m_isDigit (Nat.le_refl _) C p hR h)

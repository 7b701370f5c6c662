/-! ===== yX11_scan ===== -/
theorem fF_X11_286 : xF RX11 286 13 15 .int false := ⟨RX11, TX11, 26, tyX11, rfl, by decide, (xin_19 _ (List.mem_of_getElem? (i := 7) rfl)), rfl, inlX11, tyX11_ok, nmX11, rfl, rfl⟩
theorem fF_X11_289 : xF RX11 289 13 16 .int false := ⟨RX11, TX11, 26, tyX11, rfl, by decide, (xin_19 _ (List.mem_of_getElem? (i := 13) rfl)), rfl, inlX11, tyX11_ok, nmX11, rfl, rfl⟩
theorem xy_X11_isLetter : xY yX11_isLetter cX11_isLetter 2 (some .boolean) 1 := ⟨(xin_19 _ (List.mem_of_getElem? (i := 22) rfl)), (xin_1 _ (List.mem_of_getElem? (i := 5) rfl)), by decide, by decide, by decide +kernel⟩
theorem xi_X11_isLetter : Cond.instanceMethod yX11_isLetter ∈ wsL_law := (xin_19 _ (List.mem_of_getElem? (i := 20) rfl))
theorem xs_X11_isLetter : Cond.selects yX11_isLetter.cls yX11_isLetter yX11_isLetter ∈ wsL_law := (xin_19 _ (List.mem_of_getElem? (i := 21) rfl))
theorem xy_X11_isDigit : xY yX11_isDigit cX11_isDigit 2 (some .boolean) 1 := ⟨(xin_20 _ (List.mem_of_getElem? (i := 2) rfl)), (xin_1 _ (List.mem_of_getElem? (i := 5) rfl)), by decide, by decide, by decide +kernel⟩
theorem xi_X11_isDigit : Cond.instanceMethod yX11_isDigit ∈ wsL_law := (xin_20 _ (List.mem_of_getElem? (i := 0) rfl))
theorem xs_X11_isDigit : Cond.selects yX11_isDigit.cls yX11_isDigit yX11_isDigit ∈ wsL_law := (xin_20 _ (List.mem_of_getElem? (i := 1) rfl))
theorem fF_X11_292 : xF RX11 292 13 17 .int false := ⟨RX11, TX11, 26, tyX11, rfl, by decide, (xin_19 _ (List.mem_of_getElem? (i := 14) rfl)), rfl, inlX11, tyX11_ok, nmX11, rfl, rfl⟩
theorem dX11_scan_0 : decode cX11_scan 0 = .ok (.aload_n 0, 1) := by decide +kernel
theorem dX11_scan_1 : decode cX11_scan 1 = .ok (.aload_n 0, 1) := by decide +kernel
theorem dX11_scan_2 : decode cX11_scan 2 = .ok (.getfield 286, 3) := by decide +kernel
theorem dX11_scan_5 : decode cX11_scan 5 = .ok (.invokevirtual 283, 3) := by decide +kernel
theorem dX11_scan_8 : decode cX11_scan 8 = .ok (.bipush 32, 2) := by decide +kernel
theorem dX11_scan_10 : decode cX11_scan 10 = .ok (.if_icmp .eq 16, 3) := by decide +kernel
theorem dX11_scan_13 : decode cX11_scan 13 = .ok (.aload_n 0, 1) := by decide +kernel
theorem dX11_scan_14 : decode cX11_scan 14 = .ok (.aload_n 0, 1) := by decide +kernel
theorem dX11_scan_15 : decode cX11_scan 15 = .ok (.getfield 286, 3) := by decide +kernel
theorem dX11_scan_18 : decode cX11_scan 18 = .ok (.invokevirtual 283, 3) := by decide +kernel
theorem dX11_scan_21 : decode cX11_scan 21 = .ok (.bipush 10, 2) := by decide +kernel
theorem dX11_scan_23 : decode cX11_scan 23 = .ok (.if_icmp .ne 16, 3) := by decide +kernel
theorem dX11_scan_26 : decode cX11_scan 26 = .ok (.aload_n 0, 1) := by decide +kernel
theorem dX11_scan_27 : decode cX11_scan 27 = .ok (.dup, 1) := by decide +kernel
theorem dX11_scan_28 : decode cX11_scan 28 = .ok (.getfield 286, 3) := by decide +kernel
theorem dX11_scan_31 : decode cX11_scan 31 = .ok (.iconst 1, 1) := by decide +kernel
theorem dX11_scan_32 : decode cX11_scan 32 = .ok (.iadd, 1) := by decide +kernel
theorem dX11_scan_33 : decode cX11_scan 33 = .ok (.putfield 286, 3) := by decide +kernel
theorem dX11_scan_36 : decode cX11_scan 36 = .ok (.goto (-36), 3) := by decide +kernel
theorem dX11_scan_39 : decode cX11_scan 39 = .ok (.aload_n 0, 1) := by decide +kernel
theorem dX11_scan_40 : decode cX11_scan 40 = .ok (.aload_n 0, 1) := by decide +kernel
theorem dX11_scan_41 : decode cX11_scan 41 = .ok (.getfield 286, 3) := by decide +kernel
theorem dX11_scan_44 : decode cX11_scan 44 = .ok (.putfield 289, 3) := by decide +kernel
theorem dX11_scan_47 : decode cX11_scan 47 = .ok (.aload_n 0, 1) := by decide +kernel
theorem dX11_scan_48 : decode cX11_scan 48 = .ok (.getfield 286, 3) := by decide +kernel
theorem dX11_scan_51 : decode cX11_scan 51 = .ok (.aload_n 0, 1) := by decide +kernel
theorem dX11_scan_52 : decode cX11_scan 52 = .ok (.getfield 280, 3) := by decide +kernel
theorem dX11_scan_55 : decode cX11_scan 55 = .ok (.if_icmp .lt 11, 3) := by decide +kernel
theorem dX11_scan_58 : decode cX11_scan 58 = .ok (.aload_n 0, 1) := by decide +kernel
theorem dX11_scan_59 : decode cX11_scan 59 = .ok (.iconst 0, 1) := by decide +kernel
theorem dX11_scan_60 : decode cX11_scan 60 = .ok (.putfield 292, 3) := by decide +kernel
theorem dX11_scan_63 : decode cX11_scan 63 = .ok (.goto 104, 3) := by decide +kernel
theorem dX11_scan_66 : decode cX11_scan 66 = .ok (.aload_n 0, 1) := by decide +kernel
theorem dX11_scan_67 : decode cX11_scan 67 = .ok (.aload_n 0, 1) := by decide +kernel
theorem dX11_scan_68 : decode cX11_scan 68 = .ok (.getfield 286, 3) := by decide +kernel
theorem dX11_scan_71 : decode cX11_scan 71 = .ok (.invokevirtual 295, 3) := by decide +kernel
theorem dX11_scan_74 : decode cX11_scan 74 = .ok (.ifCond .eq 35, 3) := by decide +kernel
theorem dX11_scan_77 : decode cX11_scan 77 = .ok (.aload_n 0, 1) := by decide +kernel
theorem dX11_scan_78 : decode cX11_scan 78 = .ok (.aload_n 0, 1) := by decide +kernel
theorem dX11_scan_79 : decode cX11_scan 79 = .ok (.getfield 286, 3) := by decide +kernel
theorem dX11_scan_82 : decode cX11_scan 82 = .ok (.invokevirtual 295, 3) := by decide +kernel
theorem dX11_scan_85 : decode cX11_scan 85 = .ok (.ifCond .eq 16, 3) := by decide +kernel
theorem dX11_scan_88 : decode cX11_scan 88 = .ok (.aload_n 0, 1) := by decide +kernel
theorem dX11_scan_89 : decode cX11_scan 89 = .ok (.dup, 1) := by decide +kernel
theorem dX11_scan_90 : decode cX11_scan 90 = .ok (.getfield 286, 3) := by decide +kernel
theorem dX11_scan_93 : decode cX11_scan 93 = .ok (.iconst 1, 1) := by decide +kernel
theorem dX11_scan_94 : decode cX11_scan 94 = .ok (.iadd, 1) := by decide +kernel
theorem dX11_scan_95 : decode cX11_scan 95 = .ok (.putfield 286, 3) := by decide +kernel
theorem dX11_scan_98 : decode cX11_scan 98 = .ok (.goto (-21), 3) := by decide +kernel
theorem dX11_scan_101 : decode cX11_scan 101 = .ok (.aload_n 0, 1) := by decide +kernel
theorem dX11_scan_102 : decode cX11_scan 102 = .ok (.iconst 1, 1) := by decide +kernel
theorem dX11_scan_103 : decode cX11_scan 103 = .ok (.putfield 292, 3) := by decide +kernel
theorem dX11_scan_106 : decode cX11_scan 106 = .ok (.goto 61, 3) := by decide +kernel
theorem dX11_scan_109 : decode cX11_scan 109 = .ok (.aload_n 0, 1) := by decide +kernel
theorem dX11_scan_110 : decode cX11_scan 110 = .ok (.aload_n 0, 1) := by decide +kernel
theorem dX11_scan_111 : decode cX11_scan 111 = .ok (.getfield 286, 3) := by decide +kernel
theorem dX11_scan_114 : decode cX11_scan 114 = .ok (.invokevirtual 298, 3) := by decide +kernel
theorem dX11_scan_117 : decode cX11_scan 117 = .ok (.ifCond .eq 35, 3) := by decide +kernel
theorem dX11_scan_120 : decode cX11_scan 120 = .ok (.aload_n 0, 1) := by decide +kernel
theorem dX11_scan_121 : decode cX11_scan 121 = .ok (.aload_n 0, 1) := by decide +kernel
theorem dX11_scan_122 : decode cX11_scan 122 = .ok (.getfield 286, 3) := by decide +kernel
theorem dX11_scan_125 : decode cX11_scan 125 = .ok (.invokevirtual 298, 3) := by decide +kernel
theorem dX11_scan_128 : decode cX11_scan 128 = .ok (.ifCond .eq 16, 3) := by decide +kernel
theorem dX11_scan_131 : decode cX11_scan 131 = .ok (.aload_n 0, 1) := by decide +kernel
theorem dX11_scan_132 : decode cX11_scan 132 = .ok (.dup, 1) := by decide +kernel
theorem dX11_scan_133 : decode cX11_scan 133 = .ok (.getfield 286, 3) := by decide +kernel
theorem dX11_scan_136 : decode cX11_scan 136 = .ok (.iconst 1, 1) := by decide +kernel
theorem dX11_scan_137 : decode cX11_scan 137 = .ok (.iadd, 1) := by decide +kernel
theorem dX11_scan_138 : decode cX11_scan 138 = .ok (.putfield 286, 3) := by decide +kernel
theorem dX11_scan_141 : decode cX11_scan 141 = .ok (.goto (-21), 3) := by decide +kernel
theorem dX11_scan_144 : decode cX11_scan 144 = .ok (.aload_n 0, 1) := by decide +kernel
theorem dX11_scan_145 : decode cX11_scan 145 = .ok (.iconst 2, 1) := by decide +kernel
theorem dX11_scan_146 : decode cX11_scan 146 = .ok (.putfield 292, 3) := by decide +kernel
theorem dX11_scan_149 : decode cX11_scan 149 = .ok (.goto 18, 3) := by decide +kernel
theorem dX11_scan_152 : decode cX11_scan 152 = .ok (.aload_n 0, 1) := by decide +kernel
theorem dX11_scan_153 : decode cX11_scan 153 = .ok (.dup, 1) := by decide +kernel
theorem dX11_scan_154 : decode cX11_scan 154 = .ok (.getfield 286, 3) := by decide +kernel
theorem dX11_scan_157 : decode cX11_scan 157 = .ok (.iconst 1, 1) := by decide +kernel
theorem dX11_scan_158 : decode cX11_scan 158 = .ok (.iadd, 1) := by decide +kernel
theorem dX11_scan_159 : decode cX11_scan 159 = .ok (.putfield 286, 3) := by decide +kernel
theorem dX11_scan_162 : decode cX11_scan 162 = .ok (.aload_n 0, 1) := by decide +kernel
theorem dX11_scan_163 : decode cX11_scan 163 = .ok (.iconst 3, 1) := by decide +kernel
theorem dX11_scan_164 : decode cX11_scan 164 = .ok (.putfield 292, 3) := by decide +kernel
theorem dX11_scan_167 : decode cX11_scan 167 = .ok (.return_, 1) := by decide +kernel
def f_m_scan_26 (k0 : xM → Option (xM)) (m : xM) : Option (xM) :=
     k0 (xu m 0 15 ((m 0 15) + 1))
set_option maxRecDepth 1000000 in
set_option maxHeartbeats 4000000 in
theorem t_m_scan_26 {Γ : xG} {d : Nat} (hd9 : 3 ≤ d) (C : xC Γ lay_M RX11 cX11_scan 1 d) {m9 : xM} (hR : xRv Γ lay_M cX11_scan m9) {k0 : xM → Option (xM)} (hk0 : ∀ (m : xM), k0 m = some m9 → xW Γ lay_M 1 0 [(0, .inr (.inr (some 0)))] [] m) (m : xM) (h : f_m_scan_26 k0 m = some m9) : xW Γ lay_M 1 26 [(0, .inr (.inr (some 0)))] [] m := by
  unfold f_m_scan_26 at h
  refine x_aload_n C dX11_scan_26 rfl ?_
  refine x_dup C dX11_scan_27 rfl ?_
  refine x_getI C dX11_scan_28 fF_X11_286 rfl rfl ?_
  refine x_iconst C dX11_scan_31 ?_
  refine x_iadd C dX11_scan_32 ?_
  refine x_putI C dX11_scan_33 fF_X11_286 rfl rfl ?_
  refine x_goto C 0 dX11_scan_36 (by decide) ?_
  refine x_loc [(0, .inr (.inr (some 0)))] ⟨rfl, trivial⟩ ?_
  exact hk0 _ h
def f_m_scan_144 (m : xM) : Option (xM) :=
     some (xu m 0 17 2)
set_option maxRecDepth 1000000 in
set_option maxHeartbeats 4000000 in
theorem t_m_scan_144 {Γ : xG} {d : Nat} (hd9 : 3 ≤ d) (C : xC Γ lay_M RX11 cX11_scan 1 d) {m9 : xM} (hR : xRv Γ lay_M cX11_scan m9) (m : xM) (h : f_m_scan_144 m = some m9) : xW Γ lay_M 1 144 [(0, .inr (.inr (some 0)))] [] m := by
  unfold f_m_scan_144 at h
  refine x_aload_n C dX11_scan_144 rfl ?_
  refine x_iconst C dX11_scan_145 ?_
  refine x_putI C dX11_scan_146 fF_X11_292 rfl rfl ?_
  refine x_goto C 167 dX11_scan_149 (by decide) ?_
  exact x_returnV hR dX11_scan_167 h
def f_m_scan_120 : Nat → xM → Option (xM)
  | 0, _ => none
  | n + 1, m =>
     (Option.bind (f_m_isDigit (m 0 15) m) fun q4 =>
      (if xw q4 = 0 then f_m_scan_144 m
      else f_m_scan_120 n (xu m 0 15 ((m 0 15) + 1))))
set_option maxRecDepth 1000000 in
set_option maxHeartbeats 4000000 in
theorem t_m_scan_120 {Γ : xG} {d : Nat} (hd9 : 3 ≤ d) (C : xC Γ lay_M RX11 cX11_scan 1 d) {m9 : xM} (hR : xRv Γ lay_M cX11_scan m9) : ∀ (n : Nat) (m : xM), f_m_scan_120 n m = some m9 → xW Γ lay_M 1 120 [(0, .inr (.inr (some 0)))] [] m := by
  intro n
  induction n with
  | zero => intro _ h; cases h
  | succ n ih =>
    intro m h
    rw [f_m_scan_120] at h
    refine x_aload_n C dX11_scan_120 rfl ?_
    refine x_aload_n C dX11_scan_121 rfl ?_
    refine x_getI C dX11_scan_122 fF_X11_286 rfl rfl ?_
    obtain ⟨q4, hq4, h⟩ := x_bind h
    refine x_callVI C dX11_scan_125 (xin_19 _ (List.mem_of_getElem? (i := 23) rfl)) xy_X11_isDigit (xi_X11_isDigit) (xs_X11_isDigit) (by omega) (by decide) (b := 0) rfl ⟨_, _, rfl⟩ (av := [.inl (m 0 15)]) rfl (Nat.le_of_ble_eq_true rfl) (c_m_isDigit _ _ _ _ hq4) rfl ?_
    refine x_if_eq C 144 dX11_scan_128 (by decide) h (fun h => ?_) (fun h => ?_)
    · refine x_loc [(0, .inr (.inr (some 0)))] ⟨rfl, trivial⟩ ?_
      exact t_m_scan_144 hd9 C hR _ h
    · refine x_aload_n C dX11_scan_131 rfl ?_
      refine x_dup C dX11_scan_132 rfl ?_
      refine x_getI C dX11_scan_133 fF_X11_286 rfl rfl ?_
      refine x_iconst C dX11_scan_136 ?_
      refine x_iadd C dX11_scan_137 ?_
      refine x_putI C dX11_scan_138 fF_X11_286 rfl rfl ?_
      refine x_goto C 120 dX11_scan_141 (by decide) ?_
      refine x_loc [(0, .inr (.inr (some 0)))] ⟨rfl, trivial⟩ ?_
      exact ih _ h
def f_m_scan_101 (m : xM) : Option (xM) :=
     some (xu m 0 17 1)
set_option maxRecDepth 1000000 in
set_option maxHeartbeats 4000000 in
theorem t_m_scan_101 {Γ : xG} {d : Nat} (hd9 : 3 ≤ d) (C : xC Γ lay_M RX11 cX11_scan 1 d) {m9 : xM} (hR : xRv Γ lay_M cX11_scan m9) (m : xM) (h : f_m_scan_101 m = some m9) : xW Γ lay_M 1 101 [(0, .inr (.inr (some 0)))] [] m := by
  unfold f_m_scan_101 at h
  refine x_aload_n C dX11_scan_101 rfl ?_
  refine x_iconst C dX11_scan_102 ?_
  refine x_putI C dX11_scan_103 fF_X11_292 rfl rfl ?_
  refine x_goto C 167 dX11_scan_106 (by decide) ?_
  exact x_returnV hR dX11_scan_167 h
def f_m_scan_77 : Nat → xM → Option (xM)
  | 0, _ => none
  | n + 1, m =>
     (Option.bind (f_m_isLetter (m 0 15) m) fun q5 =>
      (if xw q5 = 0 then f_m_scan_101 m
      else f_m_scan_77 n (xu m 0 15 ((m 0 15) + 1))))
set_option maxRecDepth 1000000 in
set_option maxHeartbeats 4000000 in
theorem t_m_scan_77 {Γ : xG} {d : Nat} (hd9 : 3 ≤ d) (C : xC Γ lay_M RX11 cX11_scan 1 d) {m9 : xM} (hR : xRv Γ lay_M cX11_scan m9) : ∀ (n : Nat) (m : xM), f_m_scan_77 n m = some m9 → xW Γ lay_M 1 77 [(0, .inr (.inr (some 0)))] [] m := by
  intro n
  induction n with
  | zero => intro _ h; cases h
  | succ n ih =>
    intro m h
    rw [f_m_scan_77] at h
    refine x_aload_n C dX11_scan_77 rfl ?_
    refine x_aload_n C dX11_scan_78 rfl ?_
    refine x_getI C dX11_scan_79 fF_X11_286 rfl rfl ?_
    obtain ⟨q5, hq5, h⟩ := x_bind h
    refine x_callVI C dX11_scan_82 (xin_19 _ (List.mem_of_getElem? (i := 19) rfl)) xy_X11_isLetter (xi_X11_isLetter) (xs_X11_isLetter) (by omega) (by decide) (b := 0) rfl ⟨_, _, rfl⟩ (av := [.inl (m 0 15)]) rfl (Nat.le_of_ble_eq_true rfl) (c_m_isLetter _ _ _ _ hq5) rfl ?_
    refine x_if_eq C 101 dX11_scan_85 (by decide) h (fun h => ?_) (fun h => ?_)
    · refine x_loc [(0, .inr (.inr (some 0)))] ⟨rfl, trivial⟩ ?_
      exact t_m_scan_101 hd9 C hR _ h
    · refine x_aload_n C dX11_scan_88 rfl ?_
      refine x_dup C dX11_scan_89 rfl ?_
      refine x_getI C dX11_scan_90 fF_X11_286 rfl rfl ?_
      refine x_iconst C dX11_scan_93 ?_
      refine x_iadd C dX11_scan_94 ?_
      refine x_putI C dX11_scan_95 fF_X11_286 rfl rfl ?_
      refine x_goto C 77 dX11_scan_98 (by decide) ?_
      refine x_loc [(0, .inr (.inr (some 0)))] ⟨rfl, trivial⟩ ?_
      exact ih _ h
def f_m_scan_39 (m : xM) : Option (xM) :=
     (if xw (m 0 15) < xw (m 0 14) then (Option.bind (f_m_isLetter (m 0 15) (xu m 0 16 (m 0 15))) fun q2 =>
      (if xw q2 = 0 then (Option.bind (f_m_isDigit (m 0 15) (xu m 0 16 (m 0 15))) fun q3 =>
      (if xw q3 = 0 then some (xu (xu (xu m 0 16 (m 0 15)) 0 15 ((m 0 15) + 1)) 0 17 3)
      else f_m_scan_120 fu (xu m 0 16 (m 0 15))))
      else f_m_scan_77 fu (xu m 0 16 (m 0 15))))
      else some (xu (xu m 0 16 (m 0 15)) 0 17 0))
set_option maxRecDepth 1000000 in
set_option maxHeartbeats 4000000 in
theorem t_m_scan_39 {Γ : xG} {d : Nat} (hd9 : 3 ≤ d) (C : xC Γ lay_M RX11 cX11_scan 1 d) {m9 : xM} (hR : xRv Γ lay_M cX11_scan m9) (m : xM) (h : f_m_scan_39 m = some m9) : xW Γ lay_M 1 39 [(0, .inr (.inr (some 0)))] [] m := by
  unfold f_m_scan_39 at h
  refine x_aload_n C dX11_scan_39 rfl ?_
  refine x_aload_n C dX11_scan_40 rfl ?_
  refine x_getI C dX11_scan_41 fF_X11_286 rfl rfl ?_
  refine x_putI C dX11_scan_44 fF_X11_289 rfl rfl ?_
  refine x_aload_n C dX11_scan_47 rfl ?_
  refine x_getI C dX11_scan_48 fF_X11_286 rfl rfl ?_
  refine x_aload_n C dX11_scan_51 rfl ?_
  refine x_getI C dX11_scan_52 fF_X11_280 rfl rfl ?_
  refine x_icmp_lt C 66 dX11_scan_55 (by decide) h (fun h => ?_) (fun h => ?_)
  · refine x_aload_n C dX11_scan_66 rfl ?_
    refine x_aload_n C dX11_scan_67 rfl ?_
    refine x_getI C dX11_scan_68 fF_X11_286 rfl rfl ?_
    obtain ⟨q2, hq2, h⟩ := x_bind h
    refine x_callVI C dX11_scan_71 (xin_19 _ (List.mem_of_getElem? (i := 19) rfl)) xy_X11_isLetter (xi_X11_isLetter) (xs_X11_isLetter) (by omega) (by decide) (b := 0) rfl ⟨_, _, rfl⟩ (av := [.inl (m 0 15)]) rfl (Nat.le_of_ble_eq_true rfl) (c_m_isLetter _ _ _ _ hq2) rfl ?_
    refine x_if_eq C 109 dX11_scan_74 (by decide) h (fun h => ?_) (fun h => ?_)
    · refine x_aload_n C dX11_scan_109 rfl ?_
      refine x_aload_n C dX11_scan_110 rfl ?_
      refine x_getI C dX11_scan_111 fF_X11_286 rfl rfl ?_
      obtain ⟨q3, hq3, h⟩ := x_bind h
      refine x_callVI C dX11_scan_114 (xin_19 _ (List.mem_of_getElem? (i := 23) rfl)) xy_X11_isDigit (xi_X11_isDigit) (xs_X11_isDigit) (by omega) (by decide) (b := 0) rfl ⟨_, _, rfl⟩ (av := [.inl (m 0 15)]) rfl (Nat.le_of_ble_eq_true rfl) (c_m_isDigit _ _ _ _ hq3) rfl ?_
      refine x_if_eq C 152 dX11_scan_117 (by decide) h (fun h => ?_) (fun h => ?_)
      · refine x_aload_n C dX11_scan_152 rfl ?_
        refine x_dup C dX11_scan_153 rfl ?_
        refine x_getI C dX11_scan_154 fF_X11_286 rfl rfl ?_
        refine x_iconst C dX11_scan_157 ?_
        refine x_iadd C dX11_scan_158 ?_
        refine x_putI C dX11_scan_159 fF_X11_286 rfl rfl ?_
        refine x_aload_n C dX11_scan_162 rfl ?_
        refine x_iconst C dX11_scan_163 ?_
        refine x_putI C dX11_scan_164 fF_X11_292 rfl rfl ?_
        exact x_returnV hR dX11_scan_167 h
      · refine x_loc [(0, .inr (.inr (some 0)))] ⟨rfl, trivial⟩ ?_
        exact t_m_scan_120 hd9 C hR fu _ h
    · refine x_loc [(0, .inr (.inr (some 0)))] ⟨rfl, trivial⟩ ?_
      exact t_m_scan_77 hd9 C hR fu _ h
  · refine x_aload_n C dX11_scan_58 rfl ?_
    refine x_iconst C dX11_scan_59 ?_
    refine x_putI C dX11_scan_60 fF_X11_292 rfl rfl ?_
    refine x_goto C 167 dX11_scan_63 (by decide) ?_
    exact x_returnV hR dX11_scan_167 h
def f_m_scan_0 : Nat → xM → Option (xM)
  | 0, _ => none
  | n + 1, m =>
     (Option.bind (f_m_byteAt (m 0 15) m) fun q0 =>
      (if xw q0 = xw 32 then f_m_scan_26 (f_m_scan_0 n) m
      else (Option.bind (f_m_byteAt (m 0 15) m) fun q1 =>
      (if xw q1 = xw 10 then f_m_scan_26 (f_m_scan_0 n) m
      else f_m_scan_39 m))))
set_option maxRecDepth 1000000 in
set_option maxHeartbeats 4000000 in
theorem t_m_scan_0 {Γ : xG} {d : Nat} (hd9 : 3 ≤ d) (C : xC Γ lay_M RX11 cX11_scan 1 d) {m9 : xM} (hR : xRv Γ lay_M cX11_scan m9) : ∀ (n : Nat) (m : xM), f_m_scan_0 n m = some m9 → xW Γ lay_M 1 0 [(0, .inr (.inr (some 0)))] [] m := by
  intro n
  induction n with
  | zero => intro _ h; cases h
  | succ n ih =>
    intro m h
    rw [f_m_scan_0] at h
    refine x_aload_n C dX11_scan_0 rfl ?_
    refine x_aload_n C dX11_scan_1 rfl ?_
    refine x_getI C dX11_scan_2 fF_X11_286 rfl rfl ?_
    obtain ⟨q0, hq0, h⟩ := x_bind h
    refine x_callVI C dX11_scan_5 (xin_19 _ (List.mem_of_getElem? (i := 15) rfl)) xy_X11_byteAt (xi_X11_byteAt) (xs_X11_byteAt) (by omega) (by decide) (b := 0) rfl ⟨_, _, rfl⟩ (av := [.inl (m 0 15)]) rfl (Nat.le_of_ble_eq_true rfl) (c_m_byteAt _ _ _ _ hq0) rfl ?_
    refine x_bipush C dX11_scan_8 (by decide) ?_
    refine x_icmp_eq C 26 dX11_scan_10 (by decide) h (fun h => ?_) (fun h => ?_)
    · refine x_loc [(0, .inr (.inr (some 0)))] ⟨rfl, trivial⟩ ?_
      exact t_m_scan_26 hd9 C hR ih _ h
    · refine x_aload_n C dX11_scan_13 rfl ?_
      refine x_aload_n C dX11_scan_14 rfl ?_
      refine x_getI C dX11_scan_15 fF_X11_286 rfl rfl ?_
      obtain ⟨q1, hq1, h⟩ := x_bind h
      refine x_callVI C dX11_scan_18 (xin_19 _ (List.mem_of_getElem? (i := 15) rfl)) xy_X11_byteAt (xi_X11_byteAt) (xs_X11_byteAt) (by omega) (by decide) (b := 0) rfl ⟨_, _, rfl⟩ (av := [.inl (m 0 15)]) rfl (Nat.le_of_ble_eq_true rfl) (c_m_byteAt _ _ _ _ hq1) rfl ?_
      refine x_bipush C dX11_scan_21 (by decide) ?_
      refine x_icmp_ne C 39 dX11_scan_23 (by decide) h (fun h => ?_) (fun h => ?_)
      · refine x_loc [(0, .inr (.inr (some 0)))] ⟨rfl, trivial⟩ ?_
        exact t_m_scan_39 hd9 C hR _ h
      · refine x_loc [(0, .inr (.inr (some 0)))] ⟨rfl, trivial⟩ ?_
        exact t_m_scan_26 hd9 C hR ih _ h
def f_m_scan (m : xM) : Option (xM) :=
     f_m_scan_0 fu m
set_option maxRecDepth 1000000 in
set_option maxHeartbeats 4000000 in
theorem t_m_scan {Γ : xG} {d : Nat} (hd9 : 3 ≤ d) (C : xC Γ lay_M RX11 cX11_scan 1 d) {m9 : xM} (hR : xRv Γ lay_M cX11_scan m9) (m : xM) (h : f_m_scan m = some m9) : xW Γ lay_M 1 0 [(0, .inr (.inr (some 0)))] [] m := by
  unfold f_m_scan at h
  refine x_loc [(0, .inr (.inr (some 0)))] ⟨rfl, trivial⟩ ?_
  exact t_m_scan_0 hd9 C hR fu _ h
theorem c_m_scan (l : Launch) (m m9 : xM) (h : f_m_scan m = some m9) : xMet l yX11_scan cX11_scan 1 none 3 lay_M [.inr (.inr (some 0))] m none m9 :=
  xMet_v (by decide +kernel) (Nat.le_of_ble_eq_true rfl) (fun Γ C hR hl9 => t_m_scan (Nat.le_refl _) C hR m h)
/-! ===== yX11_startText ===== -/
theorem fF_X11_301 : xF RX11 301 13 18 .int false := ⟨RX11, TX11, 26, tyX11, rfl, by decide, (xin_18 _ (List.mem_of_getElem? (i := 16) rfl)), rfl, inlX11, tyX11_ok, nmX11, rfl, rfl⟩
theorem fF_X11_304 : xF RX11 304 13 21 .int false := ⟨RX11, TX11, 26, tyX11, rfl, by decide, (xin_19 _ (List.mem_of_getElem? (i := 8) rfl)), rfl, inlX11, tyX11_ok, nmX11, rfl, rfl⟩
theorem xy_X11_scan : xY yX11_scan cX11_scan 1 none 0 := ⟨(xin_19 _ (List.mem_of_getElem? (i := 12) rfl)), (xin_1 _ (List.mem_of_getElem? (i := 5) rfl)), by decide, by decide, by decide +kernel⟩
theorem xi_X11_scan : Cond.instanceMethod yX11_scan ∈ wsL_law := (xin_19 _ (List.mem_of_getElem? (i := 10) rfl))
theorem xs_X11_scan : Cond.selects yX11_scan.cls yX11_scan yX11_scan ∈ wsL_law := (xin_19 _ (List.mem_of_getElem? (i := 11) rfl))
theorem dX11_startText_0 : decode cX11_startText 0 = .ok (.aload_n 0, 1) := by decide +kernel
theorem dX11_startText_1 : decode cX11_startText 1 = .ok (.iload_n 1, 1) := by decide +kernel
theorem dX11_startText_2 : decode cX11_startText 2 = .ok (.putfield 280, 3) := by decide +kernel
theorem dX11_startText_5 : decode cX11_startText 5 = .ok (.aload_n 0, 1) := by decide +kernel
theorem dX11_startText_6 : decode cX11_startText 6 = .ok (.iconst 0, 1) := by decide +kernel
theorem dX11_startText_7 : decode cX11_startText 7 = .ok (.putfield 286, 3) := by decide +kernel
theorem dX11_startText_10 : decode cX11_startText 10 = .ok (.aload_n 0, 1) := by decide +kernel
theorem dX11_startText_11 : decode cX11_startText 11 = .ok (.iconst 0, 1) := by decide +kernel
theorem dX11_startText_12 : decode cX11_startText 12 = .ok (.putfield 301, 3) := by decide +kernel
theorem dX11_startText_15 : decode cX11_startText 15 = .ok (.aload_n 0, 1) := by decide +kernel
theorem dX11_startText_16 : decode cX11_startText 16 = .ok (.iconst 0, 1) := by decide +kernel
theorem dX11_startText_17 : decode cX11_startText 17 = .ok (.putfield 304, 3) := by decide +kernel
theorem dX11_startText_20 : decode cX11_startText 20 = .ok (.aload_n 0, 1) := by decide +kernel
theorem dX11_startText_21 : decode cX11_startText 21 = .ok (.invokevirtual 307, 3) := by decide +kernel
theorem dX11_startText_24 : decode cX11_startText 24 = .ok (.return_, 1) := by decide +kernel
def f_m_startText (z : Int) (m : xM) : Option (xM) :=
     (Option.bind (f_m_scan (xu (xu (xu (xu m 0 14 z) 0 15 0) 0 18 0) 0 21 0)) fun q0 =>
      some q0)
set_option maxRecDepth 1000000 in
set_option maxHeartbeats 4000000 in
theorem t_m_startText {Γ : xG} {d : Nat} (hd9 : 4 ≤ d) (C : xC Γ lay_M RX11 cX11_startText 2 d) (z : Int) {m9 : xM} (hR : xRv Γ lay_M cX11_startText m9) (m : xM) (h : f_m_startText z m = some m9) : xW Γ lay_M 2 0 [(0, .inr (.inr (some 0))), (1, .inl z)] [] m := by
  unfold f_m_startText at h
  refine x_aload_n C dX11_startText_0 rfl ?_
  refine x_iload_n C dX11_startText_1 rfl ?_
  refine x_putI C dX11_startText_2 fF_X11_280 rfl rfl ?_
  refine x_aload_n C dX11_startText_5 rfl ?_
  refine x_iconst C dX11_startText_6 ?_
  refine x_putI C dX11_startText_7 fF_X11_286 rfl rfl ?_
  refine x_aload_n C dX11_startText_10 rfl ?_
  refine x_iconst C dX11_startText_11 ?_
  refine x_putI C dX11_startText_12 fF_X11_301 rfl rfl ?_
  refine x_aload_n C dX11_startText_15 rfl ?_
  refine x_iconst C dX11_startText_16 ?_
  refine x_putI C dX11_startText_17 fF_X11_304 rfl rfl ?_
  refine x_aload_n C dX11_startText_20 rfl ?_
  obtain ⟨q0, hq0, h⟩ := x_bind h
  refine x_callVI C dX11_startText_21 (xin_19 _ (List.mem_of_getElem? (i := 9) rfl)) xy_X11_scan (xi_X11_scan) (xs_X11_scan) (by omega) (by decide) (b := 0) rfl ⟨_, _, rfl⟩ (av := []) rfl (Nat.le_of_ble_eq_true rfl) (c_m_scan _ _ _ hq0) rfl ?_
  exact x_returnV hR dX11_startText_24 h
theorem c_m_startText (l : Launch) (z : Int) (m m9 : xM) (h : f_m_startText z m = some m9) : xMet l yX11_startText cX11_startText 2 none 4 lay_M [.inr (.inr (some 0)), .inl z] m none m9 :=
  xMet_v (by decide +kernel) (Nat.le_of_ble_eq_true rfl) (fun Γ C hR hl9 => t_m_startText (Nat.le_refl _) C z hR m h)
/-! ===== yX11_finish ===== -/
theorem fF_X11_310 : xF RX11 310 13 19 .int false := ⟨RX11, TX11, 26, tyX11, rfl, by decide, (xin_21 _ (List.mem_of_getElem? (i := 1) rfl)), rfl, inlX11, tyX11_ok, nmX11, rfl, rfl⟩
theorem dX11_finish_0 : decode cX11_finish 0 = .ok (.aload_n 0, 1) := by decide +kernel
theorem dX11_finish_1 : decode cX11_finish 1 = .ok (.iconst 0, 1) := by decide +kernel
theorem dX11_finish_2 : decode cX11_finish 2 = .ok (.putfield 209, 3) := by decide +kernel
theorem dX11_finish_5 : decode cX11_finish 5 = .ok (.aload_n 0, 1) := by decide +kernel
theorem dX11_finish_6 : decode cX11_finish 6 = .ok (.aload_n 0, 1) := by decide +kernel
theorem dX11_finish_7 : decode cX11_finish 7 = .ok (.getfield 301, 3) := by decide +kernel
theorem dX11_finish_10 : decode cX11_finish 10 = .ok (.ifCond .ne 7, 3) := by decide +kernel
theorem dX11_finish_13 : decode cX11_finish 13 = .ok (.iconst (-1), 1) := by decide +kernel
theorem dX11_finish_14 : decode cX11_finish 14 = .ok (.goto 7, 3) := by decide +kernel
theorem dX11_finish_17 : decode cX11_finish 17 = .ok (.aload_n 0, 1) := by decide +kernel
theorem dX11_finish_18 : decode cX11_finish 18 = .ok (.getfield 310, 3) := by decide +kernel
theorem dX11_finish_21 : decode cX11_finish 21 = .ok (.putfield 35, 3) := by decide +kernel
theorem dX11_finish_24 : decode cX11_finish 24 = .ok (.aload_n 0, 1) := by decide +kernel
theorem dX11_finish_25 : decode cX11_finish 25 = .ok (.getfield 301, 3) := by decide +kernel
theorem dX11_finish_28 : decode cX11_finish 28 = .ok (.ireturn, 1) := by decide +kernel
def f_m_finish_21 (s0 : Int) (m : xM) : Option (Int × xM) :=
     some ((m 0 18), (xu m 0 20 s0))
set_option maxRecDepth 1000000 in
set_option maxHeartbeats 4000000 in
theorem t_m_finish_21 {Γ : xG} {d : Nat} (hd9 : 1 ≤ d) (C : xC Γ lay_M RX11 cX11_finish 1 d) {r : Int} {m9 : xM} (hR : xRi Γ lay_M cX11_finish r m9) (s0 : Int) (m : xM) (h : f_m_finish_21 s0 m = some (r, m9)) : xW Γ lay_M 1 21 [(0, .inr (.inr (some 0)))] [.inl s0, .inr (.inr (some 0))] m := by
  unfold f_m_finish_21 at h
  refine x_putI C dX11_finish_21 fF_X11_35 rfl rfl ?_
  refine x_aload_n C dX11_finish_24 rfl ?_
  refine x_getI C dX11_finish_25 fF_X11_301 rfl rfl ?_
  exact x_ireturn hR dX11_finish_28 h
def f_m_finish (m : xM) : Option (Int × xM) :=
     (if xw (m 0 18) = 0 then f_m_finish_21 (-1) (xu m 0 13 0)
      else f_m_finish_21 (m 0 19) (xu m 0 13 0))
set_option maxRecDepth 1000000 in
set_option maxHeartbeats 4000000 in
theorem t_m_finish {Γ : xG} {d : Nat} (hd9 : 1 ≤ d) (C : xC Γ lay_M RX11 cX11_finish 1 d) {r : Int} {m9 : xM} (hR : xRi Γ lay_M cX11_finish r m9) (m : xM) (h : f_m_finish m = some (r, m9)) : xW Γ lay_M 1 0 [(0, .inr (.inr (some 0)))] [] m := by
  unfold f_m_finish at h
  refine x_aload_n C dX11_finish_0 rfl ?_
  refine x_iconst C dX11_finish_1 ?_
  refine x_putI C dX11_finish_2 fF_X11_209 rfl rfl ?_
  refine x_aload_n C dX11_finish_5 rfl ?_
  refine x_aload_n C dX11_finish_6 rfl ?_
  refine x_getI C dX11_finish_7 fF_X11_301 rfl rfl ?_
  refine x_if_ne C 17 dX11_finish_10 (by decide) h (fun h => ?_) (fun h => ?_)
  · refine x_aload_n C dX11_finish_17 rfl ?_
    refine x_getI C dX11_finish_18 fF_X11_310 rfl rfl ?_
    refine x_loc [(0, .inr (.inr (some 0)))] ⟨rfl, trivial⟩ ?_
    exact t_m_finish_21 hd9 C hR _ _ h
  · refine x_iconst C dX11_finish_13 ?_
    refine x_goto C 21 dX11_finish_14 (by decide) ?_
    refine x_loc [(0, .inr (.inr (some 0)))] ⟨rfl, trivial⟩ ?_
    exact t_m_finish_21 hd9 C hR _ _ h
theorem c_m_finish (l : Launch) (m : xM) (r : Int) (m9 : xM) (h : f_m_finish m = some (r, m9)) : xMet l yX11_finish cX11_finish 1 (some .int) 1 lay_M [.inr (.inr (some 0))] m (some (.inl r)) m9 :=
  xMet_i (by decide +kernel) (Nat.le_of_ble_eq_true rfl) (fun Γ C hR hl9 => t_m_finish (Nat.le_refl _) C hR m h)
/-! ===== yX11_flaw ===== -/
theorem dX11_flaw_0 : decode cX11_flaw 0 = .ok (.aload_n 0, 1) := by decide +kernel
theorem dX11_flaw_1 : decode cX11_flaw 1 = .ok (.getfield 301, 3) := by decide +kernel
theorem dX11_flaw_4 : decode cX11_flaw 4 = .ok (.ifCond .ne 16, 3) := by decide +kernel
theorem dX11_flaw_7 : decode cX11_flaw 7 = .ok (.aload_n 0, 1) := by decide +kernel
theorem dX11_flaw_8 : decode cX11_flaw 8 = .ok (.iload_n 1, 1) := by decide +kernel
theorem dX11_flaw_9 : decode cX11_flaw 9 = .ok (.putfield 301, 3) := by decide +kernel
theorem dX11_flaw_12 : decode cX11_flaw 12 = .ok (.aload_n 0, 1) := by decide +kernel
theorem dX11_flaw_13 : decode cX11_flaw 13 = .ok (.aload_n 0, 1) := by decide +kernel
theorem dX11_flaw_14 : decode cX11_flaw 14 = .ok (.getfield 289, 3) := by decide +kernel
theorem dX11_flaw_17 : decode cX11_flaw 17 = .ok (.putfield 310, 3) := by decide +kernel
theorem dX11_flaw_20 : decode cX11_flaw 20 = .ok (.return_, 1) := by decide +kernel
def f_m_flaw (z : Int) (m : xM) : Option (xM) :=
     (if xw (m 0 18) = 0 then some (xu (xu m 0 18 z) 0 19 (m 0 16))
      else some m)
set_option maxRecDepth 1000000 in
set_option maxHeartbeats 4000000 in
theorem t_m_flaw {Γ : xG} {d : Nat} (hd9 : 1 ≤ d) (C : xC Γ lay_M RX11 cX11_flaw 2 d) (z : Int) {m9 : xM} (hR : xRv Γ lay_M cX11_flaw m9) (m : xM) (h : f_m_flaw z m = some m9) : xW Γ lay_M 2 0 [(0, .inr (.inr (some 0))), (1, .inl z)] [] m := by
  unfold f_m_flaw at h
  refine x_aload_n C dX11_flaw_0 rfl ?_
  refine x_getI C dX11_flaw_1 fF_X11_301 rfl rfl ?_
  refine x_if_ne C 20 dX11_flaw_4 (by decide) h (fun h => ?_) (fun h => ?_)
  · exact x_returnV hR dX11_flaw_20 h
  · refine x_aload_n C dX11_flaw_7 rfl ?_
    refine x_iload_n C dX11_flaw_8 rfl ?_
    refine x_putI C dX11_flaw_9 fF_X11_301 rfl rfl ?_
    refine x_aload_n C dX11_flaw_12 rfl ?_
    refine x_aload_n C dX11_flaw_13 rfl ?_
    refine x_getI C dX11_flaw_14 fF_X11_289 rfl rfl ?_
    refine x_putI C dX11_flaw_17 fF_X11_310 rfl rfl ?_
    exact x_returnV hR dX11_flaw_20 h
theorem c_m_flaw (l : Launch) (z : Int) (m m9 : xM) (h : f_m_flaw z m = some m9) : xMet l yX11_flaw cX11_flaw 2 none 1 lay_M [.inr (.inr (some 0)), .inl z] m none m9 :=
  xMet_v (by decide +kernel) (Nat.le_of_ble_eq_true rfl) (fun Γ C hR hl9 => t_m_flaw (Nat.le_refl _) C z hR m h)
/-! ===== yX11_check ===== -/
theorem xy_X11_flaw : xY yX11_flaw cX11_flaw 2 none 1 := ⟨(xin_21 _ (List.mem_of_getElem? (i := 0) rfl)), (xin_1 _ (List.mem_of_getElem? (i := 5) rfl)), by decide, by decide, by decide +kernel⟩
theorem xi_X11_flaw : Cond.instanceMethod yX11_flaw ∈ wsL_law := (xin_20 _ (List.mem_of_getElem? (i := 22) rfl))
theorem xs_X11_flaw : Cond.selects yX11_flaw.cls yX11_flaw yX11_flaw ∈ wsL_law := (xin_20 _ (List.mem_of_getElem? (i := 23) rfl))
theorem dX11_check_0 : decode cX11_check 0 = .ok (.iload_n 1, 1) := by decide +kernel
theorem dX11_check_1 : decode cX11_check 1 = .ok (.ifCond .ne 8, 3) := by decide +kernel
theorem dX11_check_4 : decode cX11_check 4 = .ok (.aload_n 0, 1) := by decide +kernel
theorem dX11_check_5 : decode cX11_check 5 = .ok (.iload_n 2, 1) := by decide +kernel
theorem dX11_check_6 : decode cX11_check 6 = .ok (.invokevirtual 313, 3) := by decide +kernel
theorem dX11_check_9 : decode cX11_check 9 = .ok (.return_, 1) := by decide +kernel
def f_m_check (v : Int) (z : Int) (m : xM) : Option (xM) :=
     (if xw v = 0 then (Option.bind (f_m_flaw z m) fun q0 =>
      some q0)
      else some m)
set_option maxRecDepth 1000000 in
set_option maxHeartbeats 4000000 in
theorem t_m_check {Γ : xG} {d : Nat} (hd9 : 2 ≤ d) (C : xC Γ lay_M RX11 cX11_check 3 d) (v : Int) (z : Int) {m9 : xM} (hR : xRv Γ lay_M cX11_check m9) (m : xM) (h : f_m_check v z m = some m9) : xW Γ lay_M 3 0 [(0, .inr (.inr (some 0))), (1, .inl v), (2, .inl z)] [] m := by
  unfold f_m_check at h
  refine x_iload_n C dX11_check_0 rfl ?_
  refine x_if_ne C 9 dX11_check_1 (by decide) h (fun h => ?_) (fun h => ?_)
  · exact x_returnV hR dX11_check_9 h
  · refine x_aload_n C dX11_check_4 rfl ?_
    refine x_iload_n C dX11_check_5 rfl ?_
    obtain ⟨q0, hq0, h⟩ := x_bind h
    refine x_callVI C dX11_check_6 (xin_20 _ (List.mem_of_getElem? (i := 21) rfl)) xy_X11_flaw (xi_X11_flaw) (xs_X11_flaw) (by omega) (by decide) (b := 0) rfl ⟨_, _, rfl⟩ (av := [.inl z]) rfl (Nat.le_of_ble_eq_true rfl) (c_m_flaw _ _ _ _ hq0) rfl ?_
    exact x_returnV hR dX11_check_9 h
theorem c_m_check (l : Launch) (v : Int) (z : Int) (m m9 : xM) (h : f_m_check v z m = some m9) : xMet l yX11_check cX11_check 3 none 2 lay_M [.inr (.inr (some 0)), .inl v, .inl z] m none m9 :=
  xMet_v (by decide +kernel) (Nat.le_of_ble_eq_true rfl) (fun Γ C hR hl9 => t_m_check (Nat.le_refl _) C v z hR m h)
/-! ===== yX11_advance ===== -/
theorem dX11_advance_0 : decode cX11_advance 0 = .ok (.aload_n 0, 1) := by decide +kernel
theorem dX11_advance_1 : decode cX11_advance 1 = .ok (.getfield 301, 3) := by decide +kernel
theorem dX11_advance_4 : decode cX11_advance 4 = .ok (.ifCond .ne 7, 3) := by decide +kernel
theorem dX11_advance_7 : decode cX11_advance 7 = .ok (.aload_n 0, 1) := by decide +kernel
theorem dX11_advance_8 : decode cX11_advance 8 = .ok (.invokevirtual 307, 3) := by decide +kernel
theorem dX11_advance_11 : decode cX11_advance 11 = .ok (.return_, 1) := by decide +kernel
def f_m_advance (m : xM) : Option (xM) :=
     (if xw (m 0 18) = 0 then (Option.bind (f_m_scan m) fun q0 =>
      some q0)
      else some m)
set_option maxRecDepth 1000000 in
set_option maxHeartbeats 4000000 in
theorem t_m_advance {Γ : xG} {d : Nat} (hd9 : 4 ≤ d) (C : xC Γ lay_M RX11 cX11_advance 1 d) {m9 : xM} (hR : xRv Γ lay_M cX11_advance m9) (m : xM) (h : f_m_advance m = some m9) : xW Γ lay_M 1 0 [(0, .inr (.inr (some 0)))] [] m := by
  unfold f_m_advance at h
  refine x_aload_n C dX11_advance_0 rfl ?_
  refine x_getI C dX11_advance_1 fF_X11_301 rfl rfl ?_
  refine x_if_ne C 11 dX11_advance_4 (by decide) h (fun h => ?_) (fun h => ?_)
  · exact x_returnV hR dX11_advance_11 h
  · refine x_aload_n C dX11_advance_7 rfl ?_
    obtain ⟨q0, hq0, h⟩ := x_bind h
    refine x_callVI C dX11_advance_8 (xin_19 _ (List.mem_of_getElem? (i := 9) rfl)) xy_X11_scan (xi_X11_scan) (xs_X11_scan) (by omega) (by decide) (b := 0) rfl ⟨_, _, rfl⟩ (av := []) rfl (Nat.le_of_ble_eq_true rfl) (c_m_scan _ _ _ hq0) rfl ?_
    exact x_returnV hR dX11_advance_11 h
theorem c_m_advance (l : Launch) (m m9 : xM) (h : f_m_advance m = some m9) : xMet l yX11_advance cX11_advance 1 none 4 lay_M [.inr (.inr (some 0))] m none m9 :=
  xMet_v (by decide +kernel) (Nat.le_of_ble_eq_true rfl) (fun Γ C hR hl9 => t_m_advance (Nat.le_refl _) C hR m h)
/-! ===== yX11_isSymbol ===== -/
theorem dX11_isSymbol_0 : decode cX11_isSymbol 0 = .ok (.aload_n 0, 1) := by decide +kernel
theorem dX11_isSymbol_1 : decode cX11_isSymbol 1 = .ok (.getfield 301, 3) := by decide +kernel
theorem dX11_isSymbol_4 : decode cX11_isSymbol 4 = .ok (.ifCond .ne 28, 3) := by decide +kernel
theorem dX11_isSymbol_7 : decode cX11_isSymbol 7 = .ok (.aload_n 0, 1) := by decide +kernel
theorem dX11_isSymbol_8 : decode cX11_isSymbol 8 = .ok (.getfield 292, 3) := by decide +kernel
theorem dX11_isSymbol_11 : decode cX11_isSymbol 11 = .ok (.iconst 3, 1) := by decide +kernel
theorem dX11_isSymbol_12 : decode cX11_isSymbol 12 = .ok (.if_icmp .ne 20, 3) := by decide +kernel
theorem dX11_isSymbol_15 : decode cX11_isSymbol 15 = .ok (.aload_n 0, 1) := by decide +kernel
theorem dX11_isSymbol_16 : decode cX11_isSymbol 16 = .ok (.getfield 32, 3) := by decide +kernel
theorem dX11_isSymbol_19 : decode cX11_isSymbol 19 = .ok (.aload_n 0, 1) := by decide +kernel
theorem dX11_isSymbol_20 : decode cX11_isSymbol 20 = .ok (.getfield 289, 3) := by decide +kernel
theorem dX11_isSymbol_23 : decode cX11_isSymbol 23 = .ok (.iaload, 1) := by decide +kernel
theorem dX11_isSymbol_24 : decode cX11_isSymbol 24 = .ok (.iload_n 1, 1) := by decide +kernel
theorem dX11_isSymbol_25 : decode cX11_isSymbol 25 = .ok (.if_icmp .ne 7, 3) := by decide +kernel
theorem dX11_isSymbol_28 : decode cX11_isSymbol 28 = .ok (.iconst 1, 1) := by decide +kernel
theorem dX11_isSymbol_29 : decode cX11_isSymbol 29 = .ok (.goto 4, 3) := by decide +kernel
theorem dX11_isSymbol_32 : decode cX11_isSymbol 32 = .ok (.iconst 0, 1) := by decide +kernel
theorem dX11_isSymbol_33 : decode cX11_isSymbol 33 = .ok (.ireturn, 1) := by decide +kernel
def f_m_isSymbol (z : Int) (m : xM) : Option (Int) :=
     (if xw (m 0 18) = 0 then (if xw (m 0 17) = xw 3 then (if xib (m 0 16) 600 then (if xw (m 8 (xix (m 0 16))) = xw z then some 1
      else some 0)
      else none)
      else some 0)
      else some 0)
set_option maxRecDepth 1000000 in
set_option maxHeartbeats 4000000 in
theorem t_m_isSymbol {Γ : xG} {d : Nat} (hd9 : 1 ≤ d) (C : xC Γ lay_M RX11 cX11_isSymbol 2 d) (z : Int) {r : Int} {m : xM} (hR : xRz Γ lay_M cX11_isSymbol r m) (h : f_m_isSymbol z m = some r) : xW Γ lay_M 2 0 [(0, .inr (.inr (some 0))), (1, .inl z)] [] m := by
  unfold f_m_isSymbol at h
  refine x_aload_n C dX11_isSymbol_0 rfl ?_
  refine x_getI C dX11_isSymbol_1 fF_X11_301 rfl rfl ?_
  refine x_if_ne C 32 dX11_isSymbol_4 (by decide) h (fun h => ?_) (fun h => ?_)
  · refine x_iconst C dX11_isSymbol_32 ?_
    exact x_zreturnP hR (by decide) dX11_isSymbol_33 h
  · refine x_aload_n C dX11_isSymbol_7 rfl ?_
    refine x_getI C dX11_isSymbol_8 fF_X11_292 rfl rfl ?_
    refine x_iconst C dX11_isSymbol_11 ?_
    refine x_icmp_ne C 32 dX11_isSymbol_12 (by decide) h (fun h => ?_) (fun h => ?_)
    · refine x_iconst C dX11_isSymbol_32 ?_
      exact x_zreturnP hR (by decide) dX11_isSymbol_33 h
    · refine x_aload_n C dX11_isSymbol_15 rfl ?_
      refine x_getR C dX11_isSymbol_16 fF_X11_32 rfl rfl ?_
      refine x_aload_n C dX11_isSymbol_19 rfl ?_
      refine x_getI C dX11_isSymbol_20 fF_X11_289 rfl rfl ?_
      refine x_iaload C dX11_isSymbol_23 rfl h (fun h => ?_)
      refine x_iload_n C dX11_isSymbol_24 rfl ?_
      refine x_icmp_ne C 32 dX11_isSymbol_25 (by decide) h (fun h => ?_) (fun h => ?_)
      · refine x_iconst C dX11_isSymbol_32 ?_
        exact x_zreturnP hR (by decide) dX11_isSymbol_33 h
      · refine x_iconst C dX11_isSymbol_28 ?_
        refine x_goto C 33 dX11_isSymbol_29 (by decide) ?_
        exact x_zreturnP hR (by decide) dX11_isSymbol_33 h
theorem c_m_isSymbol (l : Launch) (z : Int) (m : xM) (r : Int) (h : f_m_isSymbol z m = some r) : xMet l yX11_isSymbol cX11_isSymbol 2 (some .boolean) 1 lay_M [.inr (.inr (some 0)), .inl z] m (some (.inl r)) m :=
  xMet_z (by decide +kernel) (Nat.le_of_ble_eq_true rfl) (fun Γ C hR hl9 => t_m_isSymbol (Nat.le_refl _) C z hR h)
/-! ===== yX11_isWord ===== -/
theorem dX11_isWord_0 : decode cX11_isWord 0 = .ok (.aload_n 0, 1) := by decide +kernel
theorem dX11_isWord_1 : decode cX11_isWord 1 = .ok (.getfield 301, 3) := by decide +kernel
theorem dX11_isWord_4 : decode cX11_isWord 4 = .ok (.ifCond .ne 31, 3) := by decide +kernel
theorem dX11_isWord_7 : decode cX11_isWord 7 = .ok (.aload_n 0, 1) := by decide +kernel
theorem dX11_isWord_8 : decode cX11_isWord 8 = .ok (.getfield 292, 3) := by decide +kernel
theorem dX11_isWord_11 : decode cX11_isWord 11 = .ok (.iconst 1, 1) := by decide +kernel
theorem dX11_isWord_12 : decode cX11_isWord 12 = .ok (.if_icmp .ne 23, 3) := by decide +kernel
theorem dX11_isWord_15 : decode cX11_isWord 15 = .ok (.aload_n 1, 1) := by decide +kernel
theorem dX11_isWord_16 : decode cX11_isWord 16 = .ok (.invokevirtual 248, 3) := by decide +kernel
theorem dX11_isWord_19 : decode cX11_isWord 19 = .ok (.aload_n 0, 1) := by decide +kernel
theorem dX11_isWord_20 : decode cX11_isWord 20 = .ok (.getfield 286, 3) := by decide +kernel
theorem dX11_isWord_23 : decode cX11_isWord 23 = .ok (.aload_n 0, 1) := by decide +kernel
theorem dX11_isWord_24 : decode cX11_isWord 24 = .ok (.getfield 289, 3) := by decide +kernel
theorem dX11_isWord_27 : decode cX11_isWord 27 = .ok (.isub, 1) := by decide +kernel
theorem dX11_isWord_28 : decode cX11_isWord 28 = .ok (.if_icmp .ne 7, 3) := by decide +kernel
theorem dX11_isWord_31 : decode cX11_isWord 31 = .ok (.iconst 1, 1) := by decide +kernel
theorem dX11_isWord_32 : decode cX11_isWord 32 = .ok (.goto 4, 3) := by decide +kernel
theorem dX11_isWord_35 : decode cX11_isWord 35 = .ok (.iconst 0, 1) := by decide +kernel
theorem dX11_isWord_36 : decode cX11_isWord 36 = .ok (.istore_n 2, 1) := by decide +kernel
theorem dX11_isWord_37 : decode cX11_isWord 37 = .ok (.iconst 0, 1) := by decide +kernel
theorem dX11_isWord_38 : decode cX11_isWord 38 = .ok (.istore_n 3, 1) := by decide +kernel
theorem dX11_isWord_39 : decode cX11_isWord 39 = .ok (.iload_n 2, 1) := by decide +kernel
theorem dX11_isWord_40 : decode cX11_isWord 40 = .ok (.ifCond .eq 42, 3) := by decide +kernel
theorem dX11_isWord_43 : decode cX11_isWord 43 = .ok (.iload_n 3, 1) := by decide +kernel
theorem dX11_isWord_44 : decode cX11_isWord 44 = .ok (.aload_n 1, 1) := by decide +kernel
theorem dX11_isWord_45 : decode cX11_isWord 45 = .ok (.invokevirtual 248, 3) := by decide +kernel
theorem dX11_isWord_48 : decode cX11_isWord 48 = .ok (.if_icmp .ge 34, 3) := by decide +kernel
theorem dX11_isWord_51 : decode cX11_isWord 51 = .ok (.aload_n 1, 1) := by decide +kernel
theorem dX11_isWord_52 : decode cX11_isWord 52 = .ok (.iload_n 3, 1) := by decide +kernel
theorem dX11_isWord_53 : decode cX11_isWord 53 = .ok (.invokevirtual 251, 3) := by decide +kernel
theorem dX11_isWord_56 : decode cX11_isWord 56 = .ok (.aload_n 0, 1) := by decide +kernel
theorem dX11_isWord_57 : decode cX11_isWord 57 = .ok (.getfield 32, 3) := by decide +kernel
theorem dX11_isWord_60 : decode cX11_isWord 60 = .ok (.aload_n 0, 1) := by decide +kernel
theorem dX11_isWord_61 : decode cX11_isWord 61 = .ok (.getfield 289, 3) := by decide +kernel
theorem dX11_isWord_64 : decode cX11_isWord 64 = .ok (.iload_n 3, 1) := by decide +kernel
theorem dX11_isWord_65 : decode cX11_isWord 65 = .ok (.iadd, 1) := by decide +kernel
theorem dX11_isWord_66 : decode cX11_isWord 66 = .ok (.iaload, 1) := by decide +kernel
theorem dX11_isWord_67 : decode cX11_isWord 67 = .ok (.if_icmp .ne 7, 3) := by decide +kernel
theorem dX11_isWord_70 : decode cX11_isWord 70 = .ok (.iconst 1, 1) := by decide +kernel
theorem dX11_isWord_71 : decode cX11_isWord 71 = .ok (.goto 4, 3) := by decide +kernel
theorem dX11_isWord_74 : decode cX11_isWord 74 = .ok (.iconst 0, 1) := by decide +kernel
theorem dX11_isWord_75 : decode cX11_isWord 75 = .ok (.istore_n 2, 1) := by decide +kernel
theorem dX11_isWord_76 : decode cX11_isWord 76 = .ok (.iinc 3 1, 3) := by decide +kernel
theorem dX11_isWord_79 : decode cX11_isWord 79 = .ok (.goto (-40), 3) := by decide +kernel
theorem dX11_isWord_82 : decode cX11_isWord 82 = .ok (.iload_n 2, 1) := by decide +kernel
theorem dX11_isWord_83 : decode cX11_isWord 83 = .ok (.ireturn, 1) := by decide +kernel
def f_m_isWord_75 (w : Nat) (m : xM) (k39 : Int → Int → Option (Int)) (x3 : Int) (s0 : Int) : Option (Int) :=
     k39 s0 (x3 + 1)
set_option maxRecDepth 1000000 in
set_option maxHeartbeats 4000000 in
theorem t_m_isWord_75 {Γ : xG} {d : Nat} (hd9 : 4 ≤ d) (C : xC Γ lay_M RX11 cX11_isWord 4 d) (w : Nat) (hi_w : w < 26) {r : Int} {m : xM} (hR : xRz Γ lay_M cX11_isWord r m) {k39 : Int → Int → Option (Int)} (hk39 : ∀ (x2 : Int) (x3 : Int), k39 x2 x3 = some r → xW Γ lay_M 4 39 [(0, .inr (.inr (some 0))), (1, .inr (.inr (some (1000 + w)))), (2, .inl x2), (3, .inl x3)] [] m) (x3 : Int) (s0 : Int) (h : f_m_isWord_75 w m k39 x3 s0 = some r) : xW Γ lay_M 4 75 [(0, .inr (.inr (some 0))), (1, .inr (.inr (some (1000 + w)))), (3, .inl x3)] [.inl s0] m := by
  unfold f_m_isWord_75 at h
  refine x_istore_n C dX11_isWord_75 (by decide) ?_
  refine x_iinc C dX11_isWord_76 (by decide) rfl ?_
  refine x_goto C 39 dX11_isWord_79 (by decide) ?_
  refine x_loc [(0, .inr (.inr (some 0))), (1, .inr (.inr (some (1000 + w)))), (2, .inl s0), (3, .inl (x3 + 1))] ⟨rfl, rfl, rfl, rfl, trivial⟩ ?_
  exact hk39 _ _ h
def f_m_isWord_39 (w : Nat) (m : xM) : Nat → Int → Int → Option (Int)
  | 0, _, _ => none
  | n + 1, x2, x3 =>
     (if xw x2 = 0 then (if xbz x2 then some x2
      else none)
      else (if xw x3 < xw (xsl w) then (if xib x3 (xSby.getD w []).length then (if xib ((m 0 16) + x3) 600 then (if xw (xsc w (xix x3)) = xw (m 8 (xix ((m 0 16) + x3))) then f_m_isWord_75 w m (f_m_isWord_39 w m n) x3 1
      else f_m_isWord_75 w m (f_m_isWord_39 w m n) x3 0)
      else none)
      else none)
      else (if xbz x2 then some x2
      else none)))
set_option maxRecDepth 1000000 in
set_option maxHeartbeats 4000000 in
theorem t_m_isWord_39 {Γ : xG} {d : Nat} (hd9 : 4 ≤ d) (C : xC Γ lay_M RX11 cX11_isWord 4 d) (w : Nat) (hi_w : w < 26) {r : Int} {m : xM} (hR : xRz Γ lay_M cX11_isWord r m) : ∀ (n : Nat) (x2 : Int) (x3 : Int), f_m_isWord_39 w m n x2 x3 = some r → xW Γ lay_M 4 39 [(0, .inr (.inr (some 0))), (1, .inr (.inr (some (1000 + w)))), (2, .inl x2), (3, .inl x3)] [] m := by
  intro n
  induction n with
  | zero => intro _ _ h; cases h
  | succ n ih =>
    intro x2 x3 h
    rw [f_m_isWord_39] at h
    refine x_iload_n C dX11_isWord_39 rfl ?_
    refine x_if_eq C 82 dX11_isWord_40 (by decide) h (fun h => ?_) (fun h => ?_)
    · refine x_iload_n C dX11_isWord_82 rfl ?_
      obtain ⟨hz9, h⟩ := x_some1 h
      exact x_zreturnP hR hz9 dX11_isWord_83 h
    · refine x_iload_n C dX11_isWord_43 rfl ?_
      refine x_aload_n C dX11_isWord_44 rfl ?_
      refine x_slen C w hi_w dX11_isWord_45 (xin_20 _ (List.mem_of_getElem? (i := 15) rfl)) (by omega) (Nat.le_of_ble_eq_true rfl) ?_
      refine x_icmp_ge C 82 dX11_isWord_48 (by decide) h (fun h => ?_) (fun h => ?_)
      · refine x_iload_n C dX11_isWord_82 rfl ?_
        obtain ⟨hz9, h⟩ := x_some1 h
        exact x_zreturnP hR hz9 dX11_isWord_83 h
      · refine x_aload_n C dX11_isWord_51 rfl ?_
        refine x_iload_n C dX11_isWord_52 rfl ?_
        refine x_schar C w hi_w dX11_isWord_53 (xin_20 _ (List.mem_of_getElem? (i := 16) rfl)) (by omega) (Nat.le_of_ble_eq_true rfl) h (fun h => ?_)
        refine x_aload_n C dX11_isWord_56 rfl ?_
        refine x_getR C dX11_isWord_57 fF_X11_32 rfl rfl ?_
        refine x_aload_n C dX11_isWord_60 rfl ?_
        refine x_getI C dX11_isWord_61 fF_X11_289 rfl rfl ?_
        refine x_iload_n C dX11_isWord_64 rfl ?_
        refine x_iadd C dX11_isWord_65 ?_
        refine x_iaload C dX11_isWord_66 rfl h (fun h => ?_)
        refine x_icmp_ne C 74 dX11_isWord_67 (by decide) h (fun h => ?_) (fun h => ?_)
        · refine x_iconst C dX11_isWord_74 ?_
          refine x_loc [(0, .inr (.inr (some 0))), (1, .inr (.inr (some (1000 + w)))), (3, .inl x3)] ⟨rfl, rfl, rfl, trivial⟩ ?_
          exact t_m_isWord_75 hd9 C _ hi_w hR ih _ _ h
        · refine x_iconst C dX11_isWord_70 ?_
          refine x_goto C 75 dX11_isWord_71 (by decide) ?_
          refine x_loc [(0, .inr (.inr (some 0))), (1, .inr (.inr (some (1000 + w)))), (3, .inl x3)] ⟨rfl, rfl, rfl, trivial⟩ ?_
          exact t_m_isWord_75 hd9 C _ hi_w hR ih _ _ h
def f_m_isWord_36 (w : Nat) (m : xM) (s0 : Int) : Option (Int) :=
     f_m_isWord_39 w m fu s0 0
set_option maxRecDepth 1000000 in
set_option maxHeartbeats 4000000 in
theorem t_m_isWord_36 {Γ : xG} {d : Nat} (hd9 : 4 ≤ d) (C : xC Γ lay_M RX11 cX11_isWord 4 d) (w : Nat) (hi_w : w < 26) {r : Int} {m : xM} (hR : xRz Γ lay_M cX11_isWord r m) (s0 : Int) (h : f_m_isWord_36 w m s0 = some r) : xW Γ lay_M 4 36 [(0, .inr (.inr (some 0))), (1, .inr (.inr (some (1000 + w))))] [.inl s0] m := by
  unfold f_m_isWord_36 at h
  refine x_istore_n C dX11_isWord_36 (by decide) ?_
  refine x_iconst C dX11_isWord_37 ?_
  refine x_istore_n C dX11_isWord_38 (by decide) ?_
  refine x_loc [(0, .inr (.inr (some 0))), (1, .inr (.inr (some (1000 + w)))), (2, .inl s0), (3, .inl 0)] ⟨rfl, rfl, rfl, rfl, trivial⟩ ?_
  exact t_m_isWord_39 hd9 C _ hi_w hR fu _ _ h
def f_m_isWord_35 (w : Nat) (m : xM) : Option (Int) :=
     f_m_isWord_36 w m 0
set_option maxRecDepth 1000000 in
set_option maxHeartbeats 4000000 in
theorem t_m_isWord_35 {Γ : xG} {d : Nat} (hd9 : 4 ≤ d) (C : xC Γ lay_M RX11 cX11_isWord 4 d) (w : Nat) (hi_w : w < 26) {r : Int} {m : xM} (hR : xRz Γ lay_M cX11_isWord r m) (h : f_m_isWord_35 w m = some r) : xW Γ lay_M 4 35 [(0, .inr (.inr (some 0))), (1, .inr (.inr (some (1000 + w))))] [] m := by
  unfold f_m_isWord_35 at h
  refine x_iconst C dX11_isWord_35 ?_
  refine x_loc [(0, .inr (.inr (some 0))), (1, .inr (.inr (some (1000 + w))))] ⟨rfl, rfl, trivial⟩ ?_
  exact t_m_isWord_36 hd9 C _ hi_w hR _ h
def f_m_isWord (w : Nat) (m : xM) : Option (Int) :=
     (if xw (m 0 18) = 0 then (if xw (m 0 17) = xw 1 then (if xw (xsl w) = xw ((m 0 15) - (m 0 16)) then f_m_isWord_36 w m 1
      else f_m_isWord_35 w m)
      else f_m_isWord_35 w m)
      else f_m_isWord_35 w m)
set_option maxRecDepth 1000000 in
set_option maxHeartbeats 4000000 in
theorem t_m_isWord {Γ : xG} {d : Nat} (hd9 : 4 ≤ d) (C : xC Γ lay_M RX11 cX11_isWord 4 d) (w : Nat) (hi_w : w < 26) {r : Int} {m : xM} (hR : xRz Γ lay_M cX11_isWord r m) (h : f_m_isWord w m = some r) : xW Γ lay_M 4 0 [(0, .inr (.inr (some 0))), (1, .inr (.inr (some (1000 + w))))] [] m := by
  unfold f_m_isWord at h
  refine x_aload_n C dX11_isWord_0 rfl ?_
  refine x_getI C dX11_isWord_1 fF_X11_301 rfl rfl ?_
  refine x_if_ne C 35 dX11_isWord_4 (by decide) h (fun h => ?_) (fun h => ?_)
  · refine x_loc [(0, .inr (.inr (some 0))), (1, .inr (.inr (some (1000 + w))))] ⟨rfl, rfl, trivial⟩ ?_
    exact t_m_isWord_35 hd9 C _ hi_w hR h
  · refine x_aload_n C dX11_isWord_7 rfl ?_
    refine x_getI C dX11_isWord_8 fF_X11_292 rfl rfl ?_
    refine x_iconst C dX11_isWord_11 ?_
    refine x_icmp_ne C 35 dX11_isWord_12 (by decide) h (fun h => ?_) (fun h => ?_)
    · refine x_loc [(0, .inr (.inr (some 0))), (1, .inr (.inr (some (1000 + w))))] ⟨rfl, rfl, trivial⟩ ?_
      exact t_m_isWord_35 hd9 C _ hi_w hR h
    · refine x_aload_n C dX11_isWord_15 rfl ?_
      refine x_slen C w hi_w dX11_isWord_16 (xin_20 _ (List.mem_of_getElem? (i := 15) rfl)) (by omega) (Nat.le_of_ble_eq_true rfl) ?_
      refine x_aload_n C dX11_isWord_19 rfl ?_
      refine x_getI C dX11_isWord_20 fF_X11_286 rfl rfl ?_
      refine x_aload_n C dX11_isWord_23 rfl ?_
      refine x_getI C dX11_isWord_24 fF_X11_289 rfl rfl ?_
      refine x_isub C dX11_isWord_27 ?_
      refine x_icmp_ne C 35 dX11_isWord_28 (by decide) h (fun h => ?_) (fun h => ?_)
      · refine x_loc [(0, .inr (.inr (some 0))), (1, .inr (.inr (some (1000 + w))))] ⟨rfl, rfl, trivial⟩ ?_
        exact t_m_isWord_35 hd9 C _ hi_w hR h
      · refine x_iconst C dX11_isWord_31 ?_
        refine x_goto C 36 dX11_isWord_32 (by decide) ?_
        refine x_loc [(0, .inr (.inr (some 0))), (1, .inr (.inr (some (1000 + w))))] ⟨rfl, rfl, trivial⟩ ?_
        exact t_m_isWord_36 hd9 C _ hi_w hR _ h
theorem c_m_isWord (l : Launch) (w : Nat) (hi_w : w < 26) (m : xM) (r : Int) (h : f_m_isWord w m = some r) : xMet l yX11_isWord cX11_isWord 4 (some .boolean) 4 lay_M [.inr (.inr (some 0)), .inr (.inr (some (1000 + w)))] m (some (.inl r)) m :=
  xMet_z (by decide +kernel) (Nat.le_of_ble_eq_true rfl) (fun Γ C hR hl9 => t_m_isWord (Nat.le_refl _) C w hi_w hR h)
/-! ===== yX11_accept ===== -/
theorem xy_X11_isWord : xY yX11_isWord cX11_isWord 4 (some .boolean) 1 := ⟨(xin_20 _ (List.mem_of_getElem? (i := 14) rfl)), (xin_1 _ (List.mem_of_getElem? (i := 5) rfl)), by decide, by decide, by decide +kernel⟩
theorem xi_X11_isWord : Cond.instanceMethod yX11_isWord ∈ wsL_law := (xin_20 _ (List.mem_of_getElem? (i := 12) rfl))
theorem xs_X11_isWord : Cond.selects yX11_isWord.cls yX11_isWord yX11_isWord ∈ wsL_law := (xin_20 _ (List.mem_of_getElem? (i := 13) rfl))
theorem dX11_accept_0 : decode cX11_accept 0 = .ok (.aload_n 0, 1) := by decide +kernel
theorem dX11_accept_1 : decode cX11_accept 1 = .ok (.aload_n 1, 1) := by decide +kernel
theorem dX11_accept_2 : decode cX11_accept 2 = .ok (.invokevirtual 316, 3) := by decide +kernel
theorem dX11_accept_5 : decode cX11_accept 5 = .ok (.istore_n 2, 1) := by decide +kernel
theorem dX11_accept_6 : decode cX11_accept 6 = .ok (.iload_n 2, 1) := by decide +kernel
theorem dX11_accept_7 : decode cX11_accept 7 = .ok (.ifCond .eq 7, 3) := by decide +kernel
theorem dX11_accept_10 : decode cX11_accept 10 = .ok (.aload_n 0, 1) := by decide +kernel
theorem dX11_accept_11 : decode cX11_accept 11 = .ok (.invokevirtual 307, 3) := by decide +kernel
theorem dX11_accept_14 : decode cX11_accept 14 = .ok (.iload_n 2, 1) := by decide +kernel
theorem dX11_accept_15 : decode cX11_accept 15 = .ok (.ireturn, 1) := by decide +kernel
def f_m_accept (w : Nat) (m : xM) : Option (Int × xM) :=
     (Option.bind (f_m_isWord w m) fun q0 =>
      (if xw q0 = 0 then (if xbz q0 then some (q0, m)
      else none)
      else (Option.bind (f_m_scan m) fun q1 =>
      (if xbz q0 then some (q0, q1)
      else none))))
set_option maxRecDepth 1000000 in
set_option maxHeartbeats 4000000 in
theorem t_m_accept {Γ : xG} {d : Nat} (hd9 : 5 ≤ d) (C : xC Γ lay_M RX11 cX11_accept 3 d) (w : Nat) (hi_w : w < 26) {r : Int} {m9 : xM} (hR : xRz Γ lay_M cX11_accept r m9) (m : xM) (h : f_m_accept w m = some (r, m9)) : xW Γ lay_M 3 0 [(0, .inr (.inr (some 0))), (1, .inr (.inr (some (1000 + w))))] [] m := by
  unfold f_m_accept at h
  refine x_aload_n C dX11_accept_0 rfl ?_
  refine x_aload_n C dX11_accept_1 rfl ?_
  obtain ⟨q0, hq0, h⟩ := x_bind h
  refine x_callVI C dX11_accept_2 (xin_20 _ (List.mem_of_getElem? (i := 11) rfl)) xy_X11_isWord (xi_X11_isWord) (xs_X11_isWord) (by omega) (by decide) (b := 0) rfl ⟨_, _, rfl⟩ (av := [.inr (.inr (some (1000 + w)))]) rfl (Nat.le_of_ble_eq_true rfl) (c_m_isWord _ w hi_w _ _ hq0) rfl ?_
  refine x_istore_n C dX11_accept_5 (by decide) ?_
  refine x_iload_n C dX11_accept_6 rfl ?_
  refine x_if_eq C 14 dX11_accept_7 (by decide) h (fun h => ?_) (fun h => ?_)
  · refine x_iload_n C dX11_accept_14 rfl ?_
    obtain ⟨hz9, h⟩ := x_some1 h
    exact x_zreturn hR hz9 dX11_accept_15 h
  · refine x_aload_n C dX11_accept_10 rfl ?_
    obtain ⟨q1, hq1, h⟩ := x_bind h
    refine x_callVI C dX11_accept_11 (xin_19 _ (List.mem_of_getElem? (i := 9) rfl)) xy_X11_scan (xi_X11_scan) (xs_X11_scan) (by omega) (by decide) (b := 0) rfl ⟨_, _, rfl⟩ (av := []) rfl (Nat.le_of_ble_eq_true rfl) (c_m_scan _ _ _ hq1) rfl ?_
    refine x_iload_n C dX11_accept_14 rfl ?_
    obtain ⟨hz9, h⟩ := x_some1 h
    exact x_zreturn hR hz9 dX11_accept_15 h
theorem c_m_accept (l : Launch) (w : Nat) (hi_w : w < 26) (m : xM) (r : Int) (m9 : xM) (h : f_m_accept w m = some (r, m9)) : xMet l yX11_accept cX11_accept 3 (some .boolean) 5 lay_M [.inr (.inr (some 0)), .inr (.inr (some (1000 + w)))] m (some (.inl r)) m9 :=
  xMet_z (by decide +kernel) (Nat.le_of_ble_eq_true rfl) (fun Γ C hR hl9 => t_m_accept (Nat.le_refl _) C w hi_w hR m h)
/-! ===== yX11_expectWord ===== -/
theorem xy_X11_check : xY yX11_check cX11_check 3 none 2 := ⟨(xin_20 _ (List.mem_of_getElem? (i := 20) rfl)), (xin_1 _ (List.mem_of_getElem? (i := 5) rfl)), by decide, by decide, by decide +kernel⟩
theorem xi_X11_check : Cond.instanceMethod yX11_check ∈ wsL_law := (xin_20 _ (List.mem_of_getElem? (i := 18) rfl))
theorem xs_X11_check : Cond.selects yX11_check.cls yX11_check yX11_check ∈ wsL_law := (xin_20 _ (List.mem_of_getElem? (i := 19) rfl))
theorem xy_X11_advance : xY yX11_advance cX11_advance 1 none 0 := ⟨(xin_21 _ (List.mem_of_getElem? (i := 5) rfl)), (xin_1 _ (List.mem_of_getElem? (i := 5) rfl)), by decide, by decide, by decide +kernel⟩
theorem xi_X11_advance : Cond.instanceMethod yX11_advance ∈ wsL_law := (xin_21 _ (List.mem_of_getElem? (i := 3) rfl))
theorem xs_X11_advance : Cond.selects yX11_advance.cls yX11_advance yX11_advance ∈ wsL_law := (xin_21 _ (List.mem_of_getElem? (i := 4) rfl))
theorem dX11_expectWord_0 : decode cX11_expectWord 0 = .ok (.aload_n 0, 1) := by decide +kernel
theorem dX11_expectWord_1 : decode cX11_expectWord 1 = .ok (.aload_n 0, 1) := by decide +kernel
theorem dX11_expectWord_2 : decode cX11_expectWord 2 = .ok (.aload_n 1, 1) := by decide +kernel
theorem dX11_expectWord_3 : decode cX11_expectWord 3 = .ok (.invokevirtual 316, 3) := by decide +kernel
theorem dX11_expectWord_6 : decode cX11_expectWord 6 = .ok (.iconst 1, 1) := by decide +kernel
theorem dX11_expectWord_7 : decode cX11_expectWord 7 = .ok (.invokevirtual 320, 3) := by decide +kernel
theorem dX11_expectWord_10 : decode cX11_expectWord 10 = .ok (.aload_n 0, 1) := by decide +kernel
theorem dX11_expectWord_11 : decode cX11_expectWord 11 = .ok (.invokevirtual 324, 3) := by decide +kernel
theorem dX11_expectWord_14 : decode cX11_expectWord 14 = .ok (.return_, 1) := by decide +kernel
def f_m_expectWord (w : Nat) (m : xM) : Option (xM) :=
     (Option.bind (f_m_isWord w m) fun q0 =>
      (Option.bind (f_m_check q0 1 m) fun q1 =>
      (Option.bind (f_m_advance q1) fun q2 =>
      some q2)))
set_option maxRecDepth 1000000 in
set_option maxHeartbeats 4000000 in
theorem t_m_expectWord {Γ : xG} {d : Nat} (hd9 : 5 ≤ d) (C : xC Γ lay_M RX11 cX11_expectWord 2 d) (w : Nat) (hi_w : w < 26) {m9 : xM} (hR : xRv Γ lay_M cX11_expectWord m9) (m : xM) (h : f_m_expectWord w m = some m9) : xW Γ lay_M 2 0 [(0, .inr (.inr (some 0))), (1, .inr (.inr (some (1000 + w))))] [] m := by
  unfold f_m_expectWord at h
  refine x_aload_n C dX11_expectWord_0 rfl ?_
  refine x_aload_n C dX11_expectWord_1 rfl ?_
  refine x_aload_n C dX11_expectWord_2 rfl ?_
  obtain ⟨q0, hq0, h⟩ := x_bind h
  refine x_callVI C dX11_expectWord_3 (xin_20 _ (List.mem_of_getElem? (i := 11) rfl)) xy_X11_isWord (xi_X11_isWord) (xs_X11_isWord) (by omega) (by decide) (b := 0) rfl ⟨_, _, rfl⟩ (av := [.inr (.inr (some (1000 + w)))]) rfl (Nat.le_of_ble_eq_true rfl) (c_m_isWord _ w hi_w _ _ hq0) rfl ?_
  refine x_iconst C dX11_expectWord_6 ?_
  obtain ⟨q1, hq1, h⟩ := x_bind h
  refine x_callVI C dX11_expectWord_7 (xin_20 _ (List.mem_of_getElem? (i := 17) rfl)) xy_X11_check (xi_X11_check) (xs_X11_check) (by omega) (by decide) (b := 0) rfl ⟨_, _, rfl⟩ (av := [.inl q0, .inl 1]) rfl (Nat.le_of_ble_eq_true rfl) (c_m_check _ _ _ _ _ hq1) rfl ?_
  refine x_aload_n C dX11_expectWord_10 rfl ?_
  obtain ⟨q2, hq2, h⟩ := x_bind h
  refine x_callVI C dX11_expectWord_11 (xin_21 _ (List.mem_of_getElem? (i := 2) rfl)) xy_X11_advance (xi_X11_advance) (xs_X11_advance) (by omega) (by decide) (b := 0) rfl ⟨_, _, rfl⟩ (av := []) rfl (Nat.le_of_ble_eq_true rfl) (c_m_advance _ _ _ hq2) rfl ?_
  exact x_returnV hR dX11_expectWord_14 h
theorem c_m_expectWord (l : Launch) (w : Nat) (hi_w : w < 26) (m m9 : xM) (h : f_m_expectWord w m = some m9) : xMet l yX11_expectWord cX11_expectWord 2 none 5 lay_M [.inr (.inr (some 0)), .inr (.inr (some (1000 + w)))] m none m9 :=
  xMet_v (by decide +kernel) (Nat.le_of_ble_eq_true rfl) (fun Γ C hR hl9 => t_m_expectWord (Nat.le_refl _) C w hi_w hR m h)
/-! ===== yX11_expect ===== -/
theorem xy_X11_isSymbol : xY yX11_isSymbol cX11_isSymbol 2 (some .boolean) 1 := ⟨(xin_22 _ (List.mem_of_getElem? (i := 7) rfl)), (xin_1 _ (List.mem_of_getElem? (i := 5) rfl)), by decide, by decide, by decide +kernel⟩
theorem xi_X11_isSymbol : Cond.instanceMethod yX11_isSymbol ∈ wsL_law := (xin_22 _ (List.mem_of_getElem? (i := 5) rfl))
theorem xs_X11_isSymbol : Cond.selects yX11_isSymbol.cls yX11_isSymbol yX11_isSymbol ∈ wsL_law := (xin_22 _ (List.mem_of_getElem? (i := 6) rfl))
theorem dX11_expect_0 : decode cX11_expect 0 = .ok (.aload_n 0, 1) := by decide +kernel
theorem dX11_expect_1 : decode cX11_expect 1 = .ok (.aload_n 0, 1) := by decide +kernel
theorem dX11_expect_2 : decode cX11_expect 2 = .ok (.iload_n 1, 1) := by decide +kernel
theorem dX11_expect_3 : decode cX11_expect 3 = .ok (.invokevirtual 327, 3) := by decide +kernel
theorem dX11_expect_6 : decode cX11_expect 6 = .ok (.iconst 1, 1) := by decide +kernel
theorem dX11_expect_7 : decode cX11_expect 7 = .ok (.invokevirtual 320, 3) := by decide +kernel
theorem dX11_expect_10 : decode cX11_expect 10 = .ok (.aload_n 0, 1) := by decide +kernel
theorem dX11_expect_11 : decode cX11_expect 11 = .ok (.invokevirtual 324, 3) := by decide +kernel
theorem dX11_expect_14 : decode cX11_expect 14 = .ok (.return_, 1) := by decide +kernel
def f_m_expect (z : Int) (m : xM) : Option (xM) :=
     (Option.bind (f_m_isSymbol z m) fun q0 =>
      (Option.bind (f_m_check q0 1 m) fun q1 =>
      (Option.bind (f_m_advance q1) fun q2 =>
      some q2)))
set_option maxRecDepth 1000000 in
set_option maxHeartbeats 4000000 in
theorem t_m_expect {Γ : xG} {d : Nat} (hd9 : 5 ≤ d) (C : xC Γ lay_M RX11 cX11_expect 2 d) (z : Int) {m9 : xM} (hR : xRv Γ lay_M cX11_expect m9) (m : xM) (h : f_m_expect z m = some m9) : xW Γ lay_M 2 0 [(0, .inr (.inr (some 0))), (1, .inl z)] [] m := by
  unfold f_m_expect at h
  refine x_aload_n C dX11_expect_0 rfl ?_
  refine x_aload_n C dX11_expect_1 rfl ?_
  refine x_iload_n C dX11_expect_2 rfl ?_
  obtain ⟨q0, hq0, h⟩ := x_bind h
  refine x_callVI C dX11_expect_3 (xin_22 _ (List.mem_of_getElem? (i := 4) rfl)) xy_X11_isSymbol (xi_X11_isSymbol) (xs_X11_isSymbol) (by omega) (by decide) (b := 0) rfl ⟨_, _, rfl⟩ (av := [.inl z]) rfl (Nat.le_of_ble_eq_true rfl) (c_m_isSymbol _ _ _ _ hq0) rfl ?_
  refine x_iconst C dX11_expect_6 ?_
  obtain ⟨q1, hq1, h⟩ := x_bind h
  refine x_callVI C dX11_expect_7 (xin_20 _ (List.mem_of_getElem? (i := 17) rfl)) xy_X11_check (xi_X11_check) (xs_X11_check) (by omega) (by decide) (b := 0) rfl ⟨_, _, rfl⟩ (av := [.inl q0, .inl 1]) rfl (Nat.le_of_ble_eq_true rfl) (c_m_check _ _ _ _ _ hq1) rfl ?_
  refine x_aload_n C dX11_expect_10 rfl ?_
  obtain ⟨q2, hq2, h⟩ := x_bind h
  refine x_callVI C dX11_expect_11 (xin_21 _ (List.mem_of_getElem? (i := 2) rfl)) xy_X11_advance (xi_X11_advance) (xs_X11_advance) (by omega) (by decide) (b := 0) rfl ⟨_, _, rfl⟩ (av := []) rfl (Nat.le_of_ble_eq_true rfl) (c_m_advance _ _ _ hq2) rfl ?_
  exact x_returnV hR dX11_expect_14 h
theorem c_m_expect (l : Launch) (z : Int) (m m9 : xM) (h : f_m_expect z m = some m9) : xMet l yX11_expect cX11_expect 2 none 5 lay_M [.inr (.inr (some 0)), .inl z] m none m9 :=
  xMet_v (by decide +kernel) (Nat.le_of_ble_eq_true rfl) (fun Γ C hR hl9 => t_m_expect (Nat.le_refl _) C z hR m h)
/-! ===== yX11_value ===== -/
theorem dX11_value_0 : decode cX11_value 0 = .ok (.iconst 0, 1) := by decide +kernel
theorem dX11_value_1 : decode cX11_value 1 = .ok (.istore_n 1, 1) := by decide +kernel
theorem dX11_value_2 : decode cX11_value 2 = .ok (.aload_n 0, 1) := by decide +kernel
theorem dX11_value_3 : decode cX11_value 3 = .ok (.getfield 289, 3) := by decide +kernel
theorem dX11_value_6 : decode cX11_value 6 = .ok (.istore_n 2, 1) := by decide +kernel
theorem dX11_value_7 : decode cX11_value 7 = .ok (.iload_n 2, 1) := by decide +kernel
theorem dX11_value_8 : decode cX11_value 8 = .ok (.aload_n 0, 1) := by decide +kernel
theorem dX11_value_9 : decode cX11_value 9 = .ok (.getfield 286, 3) := by decide +kernel
theorem dX11_value_12 : decode cX11_value 12 = .ok (.if_icmp .ge 43, 3) := by decide +kernel
theorem dX11_value_15 : decode cX11_value 15 = .ok (.aload_n 0, 1) := by decide +kernel
theorem dX11_value_16 : decode cX11_value 16 = .ok (.getfield 292, 3) := by decide +kernel
theorem dX11_value_19 : decode cX11_value 19 = .ok (.iconst 2, 1) := by decide +kernel
theorem dX11_value_20 : decode cX11_value 20 = .ok (.if_icmp .ne 35, 3) := by decide +kernel
theorem dX11_value_23 : decode cX11_value 23 = .ok (.ldc2_w 330, 3) := by decide +kernel
theorem dX11_value_26 : decode cX11_value 26 = .ok (.ldc2_w 332, 3) := by decide +kernel
theorem dX11_value_29 : decode cX11_value 29 = .ok (.iload_n 1, 1) := by decide +kernel
theorem dX11_value_30 : decode cX11_value 30 = .ok (.i2l, 1) := by decide +kernel
theorem dX11_value_31 : decode cX11_value 31 = .ok (.lmul, 1) := by decide +kernel
theorem dX11_value_32 : decode cX11_value 32 = .ok (.aload_n 0, 1) := by decide +kernel
theorem dX11_value_33 : decode cX11_value 33 = .ok (.getfield 32, 3) := by decide +kernel
theorem dX11_value_36 : decode cX11_value 36 = .ok (.iload_n 2, 1) := by decide +kernel
theorem dX11_value_37 : decode cX11_value 37 = .ok (.iaload, 1) := by decide +kernel
theorem dX11_value_38 : decode cX11_value 38 = .ok (.i2l, 1) := by decide +kernel
theorem dX11_value_39 : decode cX11_value 39 = .ok (.ladd, 1) := by decide +kernel
theorem dX11_value_40 : decode cX11_value 40 = .ok (.ldc2_w 334, 3) := by decide +kernel
theorem dX11_value_43 : decode cX11_value 43 = .ok (.lsub, 1) := by decide +kernel
theorem dX11_value_44 : decode cX11_value 44 = .ok (.invokestatic 336, 3) := by decide +kernel
theorem dX11_value_47 : decode cX11_value 47 = .ok (.l2i, 1) := by decide +kernel
theorem dX11_value_48 : decode cX11_value 48 = .ok (.istore_n 1, 1) := by decide +kernel
theorem dX11_value_49 : decode cX11_value 49 = .ok (.iinc 2 1, 3) := by decide +kernel
theorem dX11_value_52 : decode cX11_value 52 = .ok (.goto (-45), 3) := by decide +kernel
theorem dX11_value_55 : decode cX11_value 55 = .ok (.iload_n 1, 1) := by decide +kernel
theorem dX11_value_56 : decode cX11_value 56 = .ok (.ireturn, 1) := by decide +kernel
def f_m_value_7 (m : xM) : Nat → Int → Int → Option (Int)
  | 0, _, _ => none
  | n + 1, x1, x2 =>
     (if xw x2 < xw (m 0 15) then (if xw (m 0 17) = xw 2 then (if xib x2 600 then f_m_value_7 m n (if xwl (((10 * (xw x1)) + (xw (m 8 (xix x2)))) - 48) < xwl 2000000000 then ((10 * (xw x1)) + (xw (m 8 (xix x2)))) - 48 else 2000000000) (x2 + 1)
      else none)
      else some x1)
      else some x1)
set_option maxRecDepth 1000000 in
set_option maxHeartbeats 4000000 in
theorem t_m_value_7 {Γ : xG} {d : Nat} (hd9 : 1 ≤ d) (C : xC Γ lay_M RX11 cX11_value 3 d) {r : Int} {m : xM} (hR : xRi Γ lay_M cX11_value r m) : ∀ (n : Nat) (x1 : Int) (x2 : Int), f_m_value_7 m n x1 x2 = some r → xW Γ lay_M 3 7 [(0, .inr (.inr (some 0))), (1, .inl x1), (2, .inl x2)] [] m := by
  intro n
  induction n with
  | zero => intro _ _ h; cases h
  | succ n ih =>
    intro x1 x2 h
    rw [f_m_value_7] at h
    refine x_iload_n C dX11_value_7 rfl ?_
    refine x_aload_n C dX11_value_8 rfl ?_
    refine x_getI C dX11_value_9 fF_X11_286 rfl rfl ?_
    refine x_icmp_ge C 55 dX11_value_12 (by decide) h (fun h => ?_) (fun h => ?_)
    · refine x_iload_n C dX11_value_55 rfl ?_
      exact x_ireturnP hR dX11_value_56 h
    · refine x_aload_n C dX11_value_15 rfl ?_
      refine x_getI C dX11_value_16 fF_X11_292 rfl rfl ?_
      refine x_iconst C dX11_value_19 ?_
      refine x_icmp_ne C 55 dX11_value_20 (by decide) h (fun h => ?_) (fun h => ?_)
      · refine x_iload_n C dX11_value_55 rfl ?_
        exact x_ireturnP hR dX11_value_56 h
      · refine x_ldc2 C 2000000000 dX11_value_23 (xin_21 _ (List.mem_of_getElem? (i := 18) rfl)) (by decide) ?_
        refine x_ldc2 C 10 dX11_value_26 (xin_21 _ (List.mem_of_getElem? (i := 19) rfl)) (by decide) ?_
        refine x_iload_n C dX11_value_29 rfl ?_
        refine x_i2l C dX11_value_30 ?_
        refine x_lmul C dX11_value_31 ?_
        refine x_aload_n C dX11_value_32 rfl ?_
        refine x_getR C dX11_value_33 fF_X11_32 rfl rfl ?_
        refine x_iload_n C dX11_value_36 rfl ?_
        refine x_iaload C dX11_value_37 rfl h (fun h => ?_)
        refine x_i2l C dX11_value_38 ?_
        refine x_ladd C dX11_value_39 ?_
        refine x_ldc2 C 48 dX11_value_40 (xin_21 _ (List.mem_of_getElem? (i := 20) rfl)) (by decide) ?_
        refine x_lsub C dX11_value_43 ?_
        refine x_minL C dX11_value_44 (xin_21 _ (List.mem_of_getElem? (i := 21) rfl)) gm_minL_s gm_math gm_minL_c (by omega) (Nat.le_of_ble_eq_true rfl) ?_
        refine x_l2i C dX11_value_47 ?_
        refine x_istore_n C dX11_value_48 (by decide) ?_
        refine x_iinc C dX11_value_49 (by decide) rfl ?_
        refine x_goto C 7 dX11_value_52 (by decide) ?_
        refine x_loc [(0, .inr (.inr (some 0))), (1, .inl (if xwl (((10 * (xw x1)) + (xw (m 8 (xix x2)))) - 48) < xwl 2000000000 then ((10 * (xw x1)) + (xw (m 8 (xix x2)))) - 48 else 2000000000)), (2, .inl (x2 + 1))] ⟨rfl, rfl, rfl, trivial⟩ ?_
        exact ih _ _ h
def f_m_value (m : xM) : Option (Int) :=
     f_m_value_7 m fu 0 (m 0 16)
set_option maxRecDepth 1000000 in
set_option maxHeartbeats 4000000 in
theorem t_m_value {Γ : xG} {d : Nat} (hd9 : 1 ≤ d) (C : xC Γ lay_M RX11 cX11_value 3 d) {r : Int} {m : xM} (hR : xRi Γ lay_M cX11_value r m) (h : f_m_value m = some r) : xW Γ lay_M 3 0 [(0, .inr (.inr (some 0)))] [] m := by
  unfold f_m_value at h
  refine x_iconst C dX11_value_0 ?_
  refine x_istore_n C dX11_value_1 (by decide) ?_
  refine x_aload_n C dX11_value_2 rfl ?_
  refine x_getI C dX11_value_3 fF_X11_289 rfl rfl ?_
  refine x_istore_n C dX11_value_6 (by decide) ?_
  refine x_loc [(0, .inr (.inr (some 0))), (1, .inl 0), (2, .inl (m 0 16))] ⟨rfl, rfl, rfl, trivial⟩ ?_
  exact t_m_value_7 hd9 C hR fu _ _ h
theorem c_m_value (l : Launch) (m : xM) (r : Int) (h : f_m_value m = some r) : xMet l yX11_value cX11_value 3 (some .int) 1 lay_M [.inr (.inr (some 0))] m (some (.inl r)) m :=
  xMet_i (by decide +kernel) (Nat.le_of_ble_eq_true rfl) (fun Γ C hR hl9 => t_m_value (Nat.le_refl _) C hR h)
/-! ===== yX11_readNumber ===== -/
theorem xy_X11_value : xY yX11_value cX11_value 3 (some .int) 0 := ⟨(xin_21 _ (List.mem_of_getElem? (i := 17) rfl)), (xin_1 _ (List.mem_of_getElem? (i := 5) rfl)), by decide, by decide, by decide +kernel⟩
theorem xi_X11_value : Cond.instanceMethod yX11_value ∈ wsL_law := (xin_21 _ (List.mem_of_getElem? (i := 15) rfl))
theorem xs_X11_value : Cond.selects yX11_value.cls yX11_value yX11_value ∈ wsL_law := (xin_21 _ (List.mem_of_getElem? (i := 16) rfl))
theorem dX11_readNumber_0 : decode cX11_readNumber 0 = .ok (.aload_n 0, 1) := by decide +kernel
theorem dX11_readNumber_1 : decode cX11_readNumber 1 = .ok (.aload_n 0, 1) := by decide +kernel
theorem dX11_readNumber_2 : decode cX11_readNumber 2 = .ok (.getfield 301, 3) := by decide +kernel
theorem dX11_readNumber_5 : decode cX11_readNumber 5 = .ok (.ifCond .ne 11, 3) := by decide +kernel
theorem dX11_readNumber_8 : decode cX11_readNumber 8 = .ok (.aload_n 0, 1) := by decide +kernel
theorem dX11_readNumber_9 : decode cX11_readNumber 9 = .ok (.getfield 292, 3) := by decide +kernel
theorem dX11_readNumber_12 : decode cX11_readNumber 12 = .ok (.iconst 2, 1) := by decide +kernel
theorem dX11_readNumber_13 : decode cX11_readNumber 13 = .ok (.if_icmp .ne 7, 3) := by decide +kernel
theorem dX11_readNumber_16 : decode cX11_readNumber 16 = .ok (.iconst 1, 1) := by decide +kernel
theorem dX11_readNumber_17 : decode cX11_readNumber 17 = .ok (.goto 4, 3) := by decide +kernel
theorem dX11_readNumber_20 : decode cX11_readNumber 20 = .ok (.iconst 0, 1) := by decide +kernel
theorem dX11_readNumber_21 : decode cX11_readNumber 21 = .ok (.iconst 1, 1) := by decide +kernel
theorem dX11_readNumber_22 : decode cX11_readNumber 22 = .ok (.invokevirtual 320, 3) := by decide +kernel
theorem dX11_readNumber_25 : decode cX11_readNumber 25 = .ok (.aload_n 0, 1) := by decide +kernel
theorem dX11_readNumber_26 : decode cX11_readNumber 26 = .ok (.invokevirtual 339, 3) := by decide +kernel
theorem dX11_readNumber_29 : decode cX11_readNumber 29 = .ok (.istore_n 3, 1) := by decide +kernel
theorem dX11_readNumber_30 : decode cX11_readNumber 30 = .ok (.aload_n 0, 1) := by decide +kernel
theorem dX11_readNumber_31 : decode cX11_readNumber 31 = .ok (.aload_n 0, 1) := by decide +kernel
theorem dX11_readNumber_32 : decode cX11_readNumber 32 = .ok (.getfield 301, 3) := by decide +kernel
theorem dX11_readNumber_35 : decode cX11_readNumber 35 = .ok (.ifCond .ne 12, 3) := by decide +kernel
theorem dX11_readNumber_38 : decode cX11_readNumber 38 = .ok (.iload_n 3, 1) := by decide +kernel
theorem dX11_readNumber_39 : decode cX11_readNumber 39 = .ok (.iload_n 1, 1) := by decide +kernel
theorem dX11_readNumber_40 : decode cX11_readNumber 40 = .ok (.iload_n 2, 1) := by decide +kernel
theorem dX11_readNumber_41 : decode cX11_readNumber 41 = .ok (.invokestatic 81, 3) := by decide +kernel
theorem dX11_readNumber_44 : decode cX11_readNumber 44 = .ok (.ifCond .eq 7, 3) := by decide +kernel
theorem dX11_readNumber_47 : decode cX11_readNumber 47 = .ok (.iconst 1, 1) := by decide +kernel
theorem dX11_readNumber_48 : decode cX11_readNumber 48 = .ok (.goto 4, 3) := by decide +kernel
theorem dX11_readNumber_51 : decode cX11_readNumber 51 = .ok (.iconst 0, 1) := by decide +kernel
theorem dX11_readNumber_52 : decode cX11_readNumber 52 = .ok (.iconst 2, 1) := by decide +kernel
theorem dX11_readNumber_53 : decode cX11_readNumber 53 = .ok (.invokevirtual 320, 3) := by decide +kernel
theorem dX11_readNumber_56 : decode cX11_readNumber 56 = .ok (.aload_n 0, 1) := by decide +kernel
theorem dX11_readNumber_57 : decode cX11_readNumber 57 = .ok (.invokevirtual 324, 3) := by decide +kernel
theorem dX11_readNumber_60 : decode cX11_readNumber 60 = .ok (.aload_n 0, 1) := by decide +kernel
theorem dX11_readNumber_61 : decode cX11_readNumber 61 = .ok (.getfield 301, 3) := by decide +kernel
theorem dX11_readNumber_64 : decode cX11_readNumber 64 = .ok (.ifCond .ne 7, 3) := by decide +kernel
theorem dX11_readNumber_67 : decode cX11_readNumber 67 = .ok (.iload_n 3, 1) := by decide +kernel
theorem dX11_readNumber_68 : decode cX11_readNumber 68 = .ok (.goto 4, 3) := by decide +kernel
theorem dX11_readNumber_71 : decode cX11_readNumber 71 = .ok (.iload_n 1, 1) := by decide +kernel
theorem dX11_readNumber_72 : decode cX11_readNumber 72 = .ok (.ireturn, 1) := by decide +kernel
def f_m_readNumber_52 (a : Int) (b : Int) (x3 : Int) (s0 : Int) (m : xM) : Option (Int × xM) :=
     (Option.bind (f_m_check s0 2 m) fun q2 =>
      (Option.bind (f_m_advance q2) fun q3 =>
      (if xw (q3 0 18) = 0 then some (x3, q3)
      else some (a, q3))))
set_option maxRecDepth 1000000 in
set_option maxHeartbeats 4000000 in
theorem t_m_readNumber_52 {Γ : xG} {d : Nat} (hd9 : 5 ≤ d) (C : xC Γ lay_M RX11 cX11_readNumber 4 d) (a : Int) (b : Int) {r : Int} {m9 : xM} (hR : xRi Γ lay_M cX11_readNumber r m9) (x3 : Int) (s0 : Int) (m : xM) (h : f_m_readNumber_52 a b x3 s0 m = some (r, m9)) : xW Γ lay_M 4 52 [(0, .inr (.inr (some 0))), (1, .inl a), (3, .inl x3)] [.inl s0, .inr (.inr (some 0))] m := by
  unfold f_m_readNumber_52 at h
  refine x_iconst C dX11_readNumber_52 ?_
  obtain ⟨q2, hq2, h⟩ := x_bind h
  refine x_callVI C dX11_readNumber_53 (xin_20 _ (List.mem_of_getElem? (i := 17) rfl)) xy_X11_check (xi_X11_check) (xs_X11_check) (by omega) (by decide) (b := 0) rfl ⟨_, _, rfl⟩ (av := [.inl s0, .inl 2]) rfl (Nat.le_of_ble_eq_true rfl) (c_m_check _ _ _ _ _ hq2) rfl ?_
  refine x_aload_n C dX11_readNumber_56 rfl ?_
  obtain ⟨q3, hq3, h⟩ := x_bind h
  refine x_callVI C dX11_readNumber_57 (xin_21 _ (List.mem_of_getElem? (i := 2) rfl)) xy_X11_advance (xi_X11_advance) (xs_X11_advance) (by omega) (by decide) (b := 0) rfl ⟨_, _, rfl⟩ (av := []) rfl (Nat.le_of_ble_eq_true rfl) (c_m_advance _ _ _ hq3) rfl ?_
  refine x_aload_n C dX11_readNumber_60 rfl ?_
  refine x_getI C dX11_readNumber_61 fF_X11_301 rfl rfl ?_
  refine x_if_ne C 71 dX11_readNumber_64 (by decide) h (fun h => ?_) (fun h => ?_)
  · refine x_iload_n C dX11_readNumber_71 rfl ?_
    exact x_ireturn hR dX11_readNumber_72 h
  · refine x_iload_n C dX11_readNumber_67 rfl ?_
    refine x_goto C 72 dX11_readNumber_68 (by decide) ?_
    exact x_ireturn hR dX11_readNumber_72 h
def f_m_readNumber_47 (a : Int) (b : Int) (x3 : Int) (m : xM) : Option (Int × xM) :=
     f_m_readNumber_52 a b x3 1 m
set_option maxRecDepth 1000000 in
set_option maxHeartbeats 4000000 in
theorem t_m_readNumber_47 {Γ : xG} {d : Nat} (hd9 : 5 ≤ d) (C : xC Γ lay_M RX11 cX11_readNumber 4 d) (a : Int) (b : Int) {r : Int} {m9 : xM} (hR : xRi Γ lay_M cX11_readNumber r m9) (x3 : Int) (m : xM) (h : f_m_readNumber_47 a b x3 m = some (r, m9)) : xW Γ lay_M 4 47 [(0, .inr (.inr (some 0))), (1, .inl a), (3, .inl x3)] [.inr (.inr (some 0))] m := by
  unfold f_m_readNumber_47 at h
  refine x_iconst C dX11_readNumber_47 ?_
  refine x_goto C 52 dX11_readNumber_48 (by decide) ?_
  refine x_loc [(0, .inr (.inr (some 0))), (1, .inl a), (3, .inl x3)] ⟨rfl, rfl, rfl, trivial⟩ ?_
  exact t_m_readNumber_52 hd9 C _ _ hR _ _ _ h
def f_m_readNumber_21 (a : Int) (b : Int) (s0 : Int) (m : xM) : Option (Int × xM) :=
     (Option.bind (f_m_check s0 1 m) fun q0 =>
      (Option.bind (f_m_value q0) fun q1 =>
      (if xw (q0 0 18) = 0 then (Option.bind (f_m_inRange q1 a b (xvw [] q0)) fun q4 =>
      (if xw q4 = 0 then f_m_readNumber_52 a b q1 0 q0
      else f_m_readNumber_47 a b q1 q0))
      else f_m_readNumber_47 a b q1 q0)))
set_option maxRecDepth 1000000 in
set_option maxHeartbeats 4000000 in
theorem t_m_readNumber_21 {Γ : xG} {d : Nat} (hd9 : 5 ≤ d) (C : xC Γ lay_M RX11 cX11_readNumber 4 d) (a : Int) (b : Int) {r : Int} {m9 : xM} (hR : xRi Γ lay_M cX11_readNumber r m9) (s0 : Int) (m : xM) (h : f_m_readNumber_21 a b s0 m = some (r, m9)) : xW Γ lay_M 4 21 [(0, .inr (.inr (some 0))), (1, .inl a), (2, .inl b)] [.inl s0, .inr (.inr (some 0))] m := by
  unfold f_m_readNumber_21 at h
  refine x_iconst C dX11_readNumber_21 ?_
  obtain ⟨q0, hq0, h⟩ := x_bind h
  refine x_callVI C dX11_readNumber_22 (xin_20 _ (List.mem_of_getElem? (i := 17) rfl)) xy_X11_check (xi_X11_check) (xs_X11_check) (by omega) (by decide) (b := 0) rfl ⟨_, _, rfl⟩ (av := [.inl s0, .inl 1]) rfl (Nat.le_of_ble_eq_true rfl) (c_m_check _ _ _ _ _ hq0) rfl ?_
  refine x_aload_n C dX11_readNumber_25 rfl ?_
  obtain ⟨q1, hq1, h⟩ := x_bind h
  refine x_callVI C dX11_readNumber_26 (xin_21 _ (List.mem_of_getElem? (i := 14) rfl)) xy_X11_value (xi_X11_value) (xs_X11_value) (by omega) (by decide) (b := 0) rfl ⟨_, _, rfl⟩ (av := []) rfl (Nat.le_of_ble_eq_true rfl) (c_m_value _ _ _ hq1) rfl ?_
  refine x_istore_n C dX11_readNumber_29 (by decide) ?_
  refine x_aload_n C dX11_readNumber_30 rfl ?_
  refine x_aload_n C dX11_readNumber_31 rfl ?_
  refine x_getI C dX11_readNumber_32 fF_X11_301 rfl rfl ?_
  refine x_if_ne C 47 dX11_readNumber_35 (by decide) h (fun h => ?_) (fun h => ?_)
  · refine x_loc [(0, .inr (.inr (some 0))), (1, .inl a), (3, .inl q1)] ⟨rfl, rfl, rfl, trivial⟩ ?_
    exact t_m_readNumber_47 hd9 C _ _ hR _ _ h
  · refine x_iload_n C dX11_readNumber_38 rfl ?_
    refine x_iload_n C dX11_readNumber_39 rfl ?_
    refine x_iload_n C dX11_readNumber_40 rfl ?_
    obtain ⟨q4, hq4, h⟩ := x_bind h
    refine x_callSp C dX11_readNumber_41 (xin_18 _ (List.mem_of_getElem? (i := 19) rfl)) xy_X11_inRange (xt_X11_inRange) [] xv_49 (by omega) (by decide) (av := [.inl q1, .inl a, .inl b]) rfl (Nat.le_of_ble_eq_true rfl) (c_m_inRange _ _ _ _ _ _ hq4) rfl ?_
    refine x_if_eq C 51 dX11_readNumber_44 (by decide) h (fun h => ?_) (fun h => ?_)
    · refine x_iconst C dX11_readNumber_51 ?_
      refine x_loc [(0, .inr (.inr (some 0))), (1, .inl a), (3, .inl q1)] ⟨rfl, rfl, rfl, trivial⟩ ?_
      exact t_m_readNumber_52 hd9 C _ _ hR _ _ _ h
    · refine x_loc [(0, .inr (.inr (some 0))), (1, .inl a), (3, .inl q1)] ⟨rfl, rfl, rfl, trivial⟩ ?_
      exact t_m_readNumber_47 hd9 C _ _ hR _ _ h
def f_m_readNumber_16 (a : Int) (b : Int) (m : xM) : Option (Int × xM) :=
     f_m_readNumber_21 a b 1 m
set_option maxRecDepth 1000000 in
set_option maxHeartbeats 4000000 in
theorem t_m_readNumber_16 {Γ : xG} {d : Nat} (hd9 : 5 ≤ d) (C : xC Γ lay_M RX11 cX11_readNumber 4 d) (a : Int) (b : Int) {r : Int} {m9 : xM} (hR : xRi Γ lay_M cX11_readNumber r m9) (m : xM) (h : f_m_readNumber_16 a b m = some (r, m9)) : xW Γ lay_M 4 16 [(0, .inr (.inr (some 0))), (1, .inl a), (2, .inl b)] [.inr (.inr (some 0))] m := by
  unfold f_m_readNumber_16 at h
  refine x_iconst C dX11_readNumber_16 ?_
  refine x_goto C 21 dX11_readNumber_17 (by decide) ?_
  refine x_loc [(0, .inr (.inr (some 0))), (1, .inl a), (2, .inl b)] ⟨rfl, rfl, rfl, trivial⟩ ?_
  exact t_m_readNumber_21 hd9 C _ _ hR _ _ h
def f_m_readNumber (a : Int) (b : Int) (m : xM) : Option (Int × xM) :=
     (if xw (m 0 18) = 0 then (if xw (m 0 17) = xw 2 then f_m_readNumber_16 a b m
      else f_m_readNumber_21 a b 0 m)
      else f_m_readNumber_16 a b m)
set_option maxRecDepth 1000000 in
set_option maxHeartbeats 4000000 in
theorem t_m_readNumber {Γ : xG} {d : Nat} (hd9 : 5 ≤ d) (C : xC Γ lay_M RX11 cX11_readNumber 4 d) (a : Int) (b : Int) {r : Int} {m9 : xM} (hR : xRi Γ lay_M cX11_readNumber r m9) (m : xM) (h : f_m_readNumber a b m = some (r, m9)) : xW Γ lay_M 4 0 [(0, .inr (.inr (some 0))), (1, .inl a), (2, .inl b)] [] m := by
  unfold f_m_readNumber at h
  refine x_aload_n C dX11_readNumber_0 rfl ?_
  refine x_aload_n C dX11_readNumber_1 rfl ?_
  refine x_getI C dX11_readNumber_2 fF_X11_301 rfl rfl ?_
  refine x_if_ne C 16 dX11_readNumber_5 (by decide) h (fun h => ?_) (fun h => ?_)
  · refine x_loc [(0, .inr (.inr (some 0))), (1, .inl a), (2, .inl b)] ⟨rfl, rfl, rfl, trivial⟩ ?_
    exact t_m_readNumber_16 hd9 C _ _ hR _ h
  · refine x_aload_n C dX11_readNumber_8 rfl ?_
    refine x_getI C dX11_readNumber_9 fF_X11_292 rfl rfl ?_
    refine x_iconst C dX11_readNumber_12 ?_
    refine x_icmp_ne C 20 dX11_readNumber_13 (by decide) h (fun h => ?_) (fun h => ?_)
    · refine x_iconst C dX11_readNumber_20 ?_
      refine x_loc [(0, .inr (.inr (some 0))), (1, .inl a), (2, .inl b)] ⟨rfl, rfl, rfl, trivial⟩ ?_
      exact t_m_readNumber_21 hd9 C _ _ hR _ _ h
    · refine x_loc [(0, .inr (.inr (some 0))), (1, .inl a), (2, .inl b)] ⟨rfl, rfl, rfl, trivial⟩ ?_
      exact t_m_readNumber_16 hd9 C _ _ hR _ h
theorem c_m_readNumber (l : Launch) (a : Int) (b : Int) (m : xM) (r : Int) (m9 : xM) (h : f_m_readNumber a b m = some (r, m9)) : xMet l yX11_readNumber cX11_readNumber 4 (some .int) 5 lay_M [.inr (.inr (some 0)), .inl a, .inl b] m (some (.inl r)) m9 :=
  xMet_i (by decide +kernel) (Nat.le_of_ble_eq_true rfl) (fun Γ C hR hl9 => t_m_readNumber (Nat.le_refl _) C a b hR m h)
/-! ===== yX11_readGreater ===== -/
theorem dX11_readGreater_0 : decode cX11_readGreater 0 = .ok (.aload_n 0, 1) := by decide +kernel
theorem dX11_readGreater_1 : decode cX11_readGreater 1 = .ok (.aload_n 0, 1) := by decide +kernel
theorem dX11_readGreater_2 : decode cX11_readGreater 2 = .ok (.getfield 301, 3) := by decide +kernel
theorem dX11_readGreater_5 : decode cX11_readGreater 5 = .ok (.ifCond .ne 11, 3) := by decide +kernel
theorem dX11_readGreater_8 : decode cX11_readGreater 8 = .ok (.aload_n 0, 1) := by decide +kernel
theorem dX11_readGreater_9 : decode cX11_readGreater 9 = .ok (.getfield 292, 3) := by decide +kernel
theorem dX11_readGreater_12 : decode cX11_readGreater 12 = .ok (.iconst 2, 1) := by decide +kernel
theorem dX11_readGreater_13 : decode cX11_readGreater 13 = .ok (.if_icmp .ne 7, 3) := by decide +kernel
theorem dX11_readGreater_16 : decode cX11_readGreater 16 = .ok (.iconst 1, 1) := by decide +kernel
theorem dX11_readGreater_17 : decode cX11_readGreater 17 = .ok (.goto 4, 3) := by decide +kernel
theorem dX11_readGreater_20 : decode cX11_readGreater 20 = .ok (.iconst 0, 1) := by decide +kernel
theorem dX11_readGreater_21 : decode cX11_readGreater 21 = .ok (.iconst 1, 1) := by decide +kernel
theorem dX11_readGreater_22 : decode cX11_readGreater 22 = .ok (.invokevirtual 320, 3) := by decide +kernel
theorem dX11_readGreater_25 : decode cX11_readGreater 25 = .ok (.aload_n 0, 1) := by decide +kernel
theorem dX11_readGreater_26 : decode cX11_readGreater 26 = .ok (.aload_n 0, 1) := by decide +kernel
theorem dX11_readGreater_27 : decode cX11_readGreater 27 = .ok (.getfield 301, 3) := by decide +kernel
theorem dX11_readGreater_30 : decode cX11_readGreater 30 = .ok (.ifCond .ne 15, 3) := by decide +kernel
theorem dX11_readGreater_33 : decode cX11_readGreater 33 = .ok (.aload_n 0, 1) := by decide +kernel
theorem dX11_readGreater_34 : decode cX11_readGreater 34 = .ok (.invokevirtual 339, 3) := by decide +kernel
theorem dX11_readGreater_37 : decode cX11_readGreater 37 = .ok (.iload_n 1, 1) := by decide +kernel
theorem dX11_readGreater_38 : decode cX11_readGreater 38 = .ok (.iload_n 2, 1) := by decide +kernel
theorem dX11_readGreater_39 : decode cX11_readGreater 39 = .ok (.invokestatic 81, 3) := by decide +kernel
theorem dX11_readGreater_42 : decode cX11_readGreater 42 = .ok (.ifCond .eq 7, 3) := by decide +kernel
theorem dX11_readGreater_45 : decode cX11_readGreater 45 = .ok (.iconst 1, 1) := by decide +kernel
theorem dX11_readGreater_46 : decode cX11_readGreater 46 = .ok (.goto 4, 3) := by decide +kernel
theorem dX11_readGreater_49 : decode cX11_readGreater 49 = .ok (.iconst 0, 1) := by decide +kernel
theorem dX11_readGreater_50 : decode cX11_readGreater 50 = .ok (.iconst 2, 1) := by decide +kernel
theorem dX11_readGreater_51 : decode cX11_readGreater 51 = .ok (.invokevirtual 320, 3) := by decide +kernel
theorem dX11_readGreater_54 : decode cX11_readGreater 54 = .ok (.aload_n 0, 1) := by decide +kernel
theorem dX11_readGreater_55 : decode cX11_readGreater 55 = .ok (.aload_n 0, 1) := by decide +kernel
theorem dX11_readGreater_56 : decode cX11_readGreater 56 = .ok (.getfield 301, 3) := by decide +kernel
theorem dX11_readGreater_59 : decode cX11_readGreater 59 = .ok (.ifCond .ne 11, 3) := by decide +kernel
theorem dX11_readGreater_62 : decode cX11_readGreater 62 = .ok (.aload_n 0, 1) := by decide +kernel
theorem dX11_readGreater_63 : decode cX11_readGreater 63 = .ok (.invokevirtual 339, 3) := by decide +kernel
theorem dX11_readGreater_66 : decode cX11_readGreater 66 = .ok (.iload_n 3, 1) := by decide +kernel
theorem dX11_readGreater_67 : decode cX11_readGreater 67 = .ok (.if_icmp .le 7, 3) := by decide +kernel
theorem dX11_readGreater_70 : decode cX11_readGreater 70 = .ok (.iconst 1, 1) := by decide +kernel
theorem dX11_readGreater_71 : decode cX11_readGreater 71 = .ok (.goto 4, 3) := by decide +kernel
theorem dX11_readGreater_74 : decode cX11_readGreater 74 = .ok (.iconst 0, 1) := by decide +kernel
theorem dX11_readGreater_75 : decode cX11_readGreater 75 = .ok (.iconst 4, 1) := by decide +kernel
theorem dX11_readGreater_76 : decode cX11_readGreater 76 = .ok (.invokevirtual 320, 3) := by decide +kernel
theorem dX11_readGreater_79 : decode cX11_readGreater 79 = .ok (.aload_n 0, 1) := by decide +kernel
theorem dX11_readGreater_80 : decode cX11_readGreater 80 = .ok (.invokevirtual 339, 3) := by decide +kernel
theorem dX11_readGreater_83 : decode cX11_readGreater 83 = .ok (.istore 4, 2) := by decide +kernel
theorem dX11_readGreater_85 : decode cX11_readGreater 85 = .ok (.aload_n 0, 1) := by decide +kernel
theorem dX11_readGreater_86 : decode cX11_readGreater 86 = .ok (.invokevirtual 324, 3) := by decide +kernel
theorem dX11_readGreater_89 : decode cX11_readGreater 89 = .ok (.iload 4, 2) := by decide +kernel
theorem dX11_readGreater_91 : decode cX11_readGreater 91 = .ok (.ireturn, 1) := by decide +kernel
def f_m_readGreater_75 (a : Int) (b : Int) (t : Int) (s0 : Int) (m : xM) : Option (Int × xM) :=
     (Option.bind (f_m_check s0 4 m) fun q2 =>
      (Option.bind (f_m_value q2) fun q3 =>
      (Option.bind (f_m_advance q2) fun q4 =>
      some (q3, q4))))
set_option maxRecDepth 1000000 in
set_option maxHeartbeats 4000000 in
theorem t_m_readGreater_75 {Γ : xG} {d : Nat} (hd9 : 5 ≤ d) (C : xC Γ lay_M RX11 cX11_readGreater 5 d) (a : Int) (b : Int) (t : Int) {r : Int} {m9 : xM} (hR : xRi Γ lay_M cX11_readGreater r m9) (s0 : Int) (m : xM) (h : f_m_readGreater_75 a b t s0 m = some (r, m9)) : xW Γ lay_M 5 75 [(0, .inr (.inr (some 0)))] [.inl s0, .inr (.inr (some 0))] m := by
  unfold f_m_readGreater_75 at h
  refine x_iconst C dX11_readGreater_75 ?_
  obtain ⟨q2, hq2, h⟩ := x_bind h
  refine x_callVI C dX11_readGreater_76 (xin_20 _ (List.mem_of_getElem? (i := 17) rfl)) xy_X11_check (xi_X11_check) (xs_X11_check) (by omega) (by decide) (b := 0) rfl ⟨_, _, rfl⟩ (av := [.inl s0, .inl 4]) rfl (Nat.le_of_ble_eq_true rfl) (c_m_check _ _ _ _ _ hq2) rfl ?_
  refine x_aload_n C dX11_readGreater_79 rfl ?_
  obtain ⟨q3, hq3, h⟩ := x_bind h
  refine x_callVI C dX11_readGreater_80 (xin_21 _ (List.mem_of_getElem? (i := 14) rfl)) xy_X11_value (xi_X11_value) (xs_X11_value) (by omega) (by decide) (b := 0) rfl ⟨_, _, rfl⟩ (av := []) rfl (Nat.le_of_ble_eq_true rfl) (c_m_value _ _ _ hq3) rfl ?_
  refine x_istore C dX11_readGreater_83 (by decide) ?_
  refine x_aload_n C dX11_readGreater_85 rfl ?_
  obtain ⟨q4, hq4, h⟩ := x_bind h
  refine x_callVI C dX11_readGreater_86 (xin_21 _ (List.mem_of_getElem? (i := 2) rfl)) xy_X11_advance (xi_X11_advance) (xs_X11_advance) (by omega) (by decide) (b := 0) rfl ⟨_, _, rfl⟩ (av := []) rfl (Nat.le_of_ble_eq_true rfl) (c_m_advance _ _ _ hq4) rfl ?_
  refine x_iload C dX11_readGreater_89 rfl ?_
  exact x_ireturn hR dX11_readGreater_91 h
def f_m_readGreater_70 (a : Int) (b : Int) (t : Int) (m : xM) : Option (Int × xM) :=
     f_m_readGreater_75 a b t 1 m
set_option maxRecDepth 1000000 in
set_option maxHeartbeats 4000000 in
theorem t_m_readGreater_70 {Γ : xG} {d : Nat} (hd9 : 5 ≤ d) (C : xC Γ lay_M RX11 cX11_readGreater 5 d) (a : Int) (b : Int) (t : Int) {r : Int} {m9 : xM} (hR : xRi Γ lay_M cX11_readGreater r m9) (m : xM) (h : f_m_readGreater_70 a b t m = some (r, m9)) : xW Γ lay_M 5 70 [(0, .inr (.inr (some 0)))] [.inr (.inr (some 0))] m := by
  unfold f_m_readGreater_70 at h
  refine x_iconst C dX11_readGreater_70 ?_
  refine x_goto C 75 dX11_readGreater_71 (by decide) ?_
  refine x_loc [(0, .inr (.inr (some 0)))] ⟨rfl, trivial⟩ ?_
  exact t_m_readGreater_75 hd9 C _ _ _ hR _ _ h
def f_m_readGreater_50 (a : Int) (b : Int) (t : Int) (s0 : Int) (m : xM) : Option (Int × xM) :=
     (Option.bind (f_m_check s0 2 m) fun q1 =>
      (if xw (q1 0 18) = 0 then (Option.bind (f_m_value q1) fun q5 =>
      (if xw t < xw q5 then f_m_readGreater_70 a b t q1
      else f_m_readGreater_75 a b t 0 q1))
      else f_m_readGreater_70 a b t q1))
set_option maxRecDepth 1000000 in
set_option maxHeartbeats 4000000 in
theorem t_m_readGreater_50 {Γ : xG} {d : Nat} (hd9 : 5 ≤ d) (C : xC Γ lay_M RX11 cX11_readGreater 5 d) (a : Int) (b : Int) (t : Int) {r : Int} {m9 : xM} (hR : xRi Γ lay_M cX11_readGreater r m9) (s0 : Int) (m : xM) (h : f_m_readGreater_50 a b t s0 m = some (r, m9)) : xW Γ lay_M 5 50 [(0, .inr (.inr (some 0))), (3, .inl t)] [.inl s0, .inr (.inr (some 0))] m := by
  unfold f_m_readGreater_50 at h
  refine x_iconst C dX11_readGreater_50 ?_
  obtain ⟨q1, hq1, h⟩ := x_bind h
  refine x_callVI C dX11_readGreater_51 (xin_20 _ (List.mem_of_getElem? (i := 17) rfl)) xy_X11_check (xi_X11_check) (xs_X11_check) (by omega) (by decide) (b := 0) rfl ⟨_, _, rfl⟩ (av := [.inl s0, .inl 2]) rfl (Nat.le_of_ble_eq_true rfl) (c_m_check _ _ _ _ _ hq1) rfl ?_
  refine x_aload_n C dX11_readGreater_54 rfl ?_
  refine x_aload_n C dX11_readGreater_55 rfl ?_
  refine x_getI C dX11_readGreater_56 fF_X11_301 rfl rfl ?_
  refine x_if_ne C 70 dX11_readGreater_59 (by decide) h (fun h => ?_) (fun h => ?_)
  · refine x_loc [(0, .inr (.inr (some 0)))] ⟨rfl, trivial⟩ ?_
    exact t_m_readGreater_70 hd9 C _ _ _ hR _ h
  · refine x_aload_n C dX11_readGreater_62 rfl ?_
    obtain ⟨q5, hq5, h⟩ := x_bind h
    refine x_callVI C dX11_readGreater_63 (xin_21 _ (List.mem_of_getElem? (i := 14) rfl)) xy_X11_value (xi_X11_value) (xs_X11_value) (by omega) (by decide) (b := 0) rfl ⟨_, _, rfl⟩ (av := []) rfl (Nat.le_of_ble_eq_true rfl) (c_m_value _ _ _ hq5) rfl ?_
    refine x_iload_n C dX11_readGreater_66 rfl ?_
    refine x_icmp_le C 74 dX11_readGreater_67 (by decide) h (fun h => ?_) (fun h => ?_)
    · refine x_iconst C dX11_readGreater_74 ?_
      refine x_loc [(0, .inr (.inr (some 0)))] ⟨rfl, trivial⟩ ?_
      exact t_m_readGreater_75 hd9 C _ _ _ hR _ _ h
    · refine x_loc [(0, .inr (.inr (some 0)))] ⟨rfl, trivial⟩ ?_
      exact t_m_readGreater_70 hd9 C _ _ _ hR _ h
def f_m_readGreater_45 (a : Int) (b : Int) (t : Int) (m : xM) : Option (Int × xM) :=
     f_m_readGreater_50 a b t 1 m
set_option maxRecDepth 1000000 in
set_option maxHeartbeats 4000000 in
theorem t_m_readGreater_45 {Γ : xG} {d : Nat} (hd9 : 5 ≤ d) (C : xC Γ lay_M RX11 cX11_readGreater 5 d) (a : Int) (b : Int) (t : Int) {r : Int} {m9 : xM} (hR : xRi Γ lay_M cX11_readGreater r m9) (m : xM) (h : f_m_readGreater_45 a b t m = some (r, m9)) : xW Γ lay_M 5 45 [(0, .inr (.inr (some 0))), (3, .inl t)] [.inr (.inr (some 0))] m := by
  unfold f_m_readGreater_45 at h
  refine x_iconst C dX11_readGreater_45 ?_
  refine x_goto C 50 dX11_readGreater_46 (by decide) ?_
  refine x_loc [(0, .inr (.inr (some 0))), (3, .inl t)] ⟨rfl, rfl, trivial⟩ ?_
  exact t_m_readGreater_50 hd9 C _ _ _ hR _ _ h
def f_m_readGreater_21 (a : Int) (b : Int) (t : Int) (s0 : Int) (m : xM) : Option (Int × xM) :=
     (Option.bind (f_m_check s0 1 m) fun q0 =>
      (if xw (q0 0 18) = 0 then (Option.bind (f_m_value q0) fun q6 =>
      (Option.bind (f_m_inRange q6 a b (xvw [] q0)) fun q7 =>
      (if xw q7 = 0 then f_m_readGreater_50 a b t 0 q0
      else f_m_readGreater_45 a b t q0)))
      else f_m_readGreater_45 a b t q0))
set_option maxRecDepth 1000000 in
set_option maxHeartbeats 4000000 in
theorem t_m_readGreater_21 {Γ : xG} {d : Nat} (hd9 : 5 ≤ d) (C : xC Γ lay_M RX11 cX11_readGreater 5 d) (a : Int) (b : Int) (t : Int) {r : Int} {m9 : xM} (hR : xRi Γ lay_M cX11_readGreater r m9) (s0 : Int) (m : xM) (h : f_m_readGreater_21 a b t s0 m = some (r, m9)) : xW Γ lay_M 5 21 [(0, .inr (.inr (some 0))), (1, .inl a), (2, .inl b), (3, .inl t)] [.inl s0, .inr (.inr (some 0))] m := by
  unfold f_m_readGreater_21 at h
  refine x_iconst C dX11_readGreater_21 ?_
  obtain ⟨q0, hq0, h⟩ := x_bind h
  refine x_callVI C dX11_readGreater_22 (xin_20 _ (List.mem_of_getElem? (i := 17) rfl)) xy_X11_check (xi_X11_check) (xs_X11_check) (by omega) (by decide) (b := 0) rfl ⟨_, _, rfl⟩ (av := [.inl s0, .inl 1]) rfl (Nat.le_of_ble_eq_true rfl) (c_m_check _ _ _ _ _ hq0) rfl ?_
  refine x_aload_n C dX11_readGreater_25 rfl ?_
  refine x_aload_n C dX11_readGreater_26 rfl ?_
  refine x_getI C dX11_readGreater_27 fF_X11_301 rfl rfl ?_
  refine x_if_ne C 45 dX11_readGreater_30 (by decide) h (fun h => ?_) (fun h => ?_)
  · refine x_loc [(0, .inr (.inr (some 0))), (3, .inl t)] ⟨rfl, rfl, trivial⟩ ?_
    exact t_m_readGreater_45 hd9 C _ _ _ hR _ h
  · refine x_aload_n C dX11_readGreater_33 rfl ?_
    obtain ⟨q6, hq6, h⟩ := x_bind h
    refine x_callVI C dX11_readGreater_34 (xin_21 _ (List.mem_of_getElem? (i := 14) rfl)) xy_X11_value (xi_X11_value) (xs_X11_value) (by omega) (by decide) (b := 0) rfl ⟨_, _, rfl⟩ (av := []) rfl (Nat.le_of_ble_eq_true rfl) (c_m_value _ _ _ hq6) rfl ?_
    refine x_iload_n C dX11_readGreater_37 rfl ?_
    refine x_iload_n C dX11_readGreater_38 rfl ?_
    obtain ⟨q7, hq7, h⟩ := x_bind h
    refine x_callSp C dX11_readGreater_39 (xin_18 _ (List.mem_of_getElem? (i := 19) rfl)) xy_X11_inRange (xt_X11_inRange) [] xv_49 (by omega) (by decide) (av := [.inl q6, .inl a, .inl b]) rfl (Nat.le_of_ble_eq_true rfl) (c_m_inRange _ _ _ _ _ _ hq7) rfl ?_
    refine x_if_eq C 49 dX11_readGreater_42 (by decide) h (fun h => ?_) (fun h => ?_)
    · refine x_iconst C dX11_readGreater_49 ?_
      refine x_loc [(0, .inr (.inr (some 0))), (3, .inl t)] ⟨rfl, rfl, trivial⟩ ?_
      exact t_m_readGreater_50 hd9 C _ _ _ hR _ _ h
    · refine x_loc [(0, .inr (.inr (some 0))), (3, .inl t)] ⟨rfl, rfl, trivial⟩ ?_
      exact t_m_readGreater_45 hd9 C _ _ _ hR _ h
def f_m_readGreater_16 (a : Int) (b : Int) (t : Int) (m : xM) : Option (Int × xM) :=
     f_m_readGreater_21 a b t 1 m
set_option maxRecDepth 1000000 in
set_option maxHeartbeats 4000000 in
theorem t_m_readGreater_16 {Γ : xG} {d : Nat} (hd9 : 5 ≤ d) (C : xC Γ lay_M RX11 cX11_readGreater 5 d) (a : Int) (b : Int) (t : Int) {r : Int} {m9 : xM} (hR : xRi Γ lay_M cX11_readGreater r m9) (m : xM) (h : f_m_readGreater_16 a b t m = some (r, m9)) : xW Γ lay_M 5 16 [(0, .inr (.inr (some 0))), (1, .inl a), (2, .inl b), (3, .inl t)] [.inr (.inr (some 0))] m := by
  unfold f_m_readGreater_16 at h
  refine x_iconst C dX11_readGreater_16 ?_
  refine x_goto C 21 dX11_readGreater_17 (by decide) ?_
  refine x_loc [(0, .inr (.inr (some 0))), (1, .inl a), (2, .inl b), (3, .inl t)] ⟨rfl, rfl, rfl, rfl, trivial⟩ ?_
  exact t_m_readGreater_21 hd9 C _ _ _ hR _ _ h
def f_m_readGreater (a : Int) (b : Int) (t : Int) (m : xM) : Option (Int × xM) :=
     (if xw (m 0 18) = 0 then (if xw (m 0 17) = xw 2 then f_m_readGreater_16 a b t m
      else f_m_readGreater_21 a b t 0 m)
      else f_m_readGreater_16 a b t m)
set_option maxRecDepth 1000000 in
set_option maxHeartbeats 4000000 in
theorem t_m_readGreater {Γ : xG} {d : Nat} (hd9 : 5 ≤ d) (C : xC Γ lay_M RX11 cX11_readGreater 5 d) (a : Int) (b : Int) (t : Int) {r : Int} {m9 : xM} (hR : xRi Γ lay_M cX11_readGreater r m9) (m : xM) (h : f_m_readGreater a b t m = some (r, m9)) : xW Γ lay_M 5 0 [(0, .inr (.inr (some 0))), (1, .inl a), (2, .inl b), (3, .inl t)] [] m := by
  unfold f_m_readGreater at h
  refine x_aload_n C dX11_readGreater_0 rfl ?_
  refine x_aload_n C dX11_readGreater_1 rfl ?_
  refine x_getI C dX11_readGreater_2 fF_X11_301 rfl rfl ?_
  refine x_if_ne C 16 dX11_readGreater_5 (by decide) h (fun h => ?_) (fun h => ?_)
  · refine x_loc [(0, .inr (.inr (some 0))), (1, .inl a), (2, .inl b), (3, .inl t)] ⟨rfl, rfl, rfl, rfl, trivial⟩ ?_
    exact t_m_readGreater_16 hd9 C _ _ _ hR _ h
  · refine x_aload_n C dX11_readGreater_8 rfl ?_
    refine x_getI C dX11_readGreater_9 fF_X11_292 rfl rfl ?_
    refine x_iconst C dX11_readGreater_12 ?_
    refine x_icmp_ne C 20 dX11_readGreater_13 (by decide) h (fun h => ?_) (fun h => ?_)
    · refine x_iconst C dX11_readGreater_20 ?_
      refine x_loc [(0, .inr (.inr (some 0))), (1, .inl a), (2, .inl b), (3, .inl t)] ⟨rfl, rfl, rfl, rfl, trivial⟩ ?_
      exact t_m_readGreater_21 hd9 C _ _ _ hR _ _ h
    · refine x_loc [(0, .inr (.inr (some 0))), (1, .inl a), (2, .inl b), (3, .inl t)] ⟨rfl, rfl, rfl, rfl, trivial⟩ ?_
      exact t_m_readGreater_16 hd9 C _ _ _ hR _ h
theorem c_m_readGreater (l : Launch) (a : Int) (b : Int) (t : Int) (m : xM) (r : Int) (m9 : xM) (h : f_m_readGreater a b t m = some (r, m9)) : xMet l yX11_readGreater cX11_readGreater 5 (some .int) 5 lay_M [.inr (.inr (some 0)), .inl a, .inl b, .inl t] m (some (.inl r)) m9 :=
  xMet_i (by decide +kernel) (Nat.le_of_ble_eq_true rfl) (fun Γ C hR hl9 => t_m_readGreater (Nat.le_refl _) C a b t hR m h)

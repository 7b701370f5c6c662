/-! ===== yX10_receivedBehind ===== -/
def h_X_receivedBehind_16 (e : Int) (z : Int) (m : xM) : Option (Nat) :=
     some 1
set_option maxRecDepth 1000000 in
set_option maxHeartbeats 4000000 in
theorem t_h_X_receivedBehind_16 {Γ : xG} {d : Nat} (hd9 : 7 ≤ d) (C : xC Γ lay_X RX10 cX10_receivedBehind 3 d) (CT : xCT Γ) (e : Int) (z : Int) {r : Nat} {m : xM} (hR : xRt Γ lay_X m (xEx r)) (h : h_X_receivedBehind_16 e z m = some r) : xW Γ lay_X 3 16 [] [] m := by
  unfold h_X_receivedBehind_16 at h
  exact x_throwW C CT hR (by omega) xe_1 (is := 294) (text := "no such number of ticks") (List.mem_of_getElem? (i := 10) rfl) dX10_receivedBehind_16 dX10_receivedBehind_19 dX10_receivedBehind_20 dX10_receivedBehind_23 dX10_receivedBehind_26 h
def h_X_receivedBehind (e : Int) (z : Int) (m : xM) : Option (Nat) :=
     (xthr (h_X_checkEnd e m) (Option.bind (f_X_checkEnd e m) fun q0 =>
      (if xw z < 0 then h_X_receivedBehind_16 e z m
      else (if xw 400 < xw z then h_X_receivedBehind_16 e z m
      else none))))
set_option maxRecDepth 1000000 in
set_option maxHeartbeats 4000000 in
theorem t_h_X_receivedBehind {Γ : xG} {d : Nat} (hd9 : 7 ≤ d) (C : xC Γ lay_X RX10 cX10_receivedBehind 3 d) (CT : xCT Γ) (e : Int) (z : Int) {r : Nat} {m : xM} (hR : xRt Γ lay_X m (xEx r)) (h : h_X_receivedBehind e z m = some r) : xW Γ lay_X 3 0 [(0, .inr (.inr (some 0))), (1, .inl e), (2, .inl z)] [] m := by
  unfold h_X_receivedBehind at h
  refine x_aload_n C dX10_receivedBehind_0 rfl ?_
  refine x_iload_n C dX10_receivedBehind_1 rfl ?_
  rcases x_thr h with h9 | h
  · exact x_callVIT C CT hR dX10_receivedBehind_2 (xin_26 _ (List.mem_of_getElem? (i := 23) rfl)) xy_X10_checkEnd (xi_X10_checkEnd) (xs_X10_checkEnd) (by omega) (by decide) (b := 0) rfl ⟨_, _, rfl⟩ (av := [.inl e]) rfl (Nat.le_of_ble_eq_true rfl) (ch_X_checkEnd _ (xCT_l CT) _ _ _ h9) rfl
  obtain ⟨q0, hq0, h⟩ := x_bind h
  refine x_callVI C dX10_receivedBehind_2 (xin_26 _ (List.mem_of_getElem? (i := 23) rfl)) xy_X10_checkEnd (xi_X10_checkEnd) (xs_X10_checkEnd) (by omega) (by decide) (b := 0) rfl ⟨_, _, rfl⟩ (av := [.inl e]) rfl (Nat.le_of_ble_eq_true rfl) (c_X_checkEnd _ _ _ _ hq0) rfl ?_
  refine x_iload_n C dX10_receivedBehind_5 rfl ?_
  refine x_if_lt C 16 dX10_receivedBehind_6 (by decide) h (fun h => ?_) (fun h => ?_)
  · refine x_loc [] trivial ?_
    exact t_h_X_receivedBehind_16 hd9 C CT _ _ hR h
  · refine x_iload_n C dX10_receivedBehind_9 rfl ?_
    refine x_sipush C dX10_receivedBehind_10 (by decide) ?_
    refine x_icmp_le C 27 dX10_receivedBehind_13 (by decide) h (fun h => ?_) (fun h => ?_)
    · cases h
    · refine x_loc [] trivial ?_
      exact t_h_X_receivedBehind_16 hd9 C CT _ _ hR h
theorem ch_X_receivedBehind (l : Launch) (hl : l.stackTraces = false) (e : Int) (z : Int) (m : xM) (r : Nat) (h : h_X_receivedBehind e z m = some r) : xMetT l yX10_receivedBehind cX10_receivedBehind 3 (some .int) 7 lay_X [.inr (.inr (some 0)), .inl e, .inl z] m (xEx r) :=
  xMet_T hl (by decide +kernel) (Nat.le_of_ble_eq_true rfl) (fun Γ C CT hR hl9 => t_h_X_receivedBehind (Nat.le_refl _) C CT e z hR h)
/-! ===== yX10_leastQuality ===== -/
theorem dX10_leastQuality_0 : decode cX10_leastQuality 0 = .ok (.iconst 0, 1) := by decide +kernel
theorem dX10_leastQuality_1 : decode cX10_leastQuality 1 = .ok (.istore_n 1, 1) := by decide +kernel
theorem dX10_leastQuality_2 : decode cX10_leastQuality 2 = .ok (.iload_n 1, 1) := by decide +kernel
theorem dX10_leastQuality_3 : decode cX10_leastQuality 3 = .ok (.bipush 9, 2) := by decide +kernel
theorem dX10_leastQuality_5 : decode cX10_leastQuality 5 = .ok (.if_icmp .gt 41, 3) := by decide +kernel
theorem dX10_leastQuality_8 : decode cX10_leastQuality 8 = .ok (.aload_n 0, 1) := by decide +kernel
theorem dX10_leastQuality_9 : decode cX10_leastQuality 9 = .ok (.getfield 31, 3) := by decide +kernel
theorem dX10_leastQuality_12 : decode cX10_leastQuality 12 = .ok (.aload_n 0, 1) := by decide +kernel
theorem dX10_leastQuality_13 : decode cX10_leastQuality 13 = .ok (.getfield 27, 3) := by decide +kernel
theorem dX10_leastQuality_16 : decode cX10_leastQuality 16 = .ok (.invokevirtual 288, 3) := by decide +kernel
theorem dX10_leastQuality_19 : decode cX10_leastQuality 19 = .ok (.aload_n 0, 1) := by decide +kernel
theorem dX10_leastQuality_20 : decode cX10_leastQuality 20 = .ok (.getfield 31, 3) := by decide +kernel
theorem dX10_leastQuality_23 : decode cX10_leastQuality 23 = .ok (.iload_n 1, 1) := by decide +kernel
theorem dX10_leastQuality_24 : decode cX10_leastQuality 24 = .ok (.putfield 142, 3) := by decide +kernel
theorem dX10_leastQuality_27 : decode cX10_leastQuality 27 = .ok (.aload_n 0, 1) := by decide +kernel
theorem dX10_leastQuality_28 : decode cX10_leastQuality 28 = .ok (.getfield 31, 3) := by decide +kernel
theorem dX10_leastQuality_31 : decode cX10_leastQuality 31 = .ok (.invokevirtual 291, 3) := by decide +kernel
theorem dX10_leastQuality_34 : decode cX10_leastQuality 34 = .ok (.iconst (-1), 1) := by decide +kernel
theorem dX10_leastQuality_35 : decode cX10_leastQuality 35 = .ok (.if_icmp .eq 5, 3) := by decide +kernel
theorem dX10_leastQuality_38 : decode cX10_leastQuality 38 = .ok (.iload_n 1, 1) := by decide +kernel
theorem dX10_leastQuality_39 : decode cX10_leastQuality 39 = .ok (.ireturn, 1) := by decide +kernel
theorem dX10_leastQuality_40 : decode cX10_leastQuality 40 = .ok (.iinc 1 1, 3) := by decide +kernel
theorem dX10_leastQuality_43 : decode cX10_leastQuality 43 = .ok (.goto (-41), 3) := by decide +kernel
theorem dX10_leastQuality_46 : decode cX10_leastQuality 46 = .ok (.iconst (-1), 1) := by decide +kernel
theorem dX10_leastQuality_47 : decode cX10_leastQuality 47 = .ok (.ireturn, 1) := by decide +kernel
def f_X_leastQuality_2 : Nat → Int → xM → Option (Int × xM)
  | 0, _, _ => none
  | n + 1, x1, m =>
     (if xw 9 < xw x1 then some ((-1), m)
      else (Option.bind (f_L_cp (xvw xT_3 m)) fun q0 =>
      (Option.bind (f_L_runToFinish (xvw xT_4 (xu (xmg xT_3 66 m q0) 44 9 x1))) fun q1 =>
      (if xw q1.1 = xw (-1) then f_X_leastQuality_2 n (x1 + 1) (xmg xT_4 38 (xu (xmg xT_3 66 m q0) 44 9 x1) q1.2)
      else some (x1, (xmg xT_4 38 (xu (xmg xT_3 66 m q0) 44 9 x1) q1.2))))))
set_option maxRecDepth 1000000 in
set_option maxHeartbeats 4000000 in
theorem t_X_leastQuality_2 {Γ : xG} {d : Nat} (hd9 : 8 ≤ d) (C : xC Γ lay_X RX10 cX10_leastQuality 2 d) {r : Int} {m9 : xM} (hR : xRi Γ lay_X cX10_leastQuality r m9) : ∀ (n : Nat) (x1 : Int) (m : xM), f_X_leastQuality_2 n x1 m = some (r, m9) → xW Γ lay_X 2 2 [(0, .inr (.inr (some 0))), (1, .inl x1)] [] m := by
  intro n
  induction n with
  | zero => intro _ _ h; cases h
  | succ n ih =>
    intro x1 m h
    rw [f_X_leastQuality_2] at h
    refine x_iload_n C dX10_leastQuality_2 rfl ?_
    refine x_bipush C dX10_leastQuality_3 (by decide) ?_
    refine x_icmp_gt C 46 dX10_leastQuality_5 (by decide) h (fun h => ?_) (fun h => ?_)
    · refine x_iconst C dX10_leastQuality_46 ?_
      exact x_ireturn hR dX10_leastQuality_47 h
    · refine x_aload_n C dX10_leastQuality_8 rfl ?_
      refine x_getR C dX10_leastQuality_9 fF_X10_31 rfl rfl ?_
      refine x_aload_n C dX10_leastQuality_12 rfl ?_
      refine x_getR C dX10_leastQuality_13 fF_X10_27 rfl rfl ?_
      obtain ⟨q0, hq0, h⟩ := x_bind h
      refine x_callV0 C dX10_leastQuality_16 (xin_35 _ (List.mem_of_getElem? (i := 9) rfl)) xy_X3_copyFrom (xi_X3_copyFrom) (xs_X3_copyFrom) xT_2 xv_68 (T0 := xT_3) rfl (by omega) (by decide) (b := 0) rfl ⟨_, _, rfl⟩ (av := [.inr (.inr (some 33))]) rfl (Nat.le_of_ble_eq_true rfl) (c_L_cp _ _ _ hq0) rfl ?_
      refine x_aload_n C dX10_leastQuality_19 rfl ?_
      refine x_getR C dX10_leastQuality_20 fF_X10_31 rfl rfl ?_
      refine x_iload_n C dX10_leastQuality_23 rfl ?_
      refine x_putI C dX10_leastQuality_24 fF_X10_142 rfl rfl ?_
      refine x_aload_n C dX10_leastQuality_27 rfl ?_
      refine x_getR C dX10_leastQuality_28 fF_X10_31 rfl rfl ?_
      obtain ⟨q1, hq1, h⟩ := x_bind h
      refine x_callV C dX10_leastQuality_31 (xin_36 _ (List.mem_of_getElem? (i := 19) rfl)) xy_X3_runToFinish (xi_X3_runToFinish) (xs_X3_runToFinish) xT_4 xv_69 (by omega) (by decide) (b := 0) rfl ⟨_, _, rfl⟩ (av := []) rfl (Nat.le_of_ble_eq_true rfl) (c_L_runToFinish _ _ q1.1 q1.2 hq1) rfl ?_
      refine x_iconst C dX10_leastQuality_34 ?_
      refine x_icmp_eq C 40 dX10_leastQuality_35 (by decide) h (fun h => ?_) (fun h => ?_)
      · refine x_iinc C dX10_leastQuality_40 (by decide) rfl ?_
        refine x_goto C 2 dX10_leastQuality_43 (by decide) ?_
        refine x_loc [(0, .inr (.inr (some 0))), (1, .inl (x1 + 1))] ⟨rfl, rfl, trivial⟩ ?_
        exact ih _ _ h
      · refine x_iload_n C dX10_leastQuality_38 rfl ?_
        exact x_ireturn hR dX10_leastQuality_39 h
def f_X_leastQuality (m : xM) : Option (Int × xM) :=
     f_X_leastQuality_2 fu 0 m
set_option maxRecDepth 1000000 in
set_option maxHeartbeats 4000000 in
theorem t_X_leastQuality {Γ : xG} {d : Nat} (hd9 : 8 ≤ d) (C : xC Γ lay_X RX10 cX10_leastQuality 2 d) {r : Int} {m9 : xM} (hR : xRi Γ lay_X cX10_leastQuality r m9) (m : xM) (h : f_X_leastQuality m = some (r, m9)) : xW Γ lay_X 2 0 [(0, .inr (.inr (some 0)))] [] m := by
  unfold f_X_leastQuality at h
  refine x_iconst C dX10_leastQuality_0 ?_
  refine x_istore_n C dX10_leastQuality_1 (by decide) ?_
  refine x_loc [(0, .inr (.inr (some 0))), (1, .inl 0)] ⟨rfl, rfl, trivial⟩ ?_
  exact t_X_leastQuality_2 hd9 C hR fu _ _ h
theorem c_X_leastQuality (l : Launch) (m : xM) (r : Int) (m9 : xM) (h : f_X_leastQuality m = some (r, m9)) : xMet l yX10_leastQuality cX10_leastQuality 2 (some .int) 8 lay_X [.inr (.inr (some 0))] m (some (.inl r)) m9 :=
  xMet_i (by decide +kernel) (Nat.le_of_ble_eq_true rfl) (fun Γ C hR hl9 => t_X_leastQuality (Nat.le_refl _) C hR m h)
/-! ===== yX10_remember ===== -/
theorem fF_X10_37 : xF RX10 37 12 6 (.array (.object "ModemLink$Line")) true := ⟨RX10, TX10, 16, tyX10, rfl, by decide, (xin_2 _ (List.mem_of_getElem? (i := 0) rfl)), rfl, inlX10, tyX10_ok, nmX10, rfl, rfl⟩
theorem fF_X10_303 : xF RX10 303 12 8 .int false := ⟨RX10, TX10, 16, tyX10, rfl, by decide, (xin_51 _ (List.mem_of_getElem? (i := 6) rfl)), rfl, inlX10, tyX10_ok, nmX10, rfl, rfl⟩
def xT_5 : List Nat := [110, 111, 112, 113, 114, 115, 116, 117, 118, 119, 120, 121, 122, 123, 124, 125, 126, 127, 128, 129, 130, 131, 132, 133, 134, 135, 136, 137, 138, 139, 140, 141, 142, 11, 12, 13, 14, 15, 16, 17, 18, 19, 20, 21, 22, 23, 24, 25, 26, 27, 28, 29, 30, 31, 32, 33, 34, 35, 36, 37, 38, 39, 40, 41, 42, 43, 1]
theorem xv_71 : xview lay_X lay_LL xT_5 := xview_of (by decide +kernel)
def xT_6 : List Nat := [110, 111, 112, 113, 114, 115, 116, 117, 118, 119, 120, 121, 122, 123, 124, 125, 126, 127, 128, 129, 130, 131, 132, 133, 134, 135, 136, 137, 138, 139, 140, 141, 142, 11, 12, 13, 14, 15, 16, 17, 18, 19, 20, 21, 22, 23, 24, 25, 26, 27, 28, 29, 30, 31, 32, 33, 34, 35, 36, 37, 38, 39, 40, 41, 42, 43]
theorem fF_X10_120 : xF RX10 120 12 7 .int false := ⟨RX10, TX10, 16, tyX10, rfl, by decide, (xin_10 _ (List.mem_of_getElem? (i := 21) rfl)), rfl, inlX10, tyX10_ok, nmX10, rfl, rfl⟩
def xT_7 : List Nat := [143, 144, 145, 146, 147, 148, 149, 150, 151, 152, 153, 154, 155, 156, 157, 158, 159, 160, 161, 162, 163, 164, 165, 166, 167, 168, 169, 170, 171, 172, 173, 174, 175, 11, 12, 13, 14, 15, 16, 17, 18, 19, 20, 21, 22, 23, 24, 25, 26, 27, 28, 29, 30, 31, 32, 33, 34, 35, 36, 37, 38, 39, 40, 41, 42, 43, 1]
theorem xv_72 : xview lay_X lay_LL xT_7 := xview_of (by decide +kernel)
def xT_8 : List Nat := [143, 144, 145, 146, 147, 148, 149, 150, 151, 152, 153, 154, 155, 156, 157, 158, 159, 160, 161, 162, 163, 164, 165, 166, 167, 168, 169, 170, 171, 172, 173, 174, 175, 11, 12, 13, 14, 15, 16, 17, 18, 19, 20, 21, 22, 23, 24, 25, 26, 27, 28, 29, 30, 31, 32, 33, 34, 35, 36, 37, 38, 39, 40, 41, 42, 43]
def xT_9 : List Nat := [176, 177, 178, 179, 180, 181, 182, 183, 184, 185, 186, 187, 188, 189, 190, 191, 192, 193, 194, 195, 196, 197, 198, 199, 200, 201, 202, 203, 204, 205, 206, 207, 208, 11, 12, 13, 14, 15, 16, 17, 18, 19, 20, 21, 22, 23, 24, 25, 26, 27, 28, 29, 30, 31, 32, 33, 34, 35, 36, 37, 38, 39, 40, 41, 42, 43, 1]
theorem xv_73 : xview lay_X lay_LL xT_9 := xview_of (by decide +kernel)
def xT_10 : List Nat := [176, 177, 178, 179, 180, 181, 182, 183, 184, 185, 186, 187, 188, 189, 190, 191, 192, 193, 194, 195, 196, 197, 198, 199, 200, 201, 202, 203, 204, 205, 206, 207, 208, 11, 12, 13, 14, 15, 16, 17, 18, 19, 20, 21, 22, 23, 24, 25, 26, 27, 28, 29, 30, 31, 32, 33, 34, 35, 36, 37, 38, 39, 40, 41, 42, 43]
def xT_11 : List Nat := [209, 210, 211, 212, 213, 214, 215, 216, 217, 218, 219, 220, 221, 222, 223, 224, 225, 226, 227, 228, 229, 230, 231, 232, 233, 234, 235, 236, 237, 238, 239, 240, 241, 11, 12, 13, 14, 15, 16, 17, 18, 19, 20, 21, 22, 23, 24, 25, 26, 27, 28, 29, 30, 31, 32, 33, 34, 35, 36, 37, 38, 39, 40, 41, 42, 43, 1]
theorem xv_74 : xview lay_X lay_LL xT_11 := xview_of (by decide +kernel)
def xT_12 : List Nat := [209, 210, 211, 212, 213, 214, 215, 216, 217, 218, 219, 220, 221, 222, 223, 224, 225, 226, 227, 228, 229, 230, 231, 232, 233, 234, 235, 236, 237, 238, 239, 240, 241, 11, 12, 13, 14, 15, 16, 17, 18, 19, 20, 21, 22, 23, 24, 25, 26, 27, 28, 29, 30, 31, 32, 33, 34, 35, 36, 37, 38, 39, 40, 41, 42, 43]
def xT_13 : List Nat := [242, 243, 244, 245, 246, 247, 248, 249, 250, 251, 252, 253, 254, 255, 256, 257, 258, 259, 260, 261, 262, 263, 264, 265, 266, 267, 268, 269, 270, 271, 272, 273, 274, 11, 12, 13, 14, 15, 16, 17, 18, 19, 20, 21, 22, 23, 24, 25, 26, 27, 28, 29, 30, 31, 32, 33, 34, 35, 36, 37, 38, 39, 40, 41, 42, 43, 1]
theorem xv_75 : xview lay_X lay_LL xT_13 := xview_of (by decide +kernel)
def xT_14 : List Nat := [242, 243, 244, 245, 246, 247, 248, 249, 250, 251, 252, 253, 254, 255, 256, 257, 258, 259, 260, 261, 262, 263, 264, 265, 266, 267, 268, 269, 270, 271, 272, 273, 274, 11, 12, 13, 14, 15, 16, 17, 18, 19, 20, 21, 22, 23, 24, 25, 26, 27, 28, 29, 30, 31, 32, 33, 34, 35, 36, 37, 38, 39, 40, 41, 42, 43]
def xT_15 : List Nat := [275, 276, 277, 278, 279, 280, 281, 282, 283, 284, 285, 286, 287, 288, 289, 290, 291, 292, 293, 294, 295, 296, 297, 298, 299, 300, 301, 302, 303, 304, 305, 306, 307, 11, 12, 13, 14, 15, 16, 17, 18, 19, 20, 21, 22, 23, 24, 25, 26, 27, 28, 29, 30, 31, 32, 33, 34, 35, 36, 37, 38, 39, 40, 41, 42, 43, 1]
theorem xv_76 : xview lay_X lay_LL xT_15 := xview_of (by decide +kernel)
def xT_16 : List Nat := [275, 276, 277, 278, 279, 280, 281, 282, 283, 284, 285, 286, 287, 288, 289, 290, 291, 292, 293, 294, 295, 296, 297, 298, 299, 300, 301, 302, 303, 304, 305, 306, 307, 11, 12, 13, 14, 15, 16, 17, 18, 19, 20, 21, 22, 23, 24, 25, 26, 27, 28, 29, 30, 31, 32, 33, 34, 35, 36, 37, 38, 39, 40, 41, 42, 43]
def xT_17 : List Nat := [308, 309, 310, 311, 312, 313, 314, 315, 316, 317, 318, 319, 320, 321, 322, 323, 324, 325, 326, 327, 328, 329, 330, 331, 332, 333, 334, 335, 336, 337, 338, 339, 340, 11, 12, 13, 14, 15, 16, 17, 18, 19, 20, 21, 22, 23, 24, 25, 26, 27, 28, 29, 30, 31, 32, 33, 34, 35, 36, 37, 38, 39, 40, 41, 42, 43, 1]
theorem xv_77 : xview lay_X lay_LL xT_17 := xview_of (by decide +kernel)
def xT_18 : List Nat := [308, 309, 310, 311, 312, 313, 314, 315, 316, 317, 318, 319, 320, 321, 322, 323, 324, 325, 326, 327, 328, 329, 330, 331, 332, 333, 334, 335, 336, 337, 338, 339, 340, 11, 12, 13, 14, 15, 16, 17, 18, 19, 20, 21, 22, 23, 24, 25, 26, 27, 28, 29, 30, 31, 32, 33, 34, 35, 36, 37, 38, 39, 40, 41, 42, 43]
def xT_19 : List Nat := [341, 342, 343, 344, 345, 346, 347, 348, 349, 350, 351, 352, 353, 354, 355, 356, 357, 358, 359, 360, 361, 362, 363, 364, 365, 366, 367, 368, 369, 370, 371, 372, 373, 11, 12, 13, 14, 15, 16, 17, 18, 19, 20, 21, 22, 23, 24, 25, 26, 27, 28, 29, 30, 31, 32, 33, 34, 35, 36, 37, 38, 39, 40, 41, 42, 43, 1]
theorem xv_78 : xview lay_X lay_LL xT_19 := xview_of (by decide +kernel)
def xT_20 : List Nat := [341, 342, 343, 344, 345, 346, 347, 348, 349, 350, 351, 352, 353, 354, 355, 356, 357, 358, 359, 360, 361, 362, 363, 364, 365, 366, 367, 368, 369, 370, 371, 372, 373, 11, 12, 13, 14, 15, 16, 17, 18, 19, 20, 21, 22, 23, 24, 25, 26, 27, 28, 29, 30, 31, 32, 33, 34, 35, 36, 37, 38, 39, 40, 41, 42, 43]
def xT_21 : List Nat := [374, 375, 376, 377, 378, 379, 380, 381, 382, 383, 384, 385, 386, 387, 388, 389, 390, 391, 392, 393, 394, 395, 396, 397, 398, 399, 400, 401, 402, 403, 404, 405, 406, 11, 12, 13, 14, 15, 16, 17, 18, 19, 20, 21, 22, 23, 24, 25, 26, 27, 28, 29, 30, 31, 32, 33, 34, 35, 36, 37, 38, 39, 40, 41, 42, 43, 1]
theorem xv_79 : xview lay_X lay_LL xT_21 := xview_of (by decide +kernel)
def xT_22 : List Nat := [374, 375, 376, 377, 378, 379, 380, 381, 382, 383, 384, 385, 386, 387, 388, 389, 390, 391, 392, 393, 394, 395, 396, 397, 398, 399, 400, 401, 402, 403, 404, 405, 406, 11, 12, 13, 14, 15, 16, 17, 18, 19, 20, 21, 22, 23, 24, 25, 26, 27, 28, 29, 30, 31, 32, 33, 34, 35, 36, 37, 38, 39, 40, 41, 42, 43]
def xT_23 : List Nat := [407, 408, 409, 410, 411, 412, 413, 414, 415, 416, 417, 418, 419, 420, 421, 422, 423, 424, 425, 426, 427, 428, 429, 430, 431, 432, 433, 434, 435, 436, 437, 438, 439, 11, 12, 13, 14, 15, 16, 17, 18, 19, 20, 21, 22, 23, 24, 25, 26, 27, 28, 29, 30, 31, 32, 33, 34, 35, 36, 37, 38, 39, 40, 41, 42, 43, 1]
theorem xv_80 : xview lay_X lay_LL xT_23 := xview_of (by decide +kernel)
def xT_24 : List Nat := [407, 408, 409, 410, 411, 412, 413, 414, 415, 416, 417, 418, 419, 420, 421, 422, 423, 424, 425, 426, 427, 428, 429, 430, 431, 432, 433, 434, 435, 436, 437, 438, 439, 11, 12, 13, 14, 15, 16, 17, 18, 19, 20, 21, 22, 23, 24, 25, 26, 27, 28, 29, 30, 31, 32, 33, 34, 35, 36, 37, 38, 39, 40, 41, 42, 43]
theorem dX10_remember_0 : decode cX10_remember 0 = .ok (.aload_n 0, 1) := by decide +kernel
theorem dX10_remember_1 : decode cX10_remember 1 = .ok (.getfield 37, 3) := by decide +kernel
theorem dX10_remember_4 : decode cX10_remember 4 = .ok (.aload_n 0, 1) := by decide +kernel
theorem dX10_remember_5 : decode cX10_remember 5 = .ok (.getfield 303, 3) := by decide +kernel
theorem dX10_remember_8 : decode cX10_remember 8 = .ok (.aaload, 1) := by decide +kernel
theorem dX10_remember_9 : decode cX10_remember 9 = .ok (.aload_n 0, 1) := by decide +kernel
theorem dX10_remember_10 : decode cX10_remember 10 = .ok (.getfield 27, 3) := by decide +kernel
theorem dX10_remember_13 : decode cX10_remember 13 = .ok (.invokevirtual 288, 3) := by decide +kernel
theorem dX10_remember_16 : decode cX10_remember 16 = .ok (.aload_n 0, 1) := by decide +kernel
theorem dX10_remember_17 : decode cX10_remember 17 = .ok (.aload_n 0, 1) := by decide +kernel
theorem dX10_remember_18 : decode cX10_remember 18 = .ok (.getfield 303, 3) := by decide +kernel
theorem dX10_remember_21 : decode cX10_remember 21 = .ok (.iconst 1, 1) := by decide +kernel
theorem dX10_remember_22 : decode cX10_remember 22 = .ok (.iadd, 1) := by decide +kernel
theorem dX10_remember_23 : decode cX10_remember 23 = .ok (.bipush 10, 2) := by decide +kernel
theorem dX10_remember_25 : decode cX10_remember 25 = .ok (.if_icmp .ge 12, 3) := by decide +kernel
theorem dX10_remember_28 : decode cX10_remember 28 = .ok (.aload_n 0, 1) := by decide +kernel
theorem dX10_remember_29 : decode cX10_remember 29 = .ok (.getfield 303, 3) := by decide +kernel
theorem dX10_remember_32 : decode cX10_remember 32 = .ok (.iconst 1, 1) := by decide +kernel
theorem dX10_remember_33 : decode cX10_remember 33 = .ok (.iadd, 1) := by decide +kernel
theorem dX10_remember_34 : decode cX10_remember 34 = .ok (.goto 4, 3) := by decide +kernel
theorem dX10_remember_37 : decode cX10_remember 37 = .ok (.iconst 0, 1) := by decide +kernel
theorem dX10_remember_38 : decode cX10_remember 38 = .ok (.putfield 303, 3) := by decide +kernel
theorem dX10_remember_41 : decode cX10_remember 41 = .ok (.aload_n 0, 1) := by decide +kernel
theorem dX10_remember_42 : decode cX10_remember 42 = .ok (.aload_n 0, 1) := by decide +kernel
theorem dX10_remember_43 : decode cX10_remember 43 = .ok (.getfield 120, 3) := by decide +kernel
theorem dX10_remember_46 : decode cX10_remember 46 = .ok (.iconst 1, 1) := by decide +kernel
theorem dX10_remember_47 : decode cX10_remember 47 = .ok (.iadd, 1) := by decide +kernel
theorem dX10_remember_48 : decode cX10_remember 48 = .ok (.bipush 10, 2) := by decide +kernel
theorem dX10_remember_50 : decode cX10_remember 50 = .ok (.invokestatic 306, 3) := by decide +kernel
theorem dX10_remember_53 : decode cX10_remember 53 = .ok (.putfield 120, 3) := by decide +kernel
theorem dX10_remember_56 : decode cX10_remember 56 = .ok (.return_, 1) := by decide +kernel
def f_X_remember_38 (s0 : Int) (m : xM) : Option (xM) :=
     some (xu (xu m 0 8 s0) 0 7 (if xw 10 < xw ((m 0 7) + 1) then 10 else (m 0 7) + 1))
set_option maxRecDepth 1000000 in
set_option maxHeartbeats 4000000 in
theorem t_X_remember_38 {Γ : xG} {d : Nat} (hd9 : 4 ≤ d) (C : xC Γ lay_X RX10 cX10_remember 1 d) {m9 : xM} (hR : xRv Γ lay_X cX10_remember m9) (s0 : Int) (m : xM) (h : f_X_remember_38 s0 m = some m9) : xW Γ lay_X 1 38 [(0, .inr (.inr (some 0)))] [.inl s0, .inr (.inr (some 0))] m := by
  unfold f_X_remember_38 at h
  refine x_putI C dX10_remember_38 fF_X10_303 rfl rfl ?_
  refine x_aload_n C dX10_remember_41 rfl ?_
  refine x_aload_n C dX10_remember_42 rfl ?_
  refine x_getI C dX10_remember_43 fF_X10_120 rfl rfl ?_
  refine x_iconst C dX10_remember_46 ?_
  refine x_iadd C dX10_remember_47 ?_
  refine x_bipush C dX10_remember_48 (by decide) ?_
  refine x_min C dX10_remember_50 (xin_51 _ (List.mem_of_getElem? (i := 7) rfl)) gm_min_s gm_math gm_min_c (by omega) (Nat.le_of_ble_eq_true rfl) ?_
  refine x_putI C dX10_remember_53 fF_X10_120 rfl rfl ?_
  exact x_returnV hR dX10_remember_56 h
def f_X_remember (m : xM) : Option (xM) :=
     (if xw (m 0 8) = 0 then (Option.bind (f_L_cp (xvw xT_6 m)) fun q0 =>
      (if xw (((xmg xT_6 66 m q0) 0 8) + 1) < xw 10 then f_X_remember_38 (((xmg xT_6 66 m q0) 0 8) + 1) (xmg xT_6 66 m q0)
      else f_X_remember_38 0 (xmg xT_6 66 m q0)))
      else (if xw (m 0 8) = 1 then (Option.bind (f_L_cp (xvw xT_8 m)) fun q1 =>
      (if xw (((xmg xT_8 66 m q1) 0 8) + 1) < xw 10 then f_X_remember_38 (((xmg xT_8 66 m q1) 0 8) + 1) (xmg xT_8 66 m q1)
      else f_X_remember_38 0 (xmg xT_8 66 m q1)))
      else (if xw (m 0 8) = 2 then (Option.bind (f_L_cp (xvw xT_10 m)) fun q2 =>
      (if xw (((xmg xT_10 66 m q2) 0 8) + 1) < xw 10 then f_X_remember_38 (((xmg xT_10 66 m q2) 0 8) + 1) (xmg xT_10 66 m q2)
      else f_X_remember_38 0 (xmg xT_10 66 m q2)))
      else (if xw (m 0 8) = 3 then (Option.bind (f_L_cp (xvw xT_12 m)) fun q3 =>
      (if xw (((xmg xT_12 66 m q3) 0 8) + 1) < xw 10 then f_X_remember_38 (((xmg xT_12 66 m q3) 0 8) + 1) (xmg xT_12 66 m q3)
      else f_X_remember_38 0 (xmg xT_12 66 m q3)))
      else (if xw (m 0 8) = 4 then (Option.bind (f_L_cp (xvw xT_14 m)) fun q4 =>
      (if xw (((xmg xT_14 66 m q4) 0 8) + 1) < xw 10 then f_X_remember_38 (((xmg xT_14 66 m q4) 0 8) + 1) (xmg xT_14 66 m q4)
      else f_X_remember_38 0 (xmg xT_14 66 m q4)))
      else (if xw (m 0 8) = 5 then (Option.bind (f_L_cp (xvw xT_16 m)) fun q5 =>
      (if xw (((xmg xT_16 66 m q5) 0 8) + 1) < xw 10 then f_X_remember_38 (((xmg xT_16 66 m q5) 0 8) + 1) (xmg xT_16 66 m q5)
      else f_X_remember_38 0 (xmg xT_16 66 m q5)))
      else (if xw (m 0 8) = 6 then (Option.bind (f_L_cp (xvw xT_18 m)) fun q6 =>
      (if xw (((xmg xT_18 66 m q6) 0 8) + 1) < xw 10 then f_X_remember_38 (((xmg xT_18 66 m q6) 0 8) + 1) (xmg xT_18 66 m q6)
      else f_X_remember_38 0 (xmg xT_18 66 m q6)))
      else (if xw (m 0 8) = 7 then (Option.bind (f_L_cp (xvw xT_20 m)) fun q7 =>
      (if xw (((xmg xT_20 66 m q7) 0 8) + 1) < xw 10 then f_X_remember_38 (((xmg xT_20 66 m q7) 0 8) + 1) (xmg xT_20 66 m q7)
      else f_X_remember_38 0 (xmg xT_20 66 m q7)))
      else (if xw (m 0 8) = 8 then (Option.bind (f_L_cp (xvw xT_22 m)) fun q8 =>
      (if xw (((xmg xT_22 66 m q8) 0 8) + 1) < xw 10 then f_X_remember_38 (((xmg xT_22 66 m q8) 0 8) + 1) (xmg xT_22 66 m q8)
      else f_X_remember_38 0 (xmg xT_22 66 m q8)))
      else (if xw (m 0 8) = 9 then (Option.bind (f_L_cp (xvw xT_24 m)) fun q9 =>
      (if xw (((xmg xT_24 66 m q9) 0 8) + 1) < xw 10 then f_X_remember_38 (((xmg xT_24 66 m q9) 0 8) + 1) (xmg xT_24 66 m q9)
      else f_X_remember_38 0 (xmg xT_24 66 m q9)))
      else none))))))))))
set_option maxRecDepth 1000000 in
set_option maxHeartbeats 4000000 in
theorem t_X_remember {Γ : xG} {d : Nat} (hd9 : 4 ≤ d) (C : xC Γ lay_X RX10 cX10_remember 1 d) {m9 : xM} (hR : xRv Γ lay_X cX10_remember m9) (m : xM) (h : f_X_remember m = some m9) : xW Γ lay_X 1 0 [(0, .inr (.inr (some 0)))] [] m := by
  unfold f_X_remember at h
  refine x_aload_n C dX10_remember_0 rfl ?_
  refine x_getR C dX10_remember_1 fF_X10_37 rfl rfl ?_
  refine x_aload_n C dX10_remember_4 rfl ?_
  refine x_getI C dX10_remember_5 fF_X10_303 rfl rfl ?_
  refine x_ite h (fun hc0 h => ?_) (fun hc0 h => ?_)
  · refine x_aaload C dX10_remember_8 (t := 0) (fun _ => rfl) rfl (x_pk (k := 0) hc0 (by decide)).1 (show [110, 143, 176, 209, 242, 275, 308, 341, 374, 407][xix (m 0 8)]? = some 110 by rw [(x_pk (k := 0) (n := 10) hc0 (by decide)).2]; rfl) ?_
    refine x_aload_n C dX10_remember_9 rfl ?_
    refine x_getR C dX10_remember_10 fF_X10_27 rfl rfl ?_
    obtain ⟨q0, hq0, h⟩ := x_bind h
    refine x_callV0 C dX10_remember_13 (xin_35 _ (List.mem_of_getElem? (i := 9) rfl)) xy_X3_copyFrom (xi_X3_copyFrom) (xs_X3_copyFrom) xT_5 xv_71 (T0 := xT_6) rfl (by omega) (by decide) (b := 0) rfl ⟨_, _, rfl⟩ (av := [.inr (.inr (some 33))]) rfl (Nat.le_of_ble_eq_true rfl) (c_L_cp _ _ _ hq0) rfl ?_
    refine x_aload_n C dX10_remember_16 rfl ?_
    refine x_aload_n C dX10_remember_17 rfl ?_
    refine x_getI C dX10_remember_18 fF_X10_303 rfl rfl ?_
    refine x_iconst C dX10_remember_21 ?_
    refine x_iadd C dX10_remember_22 ?_
    refine x_bipush C dX10_remember_23 (by decide) ?_
    refine x_icmp_ge C 37 dX10_remember_25 (by decide) h (fun h => ?_) (fun h => ?_)
    · refine x_iconst C dX10_remember_37 ?_
      refine x_loc [(0, .inr (.inr (some 0)))] ⟨rfl, trivial⟩ ?_
      exact t_X_remember_38 hd9 C hR _ _ h
    · refine x_aload_n C dX10_remember_28 rfl ?_
      refine x_getI C dX10_remember_29 fF_X10_303 rfl rfl ?_
      refine x_iconst C dX10_remember_32 ?_
      refine x_iadd C dX10_remember_33 ?_
      refine x_goto C 38 dX10_remember_34 (by decide) ?_
      refine x_loc [(0, .inr (.inr (some 0)))] ⟨rfl, trivial⟩ ?_
      exact t_X_remember_38 hd9 C hR _ _ h
  refine x_ite h (fun hc1 h => ?_) (fun hc1 h => ?_)
  · refine x_aaload C dX10_remember_8 (t := 0) (fun _ => rfl) rfl (x_pk (k := 1) hc1 (by decide)).1 (show [110, 143, 176, 209, 242, 275, 308, 341, 374, 407][xix (m 0 8)]? = some 143 by rw [(x_pk (k := 1) (n := 10) hc1 (by decide)).2]; rfl) ?_
    refine x_aload_n C dX10_remember_9 rfl ?_
    refine x_getR C dX10_remember_10 fF_X10_27 rfl rfl ?_
    obtain ⟨q1, hq1, h⟩ := x_bind h
    refine x_callV0 C dX10_remember_13 (xin_35 _ (List.mem_of_getElem? (i := 9) rfl)) xy_X3_copyFrom (xi_X3_copyFrom) (xs_X3_copyFrom) xT_7 xv_72 (T0 := xT_8) rfl (by omega) (by decide) (b := 0) rfl ⟨_, _, rfl⟩ (av := [.inr (.inr (some 33))]) rfl (Nat.le_of_ble_eq_true rfl) (c_L_cp _ _ _ hq1) rfl ?_
    refine x_aload_n C dX10_remember_16 rfl ?_
    refine x_aload_n C dX10_remember_17 rfl ?_
    refine x_getI C dX10_remember_18 fF_X10_303 rfl rfl ?_
    refine x_iconst C dX10_remember_21 ?_
    refine x_iadd C dX10_remember_22 ?_
    refine x_bipush C dX10_remember_23 (by decide) ?_
    refine x_icmp_ge C 37 dX10_remember_25 (by decide) h (fun h => ?_) (fun h => ?_)
    · refine x_iconst C dX10_remember_37 ?_
      refine x_loc [(0, .inr (.inr (some 0)))] ⟨rfl, trivial⟩ ?_
      exact t_X_remember_38 hd9 C hR _ _ h
    · refine x_aload_n C dX10_remember_28 rfl ?_
      refine x_getI C dX10_remember_29 fF_X10_303 rfl rfl ?_
      refine x_iconst C dX10_remember_32 ?_
      refine x_iadd C dX10_remember_33 ?_
      refine x_goto C 38 dX10_remember_34 (by decide) ?_
      refine x_loc [(0, .inr (.inr (some 0)))] ⟨rfl, trivial⟩ ?_
      exact t_X_remember_38 hd9 C hR _ _ h
  refine x_ite h (fun hc2 h => ?_) (fun hc2 h => ?_)
  · refine x_aaload C dX10_remember_8 (t := 0) (fun _ => rfl) rfl (x_pk (k := 2) hc2 (by decide)).1 (show [110, 143, 176, 209, 242, 275, 308, 341, 374, 407][xix (m 0 8)]? = some 176 by rw [(x_pk (k := 2) (n := 10) hc2 (by decide)).2]; rfl) ?_
    refine x_aload_n C dX10_remember_9 rfl ?_
    refine x_getR C dX10_remember_10 fF_X10_27 rfl rfl ?_
    obtain ⟨q2, hq2, h⟩ := x_bind h
    refine x_callV0 C dX10_remember_13 (xin_35 _ (List.mem_of_getElem? (i := 9) rfl)) xy_X3_copyFrom (xi_X3_copyFrom) (xs_X3_copyFrom) xT_9 xv_73 (T0 := xT_10) rfl (by omega) (by decide) (b := 0) rfl ⟨_, _, rfl⟩ (av := [.inr (.inr (some 33))]) rfl (Nat.le_of_ble_eq_true rfl) (c_L_cp _ _ _ hq2) rfl ?_
    refine x_aload_n C dX10_remember_16 rfl ?_
    refine x_aload_n C dX10_remember_17 rfl ?_
    refine x_getI C dX10_remember_18 fF_X10_303 rfl rfl ?_
    refine x_iconst C dX10_remember_21 ?_
    refine x_iadd C dX10_remember_22 ?_
    refine x_bipush C dX10_remember_23 (by decide) ?_
    refine x_icmp_ge C 37 dX10_remember_25 (by decide) h (fun h => ?_) (fun h => ?_)
    · refine x_iconst C dX10_remember_37 ?_
      refine x_loc [(0, .inr (.inr (some 0)))] ⟨rfl, trivial⟩ ?_
      exact t_X_remember_38 hd9 C hR _ _ h
    · refine x_aload_n C dX10_remember_28 rfl ?_
      refine x_getI C dX10_remember_29 fF_X10_303 rfl rfl ?_
      refine x_iconst C dX10_remember_32 ?_
      refine x_iadd C dX10_remember_33 ?_
      refine x_goto C 38 dX10_remember_34 (by decide) ?_
      refine x_loc [(0, .inr (.inr (some 0)))] ⟨rfl, trivial⟩ ?_
      exact t_X_remember_38 hd9 C hR _ _ h
  refine x_ite h (fun hc3 h => ?_) (fun hc3 h => ?_)
  · refine x_aaload C dX10_remember_8 (t := 0) (fun _ => rfl) rfl (x_pk (k := 3) hc3 (by decide)).1 (show [110, 143, 176, 209, 242, 275, 308, 341, 374, 407][xix (m 0 8)]? = some 209 by rw [(x_pk (k := 3) (n := 10) hc3 (by decide)).2]; rfl) ?_
    refine x_aload_n C dX10_remember_9 rfl ?_
    refine x_getR C dX10_remember_10 fF_X10_27 rfl rfl ?_
    obtain ⟨q3, hq3, h⟩ := x_bind h
    refine x_callV0 C dX10_remember_13 (xin_35 _ (List.mem_of_getElem? (i := 9) rfl)) xy_X3_copyFrom (xi_X3_copyFrom) (xs_X3_copyFrom) xT_11 xv_74 (T0 := xT_12) rfl (by omega) (by decide) (b := 0) rfl ⟨_, _, rfl⟩ (av := [.inr (.inr (some 33))]) rfl (Nat.le_of_ble_eq_true rfl) (c_L_cp _ _ _ hq3) rfl ?_
    refine x_aload_n C dX10_remember_16 rfl ?_
    refine x_aload_n C dX10_remember_17 rfl ?_
    refine x_getI C dX10_remember_18 fF_X10_303 rfl rfl ?_
    refine x_iconst C dX10_remember_21 ?_
    refine x_iadd C dX10_remember_22 ?_
    refine x_bipush C dX10_remember_23 (by decide) ?_
    refine x_icmp_ge C 37 dX10_remember_25 (by decide) h (fun h => ?_) (fun h => ?_)
    · refine x_iconst C dX10_remember_37 ?_
      refine x_loc [(0, .inr (.inr (some 0)))] ⟨rfl, trivial⟩ ?_
      exact t_X_remember_38 hd9 C hR _ _ h
    · refine x_aload_n C dX10_remember_28 rfl ?_
      refine x_getI C dX10_remember_29 fF_X10_303 rfl rfl ?_
      refine x_iconst C dX10_remember_32 ?_
      refine x_iadd C dX10_remember_33 ?_
      refine x_goto C 38 dX10_remember_34 (by decide) ?_
      refine x_loc [(0, .inr (.inr (some 0)))] ⟨rfl, trivial⟩ ?_
      exact t_X_remember_38 hd9 C hR _ _ h
  refine x_ite h (fun hc4 h => ?_) (fun hc4 h => ?_)
  · refine x_aaload C dX10_remember_8 (t := 0) (fun _ => rfl) rfl (x_pk (k := 4) hc4 (by decide)).1 (show [110, 143, 176, 209, 242, 275, 308, 341, 374, 407][xix (m 0 8)]? = some 242 by rw [(x_pk (k := 4) (n := 10) hc4 (by decide)).2]; rfl) ?_
    refine x_aload_n C dX10_remember_9 rfl ?_
    refine x_getR C dX10_remember_10 fF_X10_27 rfl rfl ?_
    obtain ⟨q4, hq4, h⟩ := x_bind h
    refine x_callV0 C dX10_remember_13 (xin_35 _ (List.mem_of_getElem? (i := 9) rfl)) xy_X3_copyFrom (xi_X3_copyFrom) (xs_X3_copyFrom) xT_13 xv_75 (T0 := xT_14) rfl (by omega) (by decide) (b := 0) rfl ⟨_, _, rfl⟩ (av := [.inr (.inr (some 33))]) rfl (Nat.le_of_ble_eq_true rfl) (c_L_cp _ _ _ hq4) rfl ?_
    refine x_aload_n C dX10_remember_16 rfl ?_
    refine x_aload_n C dX10_remember_17 rfl ?_
    refine x_getI C dX10_remember_18 fF_X10_303 rfl rfl ?_
    refine x_iconst C dX10_remember_21 ?_
    refine x_iadd C dX10_remember_22 ?_
    refine x_bipush C dX10_remember_23 (by decide) ?_
    refine x_icmp_ge C 37 dX10_remember_25 (by decide) h (fun h => ?_) (fun h => ?_)
    · refine x_iconst C dX10_remember_37 ?_
      refine x_loc [(0, .inr (.inr (some 0)))] ⟨rfl, trivial⟩ ?_
      exact t_X_remember_38 hd9 C hR _ _ h
    · refine x_aload_n C dX10_remember_28 rfl ?_
      refine x_getI C dX10_remember_29 fF_X10_303 rfl rfl ?_
      refine x_iconst C dX10_remember_32 ?_
      refine x_iadd C dX10_remember_33 ?_
      refine x_goto C 38 dX10_remember_34 (by decide) ?_
      refine x_loc [(0, .inr (.inr (some 0)))] ⟨rfl, trivial⟩ ?_
      exact t_X_remember_38 hd9 C hR _ _ h
  refine x_ite h (fun hc5 h => ?_) (fun hc5 h => ?_)
  · refine x_aaload C dX10_remember_8 (t := 0) (fun _ => rfl) rfl (x_pk (k := 5) hc5 (by decide)).1 (show [110, 143, 176, 209, 242, 275, 308, 341, 374, 407][xix (m 0 8)]? = some 275 by rw [(x_pk (k := 5) (n := 10) hc5 (by decide)).2]; rfl) ?_
    refine x_aload_n C dX10_remember_9 rfl ?_
    refine x_getR C dX10_remember_10 fF_X10_27 rfl rfl ?_
    obtain ⟨q5, hq5, h⟩ := x_bind h
    refine x_callV0 C dX10_remember_13 (xin_35 _ (List.mem_of_getElem? (i := 9) rfl)) xy_X3_copyFrom (xi_X3_copyFrom) (xs_X3_copyFrom) xT_15 xv_76 (T0 := xT_16) rfl (by omega) (by decide) (b := 0) rfl ⟨_, _, rfl⟩ (av := [.inr (.inr (some 33))]) rfl (Nat.le_of_ble_eq_true rfl) (c_L_cp _ _ _ hq5) rfl ?_
    refine x_aload_n C dX10_remember_16 rfl ?_
    refine x_aload_n C dX10_remember_17 rfl ?_
    refine x_getI C dX10_remember_18 fF_X10_303 rfl rfl ?_
    refine x_iconst C dX10_remember_21 ?_
    refine x_iadd C dX10_remember_22 ?_
    refine x_bipush C dX10_remember_23 (by decide) ?_
    refine x_icmp_ge C 37 dX10_remember_25 (by decide) h (fun h => ?_) (fun h => ?_)
    · refine x_iconst C dX10_remember_37 ?_
      refine x_loc [(0, .inr (.inr (some 0)))] ⟨rfl, trivial⟩ ?_
      exact t_X_remember_38 hd9 C hR _ _ h
    · refine x_aload_n C dX10_remember_28 rfl ?_
      refine x_getI C dX10_remember_29 fF_X10_303 rfl rfl ?_
      refine x_iconst C dX10_remember_32 ?_
      refine x_iadd C dX10_remember_33 ?_
      refine x_goto C 38 dX10_remember_34 (by decide) ?_
      refine x_loc [(0, .inr (.inr (some 0)))] ⟨rfl, trivial⟩ ?_
      exact t_X_remember_38 hd9 C hR _ _ h
  refine x_ite h (fun hc6 h => ?_) (fun hc6 h => ?_)
  · refine x_aaload C dX10_remember_8 (t := 0) (fun _ => rfl) rfl (x_pk (k := 6) hc6 (by decide)).1 (show [110, 143, 176, 209, 242, 275, 308, 341, 374, 407][xix (m 0 8)]? = some 308 by rw [(x_pk (k := 6) (n := 10) hc6 (by decide)).2]; rfl) ?_
    refine x_aload_n C dX10_remember_9 rfl ?_
    refine x_getR C dX10_remember_10 fF_X10_27 rfl rfl ?_
    obtain ⟨q6, hq6, h⟩ := x_bind h
    refine x_callV0 C dX10_remember_13 (xin_35 _ (List.mem_of_getElem? (i := 9) rfl)) xy_X3_copyFrom (xi_X3_copyFrom) (xs_X3_copyFrom) xT_17 xv_77 (T0 := xT_18) rfl (by omega) (by decide) (b := 0) rfl ⟨_, _, rfl⟩ (av := [.inr (.inr (some 33))]) rfl (Nat.le_of_ble_eq_true rfl) (c_L_cp _ _ _ hq6) rfl ?_
    refine x_aload_n C dX10_remember_16 rfl ?_
    refine x_aload_n C dX10_remember_17 rfl ?_
    refine x_getI C dX10_remember_18 fF_X10_303 rfl rfl ?_
    refine x_iconst C dX10_remember_21 ?_
    refine x_iadd C dX10_remember_22 ?_
    refine x_bipush C dX10_remember_23 (by decide) ?_
    refine x_icmp_ge C 37 dX10_remember_25 (by decide) h (fun h => ?_) (fun h => ?_)
    · refine x_iconst C dX10_remember_37 ?_
      refine x_loc [(0, .inr (.inr (some 0)))] ⟨rfl, trivial⟩ ?_
      exact t_X_remember_38 hd9 C hR _ _ h
    · refine x_aload_n C dX10_remember_28 rfl ?_
      refine x_getI C dX10_remember_29 fF_X10_303 rfl rfl ?_
      refine x_iconst C dX10_remember_32 ?_
      refine x_iadd C dX10_remember_33 ?_
      refine x_goto C 38 dX10_remember_34 (by decide) ?_
      refine x_loc [(0, .inr (.inr (some 0)))] ⟨rfl, trivial⟩ ?_
      exact t_X_remember_38 hd9 C hR _ _ h
  refine x_ite h (fun hc7 h => ?_) (fun hc7 h => ?_)
  · refine x_aaload C dX10_remember_8 (t := 0) (fun _ => rfl) rfl (x_pk (k := 7) hc7 (by decide)).1 (show [110, 143, 176, 209, 242, 275, 308, 341, 374, 407][xix (m 0 8)]? = some 341 by rw [(x_pk (k := 7) (n := 10) hc7 (by decide)).2]; rfl) ?_
    refine x_aload_n C dX10_remember_9 rfl ?_
    refine x_getR C dX10_remember_10 fF_X10_27 rfl rfl ?_
    obtain ⟨q7, hq7, h⟩ := x_bind h
    refine x_callV0 C dX10_remember_13 (xin_35 _ (List.mem_of_getElem? (i := 9) rfl)) xy_X3_copyFrom (xi_X3_copyFrom) (xs_X3_copyFrom) xT_19 xv_78 (T0 := xT_20) rfl (by omega) (by decide) (b := 0) rfl ⟨_, _, rfl⟩ (av := [.inr (.inr (some 33))]) rfl (Nat.le_of_ble_eq_true rfl) (c_L_cp _ _ _ hq7) rfl ?_
    refine x_aload_n C dX10_remember_16 rfl ?_
    refine x_aload_n C dX10_remember_17 rfl ?_
    refine x_getI C dX10_remember_18 fF_X10_303 rfl rfl ?_
    refine x_iconst C dX10_remember_21 ?_
    refine x_iadd C dX10_remember_22 ?_
    refine x_bipush C dX10_remember_23 (by decide) ?_
    refine x_icmp_ge C 37 dX10_remember_25 (by decide) h (fun h => ?_) (fun h => ?_)
    · refine x_iconst C dX10_remember_37 ?_
      refine x_loc [(0, .inr (.inr (some 0)))] ⟨rfl, trivial⟩ ?_
      exact t_X_remember_38 hd9 C hR _ _ h
    · refine x_aload_n C dX10_remember_28 rfl ?_
      refine x_getI C dX10_remember_29 fF_X10_303 rfl rfl ?_
      refine x_iconst C dX10_remember_32 ?_
      refine x_iadd C dX10_remember_33 ?_
      refine x_goto C 38 dX10_remember_34 (by decide) ?_
      refine x_loc [(0, .inr (.inr (some 0)))] ⟨rfl, trivial⟩ ?_
      exact t_X_remember_38 hd9 C hR _ _ h
  refine x_ite h (fun hc8 h => ?_) (fun hc8 h => ?_)
  · refine x_aaload C dX10_remember_8 (t := 0) (fun _ => rfl) rfl (x_pk (k := 8) hc8 (by decide)).1 (show [110, 143, 176, 209, 242, 275, 308, 341, 374, 407][xix (m 0 8)]? = some 374 by rw [(x_pk (k := 8) (n := 10) hc8 (by decide)).2]; rfl) ?_
    refine x_aload_n C dX10_remember_9 rfl ?_
    refine x_getR C dX10_remember_10 fF_X10_27 rfl rfl ?_
    obtain ⟨q8, hq8, h⟩ := x_bind h
    refine x_callV0 C dX10_remember_13 (xin_35 _ (List.mem_of_getElem? (i := 9) rfl)) xy_X3_copyFrom (xi_X3_copyFrom) (xs_X3_copyFrom) xT_21 xv_79 (T0 := xT_22) rfl (by omega) (by decide) (b := 0) rfl ⟨_, _, rfl⟩ (av := [.inr (.inr (some 33))]) rfl (Nat.le_of_ble_eq_true rfl) (c_L_cp _ _ _ hq8) rfl ?_
    refine x_aload_n C dX10_remember_16 rfl ?_
    refine x_aload_n C dX10_remember_17 rfl ?_
    refine x_getI C dX10_remember_18 fF_X10_303 rfl rfl ?_
    refine x_iconst C dX10_remember_21 ?_
    refine x_iadd C dX10_remember_22 ?_
    refine x_bipush C dX10_remember_23 (by decide) ?_
    refine x_icmp_ge C 37 dX10_remember_25 (by decide) h (fun h => ?_) (fun h => ?_)
    · refine x_iconst C dX10_remember_37 ?_
      refine x_loc [(0, .inr (.inr (some 0)))] ⟨rfl, trivial⟩ ?_
      exact t_X_remember_38 hd9 C hR _ _ h
    · refine x_aload_n C dX10_remember_28 rfl ?_
      refine x_getI C dX10_remember_29 fF_X10_303 rfl rfl ?_
      refine x_iconst C dX10_remember_32 ?_
      refine x_iadd C dX10_remember_33 ?_
      refine x_goto C 38 dX10_remember_34 (by decide) ?_
      refine x_loc [(0, .inr (.inr (some 0)))] ⟨rfl, trivial⟩ ?_
      exact t_X_remember_38 hd9 C hR _ _ h
  refine x_ite h (fun hc9 h => ?_) (fun hc9 h => ?_)
  · refine x_aaload C dX10_remember_8 (t := 0) (fun _ => rfl) rfl (x_pk (k := 9) hc9 (by decide)).1 (show [110, 143, 176, 209, 242, 275, 308, 341, 374, 407][xix (m 0 8)]? = some 407 by rw [(x_pk (k := 9) (n := 10) hc9 (by decide)).2]; rfl) ?_
    refine x_aload_n C dX10_remember_9 rfl ?_
    refine x_getR C dX10_remember_10 fF_X10_27 rfl rfl ?_
    obtain ⟨q9, hq9, h⟩ := x_bind h
    refine x_callV0 C dX10_remember_13 (xin_35 _ (List.mem_of_getElem? (i := 9) rfl)) xy_X3_copyFrom (xi_X3_copyFrom) (xs_X3_copyFrom) xT_23 xv_80 (T0 := xT_24) rfl (by omega) (by decide) (b := 0) rfl ⟨_, _, rfl⟩ (av := [.inr (.inr (some 33))]) rfl (Nat.le_of_ble_eq_true rfl) (c_L_cp _ _ _ hq9) rfl ?_
    refine x_aload_n C dX10_remember_16 rfl ?_
    refine x_aload_n C dX10_remember_17 rfl ?_
    refine x_getI C dX10_remember_18 fF_X10_303 rfl rfl ?_
    refine x_iconst C dX10_remember_21 ?_
    refine x_iadd C dX10_remember_22 ?_
    refine x_bipush C dX10_remember_23 (by decide) ?_
    refine x_icmp_ge C 37 dX10_remember_25 (by decide) h (fun h => ?_) (fun h => ?_)
    · refine x_iconst C dX10_remember_37 ?_
      refine x_loc [(0, .inr (.inr (some 0)))] ⟨rfl, trivial⟩ ?_
      exact t_X_remember_38 hd9 C hR _ _ h
    · refine x_aload_n C dX10_remember_28 rfl ?_
      refine x_getI C dX10_remember_29 fF_X10_303 rfl rfl ?_
      refine x_iconst C dX10_remember_32 ?_
      refine x_iadd C dX10_remember_33 ?_
      refine x_goto C 38 dX10_remember_34 (by decide) ?_
      refine x_loc [(0, .inr (.inr (some 0)))] ⟨rfl, trivial⟩ ?_
      exact t_X_remember_38 hd9 C hR _ _ h
  cases h
theorem c_X_remember (l : Launch) (m m9 : xM) (h : f_X_remember m = some m9) : xMet l yX10_remember cX10_remember 1 none 4 lay_X [.inr (.inr (some 0))] m none m9 :=
  xMet_v (by decide +kernel) (Nat.le_of_ble_eq_true rfl) (fun Γ C hR hl9 => t_X_remember (Nat.le_refl _) C hR m h)
/-! ===== yX10_pass ===== -/
theorem xy_X10_remember : xY yX10_remember cX10_remember 1 none 0 := ⟨(xin_51 _ (List.mem_of_getElem? (i := 5) rfl)), (xin_1 _ (List.mem_of_getElem? (i := 2) rfl)), by decide, by decide, by decide +kernel⟩
theorem xi_X10_remember : Cond.instanceMethod yX10_remember ∈ wsL_law := (xin_51 _ (List.mem_of_getElem? (i := 3) rfl))
theorem xs_X10_remember : Cond.selects yX10_remember.cls yX10_remember yX10_remember ∈ wsL_law := (xin_51 _ (List.mem_of_getElem? (i := 4) rfl))
def xT_25 : List Nat := [11, 12, 13, 14, 15, 16, 17, 18, 19, 20, 21, 22, 23, 24, 25, 26, 27, 28, 29, 30, 31, 32, 33, 34, 35, 36, 37, 38, 39, 40, 41, 42, 43, 1, 2, 3, 4, 5]
theorem xv_81 : xview lay_X lay_L0 xT_25 := xview_of (by decide +kernel)
theorem dX10_pass_0 : decode cX10_pass 0 = .ok (.iload_n 1, 1) := by decide +kernel
theorem dX10_pass_1 : decode cX10_pass 1 = .ok (.iconst 1, 1) := by decide +kernel
theorem dX10_pass_2 : decode cX10_pass 2 = .ok (.if_icmp .lt 10, 3) := by decide +kernel
theorem dX10_pass_5 : decode cX10_pass 5 = .ok (.iload_n 1, 1) := by decide +kernel
theorem dX10_pass_6 : decode cX10_pass 6 = .ok (.sipush 200, 3) := by decide +kernel
theorem dX10_pass_9 : decode cX10_pass 9 = .ok (.if_icmp .le 14, 3) := by decide +kernel
theorem dX10_pass_12 : decode cX10_pass 12 = .ok (.new 126, 3) := by decide +kernel
theorem dX10_pass_15 : decode cX10_pass 15 = .ok (.dup, 1) := by decide +kernel
theorem dX10_pass_16 : decode cX10_pass 16 = .ok (.ldc_w 294, 3) := by decide +kernel
theorem dX10_pass_19 : decode cX10_pass 19 = .ok (.invokespecial 130, 3) := by decide +kernel
theorem dX10_pass_22 : decode cX10_pass 22 = .ok (.athrow, 1) := by decide +kernel
theorem dX10_pass_23 : decode cX10_pass 23 = .ok (.aload_n 0, 1) := by decide +kernel
theorem dX10_pass_24 : decode cX10_pass 24 = .ok (.getfield 27, 3) := by decide +kernel
theorem dX10_pass_27 : decode cX10_pass 27 = .ok (.getfield 139, 3) := by decide +kernel
theorem dX10_pass_30 : decode cX10_pass 30 = .ok (.iload_n 1, 1) := by decide +kernel
theorem dX10_pass_31 : decode cX10_pass 31 = .ok (.iadd, 1) := by decide +kernel
theorem dX10_pass_32 : decode cX10_pass 32 = .ok (.ldc_w 299, 3) := by decide +kernel
theorem dX10_pass_35 : decode cX10_pass 35 = .ok (.if_icmp .le 6, 3) := by decide +kernel
theorem dX10_pass_38 : decode cX10_pass 38 = .ok (.bipush (-2), 2) := by decide +kernel
theorem dX10_pass_40 : decode cX10_pass 40 = .ok (.ireturn, 1) := by decide +kernel
theorem dX10_pass_41 : decode cX10_pass 41 = .ok (.aload_n 0, 1) := by decide +kernel
theorem dX10_pass_42 : decode cX10_pass 42 = .ok (.invokevirtual 300, 3) := by decide +kernel
theorem dX10_pass_45 : decode cX10_pass 45 = .ok (.aload_n 0, 1) := by decide +kernel
theorem dX10_pass_46 : decode cX10_pass 46 = .ok (.getfield 27, 3) := by decide +kernel
theorem dX10_pass_49 : decode cX10_pass 49 = .ok (.getfield 178, 3) := by decide +kernel
theorem dX10_pass_52 : decode cX10_pass 52 = .ok (.bipush 10, 2) := by decide +kernel
theorem dX10_pass_54 : decode cX10_pass 54 = .ok (.iaload, 1) := by decide +kernel
theorem dX10_pass_55 : decode cX10_pass 55 = .ok (.istore_n 2, 1) := by decide +kernel
theorem dX10_pass_56 : decode cX10_pass 56 = .ok (.aload_n 0, 1) := by decide +kernel
theorem dX10_pass_57 : decode cX10_pass 57 = .ok (.getfield 27, 3) := by decide +kernel
theorem dX10_pass_60 : decode cX10_pass 60 = .ok (.iload_n 1, 1) := by decide +kernel
theorem dX10_pass_61 : decode cX10_pass 61 = .ok (.invokevirtual 296, 3) := by decide +kernel
theorem dX10_pass_64 : decode cX10_pass 64 = .ok (.aload_n 0, 1) := by decide +kernel
theorem dX10_pass_65 : decode cX10_pass 65 = .ok (.getfield 27, 3) := by decide +kernel
theorem dX10_pass_68 : decode cX10_pass 68 = .ok (.getfield 178, 3) := by decide +kernel
theorem dX10_pass_71 : decode cX10_pass 71 = .ok (.bipush 10, 2) := by decide +kernel
theorem dX10_pass_73 : decode cX10_pass 73 = .ok (.iaload, 1) := by decide +kernel
theorem dX10_pass_74 : decode cX10_pass 74 = .ok (.iload_n 2, 1) := by decide +kernel
theorem dX10_pass_75 : decode cX10_pass 75 = .ok (.isub, 1) := by decide +kernel
theorem dX10_pass_76 : decode cX10_pass 76 = .ok (.ireturn, 1) := by decide +kernel
def f_X_pass_12 (z : Int) (m : xM) : Option (Int × xM) :=
     none
set_option maxRecDepth 1000000 in
set_option maxHeartbeats 4000000 in
theorem t_X_pass_12 {Γ : xG} {d : Nat} (hd9 : 8 ≤ d) (C : xC Γ lay_X RX10 cX10_pass 3 d) (z : Int) {r : Int} {m9 : xM} (hR : xRi Γ lay_X cX10_pass r m9) (m : xM) (h : f_X_pass_12 z m = some (r, m9)) : xW Γ lay_X 3 12 [] [] m := by
  unfold f_X_pass_12 at h
  cases h
def f_X_pass (z : Int) (m : xM) : Option (Int × xM) :=
     (if xw z < xw 1 then f_X_pass_12 z m
      else (if xw 200 < xw z then f_X_pass_12 z m
      else (if xw 99999 < xw ((m 11 7) + z) then some ((-2), m)
      else (Option.bind (f_X_remember m) fun q0 =>
      (if xib 10 11 then (Option.bind (f_L_run z (xvw xT_25 q0)) fun q1 =>
      (if xib 10 11 then some (((xmg xT_25 38 q0 q1) 41 10) - (q0 41 10), (xmg xT_25 38 q0 q1))
      else none))
      else none)))))
set_option maxRecDepth 1000000 in
set_option maxHeartbeats 4000000 in
theorem t_X_pass {Γ : xG} {d : Nat} (hd9 : 8 ≤ d) (C : xC Γ lay_X RX10 cX10_pass 3 d) (z : Int) {r : Int} {m9 : xM} (hR : xRi Γ lay_X cX10_pass r m9) (m : xM) (h : f_X_pass z m = some (r, m9)) : xW Γ lay_X 3 0 [(0, .inr (.inr (some 0))), (1, .inl z)] [] m := by
  unfold f_X_pass at h
  refine x_iload_n C dX10_pass_0 rfl ?_
  refine x_iconst C dX10_pass_1 ?_
  refine x_icmp_lt C 12 dX10_pass_2 (by decide) h (fun h => ?_) (fun h => ?_)
  · refine x_loc [] trivial ?_
    exact t_X_pass_12 hd9 C _ hR _ h
  · refine x_iload_n C dX10_pass_5 rfl ?_
    refine x_sipush C dX10_pass_6 (by decide) ?_
    refine x_icmp_le C 23 dX10_pass_9 (by decide) h (fun h => ?_) (fun h => ?_)
    · refine x_aload_n C dX10_pass_23 rfl ?_
      refine x_getR C dX10_pass_24 fF_X10_27 rfl rfl ?_
      refine x_getI C dX10_pass_27 fF_X10_139 rfl rfl ?_
      refine x_iload_n C dX10_pass_30 rfl ?_
      refine x_iadd C dX10_pass_31 ?_
      refine x_ldc_w C 99999 dX10_pass_32 (xin_51 _ (List.mem_of_getElem? (i := 1) rfl)) (by decide) ?_
      refine x_icmp_le C 41 dX10_pass_35 (by decide) h (fun h => ?_) (fun h => ?_)
      · refine x_aload_n C dX10_pass_41 rfl ?_
        obtain ⟨q0, hq0, h⟩ := x_bind h
        refine x_callVI C dX10_pass_42 (xin_51 _ (List.mem_of_getElem? (i := 2) rfl)) xy_X10_remember (xi_X10_remember) (xs_X10_remember) (by omega) (by decide) (b := 0) rfl ⟨_, _, rfl⟩ (av := []) rfl (Nat.le_of_ble_eq_true rfl) (c_X_remember _ _ _ hq0) rfl ?_
        refine x_aload_n C dX10_pass_45 rfl ?_
        refine x_getR C dX10_pass_46 fF_X10_27 rfl rfl ?_
        refine x_getR C dX10_pass_49 fF_X10_178 rfl rfl ?_
        refine x_bipush C dX10_pass_52 (by decide) ?_
        refine x_iaload C dX10_pass_54 rfl h (fun h => ?_)
        refine x_istore_n C dX10_pass_55 (by decide) ?_
        refine x_aload_n C dX10_pass_56 rfl ?_
        refine x_getR C dX10_pass_57 fF_X10_27 rfl rfl ?_
        refine x_iload_n C dX10_pass_60 rfl ?_
        obtain ⟨q1, hq1, h⟩ := x_bind h
        refine x_callV C dX10_pass_61 (xin_49 _ (List.mem_of_getElem? (i := 10) rfl)) xy_X3_run (xi_X3_run) (xs_X3_run) xT_25 xv_81 (by omega) (by decide) (b := 0) rfl ⟨_, _, rfl⟩ (av := [.inl z]) rfl (Nat.le_of_ble_eq_true rfl) (c_L_run _ _ _ _ hq1) rfl ?_
        refine x_aload_n C dX10_pass_64 rfl ?_
        refine x_getR C dX10_pass_65 fF_X10_27 rfl rfl ?_
        refine x_getR C dX10_pass_68 fF_X10_178 rfl rfl ?_
        refine x_bipush C dX10_pass_71 (by decide) ?_
        refine x_iaload C dX10_pass_73 rfl h (fun h => ?_)
        refine x_iload_n C dX10_pass_74 rfl ?_
        refine x_isub C dX10_pass_75 ?_
        exact x_ireturn hR dX10_pass_76 h
      · refine x_bipush C dX10_pass_38 (by decide) ?_
        exact x_ireturn hR dX10_pass_40 h
    · refine x_loc [] trivial ?_
      exact t_X_pass_12 hd9 C _ hR _ h
theorem c_X_pass (l : Launch) (z : Int) (m : xM) (r : Int) (m9 : xM) (h : f_X_pass z m = some (r, m9)) : xMet l yX10_pass cX10_pass 3 (some .int) 8 lay_X [.inr (.inr (some 0)), .inl z] m (some (.inl r)) m9 :=
  xMet_i (by decide +kernel) (Nat.le_of_ble_eq_true rfl) (fun Γ C hR hl9 => t_X_pass (Nat.le_refl _) C z hR m h)
/-! ===== yX10_pass ===== -/
def h_X_pass_12 (z : Int) (m : xM) : Option (Nat) :=
     some 1
set_option maxRecDepth 1000000 in
set_option maxHeartbeats 4000000 in
theorem t_h_X_pass_12 {Γ : xG} {d : Nat} (hd9 : 6 ≤ d) (C : xC Γ lay_X RX10 cX10_pass 3 d) (CT : xCT Γ) (z : Int) {r : Nat} {m : xM} (hR : xRt Γ lay_X m (xEx r)) (h : h_X_pass_12 z m = some r) : xW Γ lay_X 3 12 [] [] m := by
  unfold h_X_pass_12 at h
  exact x_throwW C CT hR (by omega) xe_1 (is := 294) (text := "no such number of ticks") (List.mem_of_getElem? (i := 10) rfl) dX10_pass_12 dX10_pass_15 dX10_pass_16 dX10_pass_19 dX10_pass_22 h
def h_X_pass (z : Int) (m : xM) : Option (Nat) :=
     (if xw z < xw 1 then h_X_pass_12 z m
      else (if xw 200 < xw z then h_X_pass_12 z m
      else none))
set_option maxRecDepth 1000000 in
set_option maxHeartbeats 4000000 in
theorem t_h_X_pass {Γ : xG} {d : Nat} (hd9 : 6 ≤ d) (C : xC Γ lay_X RX10 cX10_pass 3 d) (CT : xCT Γ) (z : Int) {r : Nat} {m : xM} (hR : xRt Γ lay_X m (xEx r)) (h : h_X_pass z m = some r) : xW Γ lay_X 3 0 [(0, .inr (.inr (some 0))), (1, .inl z)] [] m := by
  unfold h_X_pass at h
  refine x_iload_n C dX10_pass_0 rfl ?_
  refine x_iconst C dX10_pass_1 ?_
  refine x_icmp_lt C 12 dX10_pass_2 (by decide) h (fun h => ?_) (fun h => ?_)
  · refine x_loc [] trivial ?_
    exact t_h_X_pass_12 hd9 C CT _ hR h
  · refine x_iload_n C dX10_pass_5 rfl ?_
    refine x_sipush C dX10_pass_6 (by decide) ?_
    refine x_icmp_le C 23 dX10_pass_9 (by decide) h (fun h => ?_) (fun h => ?_)
    · cases h
    · refine x_loc [] trivial ?_
      exact t_h_X_pass_12 hd9 C CT _ hR h
theorem ch_X_pass (l : Launch) (hl : l.stackTraces = false) (z : Int) (m : xM) (r : Nat) (h : h_X_pass z m = some r) : xMetT l yX10_pass cX10_pass 3 (some .int) 6 lay_X [.inr (.inr (some 0)), .inl z] m (xEx r) :=
  xMet_T hl (by decide +kernel) (Nat.le_of_ble_eq_true rfl) (fun Γ C CT hR hl9 => t_h_X_pass (Nat.le_refl _) C CT z hR h)
/-! ===== yX10_dial ===== -/
theorem xy_X3_call : xY yX3_call cX3_call 1 none 0 := ⟨(xin_52 _ (List.mem_of_getElem? (i := 0) rfl)), (xin_1 _ (List.mem_of_getElem? (i := 20) rfl)), by decide, by decide, by decide +kernel⟩
theorem xi_X3_call : Cond.instanceMethod yX3_call ∈ wsL_law := (xin_51 _ (List.mem_of_getElem? (i := 22) rfl))
theorem xs_X3_call : Cond.selects yX3_call.cls yX3_call yX3_call ∈ wsL_law := (xin_51 _ (List.mem_of_getElem? (i := 23) rfl))
theorem xy_X6_trainingTicks : xY yX6_trainingTicks cX6_trainingTicks 1 (some .int) 0 := ⟨(xin_52 _ (List.mem_of_getElem? (i := 5) rfl)), (xin_1 _ (List.mem_of_getElem? (i := 15) rfl)), by decide, by decide, by decide +kernel⟩
theorem xi_X6_trainingTicks : Cond.instanceMethod yX6_trainingTicks ∈ wsL_law := (xin_52 _ (List.mem_of_getElem? (i := 3) rfl))
theorem xs_X6_trainingTicks : Cond.selects yX6_trainingTicks.cls yX6_trainingTicks yX6_trainingTicks ∈ wsL_law := (xin_52 _ (List.mem_of_getElem? (i := 4) rfl))
theorem dX10_dial_0 : decode cX10_dial 0 = .ok (.aload_n 0, 1) := by decide +kernel
theorem dX10_dial_1 : decode cX10_dial 1 = .ok (.getfield 27, 3) := by decide +kernel
theorem dX10_dial_4 : decode cX10_dial 4 = .ok (.getfield 136, 3) := by decide +kernel
theorem dX10_dial_7 : decode cX10_dial 7 = .ok (.ifCond .eq 6, 3) := by decide +kernel
theorem dX10_dial_10 : decode cX10_dial 10 = .ok (.bipush (-2), 2) := by decide +kernel
theorem dX10_dial_12 : decode cX10_dial 12 = .ok (.ireturn, 1) := by decide +kernel
theorem dX10_dial_13 : decode cX10_dial 13 = .ok (.aload_n 0, 1) := by decide +kernel
theorem dX10_dial_14 : decode cX10_dial 14 = .ok (.invokevirtual 300, 3) := by decide +kernel
theorem dX10_dial_17 : decode cX10_dial 17 = .ok (.aload_n 0, 1) := by decide +kernel
theorem dX10_dial_18 : decode cX10_dial 18 = .ok (.getfield 27, 3) := by decide +kernel
theorem dX10_dial_21 : decode cX10_dial 21 = .ok (.invokevirtual 311, 3) := by decide +kernel
theorem dX10_dial_24 : decode cX10_dial 24 = .ok (.aload_n 0, 1) := by decide +kernel
theorem dX10_dial_25 : decode cX10_dial 25 = .ok (.getfield 10, 3) := by decide +kernel
theorem dX10_dial_28 : decode cX10_dial 28 = .ok (.invokevirtual 314, 3) := by decide +kernel
theorem dX10_dial_31 : decode cX10_dial 31 = .ok (.ireturn, 1) := by decide +kernel
def f_X_dial (m : xM) : Option (Int × xM) :=
     (if xw (m 11 8) = 0 then (Option.bind (f_X_remember m) fun q0 =>
      (Option.bind (f_L_call (xvw xT_25 q0)) fun q1 =>
      (Option.bind (f_S_ticks (xvw [1, 2, 3, 4, 5] (xmg xT_25 38 q0 q1))) fun q2 =>
      some (q2, (xmg xT_25 38 q0 q1)))))
      else some ((-2), m))
set_option maxRecDepth 1000000 in
set_option maxHeartbeats 4000000 in
theorem t_X_dial {Γ : xG} {d : Nat} (hd9 : 5 ≤ d) (C : xC Γ lay_X RX10 cX10_dial 1 d) {r : Int} {m9 : xM} (hR : xRi Γ lay_X cX10_dial r m9) (m : xM) (h : f_X_dial m = some (r, m9)) : xW Γ lay_X 1 0 [(0, .inr (.inr (some 0)))] [] m := by
  unfold f_X_dial at h
  refine x_aload_n C dX10_dial_0 rfl ?_
  refine x_getR C dX10_dial_1 fF_X10_27 rfl rfl ?_
  refine x_getI C dX10_dial_4 fF_X10_136 rfl rfl ?_
  refine x_if_eq C 13 dX10_dial_7 (by decide) h (fun h => ?_) (fun h => ?_)
  · refine x_aload_n C dX10_dial_13 rfl ?_
    obtain ⟨q0, hq0, h⟩ := x_bind h
    refine x_callVI C dX10_dial_14 (xin_51 _ (List.mem_of_getElem? (i := 2) rfl)) xy_X10_remember (xi_X10_remember) (xs_X10_remember) (by omega) (by decide) (b := 0) rfl ⟨_, _, rfl⟩ (av := []) rfl (Nat.le_of_ble_eq_true rfl) (c_X_remember _ _ _ hq0) rfl ?_
    refine x_aload_n C dX10_dial_17 rfl ?_
    refine x_getR C dX10_dial_18 fF_X10_27 rfl rfl ?_
    obtain ⟨q1, hq1, h⟩ := x_bind h
    refine x_callV C dX10_dial_21 (xin_51 _ (List.mem_of_getElem? (i := 21) rfl)) xy_X3_call (xi_X3_call) (xs_X3_call) xT_25 xv_81 (by omega) (by decide) (b := 0) rfl ⟨_, _, rfl⟩ (av := []) rfl (Nat.le_of_ble_eq_true rfl) (c_L_call _ _ _ hq1) rfl ?_
    refine x_aload_n C dX10_dial_24 rfl ?_
    refine x_getR C dX10_dial_25 fF_X10_10 rfl rfl ?_
    obtain ⟨q2, hq2, h⟩ := x_bind h
    refine x_callVp C dX10_dial_28 (xin_52 _ (List.mem_of_getElem? (i := 2) rfl)) xy_X6_trainingTicks (xi_X6_trainingTicks) (xs_X6_trainingTicks) [1, 2, 3, 4, 5] xv_65 (by omega) (by decide) (b := 0) rfl ⟨_, _, rfl⟩ (av := []) rfl (Nat.le_of_ble_eq_true rfl) (c_S_ticks _ _ _ hq2) rfl ?_
    exact x_ireturn hR dX10_dial_31 h
  · refine x_bipush C dX10_dial_10 (by decide) ?_
    exact x_ireturn hR dX10_dial_12 h
theorem c_X_dial (l : Launch) (m : xM) (r : Int) (m9 : xM) (h : f_X_dial m = some (r, m9)) : xMet l yX10_dial cX10_dial 1 (some .int) 5 lay_X [.inr (.inr (some 0))] m (some (.inl r)) m9 :=
  xMet_i (by decide +kernel) (Nat.le_of_ble_eq_true rfl) (fun Γ C hR hl9 => t_X_dial (Nat.le_refl _) C hR m h)
/-! ===== yX10_hangUp ===== -/
theorem xy_X3_unreceivedBytes : xY yX3_unreceivedBytes cX3_unreceivedBytes 1 (some .int) 0 := ⟨(xin_52 _ (List.mem_of_getElem? (i := 17) rfl)), (xin_1 _ (List.mem_of_getElem? (i := 20) rfl)), by decide, by decide, by decide +kernel⟩
theorem xi_X3_unreceivedBytes : Cond.instanceMethod yX3_unreceivedBytes ∈ wsL_law := (xin_52 _ (List.mem_of_getElem? (i := 15) rfl))
theorem xs_X3_unreceivedBytes : Cond.selects yX3_unreceivedBytes.cls yX3_unreceivedBytes yX3_unreceivedBytes ∈ wsL_law := (xin_52 _ (List.mem_of_getElem? (i := 16) rfl))
theorem dX10_hangUp_0 : decode cX10_hangUp 0 = .ok (.aload_n 0, 1) := by decide +kernel
theorem dX10_hangUp_1 : decode cX10_hangUp 1 = .ok (.getfield 27, 3) := by decide +kernel
theorem dX10_hangUp_4 : decode cX10_hangUp 4 = .ok (.getfield 136, 3) := by decide +kernel
theorem dX10_hangUp_7 : decode cX10_hangUp 7 = .ok (.ifCond .ne 6, 3) := by decide +kernel
theorem dX10_hangUp_10 : decode cX10_hangUp 10 = .ok (.bipush (-2), 2) := by decide +kernel
theorem dX10_hangUp_12 : decode cX10_hangUp 12 = .ok (.ireturn, 1) := by decide +kernel
theorem dX10_hangUp_13 : decode cX10_hangUp 13 = .ok (.aload_n 0, 1) := by decide +kernel
theorem dX10_hangUp_14 : decode cX10_hangUp 14 = .ok (.invokevirtual 300, 3) := by decide +kernel
theorem dX10_hangUp_17 : decode cX10_hangUp 17 = .ok (.aload_n 0, 1) := by decide +kernel
theorem dX10_hangUp_18 : decode cX10_hangUp 18 = .ok (.getfield 27, 3) := by decide +kernel
theorem dX10_hangUp_21 : decode cX10_hangUp 21 = .ok (.invokevirtual 317, 3) := by decide +kernel
theorem dX10_hangUp_24 : decode cX10_hangUp 24 = .ok (.istore_n 1, 1) := by decide +kernel
theorem dX10_hangUp_25 : decode cX10_hangUp 25 = .ok (.aload_n 0, 1) := by decide +kernel
theorem dX10_hangUp_26 : decode cX10_hangUp 26 = .ok (.getfield 27, 3) := by decide +kernel
theorem dX10_hangUp_29 : decode cX10_hangUp 29 = .ok (.invokevirtual 320, 3) := by decide +kernel
theorem dX10_hangUp_32 : decode cX10_hangUp 32 = .ok (.iload_n 1, 1) := by decide +kernel
theorem dX10_hangUp_33 : decode cX10_hangUp 33 = .ok (.ireturn, 1) := by decide +kernel
def f_X_hangUp (m : xM) : Option (Int × xM) :=
     (if xw (m 11 8) = 0 then some ((-2), m)
      else (Option.bind (f_X_remember m) fun q0 =>
      (Option.bind (f_L_unreceived (xvw xT_25 q0)) fun q1 =>
      (Option.bind (f_L_cut (xvw xT_25 q0)) fun q2 =>
      some (q1, (xmg xT_25 38 q0 q2))))))
set_option maxRecDepth 1000000 in
set_option maxHeartbeats 4000000 in
theorem t_X_hangUp {Γ : xG} {d : Nat} (hd9 : 5 ≤ d) (C : xC Γ lay_X RX10 cX10_hangUp 2 d) {r : Int} {m9 : xM} (hR : xRi Γ lay_X cX10_hangUp r m9) (m : xM) (h : f_X_hangUp m = some (r, m9)) : xW Γ lay_X 2 0 [(0, .inr (.inr (some 0)))] [] m := by
  unfold f_X_hangUp at h
  refine x_aload_n C dX10_hangUp_0 rfl ?_
  refine x_getR C dX10_hangUp_1 fF_X10_27 rfl rfl ?_
  refine x_getI C dX10_hangUp_4 fF_X10_136 rfl rfl ?_
  refine x_if_ne C 13 dX10_hangUp_7 (by decide) h (fun h => ?_) (fun h => ?_)
  · refine x_aload_n C dX10_hangUp_13 rfl ?_
    obtain ⟨q0, hq0, h⟩ := x_bind h
    refine x_callVI C dX10_hangUp_14 (xin_51 _ (List.mem_of_getElem? (i := 2) rfl)) xy_X10_remember (xi_X10_remember) (xs_X10_remember) (by omega) (by decide) (b := 0) rfl ⟨_, _, rfl⟩ (av := []) rfl (Nat.le_of_ble_eq_true rfl) (c_X_remember _ _ _ hq0) rfl ?_
    refine x_aload_n C dX10_hangUp_17 rfl ?_
    refine x_getR C dX10_hangUp_18 fF_X10_27 rfl rfl ?_
    obtain ⟨q1, hq1, h⟩ := x_bind h
    refine x_callVp C dX10_hangUp_21 (xin_52 _ (List.mem_of_getElem? (i := 14) rfl)) xy_X3_unreceivedBytes (xi_X3_unreceivedBytes) (xs_X3_unreceivedBytes) xT_25 xv_81 (by omega) (by decide) (b := 0) rfl ⟨_, _, rfl⟩ (av := []) rfl (Nat.le_of_ble_eq_true rfl) (c_L_unreceived _ _ _ hq1) rfl ?_
    refine x_istore_n C dX10_hangUp_24 (by decide) ?_
    refine x_aload_n C dX10_hangUp_25 rfl ?_
    refine x_getR C dX10_hangUp_26 fF_X10_27 rfl rfl ?_
    obtain ⟨q2, hq2, h⟩ := x_bind h
    refine x_callV C dX10_hangUp_29 (xin_52 _ (List.mem_of_getElem? (i := 23) rfl)) xy_X3_cut (xi_X3_cut) (xs_X3_cut) xT_25 xv_81 (by omega) (by decide) (b := 0) rfl ⟨_, _, rfl⟩ (av := []) rfl (Nat.le_of_ble_eq_true rfl) (c_L_cut _ _ _ hq2) rfl ?_
    refine x_iload_n C dX10_hangUp_32 rfl ?_
    exact x_ireturn hR dX10_hangUp_33 h
  · refine x_bipush C dX10_hangUp_10 (by decide) ?_
    exact x_ireturn hR dX10_hangUp_12 h
theorem c_X_hangUp (l : Launch) (m : xM) (r : Int) (m9 : xM) (h : f_X_hangUp m = some (r, m9)) : xMet l yX10_hangUp cX10_hangUp 2 (some .int) 5 lay_X [.inr (.inr (some 0))] m (some (.inl r)) m9 :=
  xMet_i (by decide +kernel) (Nat.le_of_ble_eq_true rfl) (fun Γ C hR hl9 => t_X_hangUp (Nat.le_refl _) C hR m h)
/-! ===== yX10_setEscaped ===== -/
theorem dX10_setEscaped_0 : decode cX10_setEscaped 0 = .ok (.aload_n 0, 1) := by decide +kernel
theorem dX10_setEscaped_1 : decode cX10_setEscaped 1 = .ok (.iload_n 1, 1) := by decide +kernel
theorem dX10_setEscaped_2 : decode cX10_setEscaped 2 = .ok (.invokevirtual 181, 3) := by decide +kernel
theorem dX10_setEscaped_5 : decode cX10_setEscaped 5 = .ok (.aload_n 0, 1) := by decide +kernel
theorem dX10_setEscaped_6 : decode cX10_setEscaped 6 = .ok (.getfield 27, 3) := by decide +kernel
theorem dX10_setEscaped_9 : decode cX10_setEscaped 9 = .ok (.iload_n 1, 1) := by decide +kernel
theorem dX10_setEscaped_10 : decode cX10_setEscaped 10 = .ok (.invokevirtual 184, 3) := by decide +kernel
theorem dX10_setEscaped_13 : decode cX10_setEscaped 13 = .ok (.astore_n 3, 1) := by decide +kernel
theorem dX10_setEscaped_14 : decode cX10_setEscaped 14 = .ok (.aload_n 0, 1) := by decide +kernel
theorem dX10_setEscaped_15 : decode cX10_setEscaped 15 = .ok (.getfield 27, 3) := by decide +kernel
theorem dX10_setEscaped_18 : decode cX10_setEscaped 18 = .ok (.getfield 136, 3) := by decide +kernel
theorem dX10_setEscaped_21 : decode cX10_setEscaped 21 = .ok (.iconst 2, 1) := by decide +kernel
theorem dX10_setEscaped_22 : decode cX10_setEscaped 22 = .ok (.if_icmp .eq 6, 3) := by decide +kernel
theorem dX10_setEscaped_25 : decode cX10_setEscaped 25 = .ok (.bipush (-2), 2) := by decide +kernel
theorem dX10_setEscaped_27 : decode cX10_setEscaped 27 = .ok (.ireturn, 1) := by decide +kernel
theorem dX10_setEscaped_28 : decode cX10_setEscaped 28 = .ok (.aload_n 3, 1) := by decide +kernel
theorem dX10_setEscaped_29 : decode cX10_setEscaped 29 = .ok (.getfield 215, 3) := by decide +kernel
theorem dX10_setEscaped_32 : decode cX10_setEscaped 32 = .ok (.iload_n 2, 1) := by decide +kernel
theorem dX10_setEscaped_33 : decode cX10_setEscaped 33 = .ok (.if_icmp .ne 6, 3) := by decide +kernel
theorem dX10_setEscaped_36 : decode cX10_setEscaped 36 = .ok (.bipush (-3), 2) := by decide +kernel
theorem dX10_setEscaped_38 : decode cX10_setEscaped 38 = .ok (.ireturn, 1) := by decide +kernel
theorem dX10_setEscaped_39 : decode cX10_setEscaped 39 = .ok (.aload_n 0, 1) := by decide +kernel
theorem dX10_setEscaped_40 : decode cX10_setEscaped 40 = .ok (.invokevirtual 300, 3) := by decide +kernel
theorem dX10_setEscaped_43 : decode cX10_setEscaped 43 = .ok (.aload_n 3, 1) := by decide +kernel
theorem dX10_setEscaped_44 : decode cX10_setEscaped 44 = .ok (.iload_n 2, 1) := by decide +kernel
theorem dX10_setEscaped_45 : decode cX10_setEscaped 45 = .ok (.putfield 215, 3) := by decide +kernel
theorem dX10_setEscaped_48 : decode cX10_setEscaped 48 = .ok (.aload_n 3, 1) := by decide +kernel
theorem dX10_setEscaped_49 : decode cX10_setEscaped 49 = .ok (.getfield 188, 3) := by decide +kernel
theorem dX10_setEscaped_52 : decode cX10_setEscaped 52 = .ok (.ireturn, 1) := by decide +kernel
def f_X_setEscaped (e : Int) (b : Int) (m : xM) : Option (Int × xM) :=
     (Option.bind (f_X_checkEnd e m) fun q0 =>
      (if xw e = 0 then (if xw (m 11 8) = xw 2 then (if xw (m 12 9) = xw b then some ((-3), m)
      else (Option.bind (f_X_remember m) fun q3 =>
      (if xbz b then some ((q3 12 5), (xu q3 12 9 b))
      else none)))
      else some ((-2), m))
      else (if xw e = 1 then (if xw (m 11 8) = xw 2 then (if xw (m 23 9) = xw b then some ((-3), m)
      else (Option.bind (f_X_remember m) fun q5 =>
      (if xbz b then some ((q5 23 5), (xu q5 23 9 b))
      else none)))
      else some ((-2), m))
      else none)))
set_option maxRecDepth 1000000 in
set_option maxHeartbeats 4000000 in
theorem t_X_setEscaped {Γ : xG} {d : Nat} (hd9 : 5 ≤ d) (C : xC Γ lay_X RX10 cX10_setEscaped 4 d) (e : Int) (b : Int) {r : Int} {m9 : xM} (hR : xRi Γ lay_X cX10_setEscaped r m9) (m : xM) (h : f_X_setEscaped e b m = some (r, m9)) : xW Γ lay_X 4 0 [(0, .inr (.inr (some 0))), (1, .inl e), (2, .inl b)] [] m := by
  unfold f_X_setEscaped at h
  refine x_aload_n C dX10_setEscaped_0 rfl ?_
  refine x_iload_n C dX10_setEscaped_1 rfl ?_
  obtain ⟨q0, hq0, h⟩ := x_bind h
  refine x_callVI C dX10_setEscaped_2 (xin_26 _ (List.mem_of_getElem? (i := 23) rfl)) xy_X10_checkEnd (xi_X10_checkEnd) (xs_X10_checkEnd) (by omega) (by decide) (b := 0) rfl ⟨_, _, rfl⟩ (av := [.inl e]) rfl (Nat.le_of_ble_eq_true rfl) (c_X_checkEnd _ _ _ _ hq0) rfl ?_
  refine x_aload_n C dX10_setEscaped_5 rfl ?_
  refine x_getR C dX10_setEscaped_6 fF_X10_27 rfl rfl ?_
  refine x_iload_n C dX10_setEscaped_9 rfl ?_
  refine x_ite h (fun hk92 h => ?_) (fun _ h => ?_)
  · refine x_callVp C dX10_setEscaped_10 (xin_27 _ (List.mem_of_getElem? (i := 3) rfl)) xy_X3_endOf (xi_X3_endOf) (xs_X3_endOf) [11, 1, 12, 23, 34, 39, 41, 42] xv_59 (by omega) (by decide) (b := 0) rfl ⟨_, _, rfl⟩ (av := [.inl e]) rfl (Nat.le_of_ble_eq_true rfl) (c_endOf0 _ _ _ (by first | decide | assumption | exact xw_1m0 (by assumption) | exact xw_1m1 (by assumption) | exact xw_ne1 (by assumption) | exact xw_n1m0 (by assumption))) rfl ?_
    refine x_astore_n C dX10_setEscaped_13 (by decide) ?_
    refine x_aload_n C dX10_setEscaped_14 rfl ?_
    refine x_getR C dX10_setEscaped_15 fF_X10_27 rfl rfl ?_
    refine x_getI C dX10_setEscaped_18 fF_X10_136 rfl rfl ?_
    refine x_iconst C dX10_setEscaped_21 ?_
    refine x_icmp_eq C 28 dX10_setEscaped_22 (by decide) h (fun h => ?_) (fun h => ?_)
    · refine x_aload_n C dX10_setEscaped_28 rfl ?_
      refine x_getI C dX10_setEscaped_29 fF_X10_215 rfl rfl ?_
      refine x_iload_n C dX10_setEscaped_32 rfl ?_
      refine x_icmp_ne C 39 dX10_setEscaped_33 (by decide) h (fun h => ?_) (fun h => ?_)
      · refine x_aload_n C dX10_setEscaped_39 rfl ?_
        obtain ⟨q3, hq3, h⟩ := x_bind h
        refine x_callVI C dX10_setEscaped_40 (xin_51 _ (List.mem_of_getElem? (i := 2) rfl)) xy_X10_remember (xi_X10_remember) (xs_X10_remember) (by omega) (by decide) (b := 0) rfl ⟨_, _, rfl⟩ (av := []) rfl (Nat.le_of_ble_eq_true rfl) (c_X_remember _ _ _ hq3) rfl ?_
        refine x_aload_n C dX10_setEscaped_43 rfl ?_
        refine x_iload_n C dX10_setEscaped_44 rfl ?_
        refine x_putZc C dX10_setEscaped_45 fF_X10_215 rfl rfl h (fun h => ?_)
        refine x_aload_n C dX10_setEscaped_48 rfl ?_
        refine x_getI C dX10_setEscaped_49 fF_X10_188 rfl rfl ?_
        exact x_ireturn hR dX10_setEscaped_52 h
      · refine x_bipush C dX10_setEscaped_36 (by decide) ?_
        exact x_ireturn hR dX10_setEscaped_38 h
    · refine x_bipush C dX10_setEscaped_25 (by decide) ?_
      exact x_ireturn hR dX10_setEscaped_27 h
  · obtain ⟨hk92, h⟩ := x_some1 h
    refine x_callVp C dX10_setEscaped_10 (xin_27 _ (List.mem_of_getElem? (i := 3) rfl)) xy_X3_endOf (xi_X3_endOf) (xs_X3_endOf) [11, 1, 12, 23, 34, 39, 41, 42] xv_59 (by omega) (by decide) (b := 0) rfl ⟨_, _, rfl⟩ (av := [.inl e]) rfl (Nat.le_of_ble_eq_true rfl) (c_endOf1 _ _ _ (by first | decide | assumption | exact xw_1m0 (by assumption) | exact xw_1m1 (by assumption) | exact xw_ne1 (by assumption) | exact xw_n1m0 (by assumption))) rfl ?_
    refine x_astore_n C dX10_setEscaped_13 (by decide) ?_
    refine x_aload_n C dX10_setEscaped_14 rfl ?_
    refine x_getR C dX10_setEscaped_15 fF_X10_27 rfl rfl ?_
    refine x_getI C dX10_setEscaped_18 fF_X10_136 rfl rfl ?_
    refine x_iconst C dX10_setEscaped_21 ?_
    refine x_icmp_eq C 28 dX10_setEscaped_22 (by decide) h (fun h => ?_) (fun h => ?_)
    · refine x_aload_n C dX10_setEscaped_28 rfl ?_
      refine x_getI C dX10_setEscaped_29 fF_X10_215 rfl rfl ?_
      refine x_iload_n C dX10_setEscaped_32 rfl ?_
      refine x_icmp_ne C 39 dX10_setEscaped_33 (by decide) h (fun h => ?_) (fun h => ?_)
      · refine x_aload_n C dX10_setEscaped_39 rfl ?_
        obtain ⟨q5, hq5, h⟩ := x_bind h
        refine x_callVI C dX10_setEscaped_40 (xin_51 _ (List.mem_of_getElem? (i := 2) rfl)) xy_X10_remember (xi_X10_remember) (xs_X10_remember) (by omega) (by decide) (b := 0) rfl ⟨_, _, rfl⟩ (av := []) rfl (Nat.le_of_ble_eq_true rfl) (c_X_remember _ _ _ hq5) rfl ?_
        refine x_aload_n C dX10_setEscaped_43 rfl ?_
        refine x_iload_n C dX10_setEscaped_44 rfl ?_
        refine x_putZc C dX10_setEscaped_45 fF_X10_215 rfl rfl h (fun h => ?_)
        refine x_aload_n C dX10_setEscaped_48 rfl ?_
        refine x_getI C dX10_setEscaped_49 fF_X10_188 rfl rfl ?_
        exact x_ireturn hR dX10_setEscaped_52 h
      · refine x_bipush C dX10_setEscaped_36 (by decide) ?_
        exact x_ireturn hR dX10_setEscaped_38 h
    · refine x_bipush C dX10_setEscaped_25 (by decide) ?_
      exact x_ireturn hR dX10_setEscaped_27 h
theorem c_X_setEscaped (l : Launch) (e : Int) (b : Int) (m : xM) (r : Int) (m9 : xM) (h : f_X_setEscaped e b m = some (r, m9)) : xMet l yX10_setEscaped cX10_setEscaped 4 (some .int) 5 lay_X [.inr (.inr (some 0)), .inl e, .inl b] m (some (.inl r)) m9 :=
  xMet_i (by decide +kernel) (Nat.le_of_ble_eq_true rfl) (fun Γ C hR hl9 => t_X_setEscaped (Nat.le_refl _) C e b hR m h)
/-! ===== yX10_setEscaped ===== -/
def h_X_setEscaped (e : Int) (b : Int) (m : xM) : Option (Nat) :=
     (xthr (h_X_checkEnd e m) none)
set_option maxRecDepth 1000000 in
set_option maxHeartbeats 4000000 in
theorem t_h_X_setEscaped {Γ : xG} {d : Nat} (hd9 : 7 ≤ d) (C : xC Γ lay_X RX10 cX10_setEscaped 4 d) (CT : xCT Γ) (e : Int) (b : Int) {r : Nat} {m : xM} (hR : xRt Γ lay_X m (xEx r)) (h : h_X_setEscaped e b m = some r) : xW Γ lay_X 4 0 [(0, .inr (.inr (some 0))), (1, .inl e), (2, .inl b)] [] m := by
  unfold h_X_setEscaped at h
  refine x_aload_n C dX10_setEscaped_0 rfl ?_
  refine x_iload_n C dX10_setEscaped_1 rfl ?_
  rcases x_thr h with h9 | h
  · exact x_callVIT C CT hR dX10_setEscaped_2 (xin_26 _ (List.mem_of_getElem? (i := 23) rfl)) xy_X10_checkEnd (xi_X10_checkEnd) (xs_X10_checkEnd) (by omega) (by decide) (b := 0) rfl ⟨_, _, rfl⟩ (av := [.inl e]) rfl (Nat.le_of_ble_eq_true rfl) (ch_X_checkEnd _ (xCT_l CT) _ _ _ h9) rfl
  cases h
theorem ch_X_setEscaped (l : Launch) (hl : l.stackTraces = false) (e : Int) (b : Int) (m : xM) (r : Nat) (h : h_X_setEscaped e b m = some r) : xMetT l yX10_setEscaped cX10_setEscaped 4 (some .int) 7 lay_X [.inr (.inr (some 0)), .inl e, .inl b] m (xEx r) :=
  xMet_T hl (by decide +kernel) (Nat.le_of_ble_eq_true rfl) (fun Γ C CT hR hl9 => t_h_X_setEscaped (Nat.le_refl _) C CT e b hR h)
/-! ===== yX10_escape ===== -/
theorem xy_X10_setEscaped : xY yX10_setEscaped cX10_setEscaped 4 (some .int) 2 := ⟨(xin_53 _ (List.mem_of_getElem? (i := 18) rfl)), (xin_1 _ (List.mem_of_getElem? (i := 2) rfl)), by decide, by decide, by decide +kernel⟩
theorem xi_X10_setEscaped : Cond.instanceMethod yX10_setEscaped ∈ wsL_law := (xin_53 _ (List.mem_of_getElem? (i := 16) rfl))
theorem xs_X10_setEscaped : Cond.selects yX10_setEscaped.cls yX10_setEscaped yX10_setEscaped ∈ wsL_law := (xin_53 _ (List.mem_of_getElem? (i := 17) rfl))
theorem dX10_escape_0 : decode cX10_escape 0 = .ok (.aload_n 0, 1) := by decide +kernel
theorem dX10_escape_1 : decode cX10_escape 1 = .ok (.iload_n 1, 1) := by decide +kernel
theorem dX10_escape_2 : decode cX10_escape 2 = .ok (.iconst 1, 1) := by decide +kernel
theorem dX10_escape_3 : decode cX10_escape 3 = .ok (.invokevirtual 323, 3) := by decide +kernel
theorem dX10_escape_6 : decode cX10_escape 6 = .ok (.ireturn, 1) := by decide +kernel
def f_X_escape (e : Int) (m : xM) : Option (Int × xM) :=
     (Option.bind (f_X_setEscaped e 1 m) fun q0 =>
      some (q0.1, q0.2))
set_option maxRecDepth 1000000 in
set_option maxHeartbeats 4000000 in
theorem t_X_escape {Γ : xG} {d : Nat} (hd9 : 6 ≤ d) (C : xC Γ lay_X RX10 cX10_escape 2 d) (e : Int) {r : Int} {m9 : xM} (hR : xRi Γ lay_X cX10_escape r m9) (m : xM) (h : f_X_escape e m = some (r, m9)) : xW Γ lay_X 2 0 [(0, .inr (.inr (some 0))), (1, .inl e)] [] m := by
  unfold f_X_escape at h
  refine x_aload_n C dX10_escape_0 rfl ?_
  refine x_iload_n C dX10_escape_1 rfl ?_
  refine x_iconst C dX10_escape_2 ?_
  obtain ⟨q0, hq0, h⟩ := x_bind h
  refine x_callVI C dX10_escape_3 (xin_53 _ (List.mem_of_getElem? (i := 15) rfl)) xy_X10_setEscaped (xi_X10_setEscaped) (xs_X10_setEscaped) (by omega) (by decide) (b := 0) rfl ⟨_, _, rfl⟩ (av := [.inl e, .inl 1]) rfl (Nat.le_of_ble_eq_true rfl) (c_X_setEscaped _ _ _ _ q0.1 q0.2 hq0) rfl ?_
  exact x_ireturn hR dX10_escape_6 h
theorem c_X_escape (l : Launch) (e : Int) (m : xM) (r : Int) (m9 : xM) (h : f_X_escape e m = some (r, m9)) : xMet l yX10_escape cX10_escape 2 (some .int) 6 lay_X [.inr (.inr (some 0)), .inl e] m (some (.inl r)) m9 :=
  xMet_i (by decide +kernel) (Nat.le_of_ble_eq_true rfl) (fun Γ C hR hl9 => t_X_escape (Nat.le_refl _) C e hR m h)
/-! ===== yX10_escape ===== -/
def h_X_escape (e : Int) (m : xM) : Option (Nat) :=
     (xthr (h_X_setEscaped e 1 m) none)
set_option maxRecDepth 1000000 in
set_option maxHeartbeats 4000000 in
theorem t_h_X_escape {Γ : xG} {d : Nat} (hd9 : 8 ≤ d) (C : xC Γ lay_X RX10 cX10_escape 2 d) (CT : xCT Γ) (e : Int) {r : Nat} {m : xM} (hR : xRt Γ lay_X m (xEx r)) (h : h_X_escape e m = some r) : xW Γ lay_X 2 0 [(0, .inr (.inr (some 0))), (1, .inl e)] [] m := by
  unfold h_X_escape at h
  refine x_aload_n C dX10_escape_0 rfl ?_
  refine x_iload_n C dX10_escape_1 rfl ?_
  refine x_iconst C dX10_escape_2 ?_
  rcases x_thr h with h9 | h
  · exact x_callVIT C CT hR dX10_escape_3 (xin_53 _ (List.mem_of_getElem? (i := 15) rfl)) xy_X10_setEscaped (xi_X10_setEscaped) (xs_X10_setEscaped) (by omega) (by decide) (b := 0) rfl ⟨_, _, rfl⟩ (av := [.inl e, .inl 1]) rfl (Nat.le_of_ble_eq_true rfl) (ch_X_setEscaped _ (xCT_l CT) _ _ _ _ h9) rfl
  cases h
theorem ch_X_escape (l : Launch) (hl : l.stackTraces = false) (e : Int) (m : xM) (r : Nat) (h : h_X_escape e m = some r) : xMetT l yX10_escape cX10_escape 2 (some .int) 8 lay_X [.inr (.inr (some 0)), .inl e] m (xEx r) :=
  xMet_T hl (by decide +kernel) (Nat.le_of_ble_eq_true rfl) (fun Γ C CT hR hl9 => t_h_X_escape (Nat.le_refl _) C CT e hR h)
/-! ===== yX10_resume ===== -/
theorem dX10_resume_0 : decode cX10_resume 0 = .ok (.aload_n 0, 1) := by decide +kernel
theorem dX10_resume_1 : decode cX10_resume 1 = .ok (.iload_n 1, 1) := by decide +kernel
theorem dX10_resume_2 : decode cX10_resume 2 = .ok (.iconst 0, 1) := by decide +kernel
theorem dX10_resume_3 : decode cX10_resume 3 = .ok (.invokevirtual 323, 3) := by decide +kernel
theorem dX10_resume_6 : decode cX10_resume 6 = .ok (.ireturn, 1) := by decide +kernel
def f_X_resume (e : Int) (m : xM) : Option (Int × xM) :=
     (Option.bind (f_X_setEscaped e 0 m) fun q0 =>
      some (q0.1, q0.2))
set_option maxRecDepth 1000000 in
set_option maxHeartbeats 4000000 in
theorem t_X_resume {Γ : xG} {d : Nat} (hd9 : 6 ≤ d) (C : xC Γ lay_X RX10 cX10_resume 2 d) (e : Int) {r : Int} {m9 : xM} (hR : xRi Γ lay_X cX10_resume r m9) (m : xM) (h : f_X_resume e m = some (r, m9)) : xW Γ lay_X 2 0 [(0, .inr (.inr (some 0))), (1, .inl e)] [] m := by
  unfold f_X_resume at h
  refine x_aload_n C dX10_resume_0 rfl ?_
  refine x_iload_n C dX10_resume_1 rfl ?_
  refine x_iconst C dX10_resume_2 ?_
  obtain ⟨q0, hq0, h⟩ := x_bind h
  refine x_callVI C dX10_resume_3 (xin_53 _ (List.mem_of_getElem? (i := 15) rfl)) xy_X10_setEscaped (xi_X10_setEscaped) (xs_X10_setEscaped) (by omega) (by decide) (b := 0) rfl ⟨_, _, rfl⟩ (av := [.inl e, .inl 0]) rfl (Nat.le_of_ble_eq_true rfl) (c_X_setEscaped _ _ _ _ q0.1 q0.2 hq0) rfl ?_
  exact x_ireturn hR dX10_resume_6 h
theorem c_X_resume (l : Launch) (e : Int) (m : xM) (r : Int) (m9 : xM) (h : f_X_resume e m = some (r, m9)) : xMet l yX10_resume cX10_resume 2 (some .int) 6 lay_X [.inr (.inr (some 0)), .inl e] m (some (.inl r)) m9 :=
  xMet_i (by decide +kernel) (Nat.le_of_ble_eq_true rfl) (fun Γ C hR hl9 => t_X_resume (Nat.le_refl _) C e hR m h)
/-! ===== yX10_resume ===== -/
def h_X_resume (e : Int) (m : xM) : Option (Nat) :=
     (xthr (h_X_setEscaped e 0 m) none)
set_option maxRecDepth 1000000 in
set_option maxHeartbeats 4000000 in
theorem t_h_X_resume {Γ : xG} {d : Nat} (hd9 : 8 ≤ d) (C : xC Γ lay_X RX10 cX10_resume 2 d) (CT : xCT Γ) (e : Int) {r : Nat} {m : xM} (hR : xRt Γ lay_X m (xEx r)) (h : h_X_resume e m = some r) : xW Γ lay_X 2 0 [(0, .inr (.inr (some 0))), (1, .inl e)] [] m := by
  unfold h_X_resume at h
  refine x_aload_n C dX10_resume_0 rfl ?_
  refine x_iload_n C dX10_resume_1 rfl ?_
  refine x_iconst C dX10_resume_2 ?_
  rcases x_thr h with h9 | h
  · exact x_callVIT C CT hR dX10_resume_3 (xin_53 _ (List.mem_of_getElem? (i := 15) rfl)) xy_X10_setEscaped (xi_X10_setEscaped) (xs_X10_setEscaped) (by omega) (by decide) (b := 0) rfl ⟨_, _, rfl⟩ (av := [.inl e, .inl 0]) rfl (Nat.le_of_ble_eq_true rfl) (ch_X_setEscaped _ (xCT_l CT) _ _ _ _ h9) rfl
  cases h
theorem ch_X_resume (l : Launch) (hl : l.stackTraces = false) (e : Int) (m : xM) (r : Nat) (h : h_X_resume e m = some r) : xMetT l yX10_resume cX10_resume 2 (some .int) 8 lay_X [.inr (.inr (some 0)), .inl e] m (xEx r) :=
  xMet_T hl (by decide +kernel) (Nat.le_of_ble_eq_true rfl) (fun Γ C CT hR hl9 => t_h_X_resume (Nat.le_refl _) C CT e hR h)
/-! ===== yX10_send ===== -/
theorem xy_X10_checkLength : xY yX10_checkLength cX10_checkLength 3 none 2 := ⟨(xin_11 _ (List.mem_of_getElem? (i := 2) rfl)), (xin_1 _ (List.mem_of_getElem? (i := 2) rfl)), by decide, by decide, by decide +kernel⟩
theorem xi_X10_checkLength : Cond.instanceMethod yX10_checkLength ∈ wsL_law := (xin_11 _ (List.mem_of_getElem? (i := 0) rfl))
theorem xs_X10_checkLength : Cond.selects yX10_checkLength.cls yX10_checkLength yX10_checkLength ∈ wsL_law := (xin_11 _ (List.mem_of_getElem? (i := 1) rfl))
theorem xy_X1_enqueue : xY yX1_enqueue cX1_enqueue 3 none 2 := ⟨(xin_55 _ (List.mem_of_getElem? (i := 0) rfl)), (xin_4 _ (List.mem_of_getElem? (i := 0) rfl)), by decide, by decide, by decide +kernel⟩
theorem xi_X1_enqueue : Cond.instanceMethod yX1_enqueue ∈ wsL_law := (xin_54 _ (List.mem_of_getElem? (i := 22) rfl))
theorem xs_X1_enqueue : Cond.selects yX1_enqueue.cls yX1_enqueue yX1_enqueue ∈ wsL_law := (xin_54 _ (List.mem_of_getElem? (i := 23) rfl))
theorem xv_82 : xview lay_X lay_ES [12, 13, 14, 15, 16, 17, 18, 19, 20, 21, 22, 441] := xview_of (by decide +kernel)
theorem xv_83 : xview lay_X lay_ES [23, 24, 25, 26, 27, 28, 29, 30, 31, 32, 33, 441] := xview_of (by decide +kernel)
theorem dX10_send_0 : decode cX10_send 0 = .ok (.aload_n 0, 1) := by decide +kernel
theorem dX10_send_1 : decode cX10_send 1 = .ok (.iload_n 1, 1) := by decide +kernel
theorem dX10_send_2 : decode cX10_send 2 = .ok (.invokevirtual 181, 3) := by decide +kernel
theorem dX10_send_5 : decode cX10_send 5 = .ok (.aload_n 0, 1) := by decide +kernel
theorem dX10_send_6 : decode cX10_send 6 = .ok (.iload_n 2, 1) := by decide +kernel
theorem dX10_send_7 : decode cX10_send 7 = .ok (.sipush 600, 3) := by decide +kernel
theorem dX10_send_10 : decode cX10_send 10 = .ok (.invokevirtual 97, 3) := by decide +kernel
theorem dX10_send_13 : decode cX10_send 13 = .ok (.aload_n 0, 1) := by decide +kernel
theorem dX10_send_14 : decode cX10_send 14 = .ok (.iconst 0, 1) := by decide +kernel
theorem dX10_send_15 : decode cX10_send 15 = .ok (.putfield 90, 3) := by decide +kernel
theorem dX10_send_18 : decode cX10_send 18 = .ok (.aload_n 0, 1) := by decide +kernel
theorem dX10_send_19 : decode cX10_send 19 = .ok (.getfield 27, 3) := by decide +kernel
theorem dX10_send_22 : decode cX10_send 22 = .ok (.iload_n 1, 1) := by decide +kernel
theorem dX10_send_23 : decode cX10_send 23 = .ok (.invokevirtual 184, 3) := by decide +kernel
theorem dX10_send_26 : decode cX10_send 26 = .ok (.astore_n 3, 1) := by decide +kernel
theorem dX10_send_27 : decode cX10_send 27 = .ok (.aload_n 0, 1) := by decide +kernel
theorem dX10_send_28 : decode cX10_send 28 = .ok (.getfield 27, 3) := by decide +kernel
theorem dX10_send_31 : decode cX10_send 31 = .ok (.getfield 136, 3) := by decide +kernel
theorem dX10_send_34 : decode cX10_send 34 = .ok (.ifCond .ne 6, 3) := by decide +kernel
theorem dX10_send_37 : decode cX10_send 37 = .ok (.bipush (-2), 2) := by decide +kernel
theorem dX10_send_39 : decode cX10_send 39 = .ok (.ireturn, 1) := by decide +kernel
theorem dX10_send_40 : decode cX10_send 40 = .ok (.aload_n 3, 1) := by decide +kernel
theorem dX10_send_41 : decode cX10_send 41 = .ok (.getfield 188, 3) := by decide +kernel
theorem dX10_send_44 : decode cX10_send 44 = .ok (.iload_n 2, 1) := by decide +kernel
theorem dX10_send_45 : decode cX10_send 45 = .ok (.iadd, 1) := by decide +kernel
theorem dX10_send_46 : decode cX10_send 46 = .ok (.sipush 200, 3) := by decide +kernel
theorem dX10_send_49 : decode cX10_send 49 = .ok (.if_icmp .le 6, 3) := by decide +kernel
theorem dX10_send_52 : decode cX10_send 52 = .ok (.bipush (-3), 2) := by decide +kernel
theorem dX10_send_54 : decode cX10_send 54 = .ok (.ireturn, 1) := by decide +kernel
theorem dX10_send_55 : decode cX10_send 55 = .ok (.aload_n 0, 1) := by decide +kernel
theorem dX10_send_56 : decode cX10_send 56 = .ok (.invokevirtual 300, 3) := by decide +kernel
theorem dX10_send_59 : decode cX10_send 59 = .ok (.aload_n 3, 1) := by decide +kernel
theorem dX10_send_60 : decode cX10_send 60 = .ok (.aload_n 0, 1) := by decide +kernel
theorem dX10_send_61 : decode cX10_send 61 = .ok (.getfield 41, 3) := by decide +kernel
theorem dX10_send_64 : decode cX10_send 64 = .ok (.iload_n 2, 1) := by decide +kernel
theorem dX10_send_65 : decode cX10_send 65 = .ok (.invokevirtual 327, 3) := by decide +kernel
theorem dX10_send_68 : decode cX10_send 68 = .ok (.aload_n 3, 1) := by decide +kernel
theorem dX10_send_69 : decode cX10_send 69 = .ok (.getfield 188, 3) := by decide +kernel
theorem dX10_send_72 : decode cX10_send 72 = .ok (.ireturn, 1) := by decide +kernel
def f_X_send_68 (e : Int) (z : Int) (m : xM) : Option (Int × xM) :=
     some ((m 12 5), m)
set_option maxRecDepth 1000000 in
set_option maxHeartbeats 4000000 in
theorem t_X_send_68 {Γ : xG} {d : Nat} (hd9 : 5 ≤ d) (C : xC Γ lay_X RX10 cX10_send 4 d) (e : Int) (z : Int) {r : Int} {m9 : xM} (hR : xRi Γ lay_X cX10_send r m9) (m : xM) (h : f_X_send_68 e z m = some (r, m9)) : xW Γ lay_X 4 68 [(3, .inr (.inr (some 12)))] [] m := by
  unfold f_X_send_68 at h
  refine x_aload_n C dX10_send_68 rfl ?_
  refine x_getI C dX10_send_69 fF_X10_188 rfl rfl ?_
  exact x_ireturn hR dX10_send_72 h
def f_X_send_68_23 (e : Int) (z : Int) (m : xM) : Option (Int × xM) :=
     some ((m 23 5), m)
set_option maxRecDepth 1000000 in
set_option maxHeartbeats 4000000 in
theorem t_X_send_68_23 {Γ : xG} {d : Nat} (hd9 : 5 ≤ d) (C : xC Γ lay_X RX10 cX10_send 4 d) (e : Int) (z : Int) {r : Int} {m9 : xM} (hR : xRi Γ lay_X cX10_send r m9) (m : xM) (h : f_X_send_68_23 e z m = some (r, m9)) : xW Γ lay_X 4 68 [(3, .inr (.inr (some 23)))] [] m := by
  unfold f_X_send_68_23 at h
  refine x_aload_n C dX10_send_68 rfl ?_
  refine x_getI C dX10_send_69 fF_X10_188 rfl rfl ?_
  exact x_ireturn hR dX10_send_72 h
def f_X_send (e : Int) (z : Int) (m : xM) : Option (Int × xM) :=
     (Option.bind (f_X_checkEnd e m) fun q0 =>
      (Option.bind (f_X_checkLength z 600 m) fun q1 =>
      (if xw e = 0 then (if xw (m 11 8) = 0 then some ((-2), (xu m 0 10 0))
      else (if xw 200 < xw ((m 12 5) + z) then some ((-3), (xu m 0 10 0))
      else (Option.bind (f_X_remember (xu m 0 10 0)) fun q4 =>
      (Option.bind (f_E_enq z (xvw [12, 13, 14, 15, 16, 17, 18, 19, 20, 21, 22, 441] q4)) fun q5 =>
      f_X_send_68 e z (xmg [12, 13, 14, 15, 16, 17, 18, 19, 20, 21, 22, 441] 12 q4 q5)))))
      else (if xw e = 1 then (if xw (m 11 8) = 0 then some ((-2), (xu m 0 10 0))
      else (if xw 200 < xw ((m 23 5) + z) then some ((-3), (xu m 0 10 0))
      else (Option.bind (f_X_remember (xu m 0 10 0)) fun q7 =>
      (Option.bind (f_E_enq z (xvw [23, 24, 25, 26, 27, 28, 29, 30, 31, 32, 33, 441] q7)) fun q8 =>
      f_X_send_68_23 e z (xmg [23, 24, 25, 26, 27, 28, 29, 30, 31, 32, 33, 441] 12 q7 q8)))))
      else none))))
set_option maxRecDepth 1000000 in
set_option maxHeartbeats 4000000 in
theorem t_X_send {Γ : xG} {d : Nat} (hd9 : 5 ≤ d) (C : xC Γ lay_X RX10 cX10_send 4 d) (e : Int) (z : Int) {r : Int} {m9 : xM} (hR : xRi Γ lay_X cX10_send r m9) (m : xM) (h : f_X_send e z m = some (r, m9)) : xW Γ lay_X 4 0 [(0, .inr (.inr (some 0))), (1, .inl e), (2, .inl z)] [] m := by
  unfold f_X_send at h
  refine x_aload_n C dX10_send_0 rfl ?_
  refine x_iload_n C dX10_send_1 rfl ?_
  obtain ⟨q0, hq0, h⟩ := x_bind h
  refine x_callVI C dX10_send_2 (xin_26 _ (List.mem_of_getElem? (i := 23) rfl)) xy_X10_checkEnd (xi_X10_checkEnd) (xs_X10_checkEnd) (by omega) (by decide) (b := 0) rfl ⟨_, _, rfl⟩ (av := [.inl e]) rfl (Nat.le_of_ble_eq_true rfl) (c_X_checkEnd _ _ _ _ hq0) rfl ?_
  refine x_aload_n C dX10_send_5 rfl ?_
  refine x_iload_n C dX10_send_6 rfl ?_
  refine x_sipush C dX10_send_7 (by decide) ?_
  obtain ⟨q1, hq1, h⟩ := x_bind h
  refine x_callVI C dX10_send_10 (xin_10 _ (List.mem_of_getElem? (i := 23) rfl)) xy_X10_checkLength (xi_X10_checkLength) (xs_X10_checkLength) (by omega) (by decide) (b := 0) rfl ⟨_, _, rfl⟩ (av := [.inl z, .inl 600]) rfl (Nat.le_of_ble_eq_true rfl) (c_X_checkLength _ _ _ _ _ hq1) rfl ?_
  refine x_aload_n C dX10_send_13 rfl ?_
  refine x_iconst C dX10_send_14 ?_
  refine x_putI C dX10_send_15 fF_X10_90 rfl rfl ?_
  refine x_aload_n C dX10_send_18 rfl ?_
  refine x_getR C dX10_send_19 fF_X10_27 rfl rfl ?_
  refine x_iload_n C dX10_send_22 rfl ?_
  refine x_ite h (fun hk93 h => ?_) (fun _ h => ?_)
  · refine x_callVp C dX10_send_23 (xin_27 _ (List.mem_of_getElem? (i := 3) rfl)) xy_X3_endOf (xi_X3_endOf) (xs_X3_endOf) [11, 1, 12, 23, 34, 39, 41, 42] xv_59 (by omega) (by decide) (b := 0) rfl ⟨_, _, rfl⟩ (av := [.inl e]) rfl (Nat.le_of_ble_eq_true rfl) (c_endOf0 _ _ _ (by first | decide | assumption | exact xw_1m0 (by assumption) | exact xw_1m1 (by assumption) | exact xw_ne1 (by assumption) | exact xw_n1m0 (by assumption))) rfl ?_
    refine x_astore_n C dX10_send_26 (by decide) ?_
    refine x_aload_n C dX10_send_27 rfl ?_
    refine x_getR C dX10_send_28 fF_X10_27 rfl rfl ?_
    refine x_getI C dX10_send_31 fF_X10_136 rfl rfl ?_
    refine x_if_ne C 40 dX10_send_34 (by decide) h (fun h => ?_) (fun h => ?_)
    · refine x_aload_n C dX10_send_40 rfl ?_
      refine x_getI C dX10_send_41 fF_X10_188 rfl rfl ?_
      refine x_iload_n C dX10_send_44 rfl ?_
      refine x_iadd C dX10_send_45 ?_
      refine x_sipush C dX10_send_46 (by decide) ?_
      refine x_icmp_le C 55 dX10_send_49 (by decide) h (fun h => ?_) (fun h => ?_)
      · refine x_aload_n C dX10_send_55 rfl ?_
        obtain ⟨q4, hq4, h⟩ := x_bind h
        refine x_callVI C dX10_send_56 (xin_51 _ (List.mem_of_getElem? (i := 2) rfl)) xy_X10_remember (xi_X10_remember) (xs_X10_remember) (by omega) (by decide) (b := 0) rfl ⟨_, _, rfl⟩ (av := []) rfl (Nat.le_of_ble_eq_true rfl) (c_X_remember _ _ _ hq4) rfl ?_
        refine x_aload_n C dX10_send_59 rfl ?_
        refine x_aload_n C dX10_send_60 rfl ?_
        refine x_getR C dX10_send_61 fF_X10_41 rfl rfl ?_
        refine x_iload_n C dX10_send_64 rfl ?_
        obtain ⟨q5, hq5, h⟩ := x_bind h
        refine x_callV C dX10_send_65 (xin_54 _ (List.mem_of_getElem? (i := 21) rfl)) xy_X1_enqueue (xi_X1_enqueue) (xs_X1_enqueue) [12, 13, 14, 15, 16, 17, 18, 19, 20, 21, 22, 441] xv_82 (by omega) (by decide) (b := 0) rfl ⟨_, _, rfl⟩ (av := [.inr (.inr (some 11)), .inl z]) rfl (Nat.le_of_ble_eq_true rfl) (c_E_enq _ _ _ _ hq5) rfl ?_
        refine x_loc [(3, .inr (.inr (some 12)))] ⟨rfl, trivial⟩ ?_
        exact t_X_send_68 hd9 C _ _ hR _ h
      · refine x_bipush C dX10_send_52 (by decide) ?_
        exact x_ireturn hR dX10_send_54 h
    · refine x_bipush C dX10_send_37 (by decide) ?_
      exact x_ireturn hR dX10_send_39 h
  · obtain ⟨hk93, h⟩ := x_some1 h
    refine x_callVp C dX10_send_23 (xin_27 _ (List.mem_of_getElem? (i := 3) rfl)) xy_X3_endOf (xi_X3_endOf) (xs_X3_endOf) [11, 1, 12, 23, 34, 39, 41, 42] xv_59 (by omega) (by decide) (b := 0) rfl ⟨_, _, rfl⟩ (av := [.inl e]) rfl (Nat.le_of_ble_eq_true rfl) (c_endOf1 _ _ _ (by first | decide | assumption | exact xw_1m0 (by assumption) | exact xw_1m1 (by assumption) | exact xw_ne1 (by assumption) | exact xw_n1m0 (by assumption))) rfl ?_
    refine x_astore_n C dX10_send_26 (by decide) ?_
    refine x_aload_n C dX10_send_27 rfl ?_
    refine x_getR C dX10_send_28 fF_X10_27 rfl rfl ?_
    refine x_getI C dX10_send_31 fF_X10_136 rfl rfl ?_
    refine x_if_ne C 40 dX10_send_34 (by decide) h (fun h => ?_) (fun h => ?_)
    · refine x_aload_n C dX10_send_40 rfl ?_
      refine x_getI C dX10_send_41 fF_X10_188 rfl rfl ?_
      refine x_iload_n C dX10_send_44 rfl ?_
      refine x_iadd C dX10_send_45 ?_
      refine x_sipush C dX10_send_46 (by decide) ?_
      refine x_icmp_le C 55 dX10_send_49 (by decide) h (fun h => ?_) (fun h => ?_)
      · refine x_aload_n C dX10_send_55 rfl ?_
        obtain ⟨q7, hq7, h⟩ := x_bind h
        refine x_callVI C dX10_send_56 (xin_51 _ (List.mem_of_getElem? (i := 2) rfl)) xy_X10_remember (xi_X10_remember) (xs_X10_remember) (by omega) (by decide) (b := 0) rfl ⟨_, _, rfl⟩ (av := []) rfl (Nat.le_of_ble_eq_true rfl) (c_X_remember _ _ _ hq7) rfl ?_
        refine x_aload_n C dX10_send_59 rfl ?_
        refine x_aload_n C dX10_send_60 rfl ?_
        refine x_getR C dX10_send_61 fF_X10_41 rfl rfl ?_
        refine x_iload_n C dX10_send_64 rfl ?_
        obtain ⟨q8, hq8, h⟩ := x_bind h
        refine x_callV C dX10_send_65 (xin_54 _ (List.mem_of_getElem? (i := 21) rfl)) xy_X1_enqueue (xi_X1_enqueue) (xs_X1_enqueue) [23, 24, 25, 26, 27, 28, 29, 30, 31, 32, 33, 441] xv_83 (by omega) (by decide) (b := 0) rfl ⟨_, _, rfl⟩ (av := [.inr (.inr (some 11)), .inl z]) rfl (Nat.le_of_ble_eq_true rfl) (c_E_enq _ _ _ _ hq8) rfl ?_
        refine x_loc [(3, .inr (.inr (some 23)))] ⟨rfl, trivial⟩ ?_
        exact t_X_send_68_23 hd9 C _ _ hR _ h
      · refine x_bipush C dX10_send_52 (by decide) ?_
        exact x_ireturn hR dX10_send_54 h
    · refine x_bipush C dX10_send_37 (by decide) ?_
      exact x_ireturn hR dX10_send_39 h
theorem c_X_send (l : Launch) (e : Int) (z : Int) (m : xM) (r : Int) (m9 : xM) (h : f_X_send e z m = some (r, m9)) : xMet l yX10_send cX10_send 4 (some .int) 5 lay_X [.inr (.inr (some 0)), .inl e, .inl z] m (some (.inl r)) m9 :=
  xMet_i (by decide +kernel) (Nat.le_of_ble_eq_true rfl) (fun Γ C hR hl9 => t_X_send (Nat.le_refl _) C e z hR m h)

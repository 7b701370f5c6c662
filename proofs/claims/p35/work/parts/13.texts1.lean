/-! ===== tokens ===== -/
theorem dX8_kindOf_0 : decode cX8_kindOf 0 = .ok (.iload_n 0, 1) := by decide +kernel
theorem dX8_kindOf_1 : decode cX8_kindOf 1 = .ok (.bipush 48, 2) := by decide +kernel
theorem dX8_kindOf_3 : decode cX8_kindOf 3 = .ok (.if_icmp .lt 11, 3) := by decide +kernel
theorem dX8_kindOf_6 : decode cX8_kindOf 6 = .ok (.iload_n 0, 1) := by decide +kernel
theorem dX8_kindOf_7 : decode cX8_kindOf 7 = .ok (.bipush 57, 2) := by decide +kernel
theorem dX8_kindOf_9 : decode cX8_kindOf 9 = .ok (.if_icmp .gt 5, 3) := by decide +kernel
theorem dX8_kindOf_12 : decode cX8_kindOf 12 = .ok (.iconst 2, 1) := by decide +kernel
theorem dX8_kindOf_13 : decode cX8_kindOf 13 = .ok (.ireturn, 1) := by decide +kernel
theorem dX8_kindOf_14 : decode cX8_kindOf 14 = .ok (.iload_n 0, 1) := by decide +kernel
theorem dX8_kindOf_15 : decode cX8_kindOf 15 = .ok (.bipush 97, 2) := by decide +kernel
theorem dX8_kindOf_17 : decode cX8_kindOf 17 = .ok (.if_icmp .lt 13, 3) := by decide +kernel
theorem dX8_kindOf_20 : decode cX8_kindOf 20 = .ok (.iload_n 0, 1) := by decide +kernel
theorem dX8_kindOf_21 : decode cX8_kindOf 21 = .ok (.bipush 122, 2) := by decide +kernel
theorem dX8_kindOf_23 : decode cX8_kindOf 23 = .ok (.if_icmp .gt 7, 3) := by decide +kernel
theorem dX8_kindOf_26 : decode cX8_kindOf 26 = .ok (.iconst 1, 1) := by decide +kernel
theorem dX8_kindOf_27 : decode cX8_kindOf 27 = .ok (.goto 4, 3) := by decide +kernel
theorem dX8_kindOf_30 : decode cX8_kindOf 30 = .ok (.iconst 3, 1) := by decide +kernel
theorem dX8_kindOf_31 : decode cX8_kindOf 31 = .ok (.ireturn, 1) := by decide +kernel
def f_T_kind_14 (s : Int) (m : xM) : Option (Int) :=
     (if xw s < xw 97 then some 3
      else (if xw 122 < xw s then some 3
      else some 1))
set_option maxRecDepth 1000000 in
set_option maxHeartbeats 4000000 in
theorem t_T_kind_14 {Γ : xG} {d : Nat} (hd9 : 1 ≤ d) (C : xC Γ lay_T RX8 cX8_kindOf 1 d) (s : Int) {r : Int} {m : xM} (hR : xRi Γ lay_T cX8_kindOf r m) (h : f_T_kind_14 s m = some r) : xW Γ lay_T 1 14 [(0, .inl s)] [] m := by
  unfold f_T_kind_14 at h
  refine x_iload_n C dX8_kindOf_14 rfl ?_
  refine x_bipush C dX8_kindOf_15 (by decide) ?_
  refine x_icmp_lt C 30 dX8_kindOf_17 (by decide) h (fun h => ?_) (fun h => ?_)
  · refine x_iconst C dX8_kindOf_30 ?_
    exact x_ireturnP hR dX8_kindOf_31 h
  · refine x_iload_n C dX8_kindOf_20 rfl ?_
    refine x_bipush C dX8_kindOf_21 (by decide) ?_
    refine x_icmp_gt C 30 dX8_kindOf_23 (by decide) h (fun h => ?_) (fun h => ?_)
    · refine x_iconst C dX8_kindOf_30 ?_
      exact x_ireturnP hR dX8_kindOf_31 h
    · refine x_iconst C dX8_kindOf_26 ?_
      refine x_goto C 31 dX8_kindOf_27 (by decide) ?_
      exact x_ireturnP hR dX8_kindOf_31 h
def f_T_kind (s : Int) (m : xM) : Option (Int) :=
     (if xw s < xw 48 then f_T_kind_14 s m
      else (if xw 57 < xw s then f_T_kind_14 s m
      else some 2))
set_option maxRecDepth 1000000 in
set_option maxHeartbeats 4000000 in
theorem t_T_kind {Γ : xG} {d : Nat} (hd9 : 1 ≤ d) (C : xC Γ lay_T RX8 cX8_kindOf 1 d) (s : Int) {r : Int} {m : xM} (hR : xRi Γ lay_T cX8_kindOf r m) (h : f_T_kind s m = some r) : xW Γ lay_T 1 0 [(0, .inl s)] [] m := by
  unfold f_T_kind at h
  refine x_iload_n C dX8_kindOf_0 rfl ?_
  refine x_bipush C dX8_kindOf_1 (by decide) ?_
  refine x_icmp_lt C 14 dX8_kindOf_3 (by decide) h (fun h => ?_) (fun h => ?_)
  · refine x_loc [(0, .inl s)] ⟨rfl, trivial⟩ ?_
    exact t_T_kind_14 hd9 C _ hR h
  · refine x_iload_n C dX8_kindOf_6 rfl ?_
    refine x_bipush C dX8_kindOf_7 (by decide) ?_
    refine x_icmp_gt C 14 dX8_kindOf_9 (by decide) h (fun h => ?_) (fun h => ?_)
    · refine x_loc [(0, .inl s)] ⟨rfl, trivial⟩ ?_
      exact t_T_kind_14 hd9 C _ hR h
    · refine x_iconst C dX8_kindOf_12 ?_
      exact x_ireturnP hR dX8_kindOf_13 h
theorem c_T_kind (l : Launch) (s : Int) (m : xM) (r : Int) (h : f_T_kind s m = some r) : xMet l yX8_kindOf cX8_kindOf 1 (some .int) 1 lay_T [.inl s] m (some (.inl r)) m :=
  xMet_i (by decide +kernel) (Nat.le_of_ble_eq_true rfl) (fun Γ C hR hl9 => t_T_kind (Nat.le_refl _) C s hR h)
theorem fF_X8_25 : xF RX8 25 9 2 .int false := ⟨RX8, TX8, 7, tyX8, rfl, by decide, (xin_12 _ (List.mem_of_getElem? (i := 13) rfl)), rfl, inlX8, tyX8_ok, nmX8, rfl, rfl⟩
theorem fF_X8_28 : xF RX8 28 9 4 .int false := ⟨RX8, TX8, 7, tyX8, rfl, by decide, (xin_12 _ (List.mem_of_getElem? (i := 14) rfl)), rfl, inlX8, tyX8_ok, nmX8, rfl, rfl⟩
theorem fF_X8_37 : xF RX8 37 9 3 .int false := ⟨RX8, TX8, 7, tyX8, rfl, by decide, (xin_12 _ (List.mem_of_getElem? (i := 20) rfl)), rfl, inlX8, tyX8_ok, nmX8, rfl, rfl⟩
theorem fF_X8_21 : xF RX8 21 9 1 .int false := ⟨RX8, TX8, 7, tyX8, rfl, by decide, (xin_12 _ (List.mem_of_getElem? (i := 12) rfl)), rfl, inlX8, tyX8_ok, nmX8, rfl, rfl⟩
theorem fF_X8_44 : xF RX8 44 9 5 .int false := ⟨RX8, TX8, 7, tyX8, rfl, by decide, (xin_12 _ (List.mem_of_getElem? (i := 21) rfl)), rfl, inlX8, tyX8_ok, nmX8, rfl, rfl⟩
theorem fF_X8_9 : xF RX8 9 9 0 (.array .int) true := ⟨RX8, TX8, 7, tyX8, rfl, by decide, (xin_6 _ (List.mem_of_getElem? (i := 3) rfl)), rfl, inlX8, tyX8_ok, nmX8, rfl, rfl⟩
theorem xy_X8_kindOf : xY yX8_kindOf cX8_kindOf 1 (some .int) 1 := ⟨(xin_13 _ (List.mem_of_getElem? (i := 1) rfl)), (xin_2 _ (List.mem_of_getElem? (i := 3) rfl)), by decide, by decide, by decide +kernel⟩
theorem xt_X8_kindOf : Cond.static yX8_kindOf ∈ wsL_law := (xin_13 _ (List.mem_of_getElem? (i := 0) rfl))
theorem dX8_next_0 : decode cX8_next 0 = .ok (.aload_n 0, 1) := by decide +kernel
theorem dX8_next_1 : decode cX8_next 1 = .ok (.getfield 25, 3) := by decide +kernel
theorem dX8_next_4 : decode cX8_next 4 = .ok (.iconst 4, 1) := by decide +kernel
theorem dX8_next_5 : decode cX8_next 5 = .ok (.if_icmp .ne 4, 3) := by decide +kernel
theorem dX8_next_8 : decode cX8_next 8 = .ok (.return_, 1) := by decide +kernel
theorem dX8_next_9 : decode cX8_next 9 = .ok (.aload_n 0, 1) := by decide +kernel
theorem dX8_next_10 : decode cX8_next 10 = .ok (.aload_n 0, 1) := by decide +kernel
theorem dX8_next_11 : decode cX8_next 11 = .ok (.getfield 28, 3) := by decide +kernel
theorem dX8_next_14 : decode cX8_next 14 = .ok (.putfield 37, 3) := by decide +kernel
theorem dX8_next_17 : decode cX8_next 17 = .ok (.aload_n 0, 1) := by decide +kernel
theorem dX8_next_18 : decode cX8_next 18 = .ok (.getfield 37, 3) := by decide +kernel
theorem dX8_next_21 : decode cX8_next 21 = .ok (.aload_n 0, 1) := by decide +kernel
theorem dX8_next_22 : decode cX8_next 22 = .ok (.getfield 21, 3) := by decide +kernel
theorem dX8_next_25 : decode cX8_next 25 = .ok (.if_icmp .ge 44, 3) := by decide +kernel
theorem dX8_next_28 : decode cX8_next 28 = .ok (.aload_n 0, 1) := by decide +kernel
theorem dX8_next_29 : decode cX8_next 29 = .ok (.getfield 9, 3) := by decide +kernel
theorem dX8_next_32 : decode cX8_next 32 = .ok (.aload_n 0, 1) := by decide +kernel
theorem dX8_next_33 : decode cX8_next 33 = .ok (.getfield 37, 3) := by decide +kernel
theorem dX8_next_36 : decode cX8_next 36 = .ok (.iaload, 1) := by decide +kernel
theorem dX8_next_37 : decode cX8_next 37 = .ok (.bipush 32, 2) := by decide +kernel
theorem dX8_next_39 : decode cX8_next 39 = .ok (.if_icmp .eq 17, 3) := by decide +kernel
theorem dX8_next_42 : decode cX8_next 42 = .ok (.aload_n 0, 1) := by decide +kernel
theorem dX8_next_43 : decode cX8_next 43 = .ok (.getfield 9, 3) := by decide +kernel
theorem dX8_next_46 : decode cX8_next 46 = .ok (.aload_n 0, 1) := by decide +kernel
theorem dX8_next_47 : decode cX8_next 47 = .ok (.getfield 37, 3) := by decide +kernel
theorem dX8_next_50 : decode cX8_next 50 = .ok (.iaload, 1) := by decide +kernel
theorem dX8_next_51 : decode cX8_next 51 = .ok (.bipush 10, 2) := by decide +kernel
theorem dX8_next_53 : decode cX8_next 53 = .ok (.if_icmp .ne 16, 3) := by decide +kernel
theorem dX8_next_56 : decode cX8_next 56 = .ok (.aload_n 0, 1) := by decide +kernel
theorem dX8_next_57 : decode cX8_next 57 = .ok (.dup, 1) := by decide +kernel
theorem dX8_next_58 : decode cX8_next 58 = .ok (.getfield 37, 3) := by decide +kernel
theorem dX8_next_61 : decode cX8_next 61 = .ok (.iconst 1, 1) := by decide +kernel
theorem dX8_next_62 : decode cX8_next 62 = .ok (.iadd, 1) := by decide +kernel
theorem dX8_next_63 : decode cX8_next 63 = .ok (.putfield 37, 3) := by decide +kernel
theorem dX8_next_66 : decode cX8_next 66 = .ok (.goto (-49), 3) := by decide +kernel
theorem dX8_next_69 : decode cX8_next 69 = .ok (.aload_n 0, 1) := by decide +kernel
theorem dX8_next_70 : decode cX8_next 70 = .ok (.aload_n 0, 1) := by decide +kernel
theorem dX8_next_71 : decode cX8_next 71 = .ok (.getfield 37, 3) := by decide +kernel
theorem dX8_next_74 : decode cX8_next 74 = .ok (.aload_n 0, 1) := by decide +kernel
theorem dX8_next_75 : decode cX8_next 75 = .ok (.getfield 21, 3) := by decide +kernel
theorem dX8_next_78 : decode cX8_next 78 = .ok (.if_icmp .ge 18, 3) := by decide +kernel
theorem dX8_next_81 : decode cX8_next 81 = .ok (.aload_n 0, 1) := by decide +kernel
theorem dX8_next_82 : decode cX8_next 82 = .ok (.getfield 9, 3) := by decide +kernel
theorem dX8_next_85 : decode cX8_next 85 = .ok (.aload_n 0, 1) := by decide +kernel
theorem dX8_next_86 : decode cX8_next 86 = .ok (.getfield 37, 3) := by decide +kernel
theorem dX8_next_89 : decode cX8_next 89 = .ok (.iaload, 1) := by decide +kernel
theorem dX8_next_90 : decode cX8_next 90 = .ok (.invokestatic 40, 3) := by decide +kernel
theorem dX8_next_93 : decode cX8_next 93 = .ok (.goto 4, 3) := by decide +kernel
theorem dX8_next_96 : decode cX8_next 96 = .ok (.iconst 0, 1) := by decide +kernel
theorem dX8_next_97 : decode cX8_next 97 = .ok (.putfield 25, 3) := by decide +kernel
theorem dX8_next_100 : decode cX8_next 100 = .ok (.aload_n 0, 1) := by decide +kernel
theorem dX8_next_101 : decode cX8_next 101 = .ok (.getfield 25, 3) := by decide +kernel
theorem dX8_next_104 : decode cX8_next 104 = .ok (.iconst 3, 1) := by decide +kernel
theorem dX8_next_105 : decode cX8_next 105 = .ok (.if_icmp .ne 12, 3) := by decide +kernel
theorem dX8_next_108 : decode cX8_next 108 = .ok (.aload_n 0, 1) := by decide +kernel
theorem dX8_next_109 : decode cX8_next 109 = .ok (.getfield 37, 3) := by decide +kernel
theorem dX8_next_112 : decode cX8_next 112 = .ok (.iconst 1, 1) := by decide +kernel
theorem dX8_next_113 : decode cX8_next 113 = .ok (.iadd, 1) := by decide +kernel
theorem dX8_next_114 : decode cX8_next 114 = .ok (.goto 7, 3) := by decide +kernel
theorem dX8_next_117 : decode cX8_next 117 = .ok (.aload_n 0, 1) := by decide +kernel
theorem dX8_next_118 : decode cX8_next 118 = .ok (.getfield 21, 3) := by decide +kernel
theorem dX8_next_121 : decode cX8_next 121 = .ok (.istore_n 1, 1) := by decide +kernel
theorem dX8_next_122 : decode cX8_next 122 = .ok (.aload_n 0, 1) := by decide +kernel
theorem dX8_next_123 : decode cX8_next 123 = .ok (.iconst 0, 1) := by decide +kernel
theorem dX8_next_124 : decode cX8_next 124 = .ok (.putfield 44, 3) := by decide +kernel
theorem dX8_next_127 : decode cX8_next 127 = .ok (.aload_n 0, 1) := by decide +kernel
theorem dX8_next_128 : decode cX8_next 128 = .ok (.aload_n 0, 1) := by decide +kernel
theorem dX8_next_129 : decode cX8_next 129 = .ok (.getfield 37, 3) := by decide +kernel
theorem dX8_next_132 : decode cX8_next 132 = .ok (.putfield 28, 3) := by decide +kernel
theorem dX8_next_135 : decode cX8_next 135 = .ok (.aload_n 0, 1) := by decide +kernel
theorem dX8_next_136 : decode cX8_next 136 = .ok (.getfield 28, 3) := by decide +kernel
theorem dX8_next_139 : decode cX8_next 139 = .ok (.iload_n 1, 1) := by decide +kernel
theorem dX8_next_140 : decode cX8_next 140 = .ok (.if_icmp .ge 72, 3) := by decide +kernel
theorem dX8_next_143 : decode cX8_next 143 = .ok (.aload_n 0, 1) := by decide +kernel
theorem dX8_next_144 : decode cX8_next 144 = .ok (.getfield 9, 3) := by decide +kernel
theorem dX8_next_147 : decode cX8_next 147 = .ok (.aload_n 0, 1) := by decide +kernel
theorem dX8_next_148 : decode cX8_next 148 = .ok (.getfield 28, 3) := by decide +kernel
theorem dX8_next_151 : decode cX8_next 151 = .ok (.iaload, 1) := by decide +kernel
theorem dX8_next_152 : decode cX8_next 152 = .ok (.invokestatic 40, 3) := by decide +kernel
theorem dX8_next_155 : decode cX8_next 155 = .ok (.aload_n 0, 1) := by decide +kernel
theorem dX8_next_156 : decode cX8_next 156 = .ok (.getfield 25, 3) := by decide +kernel
theorem dX8_next_159 : decode cX8_next 159 = .ok (.if_icmp .ne 53, 3) := by decide +kernel
theorem dX8_next_162 : decode cX8_next 162 = .ok (.aload_n 0, 1) := by decide +kernel
theorem dX8_next_163 : decode cX8_next 163 = .ok (.getfield 25, 3) := by decide +kernel
theorem dX8_next_166 : decode cX8_next 166 = .ok (.iconst 2, 1) := by decide +kernel
theorem dX8_next_167 : decode cX8_next 167 = .ok (.if_icmp .ne 32, 3) := by decide +kernel
theorem dX8_next_170 : decode cX8_next 170 = .ok (.aload_n 0, 1) := by decide +kernel
theorem dX8_next_171 : decode cX8_next 171 = .ok (.aload_n 0, 1) := by decide +kernel
theorem dX8_next_172 : decode cX8_next 172 = .ok (.getfield 44, 3) := by decide +kernel
theorem dX8_next_175 : decode cX8_next 175 = .ok (.bipush 10, 2) := by decide +kernel
theorem dX8_next_177 : decode cX8_next 177 = .ok (.imul, 1) := by decide +kernel
theorem dX8_next_178 : decode cX8_next 178 = .ok (.aload_n 0, 1) := by decide +kernel
theorem dX8_next_179 : decode cX8_next 179 = .ok (.getfield 9, 3) := by decide +kernel
theorem dX8_next_182 : decode cX8_next 182 = .ok (.aload_n 0, 1) := by decide +kernel
theorem dX8_next_183 : decode cX8_next 183 = .ok (.getfield 28, 3) := by decide +kernel
theorem dX8_next_186 : decode cX8_next 186 = .ok (.iaload, 1) := by decide +kernel
theorem dX8_next_187 : decode cX8_next 187 = .ok (.iadd, 1) := by decide +kernel
theorem dX8_next_188 : decode cX8_next 188 = .ok (.bipush 48, 2) := by decide +kernel
theorem dX8_next_190 : decode cX8_next 190 = .ok (.isub, 1) := by decide +kernel
theorem dX8_next_191 : decode cX8_next 191 = .ok (.ldc 47, 2) := by decide +kernel
theorem dX8_next_193 : decode cX8_next 193 = .ok (.invokestatic 15, 3) := by decide +kernel
theorem dX8_next_196 : decode cX8_next 196 = .ok (.putfield 44, 3) := by decide +kernel
theorem dX8_next_199 : decode cX8_next 199 = .ok (.aload_n 0, 1) := by decide +kernel
theorem dX8_next_200 : decode cX8_next 200 = .ok (.dup, 1) := by decide +kernel
theorem dX8_next_201 : decode cX8_next 201 = .ok (.getfield 28, 3) := by decide +kernel
theorem dX8_next_204 : decode cX8_next 204 = .ok (.iconst 1, 1) := by decide +kernel
theorem dX8_next_205 : decode cX8_next 205 = .ok (.iadd, 1) := by decide +kernel
theorem dX8_next_206 : decode cX8_next 206 = .ok (.putfield 28, 3) := by decide +kernel
theorem dX8_next_209 : decode cX8_next 209 = .ok (.goto (-74), 3) := by decide +kernel
theorem dX8_next_212 : decode cX8_next 212 = .ok (.return_, 1) := by decide +kernel
def f_T_next_199 (k135 : Int → xM → Option (xM)) (x1 : Int) (m : xM) : Option (xM) :=
     k135 x1 (xu m 0 4 ((m 0 4) + 1))
set_option maxRecDepth 1000000 in
set_option maxHeartbeats 4000000 in
theorem t_T_next_199 {Γ : xG} {d : Nat} (hd9 : 2 ≤ d) (C : xC Γ lay_T RX8 cX8_next 2 d) {m9 : xM} (hR : xRv Γ lay_T cX8_next m9) {k135 : Int → xM → Option (xM)} (hk135 : ∀ (x1 : Int) (m : xM), k135 x1 m = some m9 → xW Γ lay_T 2 135 [(0, .inr (.inr (some 0))), (1, .inl x1)] [] m) (x1 : Int) (m : xM) (h : f_T_next_199 k135 x1 m = some m9) : xW Γ lay_T 2 199 [(0, .inr (.inr (some 0))), (1, .inl x1)] [] m := by
  unfold f_T_next_199 at h
  refine x_aload_n C dX8_next_199 rfl ?_
  refine x_dup C dX8_next_200 rfl ?_
  refine x_getI C dX8_next_201 fF_X8_28 rfl rfl ?_
  refine x_iconst C dX8_next_204 ?_
  refine x_iadd C dX8_next_205 ?_
  refine x_putI C dX8_next_206 fF_X8_28 rfl rfl ?_
  refine x_goto C 135 dX8_next_209 (by decide) ?_
  refine x_loc [(0, .inr (.inr (some 0))), (1, .inl x1)] ⟨rfl, rfl, trivial⟩ ?_
  exact hk135 _ _ h
def f_T_next_135 : Nat → Int → xM → Option (xM)
  | 0, _, _ => none
  | n + 1, x1, m =>
     (if xw (m 0 4) < xw x1 then (if xib (m 0 4) 600 then (Option.bind (f_T_kind (m 1 (xix (m 0 4))) m) fun q0 =>
      (if xw q0 = xw (m 0 2) then (if xw (m 0 2) = xw 2 then (if xib (m 0 4) 600 then f_T_next_199 (f_T_next_135 n) x1 (xu m 0 5 (if xw 1000000 < xw ((((m 0 5) * 10) + (m 1 (xix (m 0 4)))) - 48) then 1000000 else (((m 0 5) * 10) + (m 1 (xix (m 0 4)))) - 48))
      else none)
      else f_T_next_199 (f_T_next_135 n) x1 m)
      else some m))
      else none)
      else some m)
set_option maxRecDepth 1000000 in
set_option maxHeartbeats 4000000 in
theorem t_T_next_135 {Γ : xG} {d : Nat} (hd9 : 2 ≤ d) (C : xC Γ lay_T RX8 cX8_next 2 d) {m9 : xM} (hR : xRv Γ lay_T cX8_next m9) : ∀ (n : Nat) (x1 : Int) (m : xM), f_T_next_135 n x1 m = some m9 → xW Γ lay_T 2 135 [(0, .inr (.inr (some 0))), (1, .inl x1)] [] m := by
  intro n
  induction n with
  | zero => intro _ _ h; cases h
  | succ n ih =>
    intro x1 m h
    rw [f_T_next_135] at h
    refine x_aload_n C dX8_next_135 rfl ?_
    refine x_getI C dX8_next_136 fF_X8_28 rfl rfl ?_
    refine x_iload_n C dX8_next_139 rfl ?_
    refine x_icmp_ge C 212 dX8_next_140 (by decide) h (fun h => ?_) (fun h => ?_)
    · exact x_returnV hR dX8_next_212 h
    · refine x_aload_n C dX8_next_143 rfl ?_
      refine x_getR C dX8_next_144 fF_X8_9 rfl rfl ?_
      refine x_aload_n C dX8_next_147 rfl ?_
      refine x_getI C dX8_next_148 fF_X8_28 rfl rfl ?_
      refine x_iaload C dX8_next_151 rfl h (fun h => ?_)
      obtain ⟨q0, hq0, h⟩ := x_bind h
      refine x_callSI C dX8_next_152 (xin_12 _ (List.mem_of_getElem? (i := 23) rfl)) xy_X8_kindOf (xt_X8_kindOf) (by omega) (by decide) (av := [.inl (m 1 (xix (m 0 4)))]) rfl (Nat.le_of_ble_eq_true rfl) (c_T_kind _ _ _ _ hq0) rfl ?_
      refine x_aload_n C dX8_next_155 rfl ?_
      refine x_getI C dX8_next_156 fF_X8_25 rfl rfl ?_
      refine x_icmp_ne C 212 dX8_next_159 (by decide) h (fun h => ?_) (fun h => ?_)
      · exact x_returnV hR dX8_next_212 h
      · refine x_aload_n C dX8_next_162 rfl ?_
        refine x_getI C dX8_next_163 fF_X8_25 rfl rfl ?_
        refine x_iconst C dX8_next_166 ?_
        refine x_icmp_ne C 199 dX8_next_167 (by decide) h (fun h => ?_) (fun h => ?_)
        · refine x_loc [(0, .inr (.inr (some 0))), (1, .inl x1)] ⟨rfl, rfl, trivial⟩ ?_
          exact t_T_next_199 hd9 C hR ih _ _ h
        · refine x_aload_n C dX8_next_170 rfl ?_
          refine x_aload_n C dX8_next_171 rfl ?_
          refine x_getI C dX8_next_172 fF_X8_44 rfl rfl ?_
          refine x_bipush C dX8_next_175 (by decide) ?_
          refine x_imul C dX8_next_177 ?_
          refine x_aload_n C dX8_next_178 rfl ?_
          refine x_getR C dX8_next_179 fF_X8_9 rfl rfl ?_
          refine x_aload_n C dX8_next_182 rfl ?_
          refine x_getI C dX8_next_183 fF_X8_28 rfl rfl ?_
          refine x_iaload C dX8_next_186 rfl h (fun h => ?_)
          refine x_iadd C dX8_next_187 ?_
          refine x_bipush C dX8_next_188 (by decide) ?_
          refine x_isub C dX8_next_190 ?_
          refine x_ldc C 1000000 dX8_next_191 (xin_12 _ (List.mem_of_getElem? (i := 22) rfl)) (by decide) ?_
          refine x_min C dX8_next_193 (xin_12 _ (List.mem_of_getElem? (i := 8) rfl)) gm_min_s gm_math gm_min_c (by omega) (Nat.le_of_ble_eq_true rfl) ?_
          refine x_putI C dX8_next_196 fF_X8_44 rfl rfl ?_
          refine x_loc [(0, .inr (.inr (some 0))), (1, .inl x1)] ⟨rfl, rfl, trivial⟩ ?_
          exact t_T_next_199 hd9 C hR ih _ _ h
def f_T_next_121 (s0 : Int) (m : xM) : Option (xM) :=
     f_T_next_135 fu s0 (xu (xu m 0 5 0) 0 4 (m 0 3))
set_option maxRecDepth 1000000 in
set_option maxHeartbeats 4000000 in
theorem t_T_next_121 {Γ : xG} {d : Nat} (hd9 : 2 ≤ d) (C : xC Γ lay_T RX8 cX8_next 2 d) {m9 : xM} (hR : xRv Γ lay_T cX8_next m9) (s0 : Int) (m : xM) (h : f_T_next_121 s0 m = some m9) : xW Γ lay_T 2 121 [(0, .inr (.inr (some 0)))] [.inl s0] m := by
  unfold f_T_next_121 at h
  refine x_istore_n C dX8_next_121 (by decide) ?_
  refine x_aload_n C dX8_next_122 rfl ?_
  refine x_iconst C dX8_next_123 ?_
  refine x_putI C dX8_next_124 fF_X8_44 rfl rfl ?_
  refine x_aload_n C dX8_next_127 rfl ?_
  refine x_aload_n C dX8_next_128 rfl ?_
  refine x_getI C dX8_next_129 fF_X8_37 rfl rfl ?_
  refine x_putI C dX8_next_132 fF_X8_28 rfl rfl ?_
  refine x_loc [(0, .inr (.inr (some 0))), (1, .inl s0)] ⟨rfl, rfl, trivial⟩ ?_
  exact t_T_next_135 hd9 C hR fu _ _ h
def f_T_next_97 (s0 : Int) (m : xM) : Option (xM) :=
     (if xw s0 = xw 3 then f_T_next_121 ((m 0 3) + 1) (xu m 0 2 s0)
      else f_T_next_121 (m 0 1) (xu m 0 2 s0))
set_option maxRecDepth 1000000 in
set_option maxHeartbeats 4000000 in
theorem t_T_next_97 {Γ : xG} {d : Nat} (hd9 : 2 ≤ d) (C : xC Γ lay_T RX8 cX8_next 2 d) {m9 : xM} (hR : xRv Γ lay_T cX8_next m9) (s0 : Int) (m : xM) (h : f_T_next_97 s0 m = some m9) : xW Γ lay_T 2 97 [(0, .inr (.inr (some 0)))] [.inl s0, .inr (.inr (some 0))] m := by
  unfold f_T_next_97 at h
  refine x_putI C dX8_next_97 fF_X8_25 rfl rfl ?_
  refine x_aload_n C dX8_next_100 rfl ?_
  refine x_getI C dX8_next_101 fF_X8_25 rfl rfl ?_
  refine x_iconst C dX8_next_104 ?_
  refine x_icmp_ne C 117 dX8_next_105 (by decide) h (fun h => ?_) (fun h => ?_)
  · refine x_aload_n C dX8_next_117 rfl ?_
    refine x_getI C dX8_next_118 fF_X8_21 rfl rfl ?_
    refine x_loc [(0, .inr (.inr (some 0)))] ⟨rfl, trivial⟩ ?_
    exact t_T_next_121 hd9 C hR _ _ h
  · refine x_aload_n C dX8_next_108 rfl ?_
    refine x_getI C dX8_next_109 fF_X8_37 rfl rfl ?_
    refine x_iconst C dX8_next_112 ?_
    refine x_iadd C dX8_next_113 ?_
    refine x_goto C 121 dX8_next_114 (by decide) ?_
    refine x_loc [(0, .inr (.inr (some 0)))] ⟨rfl, trivial⟩ ?_
    exact t_T_next_121 hd9 C hR _ _ h
def f_T_next_69 (m : xM) : Option (xM) :=
     (if xw (m 0 3) < xw (m 0 1) then (if xib (m 0 3) 600 then (Option.bind (f_T_kind (m 1 (xix (m 0 3))) m) fun q1 =>
      f_T_next_97 q1 m)
      else none)
      else f_T_next_97 0 m)
set_option maxRecDepth 1000000 in
set_option maxHeartbeats 4000000 in
theorem t_T_next_69 {Γ : xG} {d : Nat} (hd9 : 2 ≤ d) (C : xC Γ lay_T RX8 cX8_next 2 d) {m9 : xM} (hR : xRv Γ lay_T cX8_next m9) (m : xM) (h : f_T_next_69 m = some m9) : xW Γ lay_T 2 69 [(0, .inr (.inr (some 0)))] [] m := by
  unfold f_T_next_69 at h
  refine x_aload_n C dX8_next_69 rfl ?_
  refine x_aload_n C dX8_next_70 rfl ?_
  refine x_getI C dX8_next_71 fF_X8_37 rfl rfl ?_
  refine x_aload_n C dX8_next_74 rfl ?_
  refine x_getI C dX8_next_75 fF_X8_21 rfl rfl ?_
  refine x_icmp_ge C 96 dX8_next_78 (by decide) h (fun h => ?_) (fun h => ?_)
  · refine x_iconst C dX8_next_96 ?_
    refine x_loc [(0, .inr (.inr (some 0)))] ⟨rfl, trivial⟩ ?_
    exact t_T_next_97 hd9 C hR _ _ h
  · refine x_aload_n C dX8_next_81 rfl ?_
    refine x_getR C dX8_next_82 fF_X8_9 rfl rfl ?_
    refine x_aload_n C dX8_next_85 rfl ?_
    refine x_getI C dX8_next_86 fF_X8_37 rfl rfl ?_
    refine x_iaload C dX8_next_89 rfl h (fun h => ?_)
    obtain ⟨q1, hq1, h⟩ := x_bind h
    refine x_callSI C dX8_next_90 (xin_12 _ (List.mem_of_getElem? (i := 23) rfl)) xy_X8_kindOf (xt_X8_kindOf) (by omega) (by decide) (av := [.inl (m 1 (xix (m 0 3)))]) rfl (Nat.le_of_ble_eq_true rfl) (c_T_kind _ _ _ _ hq1) rfl ?_
    refine x_goto C 97 dX8_next_93 (by decide) ?_
    refine x_loc [(0, .inr (.inr (some 0)))] ⟨rfl, trivial⟩ ?_
    exact t_T_next_97 hd9 C hR _ _ h
def f_T_next_56 (k17 : xM → Option (xM)) (m : xM) : Option (xM) :=
     k17 (xu m 0 3 ((m 0 3) + 1))
set_option maxRecDepth 1000000 in
set_option maxHeartbeats 4000000 in
theorem t_T_next_56 {Γ : xG} {d : Nat} (hd9 : 2 ≤ d) (C : xC Γ lay_T RX8 cX8_next 2 d) {m9 : xM} (hR : xRv Γ lay_T cX8_next m9) {k17 : xM → Option (xM)} (hk17 : ∀ (m : xM), k17 m = some m9 → xW Γ lay_T 2 17 [(0, .inr (.inr (some 0)))] [] m) (m : xM) (h : f_T_next_56 k17 m = some m9) : xW Γ lay_T 2 56 [(0, .inr (.inr (some 0)))] [] m := by
  unfold f_T_next_56 at h
  refine x_aload_n C dX8_next_56 rfl ?_
  refine x_dup C dX8_next_57 rfl ?_
  refine x_getI C dX8_next_58 fF_X8_37 rfl rfl ?_
  refine x_iconst C dX8_next_61 ?_
  refine x_iadd C dX8_next_62 ?_
  refine x_putI C dX8_next_63 fF_X8_37 rfl rfl ?_
  refine x_goto C 17 dX8_next_66 (by decide) ?_
  refine x_loc [(0, .inr (.inr (some 0)))] ⟨rfl, trivial⟩ ?_
  exact hk17 _ h
def f_T_next_17 : Nat → xM → Option (xM)
  | 0, _ => none
  | n + 1, m =>
     (if xw (m 0 3) < xw (m 0 1) then (if xib (m 0 3) 600 then (if xw (m 1 (xix (m 0 3))) = xw 32 then f_T_next_56 (f_T_next_17 n) m
      else (if xib (m 0 3) 600 then (if xw (m 1 (xix (m 0 3))) = xw 10 then f_T_next_56 (f_T_next_17 n) m
      else f_T_next_69 m)
      else none))
      else none)
      else f_T_next_69 m)
set_option maxRecDepth 1000000 in
set_option maxHeartbeats 4000000 in
theorem t_T_next_17 {Γ : xG} {d : Nat} (hd9 : 2 ≤ d) (C : xC Γ lay_T RX8 cX8_next 2 d) {m9 : xM} (hR : xRv Γ lay_T cX8_next m9) : ∀ (n : Nat) (m : xM), f_T_next_17 n m = some m9 → xW Γ lay_T 2 17 [(0, .inr (.inr (some 0)))] [] m := by
  intro n
  induction n with
  | zero => intro _ h; cases h
  | succ n ih =>
    intro m h
    rw [f_T_next_17] at h
    refine x_aload_n C dX8_next_17 rfl ?_
    refine x_getI C dX8_next_18 fF_X8_37 rfl rfl ?_
    refine x_aload_n C dX8_next_21 rfl ?_
    refine x_getI C dX8_next_22 fF_X8_21 rfl rfl ?_
    refine x_icmp_ge C 69 dX8_next_25 (by decide) h (fun h => ?_) (fun h => ?_)
    · refine x_loc [(0, .inr (.inr (some 0)))] ⟨rfl, trivial⟩ ?_
      exact t_T_next_69 hd9 C hR _ h
    · refine x_aload_n C dX8_next_28 rfl ?_
      refine x_getR C dX8_next_29 fF_X8_9 rfl rfl ?_
      refine x_aload_n C dX8_next_32 rfl ?_
      refine x_getI C dX8_next_33 fF_X8_37 rfl rfl ?_
      refine x_iaload C dX8_next_36 rfl h (fun h => ?_)
      refine x_bipush C dX8_next_37 (by decide) ?_
      refine x_icmp_eq C 56 dX8_next_39 (by decide) h (fun h => ?_) (fun h => ?_)
      · refine x_loc [(0, .inr (.inr (some 0)))] ⟨rfl, trivial⟩ ?_
        exact t_T_next_56 hd9 C hR ih _ h
      · refine x_aload_n C dX8_next_42 rfl ?_
        refine x_getR C dX8_next_43 fF_X8_9 rfl rfl ?_
        refine x_aload_n C dX8_next_46 rfl ?_
        refine x_getI C dX8_next_47 fF_X8_37 rfl rfl ?_
        refine x_iaload C dX8_next_50 rfl h (fun h => ?_)
        refine x_bipush C dX8_next_51 (by decide) ?_
        refine x_icmp_ne C 69 dX8_next_53 (by decide) h (fun h => ?_) (fun h => ?_)
        · refine x_loc [(0, .inr (.inr (some 0)))] ⟨rfl, trivial⟩ ?_
          exact t_T_next_69 hd9 C hR _ h
        · refine x_loc [(0, .inr (.inr (some 0)))] ⟨rfl, trivial⟩ ?_
          exact t_T_next_56 hd9 C hR ih _ h
def f_T_next (m : xM) : Option (xM) :=
     (if xw (m 0 2) = xw 4 then some m
      else f_T_next_17 fu (xu m 0 3 (m 0 4)))
set_option maxRecDepth 1000000 in
set_option maxHeartbeats 4000000 in
theorem t_T_next {Γ : xG} {d : Nat} (hd9 : 2 ≤ d) (C : xC Γ lay_T RX8 cX8_next 2 d) {m9 : xM} (hR : xRv Γ lay_T cX8_next m9) (m : xM) (h : f_T_next m = some m9) : xW Γ lay_T 2 0 [(0, .inr (.inr (some 0)))] [] m := by
  unfold f_T_next at h
  refine x_aload_n C dX8_next_0 rfl ?_
  refine x_getI C dX8_next_1 fF_X8_25 rfl rfl ?_
  refine x_iconst C dX8_next_4 ?_
  refine x_icmp_ne C 9 dX8_next_5 (by decide) h (fun h => ?_) (fun h => ?_)
  · refine x_aload_n C dX8_next_9 rfl ?_
    refine x_aload_n C dX8_next_10 rfl ?_
    refine x_getI C dX8_next_11 fF_X8_28 rfl rfl ?_
    refine x_putI C dX8_next_14 fF_X8_37 rfl rfl ?_
    refine x_loc [(0, .inr (.inr (some 0)))] ⟨rfl, trivial⟩ ?_
    exact t_T_next_17 hd9 C hR fu _ h
  · exact x_returnV hR dX8_next_8 h
theorem c_T_next (l : Launch) (m m9 : xM) (h : f_T_next m = some m9) : xMet l yX8_next cX8_next 2 none 2 lay_T [.inr (.inr (some 0))] m none m9 :=
  xMet_v (by decide +kernel) (Nat.le_of_ble_eq_true rfl) (fun Γ C hR hl9 => t_T_next (Nat.le_refl _) C hR m h)
theorem fF_X8_31 : xF RX8 31 9 6 .int false := ⟨RX8, TX8, 7, tyX8, rfl, by decide, (xin_12 _ (List.mem_of_getElem? (i := 15) rfl)), rfl, inlX8, tyX8_ok, nmX8, rfl, rfl⟩
theorem xy_X8_next : xY yX8_next cX8_next 2 none 0 := ⟨(xin_12 _ (List.mem_of_getElem? (i := 19) rfl)), (xin_2 _ (List.mem_of_getElem? (i := 3) rfl)), by decide, by decide, by decide +kernel⟩
theorem xi_X8_next : Cond.instanceMethod yX8_next ∈ wsL_law := (xin_12 _ (List.mem_of_getElem? (i := 17) rfl))
theorem xs_X8_next : Cond.selects yX8_next.cls yX8_next yX8_next ∈ wsL_law := (xin_12 _ (List.mem_of_getElem? (i := 18) rfl))
theorem dX8_open_0 : decode cX8_open 0 = .ok (.aload_n 0, 1) := by decide +kernel
theorem dX8_open_1 : decode cX8_open 1 = .ok (.iload_n 1, 1) := by decide +kernel
theorem dX8_open_2 : decode cX8_open 2 = .ok (.aload_n 0, 1) := by decide +kernel
theorem dX8_open_3 : decode cX8_open 3 = .ok (.getfield 9, 3) := by decide +kernel
theorem dX8_open_6 : decode cX8_open 6 = .ok (.arraylength, 1) := by decide +kernel
theorem dX8_open_7 : decode cX8_open 7 = .ok (.invokestatic 15, 3) := by decide +kernel
theorem dX8_open_10 : decode cX8_open 10 = .ok (.putfield 21, 3) := by decide +kernel
theorem dX8_open_13 : decode cX8_open 13 = .ok (.aload_n 0, 1) := by decide +kernel
theorem dX8_open_14 : decode cX8_open 14 = .ok (.iconst 0, 1) := by decide +kernel
theorem dX8_open_15 : decode cX8_open 15 = .ok (.putfield 25, 3) := by decide +kernel
theorem dX8_open_18 : decode cX8_open 18 = .ok (.aload_n 0, 1) := by decide +kernel
theorem dX8_open_19 : decode cX8_open 19 = .ok (.iconst 0, 1) := by decide +kernel
theorem dX8_open_20 : decode cX8_open 20 = .ok (.putfield 28, 3) := by decide +kernel
theorem dX8_open_23 : decode cX8_open 23 = .ok (.aload_n 0, 1) := by decide +kernel
theorem dX8_open_24 : decode cX8_open 24 = .ok (.iconst 0, 1) := by decide +kernel
theorem dX8_open_25 : decode cX8_open 25 = .ok (.putfield 31, 3) := by decide +kernel
theorem dX8_open_28 : decode cX8_open 28 = .ok (.aload_n 0, 1) := by decide +kernel
theorem dX8_open_29 : decode cX8_open 29 = .ok (.invokevirtual 34, 3) := by decide +kernel
theorem dX8_open_32 : decode cX8_open 32 = .ok (.return_, 1) := by decide +kernel
def f_T_open_23 (z : Int) (m : xM) : Option (xM) :=
     (Option.bind (f_T_next (xu m 0 6 0)) fun q0 =>
      some q0)
set_option maxRecDepth 1000000 in
set_option maxHeartbeats 4000000 in
theorem t_T_open_23 {Γ : xG} {d : Nat} (hd9 : 3 ≤ d) (C : xC Γ lay_T RX8 cX8_open 2 d) (z : Int) {m9 : xM} (hR : xRv Γ lay_T cX8_open m9) (m : xM) (h : f_T_open_23 z m = some m9) : xW Γ lay_T 2 23 [(0, .inr (.inr (some 0)))] [] m := by
  unfold f_T_open_23 at h
  refine x_aload_n C dX8_open_23 rfl ?_
  refine x_iconst C dX8_open_24 ?_
  refine x_putI C dX8_open_25 fF_X8_31 rfl rfl ?_
  refine x_aload_n C dX8_open_28 rfl ?_
  obtain ⟨q0, hq0, h⟩ := x_bind h
  refine x_callVI C dX8_open_29 (xin_12 _ (List.mem_of_getElem? (i := 16) rfl)) xy_X8_next (xi_X8_next) (xs_X8_next) (by omega) (by decide) (b := 0) rfl ⟨_, _, rfl⟩ (av := []) rfl (Nat.le_of_ble_eq_true rfl) (c_T_next _ _ _ hq0) rfl ?_
  exact x_returnV hR dX8_open_32 h
def f_T_open (z : Int) (m : xM) : Option (xM) :=
     f_T_open_23 z (xu (xu (xu m 0 1 (if xw 600 < xw z then 600 else z)) 0 2 0) 0 4 0)
set_option maxRecDepth 1000000 in
set_option maxHeartbeats 4000000 in
theorem t_T_open {Γ : xG} {d : Nat} (hd9 : 3 ≤ d) (C : xC Γ lay_T RX8 cX8_open 2 d) (z : Int) {m9 : xM} (hR : xRv Γ lay_T cX8_open m9) (m : xM) (h : f_T_open z m = some m9) : xW Γ lay_T 2 0 [(0, .inr (.inr (some 0))), (1, .inl z)] [] m := by
  unfold f_T_open at h
  refine x_aload_n C dX8_open_0 rfl ?_
  refine x_iload_n C dX8_open_1 rfl ?_
  refine x_aload_n C dX8_open_2 rfl ?_
  refine x_getR C dX8_open_3 fF_X8_9 rfl rfl ?_
  refine x_len C dX8_open_6 rfl ?_
  refine x_min C dX8_open_7 (xin_12 _ (List.mem_of_getElem? (i := 8) rfl)) gm_min_s gm_math gm_min_c (by omega) (Nat.le_of_ble_eq_true rfl) ?_
  refine x_putI C dX8_open_10 fF_X8_21 rfl rfl ?_
  refine x_aload_n C dX8_open_13 rfl ?_
  refine x_iconst C dX8_open_14 ?_
  refine x_putI C dX8_open_15 fF_X8_25 rfl rfl ?_
  refine x_aload_n C dX8_open_18 rfl ?_
  refine x_iconst C dX8_open_19 ?_
  refine x_putI C dX8_open_20 fF_X8_28 rfl rfl ?_
  refine x_loc [(0, .inr (.inr (some 0)))] ⟨rfl, trivial⟩ ?_
  exact t_T_open_23 hd9 C _ hR _ h
theorem c_T_open (l : Launch) (z : Int) (m m9 : xM) (h : f_T_open z m = some m9) : xMet l yX8_open cX8_open 2 none 3 lay_T [.inr (.inr (some 0)), .inl z] m none m9 :=
  xMet_v (by decide +kernel) (Nat.le_of_ble_eq_true rfl) (fun Γ C hR hl9 => t_T_open (Nat.le_refl _) C z hR m h)
theorem dX8_isWord_0 : decode cX8_isWord 0 = .ok (.aload_n 0, 1) := by decide +kernel
theorem dX8_isWord_1 : decode cX8_isWord 1 = .ok (.getfield 25, 3) := by decide +kernel
theorem dX8_isWord_4 : decode cX8_isWord 4 = .ok (.iconst 1, 1) := by decide +kernel
theorem dX8_isWord_5 : decode cX8_isWord 5 = .ok (.if_icmp .ne 19, 3) := by decide +kernel
theorem dX8_isWord_8 : decode cX8_isWord 8 = .ok (.aload_n 0, 1) := by decide +kernel
theorem dX8_isWord_9 : decode cX8_isWord 9 = .ok (.getfield 28, 3) := by decide +kernel
theorem dX8_isWord_12 : decode cX8_isWord 12 = .ok (.aload_n 0, 1) := by decide +kernel
theorem dX8_isWord_13 : decode cX8_isWord 13 = .ok (.getfield 37, 3) := by decide +kernel
theorem dX8_isWord_16 : decode cX8_isWord 16 = .ok (.isub, 1) := by decide +kernel
theorem dX8_isWord_17 : decode cX8_isWord 17 = .ok (.aload_n 1, 1) := by decide +kernel
theorem dX8_isWord_18 : decode cX8_isWord 18 = .ok (.invokevirtual 48, 3) := by decide +kernel
theorem dX8_isWord_21 : decode cX8_isWord 21 = .ok (.if_icmp .eq 5, 3) := by decide +kernel
theorem dX8_isWord_24 : decode cX8_isWord 24 = .ok (.iconst 0, 1) := by decide +kernel
theorem dX8_isWord_25 : decode cX8_isWord 25 = .ok (.ireturn, 1) := by decide +kernel
theorem dX8_isWord_26 : decode cX8_isWord 26 = .ok (.iconst 0, 1) := by decide +kernel
theorem dX8_isWord_27 : decode cX8_isWord 27 = .ok (.istore_n 2, 1) := by decide +kernel
theorem dX8_isWord_28 : decode cX8_isWord 28 = .ok (.iload_n 2, 1) := by decide +kernel
theorem dX8_isWord_29 : decode cX8_isWord 29 = .ok (.aload_n 1, 1) := by decide +kernel
theorem dX8_isWord_30 : decode cX8_isWord 30 = .ok (.invokevirtual 48, 3) := by decide +kernel
theorem dX8_isWord_33 : decode cX8_isWord 33 = .ok (.if_icmp .ge 30, 3) := by decide +kernel
theorem dX8_isWord_36 : decode cX8_isWord 36 = .ok (.aload_n 0, 1) := by decide +kernel
theorem dX8_isWord_37 : decode cX8_isWord 37 = .ok (.getfield 9, 3) := by decide +kernel
theorem dX8_isWord_40 : decode cX8_isWord 40 = .ok (.aload_n 0, 1) := by decide +kernel
theorem dX8_isWord_41 : decode cX8_isWord 41 = .ok (.getfield 37, 3) := by decide +kernel
theorem dX8_isWord_44 : decode cX8_isWord 44 = .ok (.iload_n 2, 1) := by decide +kernel
theorem dX8_isWord_45 : decode cX8_isWord 45 = .ok (.iadd, 1) := by decide +kernel
theorem dX8_isWord_46 : decode cX8_isWord 46 = .ok (.iaload, 1) := by decide +kernel
theorem dX8_isWord_47 : decode cX8_isWord 47 = .ok (.aload_n 1, 1) := by decide +kernel
theorem dX8_isWord_48 : decode cX8_isWord 48 = .ok (.iload_n 2, 1) := by decide +kernel
theorem dX8_isWord_49 : decode cX8_isWord 49 = .ok (.invokevirtual 53, 3) := by decide +kernel
theorem dX8_isWord_52 : decode cX8_isWord 52 = .ok (.if_icmp .eq 5, 3) := by decide +kernel
theorem dX8_isWord_55 : decode cX8_isWord 55 = .ok (.iconst 0, 1) := by decide +kernel
theorem dX8_isWord_56 : decode cX8_isWord 56 = .ok (.ireturn, 1) := by decide +kernel
theorem dX8_isWord_57 : decode cX8_isWord 57 = .ok (.iinc 2 1, 3) := by decide +kernel
theorem dX8_isWord_60 : decode cX8_isWord 60 = .ok (.goto (-32), 3) := by decide +kernel
theorem dX8_isWord_63 : decode cX8_isWord 63 = .ok (.iconst 1, 1) := by decide +kernel
theorem dX8_isWord_64 : decode cX8_isWord 64 = .ok (.ireturn, 1) := by decide +kernel
def f_T_isWord_28 (w : Nat) (m : xM) : Nat → Int → Option (Int)
  | 0, _ => none
  | n + 1, x2 =>
     (if xw x2 < xw (xsl w) then (if xib ((m 0 3) + x2) 600 then (if xib x2 (xSby.getD w []).length then (if xw (m 1 (xix ((m 0 3) + x2))) = xw (xsc w (xix x2)) then f_T_isWord_28 w m n (x2 + 1)
      else some 0)
      else none)
      else none)
      else some 1)
set_option maxRecDepth 1000000 in
set_option maxHeartbeats 4000000 in
theorem t_T_isWord_28 {Γ : xG} {d : Nat} (hd9 : 4 ≤ d) (C : xC Γ lay_T RX8 cX8_isWord 3 d) (w : Nat) (hi_w : xSok w) {r : Int} {m : xM} (hR : xRz Γ lay_T cX8_isWord r m) : ∀ (n : Nat) (x2 : Int), f_T_isWord_28 w m n x2 = some r → xW Γ lay_T 3 28 [(0, .inr (.inr (some 0))), (1, .inr (.inr (some (1000 + w)))), (2, .inl x2)] [] m := by
  intro n
  induction n with
  | zero => intro _ h; cases h
  | succ n ih =>
    intro x2 h
    rw [f_T_isWord_28] at h
    refine x_iload_n C dX8_isWord_28 rfl ?_
    refine x_aload_n C dX8_isWord_29 rfl ?_
    refine x_slen C w hi_w dX8_isWord_30 (xin_13 _ (List.mem_of_getElem? (i := 17) rfl)) (by omega) (Nat.le_of_ble_eq_true rfl) ?_
    refine x_icmp_ge C 63 dX8_isWord_33 (by decide) h (fun h => ?_) (fun h => ?_)
    · refine x_iconst C dX8_isWord_63 ?_
      exact x_zreturnP hR (by decide) dX8_isWord_64 h
    · refine x_aload_n C dX8_isWord_36 rfl ?_
      refine x_getR C dX8_isWord_37 fF_X8_9 rfl rfl ?_
      refine x_aload_n C dX8_isWord_40 rfl ?_
      refine x_getI C dX8_isWord_41 fF_X8_37 rfl rfl ?_
      refine x_iload_n C dX8_isWord_44 rfl ?_
      refine x_iadd C dX8_isWord_45 ?_
      refine x_iaload C dX8_isWord_46 rfl h (fun h => ?_)
      refine x_aload_n C dX8_isWord_47 rfl ?_
      refine x_iload_n C dX8_isWord_48 rfl ?_
      refine x_schar C w hi_w dX8_isWord_49 (xin_13 _ (List.mem_of_getElem? (i := 18) rfl)) (by omega) (Nat.le_of_ble_eq_true rfl) h (fun h => ?_)
      refine x_icmp_eq C 57 dX8_isWord_52 (by decide) h (fun h => ?_) (fun h => ?_)
      · refine x_iinc C dX8_isWord_57 (by decide) rfl ?_
        refine x_goto C 28 dX8_isWord_60 (by decide) ?_
        refine x_loc [(0, .inr (.inr (some 0))), (1, .inr (.inr (some (1000 + w)))), (2, .inl (x2 + 1))] ⟨rfl, rfl, rfl, trivial⟩ ?_
        exact ih _ h
      · refine x_iconst C dX8_isWord_55 ?_
        exact x_zreturnP hR (by decide) dX8_isWord_56 h
def f_T_isWord (w : Nat) (m : xM) : Option (Int) :=
     (if xw (m 0 2) = xw 1 then (if xw ((m 0 4) - (m 0 3)) = xw (xsl w) then f_T_isWord_28 w m fu 0
      else some 0)
      else some 0)
set_option maxRecDepth 1000000 in
set_option maxHeartbeats 4000000 in
theorem t_T_isWord {Γ : xG} {d : Nat} (hd9 : 4 ≤ d) (C : xC Γ lay_T RX8 cX8_isWord 3 d) (w : Nat) (hi_w : xSok w) {r : Int} {m : xM} (hR : xRz Γ lay_T cX8_isWord r m) (h : f_T_isWord w m = some r) : xW Γ lay_T 3 0 [(0, .inr (.inr (some 0))), (1, .inr (.inr (some (1000 + w))))] [] m := by
  unfold f_T_isWord at h
  refine x_aload_n C dX8_isWord_0 rfl ?_
  refine x_getI C dX8_isWord_1 fF_X8_25 rfl rfl ?_
  refine x_iconst C dX8_isWord_4 ?_
  refine x_icmp_ne C 24 dX8_isWord_5 (by decide) h (fun h => ?_) (fun h => ?_)
  · refine x_iconst C dX8_isWord_24 ?_
    exact x_zreturnP hR (by decide) dX8_isWord_25 h
  · refine x_aload_n C dX8_isWord_8 rfl ?_
    refine x_getI C dX8_isWord_9 fF_X8_28 rfl rfl ?_
    refine x_aload_n C dX8_isWord_12 rfl ?_
    refine x_getI C dX8_isWord_13 fF_X8_37 rfl rfl ?_
    refine x_isub C dX8_isWord_16 ?_
    refine x_aload_n C dX8_isWord_17 rfl ?_
    refine x_slen C w hi_w dX8_isWord_18 (xin_13 _ (List.mem_of_getElem? (i := 17) rfl)) (by omega) (Nat.le_of_ble_eq_true rfl) ?_
    refine x_icmp_eq C 26 dX8_isWord_21 (by decide) h (fun h => ?_) (fun h => ?_)
    · refine x_iconst C dX8_isWord_26 ?_
      refine x_istore_n C dX8_isWord_27 (by decide) ?_
      refine x_loc [(0, .inr (.inr (some 0))), (1, .inr (.inr (some (1000 + w)))), (2, .inl 0)] ⟨rfl, rfl, rfl, trivial⟩ ?_
      exact t_T_isWord_28 hd9 C _ hi_w hR fu _ h
    · refine x_iconst C dX8_isWord_24 ?_
      exact x_zreturnP hR (by decide) dX8_isWord_25 h
theorem c_T_isWord (l : Launch) (w : Nat) (hi_w : xSok w) (m : xM) (r : Int) (h : f_T_isWord w m = some r) : xMet l yX8_isWord cX8_isWord 3 (some .boolean) 4 lay_T [.inr (.inr (some 0)), .inr (.inr (some (1000 + w)))] m (some (.inl r)) m :=
  xMet_z (by decide +kernel) (Nat.le_of_ble_eq_true rfl) (fun Γ C hR hl9 => t_T_isWord (Nat.le_refl _) C w hi_w hR h)
theorem dX8_isSign_0 : decode cX8_isSign 0 = .ok (.aload_n 0, 1) := by decide +kernel
theorem dX8_isSign_1 : decode cX8_isSign 1 = .ok (.getfield 25, 3) := by decide +kernel
theorem dX8_isSign_4 : decode cX8_isSign 4 = .ok (.iconst 3, 1) := by decide +kernel
theorem dX8_isSign_5 : decode cX8_isSign 5 = .ok (.if_icmp .ne 20, 3) := by decide +kernel
theorem dX8_isSign_8 : decode cX8_isSign 8 = .ok (.aload_n 0, 1) := by decide +kernel
theorem dX8_isSign_9 : decode cX8_isSign 9 = .ok (.getfield 9, 3) := by decide +kernel
theorem dX8_isSign_12 : decode cX8_isSign 12 = .ok (.aload_n 0, 1) := by decide +kernel
theorem dX8_isSign_13 : decode cX8_isSign 13 = .ok (.getfield 37, 3) := by decide +kernel
theorem dX8_isSign_16 : decode cX8_isSign 16 = .ok (.iaload, 1) := by decide +kernel
theorem dX8_isSign_17 : decode cX8_isSign 17 = .ok (.iload_n 1, 1) := by decide +kernel
theorem dX8_isSign_18 : decode cX8_isSign 18 = .ok (.if_icmp .ne 7, 3) := by decide +kernel
theorem dX8_isSign_21 : decode cX8_isSign 21 = .ok (.iconst 1, 1) := by decide +kernel
theorem dX8_isSign_22 : decode cX8_isSign 22 = .ok (.goto 4, 3) := by decide +kernel
theorem dX8_isSign_25 : decode cX8_isSign 25 = .ok (.iconst 0, 1) := by decide +kernel
theorem dX8_isSign_26 : decode cX8_isSign 26 = .ok (.ireturn, 1) := by decide +kernel
def f_T_isSign (s : Int) (m : xM) : Option (Int) :=
     (if xw (m 0 2) = xw 3 then (if xib (m 0 3) 600 then (if xw (m 1 (xix (m 0 3))) = xw s then some 1
      else some 0)
      else none)
      else some 0)
set_option maxRecDepth 1000000 in
set_option maxHeartbeats 4000000 in
theorem t_T_isSign {Γ : xG} {d : Nat} (hd9 : 1 ≤ d) (C : xC Γ lay_T RX8 cX8_isSign 2 d) (s : Int) {r : Int} {m : xM} (hR : xRz Γ lay_T cX8_isSign r m) (h : f_T_isSign s m = some r) : xW Γ lay_T 2 0 [(0, .inr (.inr (some 0))), (1, .inl s)] [] m := by
  unfold f_T_isSign at h
  refine x_aload_n C dX8_isSign_0 rfl ?_
  refine x_getI C dX8_isSign_1 fF_X8_25 rfl rfl ?_
  refine x_iconst C dX8_isSign_4 ?_
  refine x_icmp_ne C 25 dX8_isSign_5 (by decide) h (fun h => ?_) (fun h => ?_)
  · refine x_iconst C dX8_isSign_25 ?_
    exact x_zreturnP hR (by decide) dX8_isSign_26 h
  · refine x_aload_n C dX8_isSign_8 rfl ?_
    refine x_getR C dX8_isSign_9 fF_X8_9 rfl rfl ?_
    refine x_aload_n C dX8_isSign_12 rfl ?_
    refine x_getI C dX8_isSign_13 fF_X8_37 rfl rfl ?_
    refine x_iaload C dX8_isSign_16 rfl h (fun h => ?_)
    refine x_iload_n C dX8_isSign_17 rfl ?_
    refine x_icmp_ne C 25 dX8_isSign_18 (by decide) h (fun h => ?_) (fun h => ?_)
    · refine x_iconst C dX8_isSign_25 ?_
      exact x_zreturnP hR (by decide) dX8_isSign_26 h
    · refine x_iconst C dX8_isSign_21 ?_
      refine x_goto C 26 dX8_isSign_22 (by decide) ?_
      exact x_zreturnP hR (by decide) dX8_isSign_26 h
theorem c_T_isSign (l : Launch) (s : Int) (m : xM) (r : Int) (h : f_T_isSign s m = some r) : xMet l yX8_isSign cX8_isSign 2 (some .boolean) 1 lay_T [.inr (.inr (some 0)), .inl s] m (some (.inl r)) m :=
  xMet_z (by decide +kernel) (Nat.le_of_ble_eq_true rfl) (fun Γ C hR hl9 => t_T_isSign (Nat.le_refl _) C s hR h)
theorem dX8_fail_0 : decode cX8_fail 0 = .ok (.aload_n 0, 1) := by decide +kernel
theorem dX8_fail_1 : decode cX8_fail 1 = .ok (.getfield 25, 3) := by decide +kernel
theorem dX8_fail_4 : decode cX8_fail 4 = .ok (.iconst 4, 1) := by decide +kernel
theorem dX8_fail_5 : decode cX8_fail 5 = .ok (.if_icmp .eq 13, 3) := by decide +kernel
theorem dX8_fail_8 : decode cX8_fail 8 = .ok (.aload_n 0, 1) := by decide +kernel
theorem dX8_fail_9 : decode cX8_fail 9 = .ok (.iload_n 1, 1) := by decide +kernel
theorem dX8_fail_10 : decode cX8_fail 10 = .ok (.putfield 31, 3) := by decide +kernel
theorem dX8_fail_13 : decode cX8_fail 13 = .ok (.aload_n 0, 1) := by decide +kernel
theorem dX8_fail_14 : decode cX8_fail 14 = .ok (.iconst 4, 1) := by decide +kernel
theorem dX8_fail_15 : decode cX8_fail 15 = .ok (.putfield 25, 3) := by decide +kernel
theorem dX8_fail_18 : decode cX8_fail 18 = .ok (.iconst 0, 1) := by decide +kernel
theorem dX8_fail_19 : decode cX8_fail 19 = .ok (.ireturn, 1) := by decide +kernel
def f_T_fail (c : Int) (m : xM) : Option (Int × xM) :=
     (if xw (m 0 2) = xw 4 then some (0, m)
      else some (0, (xu (xu m 0 6 c) 0 2 4)))
set_option maxRecDepth 1000000 in
set_option maxHeartbeats 4000000 in
theorem t_T_fail {Γ : xG} {d : Nat} (hd9 : 1 ≤ d) (C : xC Γ lay_T RX8 cX8_fail 2 d) (c : Int) {r : Int} {m9 : xM} (hR : xRz Γ lay_T cX8_fail r m9) (m : xM) (h : f_T_fail c m = some (r, m9)) : xW Γ lay_T 2 0 [(0, .inr (.inr (some 0))), (1, .inl c)] [] m := by
  unfold f_T_fail at h
  refine x_aload_n C dX8_fail_0 rfl ?_
  refine x_getI C dX8_fail_1 fF_X8_25 rfl rfl ?_
  refine x_iconst C dX8_fail_4 ?_
  refine x_icmp_eq C 18 dX8_fail_5 (by decide) h (fun h => ?_) (fun h => ?_)
  · refine x_iconst C dX8_fail_18 ?_
    exact x_zreturn hR (by decide) dX8_fail_19 h
  · refine x_aload_n C dX8_fail_8 rfl ?_
    refine x_iload_n C dX8_fail_9 rfl ?_
    refine x_putI C dX8_fail_10 fF_X8_31 rfl rfl ?_
    refine x_aload_n C dX8_fail_13 rfl ?_
    refine x_iconst C dX8_fail_14 ?_
    refine x_putI C dX8_fail_15 fF_X8_25 rfl rfl ?_
    refine x_iconst C dX8_fail_18 ?_
    exact x_zreturn hR (by decide) dX8_fail_19 h
theorem c_T_fail (l : Launch) (c : Int) (m : xM) (r : Int) (m9 : xM) (h : f_T_fail c m = some (r, m9)) : xMet l yX8_fail cX8_fail 2 (some .boolean) 1 lay_T [.inr (.inr (some 0)), .inl c] m (some (.inl r)) m9 :=
  xMet_z (by decide +kernel) (Nat.le_of_ble_eq_true rfl) (fun Γ C hR hl9 => t_T_fail (Nat.le_refl _) C c hR m h)
theorem xy_X8_isWord : xY yX8_isWord cX8_isWord 3 (some .boolean) 1 := ⟨(xin_13 _ (List.mem_of_getElem? (i := 16) rfl)), (xin_2 _ (List.mem_of_getElem? (i := 3) rfl)), by decide, by decide, by decide +kernel⟩
theorem xi_X8_isWord : Cond.instanceMethod yX8_isWord ∈ wsL_law := (xin_13 _ (List.mem_of_getElem? (i := 14) rfl))
theorem xs_X8_isWord : Cond.selects yX8_isWord.cls yX8_isWord yX8_isWord ∈ wsL_law := (xin_13 _ (List.mem_of_getElem? (i := 15) rfl))
theorem xy_X8_fail : xY yX8_fail cX8_fail 2 (some .boolean) 1 := ⟨(xin_13 _ (List.mem_of_getElem? (i := 22) rfl)), (xin_2 _ (List.mem_of_getElem? (i := 3) rfl)), by decide, by decide, by decide +kernel⟩
theorem xi_X8_fail : Cond.instanceMethod yX8_fail ∈ wsL_law := (xin_13 _ (List.mem_of_getElem? (i := 20) rfl))
theorem xs_X8_fail : Cond.selects yX8_fail.cls yX8_fail yX8_fail ∈ wsL_law := (xin_13 _ (List.mem_of_getElem? (i := 21) rfl))
theorem dX8_takeWord_0 : decode cX8_takeWord 0 = .ok (.aload_n 0, 1) := by decide +kernel
theorem dX8_takeWord_1 : decode cX8_takeWord 1 = .ok (.aload_n 1, 1) := by decide +kernel
theorem dX8_takeWord_2 : decode cX8_takeWord 2 = .ok (.invokevirtual 57, 3) := by decide +kernel
theorem dX8_takeWord_5 : decode cX8_takeWord 5 = .ok (.ifCond .ne 9, 3) := by decide +kernel
theorem dX8_takeWord_8 : decode cX8_takeWord 8 = .ok (.aload_n 0, 1) := by decide +kernel
theorem dX8_takeWord_9 : decode cX8_takeWord 9 = .ok (.iconst 1, 1) := by decide +kernel
theorem dX8_takeWord_10 : decode cX8_takeWord 10 = .ok (.invokevirtual 61, 3) := by decide +kernel
theorem dX8_takeWord_13 : decode cX8_takeWord 13 = .ok (.ireturn, 1) := by decide +kernel
theorem dX8_takeWord_14 : decode cX8_takeWord 14 = .ok (.aload_n 0, 1) := by decide +kernel
theorem dX8_takeWord_15 : decode cX8_takeWord 15 = .ok (.invokevirtual 34, 3) := by decide +kernel
theorem dX8_takeWord_18 : decode cX8_takeWord 18 = .ok (.iconst 1, 1) := by decide +kernel
theorem dX8_takeWord_19 : decode cX8_takeWord 19 = .ok (.ireturn, 1) := by decide +kernel
def f_T_takeWord (w : Nat) (m : xM) : Option (Int × xM) :=
     (Option.bind (f_T_isWord w m) fun q0 =>
      (if xw q0 = 0 then (Option.bind (f_T_fail 1 m) fun q2 =>
      (if xbz q2.1 then some (q2.1, q2.2)
      else none))
      else (Option.bind (f_T_next m) fun q1 =>
      some (1, q1))))
set_option maxRecDepth 1000000 in
set_option maxHeartbeats 4000000 in
theorem t_T_takeWord {Γ : xG} {d : Nat} (hd9 : 5 ≤ d) (C : xC Γ lay_T RX8 cX8_takeWord 2 d) (w : Nat) (hi_w : xSok w) {r : Int} {m9 : xM} (hR : xRz Γ lay_T cX8_takeWord r m9) (m : xM) (h : f_T_takeWord w m = some (r, m9)) : xW Γ lay_T 2 0 [(0, .inr (.inr (some 0))), (1, .inr (.inr (some (1000 + w))))] [] m := by
  unfold f_T_takeWord at h
  refine x_aload_n C dX8_takeWord_0 rfl ?_
  refine x_aload_n C dX8_takeWord_1 rfl ?_
  obtain ⟨q0, hq0, h⟩ := x_bind h
  refine x_callVI C dX8_takeWord_2 (xin_13 _ (List.mem_of_getElem? (i := 13) rfl)) xy_X8_isWord (xi_X8_isWord) (xs_X8_isWord) (by omega) (by decide) (b := 0) rfl ⟨_, _, rfl⟩ (av := [.inr (.inr (some (1000 + w)))]) rfl (Nat.le_of_ble_eq_true rfl) (c_T_isWord _ w hi_w _ _ hq0) rfl ?_
  refine x_if_ne C 14 dX8_takeWord_5 (by decide) h (fun h => ?_) (fun h => ?_)
  · refine x_aload_n C dX8_takeWord_14 rfl ?_
    obtain ⟨q1, hq1, h⟩ := x_bind h
    refine x_callVI C dX8_takeWord_15 (xin_12 _ (List.mem_of_getElem? (i := 16) rfl)) xy_X8_next (xi_X8_next) (xs_X8_next) (by omega) (by decide) (b := 0) rfl ⟨_, _, rfl⟩ (av := []) rfl (Nat.le_of_ble_eq_true rfl) (c_T_next _ _ _ hq1) rfl ?_
    refine x_iconst C dX8_takeWord_18 ?_
    exact x_zreturn hR (by decide) dX8_takeWord_19 h
  · refine x_aload_n C dX8_takeWord_8 rfl ?_
    refine x_iconst C dX8_takeWord_9 ?_
    obtain ⟨q2, hq2, h⟩ := x_bind h
    refine x_callVI C dX8_takeWord_10 (xin_13 _ (List.mem_of_getElem? (i := 19) rfl)) xy_X8_fail (xi_X8_fail) (xs_X8_fail) (by omega) (by decide) (b := 0) rfl ⟨_, _, rfl⟩ (av := [.inl 1]) rfl (Nat.le_of_ble_eq_true rfl) (c_T_fail _ _ _ q2.1 q2.2 hq2) rfl ?_
    obtain ⟨hz9, h⟩ := x_some1 h
    exact x_zreturn hR hz9 dX8_takeWord_13 h
theorem c_T_takeWord (l : Launch) (w : Nat) (hi_w : xSok w) (m : xM) (r : Int) (m9 : xM) (h : f_T_takeWord w m = some (r, m9)) : xMet l yX8_takeWord cX8_takeWord 2 (some .boolean) 5 lay_T [.inr (.inr (some 0)), .inr (.inr (some (1000 + w)))] m (some (.inl r)) m9 :=
  xMet_z (by decide +kernel) (Nat.le_of_ble_eq_true rfl) (fun Γ C hR hl9 => t_T_takeWord (Nat.le_refl _) C w hi_w hR m h)
theorem xy_X8_isSign : xY yX8_isSign cX8_isSign 2 (some .boolean) 1 := ⟨(xin_14 _ (List.mem_of_getElem? (i := 18) rfl)), (xin_2 _ (List.mem_of_getElem? (i := 3) rfl)), by decide, by decide, by decide +kernel⟩
theorem xi_X8_isSign : Cond.instanceMethod yX8_isSign ∈ wsL_law := (xin_14 _ (List.mem_of_getElem? (i := 16) rfl))
theorem xs_X8_isSign : Cond.selects yX8_isSign.cls yX8_isSign yX8_isSign ∈ wsL_law := (xin_14 _ (List.mem_of_getElem? (i := 17) rfl))
theorem dX8_takeSign_0 : decode cX8_takeSign 0 = .ok (.aload_n 0, 1) := by decide +kernel
theorem dX8_takeSign_1 : decode cX8_takeSign 1 = .ok (.iload_n 1, 1) := by decide +kernel
theorem dX8_takeSign_2 : decode cX8_takeSign 2 = .ok (.invokevirtual 65, 3) := by decide +kernel
theorem dX8_takeSign_5 : decode cX8_takeSign 5 = .ok (.ifCond .ne 9, 3) := by decide +kernel
theorem dX8_takeSign_8 : decode cX8_takeSign 8 = .ok (.aload_n 0, 1) := by decide +kernel
theorem dX8_takeSign_9 : decode cX8_takeSign 9 = .ok (.iconst 1, 1) := by decide +kernel
theorem dX8_takeSign_10 : decode cX8_takeSign 10 = .ok (.invokevirtual 61, 3) := by decide +kernel
theorem dX8_takeSign_13 : decode cX8_takeSign 13 = .ok (.ireturn, 1) := by decide +kernel
theorem dX8_takeSign_14 : decode cX8_takeSign 14 = .ok (.aload_n 0, 1) := by decide +kernel
theorem dX8_takeSign_15 : decode cX8_takeSign 15 = .ok (.invokevirtual 34, 3) := by decide +kernel
theorem dX8_takeSign_18 : decode cX8_takeSign 18 = .ok (.iconst 1, 1) := by decide +kernel
theorem dX8_takeSign_19 : decode cX8_takeSign 19 = .ok (.ireturn, 1) := by decide +kernel
def f_T_takeSign (s : Int) (m : xM) : Option (Int × xM) :=
     (Option.bind (f_T_isSign s m) fun q0 =>
      (if xw q0 = 0 then (Option.bind (f_T_fail 1 m) fun q2 =>
      (if xbz q2.1 then some (q2.1, q2.2)
      else none))
      else (Option.bind (f_T_next m) fun q1 =>
      some (1, q1))))
set_option maxRecDepth 1000000 in
set_option maxHeartbeats 4000000 in
theorem t_T_takeSign {Γ : xG} {d : Nat} (hd9 : 3 ≤ d) (C : xC Γ lay_T RX8 cX8_takeSign 2 d) (s : Int) {r : Int} {m9 : xM} (hR : xRz Γ lay_T cX8_takeSign r m9) (m : xM) (h : f_T_takeSign s m = some (r, m9)) : xW Γ lay_T 2 0 [(0, .inr (.inr (some 0))), (1, .inl s)] [] m := by
  unfold f_T_takeSign at h
  refine x_aload_n C dX8_takeSign_0 rfl ?_
  refine x_iload_n C dX8_takeSign_1 rfl ?_
  obtain ⟨q0, hq0, h⟩ := x_bind h
  refine x_callVI C dX8_takeSign_2 (xin_14 _ (List.mem_of_getElem? (i := 15) rfl)) xy_X8_isSign (xi_X8_isSign) (xs_X8_isSign) (by omega) (by decide) (b := 0) rfl ⟨_, _, rfl⟩ (av := [.inl s]) rfl (Nat.le_of_ble_eq_true rfl) (c_T_isSign _ _ _ _ hq0) rfl ?_
  refine x_if_ne C 14 dX8_takeSign_5 (by decide) h (fun h => ?_) (fun h => ?_)
  · refine x_aload_n C dX8_takeSign_14 rfl ?_
    obtain ⟨q1, hq1, h⟩ := x_bind h
    refine x_callVI C dX8_takeSign_15 (xin_12 _ (List.mem_of_getElem? (i := 16) rfl)) xy_X8_next (xi_X8_next) (xs_X8_next) (by omega) (by decide) (b := 0) rfl ⟨_, _, rfl⟩ (av := []) rfl (Nat.le_of_ble_eq_true rfl) (c_T_next _ _ _ hq1) rfl ?_
    refine x_iconst C dX8_takeSign_18 ?_
    exact x_zreturn hR (by decide) dX8_takeSign_19 h
  · refine x_aload_n C dX8_takeSign_8 rfl ?_
    refine x_iconst C dX8_takeSign_9 ?_
    obtain ⟨q2, hq2, h⟩ := x_bind h
    refine x_callVI C dX8_takeSign_10 (xin_13 _ (List.mem_of_getElem? (i := 19) rfl)) xy_X8_fail (xi_X8_fail) (xs_X8_fail) (by omega) (by decide) (b := 0) rfl ⟨_, _, rfl⟩ (av := [.inl 1]) rfl (Nat.le_of_ble_eq_true rfl) (c_T_fail _ _ _ q2.1 q2.2 hq2) rfl ?_
    obtain ⟨hz9, h⟩ := x_some1 h
    exact x_zreturn hR hz9 dX8_takeSign_13 h
theorem c_T_takeSign (l : Launch) (s : Int) (m : xM) (r : Int) (m9 : xM) (h : f_T_takeSign s m = some (r, m9)) : xMet l yX8_takeSign cX8_takeSign 2 (some .boolean) 3 lay_T [.inr (.inr (some 0)), .inl s] m (some (.inl r)) m9 :=
  xMet_z (by decide +kernel) (Nat.le_of_ble_eq_true rfl) (fun Γ C hR hl9 => t_T_takeSign (Nat.le_refl _) C s hR m h)
theorem dX8_hasNumber_0 : decode cX8_hasNumber 0 = .ok (.aload_n 0, 1) := by decide +kernel
theorem dX8_hasNumber_1 : decode cX8_hasNumber 1 = .ok (.getfield 25, 3) := by decide +kernel
theorem dX8_hasNumber_4 : decode cX8_hasNumber 4 = .ok (.iconst 2, 1) := by decide +kernel
theorem dX8_hasNumber_5 : decode cX8_hasNumber 5 = .ok (.if_icmp .eq 9, 3) := by decide +kernel
theorem dX8_hasNumber_8 : decode cX8_hasNumber 8 = .ok (.aload_n 0, 1) := by decide +kernel
theorem dX8_hasNumber_9 : decode cX8_hasNumber 9 = .ok (.iconst 1, 1) := by decide +kernel
theorem dX8_hasNumber_10 : decode cX8_hasNumber 10 = .ok (.invokevirtual 61, 3) := by decide +kernel
theorem dX8_hasNumber_13 : decode cX8_hasNumber 13 = .ok (.ireturn, 1) := by decide +kernel
theorem dX8_hasNumber_14 : decode cX8_hasNumber 14 = .ok (.aload_n 0, 1) := by decide +kernel
theorem dX8_hasNumber_15 : decode cX8_hasNumber 15 = .ok (.getfield 44, 3) := by decide +kernel
theorem dX8_hasNumber_18 : decode cX8_hasNumber 18 = .ok (.iload_n 1, 1) := by decide +kernel
theorem dX8_hasNumber_19 : decode cX8_hasNumber 19 = .ok (.if_icmp .lt 11, 3) := by decide +kernel
theorem dX8_hasNumber_22 : decode cX8_hasNumber 22 = .ok (.aload_n 0, 1) := by decide +kernel
theorem dX8_hasNumber_23 : decode cX8_hasNumber 23 = .ok (.getfield 44, 3) := by decide +kernel
theorem dX8_hasNumber_26 : decode cX8_hasNumber 26 = .ok (.iload_n 2, 1) := by decide +kernel
theorem dX8_hasNumber_27 : decode cX8_hasNumber 27 = .ok (.if_icmp .le 11, 3) := by decide +kernel
theorem dX8_hasNumber_30 : decode cX8_hasNumber 30 = .ok (.aload_n 0, 1) := by decide +kernel
theorem dX8_hasNumber_31 : decode cX8_hasNumber 31 = .ok (.iconst 2, 1) := by decide +kernel
theorem dX8_hasNumber_32 : decode cX8_hasNumber 32 = .ok (.invokevirtual 61, 3) := by decide +kernel
theorem dX8_hasNumber_35 : decode cX8_hasNumber 35 = .ok (.ifCond .eq 7, 3) := by decide +kernel
theorem dX8_hasNumber_38 : decode cX8_hasNumber 38 = .ok (.iconst 1, 1) := by decide +kernel
theorem dX8_hasNumber_39 : decode cX8_hasNumber 39 = .ok (.goto 4, 3) := by decide +kernel
theorem dX8_hasNumber_42 : decode cX8_hasNumber 42 = .ok (.iconst 0, 1) := by decide +kernel
theorem dX8_hasNumber_43 : decode cX8_hasNumber 43 = .ok (.ireturn, 1) := by decide +kernel
def f_T_hasNumber_38 (a : Int) (b : Int) (m : xM) : Option (Int × xM) :=
     some (1, m)
set_option maxRecDepth 1000000 in
set_option maxHeartbeats 4000000 in
theorem t_T_hasNumber_38 {Γ : xG} {d : Nat} (hd9 : 2 ≤ d) (C : xC Γ lay_T RX8 cX8_hasNumber 3 d) (a : Int) (b : Int) {r : Int} {m9 : xM} (hR : xRz Γ lay_T cX8_hasNumber r m9) (m : xM) (h : f_T_hasNumber_38 a b m = some (r, m9)) : xW Γ lay_T 3 38 [] [] m := by
  unfold f_T_hasNumber_38 at h
  refine x_iconst C dX8_hasNumber_38 ?_
  refine x_goto C 43 dX8_hasNumber_39 (by decide) ?_
  exact x_zreturn hR (by decide) dX8_hasNumber_43 h
def f_T_hasNumber_30 (a : Int) (b : Int) (m : xM) : Option (Int × xM) :=
     (Option.bind (f_T_fail 2 m) fun q0 =>
      (if xw q0.1 = 0 then some (0, q0.2)
      else f_T_hasNumber_38 a b q0.2))
set_option maxRecDepth 1000000 in
set_option maxHeartbeats 4000000 in
theorem t_T_hasNumber_30 {Γ : xG} {d : Nat} (hd9 : 2 ≤ d) (C : xC Γ lay_T RX8 cX8_hasNumber 3 d) (a : Int) (b : Int) {r : Int} {m9 : xM} (hR : xRz Γ lay_T cX8_hasNumber r m9) (m : xM) (h : f_T_hasNumber_30 a b m = some (r, m9)) : xW Γ lay_T 3 30 [(0, .inr (.inr (some 0)))] [] m := by
  unfold f_T_hasNumber_30 at h
  refine x_aload_n C dX8_hasNumber_30 rfl ?_
  refine x_iconst C dX8_hasNumber_31 ?_
  obtain ⟨q0, hq0, h⟩ := x_bind h
  refine x_callVI C dX8_hasNumber_32 (xin_13 _ (List.mem_of_getElem? (i := 19) rfl)) xy_X8_fail (xi_X8_fail) (xs_X8_fail) (by omega) (by decide) (b := 0) rfl ⟨_, _, rfl⟩ (av := [.inl 2]) rfl (Nat.le_of_ble_eq_true rfl) (c_T_fail _ _ _ q0.1 q0.2 hq0) rfl ?_
  refine x_if_eq C 42 dX8_hasNumber_35 (by decide) h (fun h => ?_) (fun h => ?_)
  · refine x_iconst C dX8_hasNumber_42 ?_
    exact x_zreturn hR (by decide) dX8_hasNumber_43 h
  · refine x_loc [] trivial ?_
    exact t_T_hasNumber_38 hd9 C _ _ hR _ h
def f_T_hasNumber (a : Int) (b : Int) (m : xM) : Option (Int × xM) :=
     (if xw (m 0 2) = xw 2 then (if xw (m 0 5) < xw a then f_T_hasNumber_30 a b m
      else (if xw b < xw (m 0 5) then f_T_hasNumber_30 a b m
      else f_T_hasNumber_38 a b m))
      else (Option.bind (f_T_fail 1 m) fun q1 =>
      (if xbz q1.1 then some (q1.1, q1.2)
      else none)))
set_option maxRecDepth 1000000 in
set_option maxHeartbeats 4000000 in
theorem t_T_hasNumber {Γ : xG} {d : Nat} (hd9 : 2 ≤ d) (C : xC Γ lay_T RX8 cX8_hasNumber 3 d) (a : Int) (b : Int) {r : Int} {m9 : xM} (hR : xRz Γ lay_T cX8_hasNumber r m9) (m : xM) (h : f_T_hasNumber a b m = some (r, m9)) : xW Γ lay_T 3 0 [(0, .inr (.inr (some 0))), (1, .inl a), (2, .inl b)] [] m := by
  unfold f_T_hasNumber at h
  refine x_aload_n C dX8_hasNumber_0 rfl ?_
  refine x_getI C dX8_hasNumber_1 fF_X8_25 rfl rfl ?_
  refine x_iconst C dX8_hasNumber_4 ?_
  refine x_icmp_eq C 14 dX8_hasNumber_5 (by decide) h (fun h => ?_) (fun h => ?_)
  · refine x_aload_n C dX8_hasNumber_14 rfl ?_
    refine x_getI C dX8_hasNumber_15 fF_X8_44 rfl rfl ?_
    refine x_iload_n C dX8_hasNumber_18 rfl ?_
    refine x_icmp_lt C 30 dX8_hasNumber_19 (by decide) h (fun h => ?_) (fun h => ?_)
    · refine x_loc [(0, .inr (.inr (some 0)))] ⟨rfl, trivial⟩ ?_
      exact t_T_hasNumber_30 hd9 C _ _ hR _ h
    · refine x_aload_n C dX8_hasNumber_22 rfl ?_
      refine x_getI C dX8_hasNumber_23 fF_X8_44 rfl rfl ?_
      refine x_iload_n C dX8_hasNumber_26 rfl ?_
      refine x_icmp_le C 38 dX8_hasNumber_27 (by decide) h (fun h => ?_) (fun h => ?_)
      · refine x_loc [] trivial ?_
        exact t_T_hasNumber_38 hd9 C _ _ hR _ h
      · refine x_loc [(0, .inr (.inr (some 0)))] ⟨rfl, trivial⟩ ?_
        exact t_T_hasNumber_30 hd9 C _ _ hR _ h
  · refine x_aload_n C dX8_hasNumber_8 rfl ?_
    refine x_iconst C dX8_hasNumber_9 ?_
    obtain ⟨q1, hq1, h⟩ := x_bind h
    refine x_callVI C dX8_hasNumber_10 (xin_13 _ (List.mem_of_getElem? (i := 19) rfl)) xy_X8_fail (xi_X8_fail) (xs_X8_fail) (by omega) (by decide) (b := 0) rfl ⟨_, _, rfl⟩ (av := [.inl 1]) rfl (Nat.le_of_ble_eq_true rfl) (c_T_fail _ _ _ q1.1 q1.2 hq1) rfl ?_
    obtain ⟨hz9, h⟩ := x_some1 h
    exact x_zreturn hR hz9 dX8_hasNumber_13 h
theorem c_T_hasNumber (l : Launch) (a : Int) (b : Int) (m : xM) (r : Int) (m9 : xM) (h : f_T_hasNumber a b m = some (r, m9)) : xMet l yX8_hasNumber cX8_hasNumber 3 (some .boolean) 2 lay_T [.inr (.inr (some 0)), .inl a, .inl b] m (some (.inl r)) m9 :=
  xMet_z (by decide +kernel) (Nat.le_of_ble_eq_true rfl) (fun Γ C hR hl9 => t_T_hasNumber (Nat.le_refl _) C a b hR m h)
theorem xy_X8_hasNumber : xY yX8_hasNumber cX8_hasNumber 3 (some .boolean) 2 := ⟨(xin_14 _ (List.mem_of_getElem? (i := 10) rfl)), (xin_2 _ (List.mem_of_getElem? (i := 3) rfl)), by decide, by decide, by decide +kernel⟩
theorem xi_X8_hasNumber : Cond.instanceMethod yX8_hasNumber ∈ wsL_law := (xin_14 _ (List.mem_of_getElem? (i := 8) rfl))
theorem xs_X8_hasNumber : Cond.selects yX8_hasNumber.cls yX8_hasNumber yX8_hasNumber ∈ wsL_law := (xin_14 _ (List.mem_of_getElem? (i := 9) rfl))
theorem dX8_takeNumber_0 : decode cX8_takeNumber 0 = .ok (.aload_n 0, 1) := by decide +kernel
theorem dX8_takeNumber_1 : decode cX8_takeNumber 1 = .ok (.iload_n 1, 1) := by decide +kernel
theorem dX8_takeNumber_2 : decode cX8_takeNumber 2 = .ok (.iload_n 2, 1) := by decide +kernel
theorem dX8_takeNumber_3 : decode cX8_takeNumber 3 = .ok (.invokevirtual 69, 3) := by decide +kernel
theorem dX8_takeNumber_6 : decode cX8_takeNumber 6 = .ok (.ifCond .ne 5, 3) := by decide +kernel
theorem dX8_takeNumber_9 : decode cX8_takeNumber 9 = .ok (.iconst (-1), 1) := by decide +kernel
theorem dX8_takeNumber_10 : decode cX8_takeNumber 10 = .ok (.ireturn, 1) := by decide +kernel
theorem dX8_takeNumber_11 : decode cX8_takeNumber 11 = .ok (.aload_n 0, 1) := by decide +kernel
theorem dX8_takeNumber_12 : decode cX8_takeNumber 12 = .ok (.getfield 44, 3) := by decide +kernel
theorem dX8_takeNumber_15 : decode cX8_takeNumber 15 = .ok (.istore_n 3, 1) := by decide +kernel
theorem dX8_takeNumber_16 : decode cX8_takeNumber 16 = .ok (.aload_n 0, 1) := by decide +kernel
theorem dX8_takeNumber_17 : decode cX8_takeNumber 17 = .ok (.invokevirtual 34, 3) := by decide +kernel
theorem dX8_takeNumber_20 : decode cX8_takeNumber 20 = .ok (.iload_n 3, 1) := by decide +kernel
theorem dX8_takeNumber_21 : decode cX8_takeNumber 21 = .ok (.ireturn, 1) := by decide +kernel
def f_T_takeNumber (a : Int) (b : Int) (m : xM) : Option (Int × xM) :=
     (Option.bind (f_T_hasNumber a b m) fun q0 =>
      (if xw q0.1 = 0 then some ((-1), q0.2)
      else (Option.bind (f_T_next q0.2) fun q1 =>
      some ((q0.2 0 5), q1))))
set_option maxRecDepth 1000000 in
set_option maxHeartbeats 4000000 in
theorem t_T_takeNumber {Γ : xG} {d : Nat} (hd9 : 3 ≤ d) (C : xC Γ lay_T RX8 cX8_takeNumber 4 d) (a : Int) (b : Int) {r : Int} {m9 : xM} (hR : xRi Γ lay_T cX8_takeNumber r m9) (m : xM) (h : f_T_takeNumber a b m = some (r, m9)) : xW Γ lay_T 4 0 [(0, .inr (.inr (some 0))), (1, .inl a), (2, .inl b)] [] m := by
  unfold f_T_takeNumber at h
  refine x_aload_n C dX8_takeNumber_0 rfl ?_
  refine x_iload_n C dX8_takeNumber_1 rfl ?_
  refine x_iload_n C dX8_takeNumber_2 rfl ?_
  obtain ⟨q0, hq0, h⟩ := x_bind h
  refine x_callVI C dX8_takeNumber_3 (xin_14 _ (List.mem_of_getElem? (i := 7) rfl)) xy_X8_hasNumber (xi_X8_hasNumber) (xs_X8_hasNumber) (by omega) (by decide) (b := 0) rfl ⟨_, _, rfl⟩ (av := [.inl a, .inl b]) rfl (Nat.le_of_ble_eq_true rfl) (c_T_hasNumber _ _ _ _ q0.1 q0.2 hq0) rfl ?_
  refine x_if_ne C 11 dX8_takeNumber_6 (by decide) h (fun h => ?_) (fun h => ?_)
  · refine x_aload_n C dX8_takeNumber_11 rfl ?_
    refine x_getI C dX8_takeNumber_12 fF_X8_44 rfl rfl ?_
    refine x_istore_n C dX8_takeNumber_15 (by decide) ?_
    refine x_aload_n C dX8_takeNumber_16 rfl ?_
    obtain ⟨q1, hq1, h⟩ := x_bind h
    refine x_callVI C dX8_takeNumber_17 (xin_12 _ (List.mem_of_getElem? (i := 16) rfl)) xy_X8_next (xi_X8_next) (xs_X8_next) (by omega) (by decide) (b := 0) rfl ⟨_, _, rfl⟩ (av := []) rfl (Nat.le_of_ble_eq_true rfl) (c_T_next _ _ _ hq1) rfl ?_
    refine x_iload_n C dX8_takeNumber_20 rfl ?_
    exact x_ireturn hR dX8_takeNumber_21 h
  · refine x_iconst C dX8_takeNumber_9 ?_
    exact x_ireturn hR dX8_takeNumber_10 h
theorem c_T_takeNumber (l : Launch) (a : Int) (b : Int) (m : xM) (r : Int) (m9 : xM) (h : f_T_takeNumber a b m = some (r, m9)) : xMet l yX8_takeNumber cX8_takeNumber 4 (some .int) 3 lay_T [.inr (.inr (some 0)), .inl a, .inl b] m (some (.inl r)) m9 :=
  xMet_i (by decide +kernel) (Nat.le_of_ble_eq_true rfl) (fun Γ C hR hl9 => t_T_takeNumber (Nat.le_refl _) C a b hR m h)
theorem xy_X8_takeNumber : xY yX8_takeNumber cX8_takeNumber 4 (some .int) 2 := ⟨(xin_14 _ (List.mem_of_getElem? (i := 6) rfl)), (xin_2 _ (List.mem_of_getElem? (i := 3) rfl)), by decide, by decide, by decide +kernel⟩
theorem xi_X8_takeNumber : Cond.instanceMethod yX8_takeNumber ∈ wsL_law := (xin_14 _ (List.mem_of_getElem? (i := 4) rfl))
theorem xs_X8_takeNumber : Cond.selects yX8_takeNumber.cls yX8_takeNumber yX8_takeNumber ∈ wsL_law := (xin_14 _ (List.mem_of_getElem? (i := 5) rfl))
theorem xy_X8_takeSign : xY yX8_takeSign cX8_takeSign 2 (some .boolean) 1 := ⟨(xin_14 _ (List.mem_of_getElem? (i := 14) rfl)), (xin_2 _ (List.mem_of_getElem? (i := 3) rfl)), by decide, by decide, by decide +kernel⟩
theorem xi_X8_takeSign : Cond.instanceMethod yX8_takeSign ∈ wsL_law := (xin_14 _ (List.mem_of_getElem? (i := 12) rfl))
theorem xs_X8_takeSign : Cond.selects yX8_takeSign.cls yX8_takeSign yX8_takeSign ∈ wsL_law := (xin_14 _ (List.mem_of_getElem? (i := 13) rfl))
theorem dX8_takeLastNumber_0 : decode cX8_takeLastNumber 0 = .ok (.aload_n 0, 1) := by decide +kernel
theorem dX8_takeLastNumber_1 : decode cX8_takeLastNumber 1 = .ok (.iload_n 1, 1) := by decide +kernel
theorem dX8_takeLastNumber_2 : decode cX8_takeLastNumber 2 = .ok (.iload_n 2, 1) := by decide +kernel
theorem dX8_takeLastNumber_3 : decode cX8_takeLastNumber 3 = .ok (.invokevirtual 73, 3) := by decide +kernel
theorem dX8_takeLastNumber_6 : decode cX8_takeLastNumber 6 = .ok (.istore_n 3, 1) := by decide +kernel
theorem dX8_takeLastNumber_7 : decode cX8_takeLastNumber 7 = .ok (.aload_n 0, 1) := by decide +kernel
theorem dX8_takeLastNumber_8 : decode cX8_takeLastNumber 8 = .ok (.bipush 59, 2) := by decide +kernel
theorem dX8_takeLastNumber_10 : decode cX8_takeLastNumber 10 = .ok (.invokevirtual 76, 3) := by decide +kernel
theorem dX8_takeLastNumber_13 : decode cX8_takeLastNumber 13 = .ok (.pop, 1) := by decide +kernel
theorem dX8_takeLastNumber_14 : decode cX8_takeLastNumber 14 = .ok (.iload_n 3, 1) := by decide +kernel
theorem dX8_takeLastNumber_15 : decode cX8_takeLastNumber 15 = .ok (.ireturn, 1) := by decide +kernel
def f_T_takeLast (a : Int) (b : Int) (m : xM) : Option (Int × xM) :=
     (Option.bind (f_T_takeNumber a b m) fun q0 =>
      (Option.bind (f_T_takeSign 59 q0.2) fun q1 =>
      some (q0.1, q1.2)))
set_option maxRecDepth 1000000 in
set_option maxHeartbeats 4000000 in
theorem t_T_takeLast {Γ : xG} {d : Nat} (hd9 : 4 ≤ d) (C : xC Γ lay_T RX8 cX8_takeLastNumber 4 d) (a : Int) (b : Int) {r : Int} {m9 : xM} (hR : xRi Γ lay_T cX8_takeLastNumber r m9) (m : xM) (h : f_T_takeLast a b m = some (r, m9)) : xW Γ lay_T 4 0 [(0, .inr (.inr (some 0))), (1, .inl a), (2, .inl b)] [] m := by
  unfold f_T_takeLast at h
  refine x_aload_n C dX8_takeLastNumber_0 rfl ?_
  refine x_iload_n C dX8_takeLastNumber_1 rfl ?_
  refine x_iload_n C dX8_takeLastNumber_2 rfl ?_
  obtain ⟨q0, hq0, h⟩ := x_bind h
  refine x_callVI C dX8_takeLastNumber_3 (xin_14 _ (List.mem_of_getElem? (i := 3) rfl)) xy_X8_takeNumber (xi_X8_takeNumber) (xs_X8_takeNumber) (by omega) (by decide) (b := 0) rfl ⟨_, _, rfl⟩ (av := [.inl a, .inl b]) rfl (Nat.le_of_ble_eq_true rfl) (c_T_takeNumber _ _ _ _ q0.1 q0.2 hq0) rfl ?_
  refine x_istore_n C dX8_takeLastNumber_6 (by decide) ?_
  refine x_aload_n C dX8_takeLastNumber_7 rfl ?_
  refine x_bipush C dX8_takeLastNumber_8 (by decide) ?_
  obtain ⟨q1, hq1, h⟩ := x_bind h
  refine x_callVI C dX8_takeLastNumber_10 (xin_14 _ (List.mem_of_getElem? (i := 11) rfl)) xy_X8_takeSign (xi_X8_takeSign) (xs_X8_takeSign) (by omega) (by decide) (b := 0) rfl ⟨_, _, rfl⟩ (av := [.inl 59]) rfl (Nat.le_of_ble_eq_true rfl) (c_T_takeSign _ _ _ q1.1 q1.2 hq1) rfl ?_
  refine x_pop C dX8_takeLastNumber_13 rfl ?_
  refine x_iload_n C dX8_takeLastNumber_14 rfl ?_
  exact x_ireturn hR dX8_takeLastNumber_15 h
theorem c_T_takeLast (l : Launch) (a : Int) (b : Int) (m : xM) (r : Int) (m9 : xM) (h : f_T_takeLast a b m = some (r, m9)) : xMet l yX8_takeLastNumber cX8_takeLastNumber 4 (some .int) 4 lay_T [.inr (.inr (some 0)), .inl a, .inl b] m (some (.inl r)) m9 :=
  xMet_i (by decide +kernel) (Nat.le_of_ble_eq_true rfl) (fun Γ C hR hl9 => t_T_takeLast (Nat.le_refl _) C a b hR m h)

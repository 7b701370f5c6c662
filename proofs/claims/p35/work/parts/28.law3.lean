/-! ===== yL_isPassed ===== -/
theorem xy_L_all : xY yL_all cL_all 7 (some .long) 1 := ⟨(xin_35 _ (List.mem_of_getElem? (i := 20) rfl)), (xin_8 _ (List.mem_of_getElem? (i := 21) rfl)), by decide, by decide, by decide +kernel⟩
theorem xt_L_all : Cond.static yL_all ∈ wsL_law := (xin_35 _ (List.mem_of_getElem? (i := 19) rfl))
theorem xy_X10_receivedBehind : xY yX10_receivedBehind cX10_receivedBehind 3 (some .int) 2 := ⟨(xin_41 _ (List.mem_of_getElem? (i := 5) rfl)), (xin_1 _ (List.mem_of_getElem? (i := 2) rfl)), by decide, by decide, by decide +kernel⟩
theorem xi_X10_receivedBehind : Cond.instanceMethod yX10_receivedBehind ∈ wsL_law := (xin_41 _ (List.mem_of_getElem? (i := 3) rfl))
theorem xs_X10_receivedBehind : Cond.selects yX10_receivedBehind.cls yX10_receivedBehind yX10_receivedBehind ∈ wsL_law := (xin_41 _ (List.mem_of_getElem? (i := 4) rfl))
theorem xy_X10_ticksToFinish : xY yX10_ticksToFinish cX10_ticksToFinish 1 (some .int) 0 := ⟨(xin_30 _ (List.mem_of_getElem? (i := 16) rfl)), (xin_1 _ (List.mem_of_getElem? (i := 2) rfl)), by decide, by decide, by decide +kernel⟩
theorem xi_X10_ticksToFinish : Cond.instanceMethod yX10_ticksToFinish ∈ wsL_law := (xin_30 _ (List.mem_of_getElem? (i := 14) rfl))
theorem xs_X10_ticksToFinish : Cond.selects yX10_ticksToFinish.cls yX10_ticksToFinish yX10_ticksToFinish ∈ wsL_law := (xin_30 _ (List.mem_of_getElem? (i := 15) rfl))
theorem xy_X10_pass : xY yX10_pass cX10_pass 3 (some .int) 1 := ⟨(xin_20 _ (List.mem_of_getElem? (i := 22) rfl)), (xin_1 _ (List.mem_of_getElem? (i := 2) rfl)), by decide, by decide, by decide +kernel⟩
theorem xi_X10_pass : Cond.instanceMethod yX10_pass ∈ wsL_law := (xin_20 _ (List.mem_of_getElem? (i := 20) rfl))
theorem xs_X10_pass : Cond.selects yX10_pass.cls yX10_pass yX10_pass ∈ wsL_law := (xin_20 _ (List.mem_of_getElem? (i := 21) rfl))
theorem xy_L_isSound : xY yL_isSound cL_isSound 7 (some .boolean) 1 := ⟨(xin_35 _ (List.mem_of_getElem? (i := 2) rfl)), (xin_8 _ (List.mem_of_getElem? (i := 21) rfl)), by decide, by decide, by decide +kernel⟩
theorem xt_L_isSound : Cond.static yL_isSound ∈ wsL_law := (xin_35 _ (List.mem_of_getElem? (i := 1) rfl))
theorem xy_X10_undo : xY yX10_undo cX10_undo 1 (some .int) 0 := ⟨(xin_41 _ (List.mem_of_getElem? (i := 9) rfl)), (xin_1 _ (List.mem_of_getElem? (i := 2) rfl)), by decide, by decide, by decide +kernel⟩
theorem xi_X10_undo : Cond.instanceMethod yX10_undo ∈ wsL_law := (xin_41 _ (List.mem_of_getElem? (i := 7) rfl))
theorem xs_X10_undo : Cond.selects yX10_undo.cls yX10_undo yX10_undo ∈ wsL_law := (xin_41 _ (List.mem_of_getElem? (i := 8) rfl))
theorem dL_isPassed_0 : decode cL_isPassed 0 = .ok (.aload_n 0, 1) := by decide +kernel
theorem dL_isPassed_1 : decode cL_isPassed 1 = .ok (.invokestatic 224, 3) := by decide +kernel
theorem dL_isPassed_4 : decode cL_isPassed 4 = .ok (.lstore_n 2, 1) := by decide +kernel
theorem dL_isPassed_5 : decode cL_isPassed 5 = .ok (.aload_n 0, 1) := by decide +kernel
theorem dL_isPassed_6 : decode cL_isPassed 6 = .ok (.iconst 0, 1) := by decide +kernel
theorem dL_isPassed_7 : decode cL_isPassed 7 = .ok (.iload_n 1, 1) := by decide +kernel
theorem dL_isPassed_8 : decode cL_isPassed 8 = .ok (.invokevirtual 227, 3) := by decide +kernel
theorem dL_isPassed_11 : decode cL_isPassed 11 = .ok (.istore 4, 2) := by decide +kernel
theorem dL_isPassed_13 : decode cL_isPassed 13 = .ok (.aload_n 0, 1) := by decide +kernel
theorem dL_isPassed_14 : decode cL_isPassed 14 = .ok (.iconst 1, 1) := by decide +kernel
theorem dL_isPassed_15 : decode cL_isPassed 15 = .ok (.iload_n 1, 1) := by decide +kernel
theorem dL_isPassed_16 : decode cL_isPassed 16 = .ok (.invokevirtual 227, 3) := by decide +kernel
theorem dL_isPassed_19 : decode cL_isPassed 19 = .ok (.istore 5, 2) := by decide +kernel
theorem dL_isPassed_21 : decode cL_isPassed 21 = .ok (.aload_n 0, 1) := by decide +kernel
theorem dL_isPassed_22 : decode cL_isPassed 22 = .ok (.invokevirtual 230, 3) := by decide +kernel
theorem dL_isPassed_25 : decode cL_isPassed 25 = .ok (.istore 6, 2) := by decide +kernel
theorem dL_isPassed_27 : decode cL_isPassed 27 = .ok (.aload_n 0, 1) := by decide +kernel
theorem dL_isPassed_28 : decode cL_isPassed 28 = .ok (.bipush 10, 2) := by decide +kernel
theorem dL_isPassed_30 : decode cL_isPassed 30 = .ok (.invokevirtual 130, 3) := by decide +kernel
theorem dL_isPassed_33 : decode cL_isPassed 33 = .ok (.istore 7, 2) := by decide +kernel
theorem dL_isPassed_35 : decode cL_isPassed 35 = .ok (.aload_n 0, 1) := by decide +kernel
theorem dL_isPassed_36 : decode cL_isPassed 36 = .ok (.invokestatic 224, 3) := by decide +kernel
theorem dL_isPassed_39 : decode cL_isPassed 39 = .ok (.lload_n 2, 1) := by decide +kernel
theorem dL_isPassed_40 : decode cL_isPassed 40 = .ok (.lcmp, 1) := by decide +kernel
theorem dL_isPassed_41 : decode cL_isPassed 41 = .ok (.ifCond .ne 48, 3) := by decide +kernel
theorem dL_isPassed_44 : decode cL_isPassed 44 = .ok (.aload_n 0, 1) := by decide +kernel
theorem dL_isPassed_45 : decode cL_isPassed 45 = .ok (.iload_n 1, 1) := by decide +kernel
theorem dL_isPassed_46 : decode cL_isPassed 46 = .ok (.invokevirtual 188, 3) := by decide +kernel
theorem dL_isPassed_49 : decode cL_isPassed 49 = .ok (.iload 4, 2) := by decide +kernel
theorem dL_isPassed_51 : decode cL_isPassed 51 = .ok (.iload 5, 2) := by decide +kernel
theorem dL_isPassed_53 : decode cL_isPassed 53 = .ok (.iadd, 1) := by decide +kernel
theorem dL_isPassed_54 : decode cL_isPassed 54 = .ok (.iload 7, 2) := by decide +kernel
theorem dL_isPassed_56 : decode cL_isPassed 56 = .ok (.isub, 1) := by decide +kernel
theorem dL_isPassed_57 : decode cL_isPassed 57 = .ok (.if_icmp .ne 32, 3) := by decide +kernel
theorem dL_isPassed_60 : decode cL_isPassed 60 = .ok (.aload_n 0, 1) := by decide +kernel
theorem dL_isPassed_61 : decode cL_isPassed 61 = .ok (.iconst 0, 1) := by decide +kernel
theorem dL_isPassed_62 : decode cL_isPassed 62 = .ok (.iconst 5, 1) := by decide +kernel
theorem dL_isPassed_63 : decode cL_isPassed 63 = .ok (.invokevirtual 169, 3) := by decide +kernel
theorem dL_isPassed_66 : decode cL_isPassed 66 = .ok (.iload 4, 2) := by decide +kernel
theorem dL_isPassed_68 : decode cL_isPassed 68 = .ok (.if_icmp .ne 21, 3) := by decide +kernel
theorem dL_isPassed_71 : decode cL_isPassed 71 = .ok (.aload_n 0, 1) := by decide +kernel
theorem dL_isPassed_72 : decode cL_isPassed 72 = .ok (.iconst 1, 1) := by decide +kernel
theorem dL_isPassed_73 : decode cL_isPassed 73 = .ok (.iconst 5, 1) := by decide +kernel
theorem dL_isPassed_74 : decode cL_isPassed 74 = .ok (.invokevirtual 169, 3) := by decide +kernel
theorem dL_isPassed_77 : decode cL_isPassed 77 = .ok (.iload 5, 2) := by decide +kernel
theorem dL_isPassed_79 : decode cL_isPassed 79 = .ok (.if_icmp .ne 10, 3) := by decide +kernel
theorem dL_isPassed_82 : decode cL_isPassed 82 = .ok (.aload_n 0, 1) := by decide +kernel
theorem dL_isPassed_83 : decode cL_isPassed 83 = .ok (.invokestatic 233, 3) := by decide +kernel
theorem dL_isPassed_86 : decode cL_isPassed 86 = .ok (.ifCond .ne 5, 3) := by decide +kernel
theorem dL_isPassed_89 : decode cL_isPassed 89 = .ok (.iconst 0, 1) := by decide +kernel
theorem dL_isPassed_90 : decode cL_isPassed 90 = .ok (.ireturn, 1) := by decide +kernel
theorem dL_isPassed_91 : decode cL_isPassed 91 = .ok (.aload_n 0, 1) := by decide +kernel
theorem dL_isPassed_92 : decode cL_isPassed 92 = .ok (.iconst 1, 1) := by decide +kernel
theorem dL_isPassed_93 : decode cL_isPassed 93 = .ok (.invokevirtual 127, 3) := by decide +kernel
theorem dL_isPassed_96 : decode cL_isPassed 96 = .ok (.iconst 2, 1) := by decide +kernel
theorem dL_isPassed_97 : decode cL_isPassed 97 = .ok (.if_icmp .ne 51, 3) := by decide +kernel
theorem dL_isPassed_100 : decode cL_isPassed 100 = .ok (.aload_n 0, 1) := by decide +kernel
theorem dL_isPassed_101 : decode cL_isPassed 101 = .ok (.iconst 0, 1) := by decide +kernel
theorem dL_isPassed_102 : decode cL_isPassed 102 = .ok (.iconst 0, 1) := by decide +kernel
theorem dL_isPassed_103 : decode cL_isPassed 103 = .ok (.invokevirtual 169, 3) := by decide +kernel
theorem dL_isPassed_106 : decode cL_isPassed 106 = .ok (.aload_n 0, 1) := by decide +kernel
theorem dL_isPassed_107 : decode cL_isPassed 107 = .ok (.iconst 1, 1) := by decide +kernel
theorem dL_isPassed_108 : decode cL_isPassed 108 = .ok (.iconst 0, 1) := by decide +kernel
theorem dL_isPassed_109 : decode cL_isPassed 109 = .ok (.invokevirtual 169, 3) := by decide +kernel
theorem dL_isPassed_112 : decode cL_isPassed 112 = .ok (.iadd, 1) := by decide +kernel
theorem dL_isPassed_113 : decode cL_isPassed 113 = .ok (.aload_n 0, 1) := by decide +kernel
theorem dL_isPassed_114 : decode cL_isPassed 114 = .ok (.iconst 0, 1) := by decide +kernel
theorem dL_isPassed_115 : decode cL_isPassed 115 = .ok (.iconst 1, 1) := by decide +kernel
theorem dL_isPassed_116 : decode cL_isPassed 116 = .ok (.invokevirtual 169, 3) := by decide +kernel
theorem dL_isPassed_119 : decode cL_isPassed 119 = .ok (.iadd, 1) := by decide +kernel
theorem dL_isPassed_120 : decode cL_isPassed 120 = .ok (.aload_n 0, 1) := by decide +kernel
theorem dL_isPassed_121 : decode cL_isPassed 121 = .ok (.iconst 1, 1) := by decide +kernel
theorem dL_isPassed_122 : decode cL_isPassed 122 = .ok (.iconst 1, 1) := by decide +kernel
theorem dL_isPassed_123 : decode cL_isPassed 123 = .ok (.invokevirtual 169, 3) := by decide +kernel
theorem dL_isPassed_126 : decode cL_isPassed 126 = .ok (.iadd, 1) := by decide +kernel
theorem dL_isPassed_127 : decode cL_isPassed 127 = .ok (.aload_n 0, 1) := by decide +kernel
theorem dL_isPassed_128 : decode cL_isPassed 128 = .ok (.iconst 0, 1) := by decide +kernel
theorem dL_isPassed_129 : decode cL_isPassed 129 = .ok (.iconst 2, 1) := by decide +kernel
theorem dL_isPassed_130 : decode cL_isPassed 130 = .ok (.invokevirtual 169, 3) := by decide +kernel
theorem dL_isPassed_133 : decode cL_isPassed 133 = .ok (.iadd, 1) := by decide +kernel
theorem dL_isPassed_134 : decode cL_isPassed 134 = .ok (.aload_n 0, 1) := by decide +kernel
theorem dL_isPassed_135 : decode cL_isPassed 135 = .ok (.iconst 1, 1) := by decide +kernel
theorem dL_isPassed_136 : decode cL_isPassed 136 = .ok (.iconst 2, 1) := by decide +kernel
theorem dL_isPassed_137 : decode cL_isPassed 137 = .ok (.invokevirtual 169, 3) := by decide +kernel
theorem dL_isPassed_140 : decode cL_isPassed 140 = .ok (.iadd, 1) := by decide +kernel
theorem dL_isPassed_141 : decode cL_isPassed 141 = .ok (.ifCond .ne 7, 3) := by decide +kernel
theorem dL_isPassed_144 : decode cL_isPassed 144 = .ok (.iconst 1, 1) := by decide +kernel
theorem dL_isPassed_145 : decode cL_isPassed 145 = .ok (.goto 4, 3) := by decide +kernel
theorem dL_isPassed_148 : decode cL_isPassed 148 = .ok (.iconst 0, 1) := by decide +kernel
theorem dL_isPassed_149 : decode cL_isPassed 149 = .ok (.istore 8, 2) := by decide +kernel
theorem dL_isPassed_151 : decode cL_isPassed 151 = .ok (.iload 6, 2) := by decide +kernel
theorem dL_isPassed_153 : decode cL_isPassed 153 = .ok (.iload_n 1, 1) := by decide +kernel
theorem dL_isPassed_154 : decode cL_isPassed 154 = .ok (.if_icmp .ne 8, 3) := by decide +kernel
theorem dL_isPassed_157 : decode cL_isPassed 157 = .ok (.iload 8, 2) := by decide +kernel
theorem dL_isPassed_159 : decode cL_isPassed 159 = .ok (.ifCond .eq 19, 3) := by decide +kernel
theorem dL_isPassed_162 : decode cL_isPassed 162 = .ok (.iload 8, 2) := by decide +kernel
theorem dL_isPassed_164 : decode cL_isPassed 164 = .ok (.ifCond .eq 16, 3) := by decide +kernel
theorem dL_isPassed_167 : decode cL_isPassed 167 = .ok (.iload 6, 2) := by decide +kernel
theorem dL_isPassed_169 : decode cL_isPassed 169 = .ok (.ifCond .lt 9, 3) := by decide +kernel
theorem dL_isPassed_172 : decode cL_isPassed 172 = .ok (.iload 6, 2) := by decide +kernel
theorem dL_isPassed_174 : decode cL_isPassed 174 = .ok (.iload_n 1, 1) := by decide +kernel
theorem dL_isPassed_175 : decode cL_isPassed 175 = .ok (.if_icmp .le 5, 3) := by decide +kernel
theorem dL_isPassed_178 : decode cL_isPassed 178 = .ok (.iconst 0, 1) := by decide +kernel
theorem dL_isPassed_179 : decode cL_isPassed 179 = .ok (.ireturn, 1) := by decide +kernel
theorem dL_isPassed_180 : decode cL_isPassed 180 = .ok (.iload 6, 2) := by decide +kernel
theorem dL_isPassed_182 : decode cL_isPassed 182 = .ok (.iload_n 1, 1) := by decide +kernel
theorem dL_isPassed_183 : decode cL_isPassed 183 = .ok (.if_icmp .le 16, 3) := by decide +kernel
theorem dL_isPassed_186 : decode cL_isPassed 186 = .ok (.aload_n 0, 1) := by decide +kernel
theorem dL_isPassed_187 : decode cL_isPassed 187 = .ok (.invokevirtual 230, 3) := by decide +kernel
theorem dL_isPassed_190 : decode cL_isPassed 190 = .ok (.iload 6, 2) := by decide +kernel
theorem dL_isPassed_192 : decode cL_isPassed 192 = .ok (.iload_n 1, 1) := by decide +kernel
theorem dL_isPassed_193 : decode cL_isPassed 193 = .ok (.isub, 1) := by decide +kernel
theorem dL_isPassed_194 : decode cL_isPassed 194 = .ok (.if_icmp .eq 5, 3) := by decide +kernel
theorem dL_isPassed_197 : decode cL_isPassed 197 = .ok (.iconst 0, 1) := by decide +kernel
theorem dL_isPassed_198 : decode cL_isPassed 198 = .ok (.ireturn, 1) := by decide +kernel
theorem dL_isPassed_199 : decode cL_isPassed 199 = .ok (.aload_n 0, 1) := by decide +kernel
theorem dL_isPassed_200 : decode cL_isPassed 200 = .ok (.invokevirtual 237, 3) := by decide +kernel
theorem dL_isPassed_203 : decode cL_isPassed 203 = .ok (.ifCond .lt 16, 3) := by decide +kernel
theorem dL_isPassed_206 : decode cL_isPassed 206 = .ok (.aload_n 0, 1) := by decide +kernel
theorem dL_isPassed_207 : decode cL_isPassed 207 = .ok (.invokestatic 224, 3) := by decide +kernel
theorem dL_isPassed_210 : decode cL_isPassed 210 = .ok (.lload_n 2, 1) := by decide +kernel
theorem dL_isPassed_211 : decode cL_isPassed 211 = .ok (.lcmp, 1) := by decide +kernel
theorem dL_isPassed_212 : decode cL_isPassed 212 = .ok (.ifCond .ne 7, 3) := by decide +kernel
theorem dL_isPassed_215 : decode cL_isPassed 215 = .ok (.iconst 1, 1) := by decide +kernel
theorem dL_isPassed_216 : decode cL_isPassed 216 = .ok (.goto 4, 3) := by decide +kernel
theorem dL_isPassed_219 : decode cL_isPassed 219 = .ok (.iconst 0, 1) := by decide +kernel
theorem dL_isPassed_220 : decode cL_isPassed 220 = .ok (.ireturn, 1) := by decide +kernel
def f_L_isPassed_199 (n0 : Int) (hp : gH) (x2 : Int) (m : xM) : Option (Int × xM) :=
     (Option.bind (f_X_undo m) fun q11 =>
      (if xw q11.1 < 0 then some (0, q11.2)
      else (Option.bind (f_L_all q11.2 hp) fun q12 =>
      (if xw (xlcmp q12 x2) = 0 then some (1, q11.2)
      else some (0, q11.2)))))
set_option maxRecDepth 1000000 in
set_option maxHeartbeats 4000000 in
theorem t_L_isPassed_199 {P : gG → Prop} {d : Nat} {hp : gH} {r : Int} {m9 : xM} (hd9 : 9 ≤ d) (C : ∀ Γ, P Γ → gX Γ lay_X RL cL_isPassed 9 d hp) (n0 : Int) (hR : ∀ Γ, P Γ → gRz Γ lay_X cL_isPassed r m9 hp) (x2 : Int) (m : xM) (h : f_L_isPassed_199 n0 hp x2 m = some (r, m9)) : gJ P lay_X 9 199 [(0, .inr (.inr (some 0))), (2, .inr (.inl x2))] [] m hp hp := by
  unfold f_L_isPassed_199 at h
  refine g_aload_n C dL_isPassed_199 rfl ?_
  obtain ⟨q11, hq11, h⟩ := x_bind h
  refine g_callX C dL_isPassed_200 (xin_41 _ (List.mem_of_getElem? (i := 6) rfl)) xy_X10_undo xi_X10_undo xs_X10_undo (by omega) (by decide) (b := 0) (ci := 11) rfl ⟨_, _, rfl⟩ (av := []) rfl (Nat.le_of_ble_eq_true rfl) (fun l => c_X_undo l _ q11.1 q11.2 hq11) rfl ?_
  refine g_if_lt C 219 dL_isPassed_203 (by decide) h (fun h => ?_) (fun h => ?_)
  · refine g_iconst C dL_isPassed_219 ?_
    exact g_zreturn hR (by decide) dL_isPassed_220 (by cases h; exact ⟨rfl, rfl, rfl⟩)
  · refine g_aload_n C dL_isPassed_206 rfl ?_
    obtain ⟨q12, hq12, h⟩ := x_bind h
    refine g_callS C dL_isPassed_207 (xin_35 _ (List.mem_of_getElem? (i := 18) rfl)) xy_L_all xt_L_all (by omega) (by decide) (av := [.inr (.inr (some 0))]) rfl (Nat.le_of_ble_eq_true rfl) gle.rf (c_L_all _ hq12) rfl ?_
    refine g_lload_n C dL_isPassed_210 rfl ?_
    refine g_lcmp C dL_isPassed_211 ?_
    refine g_if_ne C 219 dL_isPassed_212 (by decide) h (fun h => ?_) (fun h => ?_)
    · refine g_iconst C dL_isPassed_219 ?_
      exact g_zreturn hR (by decide) dL_isPassed_220 (by cases h; exact ⟨rfl, rfl, rfl⟩)
    · refine g_iconst C dL_isPassed_215 ?_
      refine g_goto C 220 dL_isPassed_216 (by decide) ?_
      exact g_zreturn hR (by decide) dL_isPassed_220 (by cases h; exact ⟨rfl, rfl, rfl⟩)
def f_L_isPassed_180 (n0 : Int) (hp : gH) (x2 : Int) (x6 : Int) (m : xM) : Option (Int × xM) :=
     (if xw n0 < xw x6 then (Option.bind (f_X_ticksToFinish m) fun q13 =>
      (if xw q13.1 = xw (x6 - n0) then f_L_isPassed_199 n0 hp x2 q13.2
      else some (0, q13.2)))
      else f_L_isPassed_199 n0 hp x2 m)
set_option maxRecDepth 1000000 in
set_option maxHeartbeats 4000000 in
theorem t_L_isPassed_180 {P : gG → Prop} {d : Nat} {hp : gH} {r : Int} {m9 : xM} (hd9 : 9 ≤ d) (C : ∀ Γ, P Γ → gX Γ lay_X RL cL_isPassed 9 d hp) (n0 : Int) (hR : ∀ Γ, P Γ → gRz Γ lay_X cL_isPassed r m9 hp) (x2 : Int) (x6 : Int) (m : xM) (h : f_L_isPassed_180 n0 hp x2 x6 m = some (r, m9)) : gJ P lay_X 9 180 [(0, .inr (.inr (some 0))), (1, .inl n0), (2, .inr (.inl x2)), (6, .inl x6)] [] m hp hp := by
  unfold f_L_isPassed_180 at h
  refine g_iload C dL_isPassed_180 rfl ?_
  refine g_iload_n C dL_isPassed_182 rfl ?_
  refine g_icmp_le C 199 dL_isPassed_183 (by decide) h (fun h => ?_) (fun h => ?_)
  · refine g_loc [(0, .inr (.inr (some 0))), (2, .inr (.inl x2))] ⟨rfl, rfl, trivial⟩ ?_
    exact t_L_isPassed_199 hd9 C _ hR _ _ h
  · refine g_aload_n C dL_isPassed_186 rfl ?_
    obtain ⟨q13, hq13, h⟩ := x_bind h
    refine g_callX C dL_isPassed_187 (xin_30 _ (List.mem_of_getElem? (i := 13) rfl)) xy_X10_ticksToFinish xi_X10_ticksToFinish xs_X10_ticksToFinish (by omega) (by decide) (b := 0) (ci := 11) rfl ⟨_, _, rfl⟩ (av := []) rfl (Nat.le_of_ble_eq_true rfl) (fun l => c_X_ticksToFinish l _ q13.1 q13.2 hq13) rfl ?_
    refine g_iload C dL_isPassed_190 rfl ?_
    refine g_iload_n C dL_isPassed_192 rfl ?_
    refine g_isub C dL_isPassed_193 ?_
    refine g_icmp_eq C 199 dL_isPassed_194 (by decide) h (fun h => ?_) (fun h => ?_)
    · refine g_loc [(0, .inr (.inr (some 0))), (2, .inr (.inl x2))] ⟨rfl, rfl, trivial⟩ ?_
      exact t_L_isPassed_199 hd9 C _ hR _ _ h
    · refine g_iconst C dL_isPassed_197 ?_
      exact g_zreturn hR (by decide) dL_isPassed_198 (by cases h; exact ⟨rfl, rfl, rfl⟩)
def f_L_isPassed_162 (n0 : Int) (hp : gH) (x2 : Int) (x6 : Int) (x8 : Int) (m : xM) : Option (Int × xM) :=
     (if xw x8 = 0 then f_L_isPassed_180 n0 hp x2 x6 m
      else (if xw x6 < 0 then some (0, m)
      else (if xw n0 < xw x6 then some (0, m)
      else f_L_isPassed_180 n0 hp x2 x6 m)))
set_option maxRecDepth 1000000 in
set_option maxHeartbeats 4000000 in
theorem t_L_isPassed_162 {P : gG → Prop} {d : Nat} {hp : gH} {r : Int} {m9 : xM} (hd9 : 9 ≤ d) (C : ∀ Γ, P Γ → gX Γ lay_X RL cL_isPassed 9 d hp) (n0 : Int) (hR : ∀ Γ, P Γ → gRz Γ lay_X cL_isPassed r m9 hp) (x2 : Int) (x6 : Int) (x8 : Int) (m : xM) (h : f_L_isPassed_162 n0 hp x2 x6 x8 m = some (r, m9)) : gJ P lay_X 9 162 [(0, .inr (.inr (some 0))), (1, .inl n0), (2, .inr (.inl x2)), (6, .inl x6), (8, .inl x8)] [] m hp hp := by
  unfold f_L_isPassed_162 at h
  refine g_iload C dL_isPassed_162 rfl ?_
  refine g_if_eq C 180 dL_isPassed_164 (by decide) h (fun h => ?_) (fun h => ?_)
  · refine g_loc [(0, .inr (.inr (some 0))), (1, .inl n0), (2, .inr (.inl x2)), (6, .inl x6)] ⟨rfl, rfl, rfl, rfl, trivial⟩ ?_
    exact t_L_isPassed_180 hd9 C _ hR _ _ _ h
  · refine g_iload C dL_isPassed_167 rfl ?_
    refine g_if_lt C 178 dL_isPassed_169 (by decide) h (fun h => ?_) (fun h => ?_)
    · refine g_iconst C dL_isPassed_178 ?_
      exact g_zreturn hR (by decide) dL_isPassed_179 (by cases h; exact ⟨rfl, rfl, rfl⟩)
    · refine g_iload C dL_isPassed_172 rfl ?_
      refine g_iload_n C dL_isPassed_174 rfl ?_
      refine g_icmp_le C 180 dL_isPassed_175 (by decide) h (fun h => ?_) (fun h => ?_)
      · refine g_loc [(0, .inr (.inr (some 0))), (1, .inl n0), (2, .inr (.inl x2)), (6, .inl x6)] ⟨rfl, rfl, rfl, rfl, trivial⟩ ?_
        exact t_L_isPassed_180 hd9 C _ hR _ _ _ h
      · refine g_iconst C dL_isPassed_178 ?_
        exact g_zreturn hR (by decide) dL_isPassed_179 (by cases h; exact ⟨rfl, rfl, rfl⟩)
def f_L_isPassed_149 (n0 : Int) (hp : gH) (x2 : Int) (x6 : Int) (s0 : Int) (m : xM) : Option (Int × xM) :=
     (if xw x6 = xw n0 then (if xw s0 = 0 then some (0, m)
      else f_L_isPassed_162 n0 hp x2 x6 s0 m)
      else f_L_isPassed_162 n0 hp x2 x6 s0 m)
set_option maxRecDepth 1000000 in
set_option maxHeartbeats 4000000 in
theorem t_L_isPassed_149 {P : gG → Prop} {d : Nat} {hp : gH} {r : Int} {m9 : xM} (hd9 : 9 ≤ d) (C : ∀ Γ, P Γ → gX Γ lay_X RL cL_isPassed 9 d hp) (n0 : Int) (hR : ∀ Γ, P Γ → gRz Γ lay_X cL_isPassed r m9 hp) (x2 : Int) (x6 : Int) (s0 : Int) (m : xM) (h : f_L_isPassed_149 n0 hp x2 x6 s0 m = some (r, m9)) : gJ P lay_X 9 149 [(0, .inr (.inr (some 0))), (1, .inl n0), (2, .inr (.inl x2)), (6, .inl x6)] [.inl s0] m hp hp := by
  unfold f_L_isPassed_149 at h
  refine g_istore C dL_isPassed_149 (by decide) ?_
  refine g_iload C dL_isPassed_151 rfl ?_
  refine g_iload_n C dL_isPassed_153 rfl ?_
  refine g_icmp_ne C 162 dL_isPassed_154 (by decide) h (fun h => ?_) (fun h => ?_)
  · refine g_loc [(0, .inr (.inr (some 0))), (1, .inl n0), (2, .inr (.inl x2)), (6, .inl x6), (8, .inl s0)] ⟨rfl, rfl, rfl, rfl, rfl, trivial⟩ ?_
    exact t_L_isPassed_162 hd9 C _ hR _ _ _ _ h
  · refine g_iload C dL_isPassed_157 rfl ?_
    refine g_if_eq C 178 dL_isPassed_159 (by decide) h (fun h => ?_) (fun h => ?_)
    · refine g_iconst C dL_isPassed_178 ?_
      exact g_zreturn hR (by decide) dL_isPassed_179 (by cases h; exact ⟨rfl, rfl, rfl⟩)
    · refine g_loc [(0, .inr (.inr (some 0))), (1, .inl n0), (2, .inr (.inl x2)), (6, .inl x6), (8, .inl s0)] ⟨rfl, rfl, rfl, rfl, rfl, trivial⟩ ?_
      exact t_L_isPassed_162 hd9 C _ hR _ _ _ _ h
def f_L_isPassed_148 (n0 : Int) (hp : gH) (x2 : Int) (x6 : Int) (m : xM) : Option (Int × xM) :=
     f_L_isPassed_149 n0 hp x2 x6 0 m
set_option maxRecDepth 1000000 in
set_option maxHeartbeats 4000000 in
theorem t_L_isPassed_148 {P : gG → Prop} {d : Nat} {hp : gH} {r : Int} {m9 : xM} (hd9 : 9 ≤ d) (C : ∀ Γ, P Γ → gX Γ lay_X RL cL_isPassed 9 d hp) (n0 : Int) (hR : ∀ Γ, P Γ → gRz Γ lay_X cL_isPassed r m9 hp) (x2 : Int) (x6 : Int) (m : xM) (h : f_L_isPassed_148 n0 hp x2 x6 m = some (r, m9)) : gJ P lay_X 9 148 [(0, .inr (.inr (some 0))), (1, .inl n0), (2, .inr (.inl x2)), (6, .inl x6)] [] m hp hp := by
  unfold f_L_isPassed_148 at h
  refine g_iconst C dL_isPassed_148 ?_
  refine g_loc [(0, .inr (.inr (some 0))), (1, .inl n0), (2, .inr (.inl x2)), (6, .inl x6)] ⟨rfl, rfl, rfl, rfl, trivial⟩ ?_
  exact t_L_isPassed_149 hd9 C _ hR _ _ _ _ h
def f_L_isPassed (n0 : Int) (hp : gH) (m : xM) : Option (Int × xM) :=
     (Option.bind (f_L_all m hp) fun q0 =>
      (Option.bind (f_X_receivedBehind 0 n0 m) fun q1 =>
      (Option.bind (f_X_receivedBehind 1 n0 q1.2) fun q2 =>
      (Option.bind (f_X_ticksToFinish q2.2) fun q3 =>
      (Option.bind (f_X_total 10 q3.2) fun q4 =>
      (Option.bind (f_L_all q3.2 hp) fun q5 =>
      (if xw (xlcmp q5 q0) = 0 then (Option.bind (f_X_pass n0 q3.2) fun q6 =>
      (if xw q6.1 = xw ((q1.1 + q2.1) - q4) then (Option.bind (f_X_end 0 5 q6.2) fun q7 =>
      (if xw q7 = xw q1.1 then (Option.bind (f_X_end 1 5 q6.2) fun q8 =>
      (if xw q8 = xw q2.1 then (Option.bind (f_L_isSound hp q6.2) fun q9 =>
      (if xw q9.1 = 0 then some (0, q9.2)
      else (Option.bind (f_X_size 1 q9.2) fun q10 =>
      (if xw q10 = xw 2 then (Option.bind (f_X_end 0 0 q9.2) fun q14 =>
      (Option.bind (f_X_end 1 0 q9.2) fun q15 =>
      (Option.bind (f_X_end 0 1 q9.2) fun q16 =>
      (Option.bind (f_X_end 1 1 q9.2) fun q17 =>
      (Option.bind (f_X_end 0 2 q9.2) fun q18 =>
      (Option.bind (f_X_end 1 2 q9.2) fun q19 =>
      (if xw (((((q14 + q15) + q16) + q17) + q18) + q19) = 0 then f_L_isPassed_149 n0 hp q0 q3.1 1 q9.2
      else f_L_isPassed_148 n0 hp q0 q3.1 q9.2)))))))
      else f_L_isPassed_148 n0 hp q0 q3.1 q9.2))))
      else some (0, q6.2)))
      else some (0, q6.2)))
      else some (0, q6.2)))
      else some (0, q3.2))))))))
set_option maxRecDepth 1000000 in
set_option maxHeartbeats 4000000 in
theorem t_L_isPassed {P : gG → Prop} {d : Nat} {hp : gH} {r : Int} {m9 : xM} (hd9 : 9 ≤ d) (C : ∀ Γ, P Γ → gX Γ lay_X RL cL_isPassed 9 d hp) (n0 : Int) (hR : ∀ Γ, P Γ → gRz Γ lay_X cL_isPassed r m9 hp) (m : xM) (h : f_L_isPassed n0 hp m = some (r, m9)) : gJ P lay_X 9 0 [(0, .inr (.inr (some 0))), (1, .inl n0)] [] m hp hp := by
  unfold f_L_isPassed at h
  refine g_aload_n C dL_isPassed_0 rfl ?_
  obtain ⟨q0, hq0, h⟩ := x_bind h
  refine g_callS C dL_isPassed_1 (xin_35 _ (List.mem_of_getElem? (i := 18) rfl)) xy_L_all xt_L_all (by omega) (by decide) (av := [.inr (.inr (some 0))]) rfl (Nat.le_of_ble_eq_true rfl) gle.rf (c_L_all _ hq0) rfl ?_
  refine g_lstore_n C dL_isPassed_4 (by decide) ?_
  refine g_aload_n C dL_isPassed_5 rfl ?_
  refine g_iconst C dL_isPassed_6 ?_
  refine g_iload_n C dL_isPassed_7 rfl ?_
  obtain ⟨q1, hq1, h⟩ := x_bind h
  refine g_callX C dL_isPassed_8 (xin_41 _ (List.mem_of_getElem? (i := 2) rfl)) xy_X10_receivedBehind xi_X10_receivedBehind xs_X10_receivedBehind (by omega) (by decide) (b := 0) (ci := 11) rfl ⟨_, _, rfl⟩ (av := [.inl 0, .inl n0]) rfl (Nat.le_of_ble_eq_true rfl) (fun l => c_X_receivedBehind l _ _ _ q1.1 q1.2 hq1) rfl ?_
  refine g_istore C dL_isPassed_11 (by decide) ?_
  refine g_aload_n C dL_isPassed_13 rfl ?_
  refine g_iconst C dL_isPassed_14 ?_
  refine g_iload_n C dL_isPassed_15 rfl ?_
  obtain ⟨q2, hq2, h⟩ := x_bind h
  refine g_callX C dL_isPassed_16 (xin_41 _ (List.mem_of_getElem? (i := 2) rfl)) xy_X10_receivedBehind xi_X10_receivedBehind xs_X10_receivedBehind (by omega) (by decide) (b := 0) (ci := 11) rfl ⟨_, _, rfl⟩ (av := [.inl 1, .inl n0]) rfl (Nat.le_of_ble_eq_true rfl) (fun l => c_X_receivedBehind l _ _ _ q2.1 q2.2 hq2) rfl ?_
  refine g_istore C dL_isPassed_19 (by decide) ?_
  refine g_aload_n C dL_isPassed_21 rfl ?_
  obtain ⟨q3, hq3, h⟩ := x_bind h
  refine g_callX C dL_isPassed_22 (xin_30 _ (List.mem_of_getElem? (i := 13) rfl)) xy_X10_ticksToFinish xi_X10_ticksToFinish xs_X10_ticksToFinish (by omega) (by decide) (b := 0) (ci := 11) rfl ⟨_, _, rfl⟩ (av := []) rfl (Nat.le_of_ble_eq_true rfl) (fun l => c_X_ticksToFinish l _ q3.1 q3.2 hq3) rfl ?_
  refine g_istore C dL_isPassed_25 (by decide) ?_
  refine g_aload_n C dL_isPassed_27 rfl ?_
  refine g_bipush C dL_isPassed_28 (by decide) ?_
  obtain ⟨q4, hq4, h⟩ := x_bind h
  refine g_callX C dL_isPassed_30 (xin_35 _ (List.mem_of_getElem? (i := 10) rfl)) xy_X10_total xi_X10_total xs_X10_total (by omega) (by decide) (b := 0) (ci := 11) rfl ⟨_, _, rfl⟩ (av := [.inl 10]) rfl (Nat.le_of_ble_eq_true rfl) (fun l => c_X_total l _ _ _ hq4) rfl ?_
  refine g_istore C dL_isPassed_33 (by decide) ?_
  refine g_aload_n C dL_isPassed_35 rfl ?_
  obtain ⟨q5, hq5, h⟩ := x_bind h
  refine g_callS C dL_isPassed_36 (xin_35 _ (List.mem_of_getElem? (i := 18) rfl)) xy_L_all xt_L_all (by omega) (by decide) (av := [.inr (.inr (some 0))]) rfl (Nat.le_of_ble_eq_true rfl) gle.rf (c_L_all _ hq5) rfl ?_
  refine g_lload_n C dL_isPassed_39 rfl ?_
  refine g_lcmp C dL_isPassed_40 ?_
  refine g_if_ne C 89 dL_isPassed_41 (by decide) h (fun h => ?_) (fun h => ?_)
  · refine g_iconst C dL_isPassed_89 ?_
    exact g_zreturn hR (by decide) dL_isPassed_90 (by cases h; exact ⟨rfl, rfl, rfl⟩)
  · refine g_aload_n C dL_isPassed_44 rfl ?_
    refine g_iload_n C dL_isPassed_45 rfl ?_
    obtain ⟨q6, hq6, h⟩ := x_bind h
    refine g_callX C dL_isPassed_46 (xin_20 _ (List.mem_of_getElem? (i := 19) rfl)) xy_X10_pass xi_X10_pass xs_X10_pass (by omega) (by decide) (b := 0) (ci := 11) rfl ⟨_, _, rfl⟩ (av := [.inl n0]) rfl (Nat.le_of_ble_eq_true rfl) (fun l => c_X_pass l _ _ q6.1 q6.2 hq6) rfl ?_
    refine g_iload C dL_isPassed_49 rfl ?_
    refine g_iload C dL_isPassed_51 rfl ?_
    refine g_iadd C dL_isPassed_53 ?_
    refine g_iload C dL_isPassed_54 rfl ?_
    refine g_isub C dL_isPassed_56 ?_
    refine g_icmp_ne C 89 dL_isPassed_57 (by decide) h (fun h => ?_) (fun h => ?_)
    · refine g_iconst C dL_isPassed_89 ?_
      exact g_zreturn hR (by decide) dL_isPassed_90 (by cases h; exact ⟨rfl, rfl, rfl⟩)
    · refine g_aload_n C dL_isPassed_60 rfl ?_
      refine g_iconst C dL_isPassed_61 ?_
      refine g_iconst C dL_isPassed_62 ?_
      obtain ⟨q7, hq7, h⟩ := x_bind h
      refine g_callX C dL_isPassed_63 (xin_31 _ (List.mem_of_getElem? (i := 1) rfl)) xy_X10_end xi_X10_end xs_X10_end (by omega) (by decide) (b := 0) (ci := 11) rfl ⟨_, _, rfl⟩ (av := [.inl 0, .inl 5]) rfl (Nat.le_of_ble_eq_true rfl) (fun l => c_X_end l _ _ _ _ hq7) rfl ?_
      refine g_iload C dL_isPassed_66 rfl ?_
      refine g_icmp_ne C 89 dL_isPassed_68 (by decide) h (fun h => ?_) (fun h => ?_)
      · refine g_iconst C dL_isPassed_89 ?_
        exact g_zreturn hR (by decide) dL_isPassed_90 (by cases h; exact ⟨rfl, rfl, rfl⟩)
      · refine g_aload_n C dL_isPassed_71 rfl ?_
        refine g_iconst C dL_isPassed_72 ?_
        refine g_iconst C dL_isPassed_73 ?_
        obtain ⟨q8, hq8, h⟩ := x_bind h
        refine g_callX C dL_isPassed_74 (xin_31 _ (List.mem_of_getElem? (i := 1) rfl)) xy_X10_end xi_X10_end xs_X10_end (by omega) (by decide) (b := 0) (ci := 11) rfl ⟨_, _, rfl⟩ (av := [.inl 1, .inl 5]) rfl (Nat.le_of_ble_eq_true rfl) (fun l => c_X_end l _ _ _ _ hq8) rfl ?_
        refine g_iload C dL_isPassed_77 rfl ?_
        refine g_icmp_ne C 89 dL_isPassed_79 (by decide) h (fun h => ?_) (fun h => ?_)
        · refine g_iconst C dL_isPassed_89 ?_
          exact g_zreturn hR (by decide) dL_isPassed_90 (by cases h; exact ⟨rfl, rfl, rfl⟩)
        · refine g_aload_n C dL_isPassed_82 rfl ?_
          obtain ⟨q9, hq9, h⟩ := x_bind h
          refine g_callS C dL_isPassed_83 (xin_35 _ (List.mem_of_getElem? (i := 0) rfl)) xy_L_isSound xt_L_isSound (by omega) (by decide) (av := [.inr (.inr (some 0))]) rfl (Nat.le_of_ble_eq_true rfl) gle.rf (c_L_isSound hq9) rfl ?_
          refine g_if_ne C 91 dL_isPassed_86 (by decide) h (fun h => ?_) (fun h => ?_)
          · refine g_aload_n C dL_isPassed_91 rfl ?_
            refine g_iconst C dL_isPassed_92 ?_
            obtain ⟨q10, hq10, h⟩ := x_bind h
            refine g_callX C dL_isPassed_93 (xin_29 _ (List.mem_of_getElem? (i := 1) rfl)) xy_X10_size xi_X10_size xs_X10_size (by omega) (by decide) (b := 0) (ci := 11) rfl ⟨_, _, rfl⟩ (av := [.inl 1]) rfl (Nat.le_of_ble_eq_true rfl) (fun l => c_X_size l _ _ _ hq10) rfl ?_
            refine g_iconst C dL_isPassed_96 ?_
            refine g_icmp_ne C 148 dL_isPassed_97 (by decide) h (fun h => ?_) (fun h => ?_)
            · refine g_loc [(0, .inr (.inr (some 0))), (1, .inl n0), (2, .inr (.inl q0)), (6, .inl q3.1)] ⟨rfl, rfl, rfl, rfl, trivial⟩ ?_
              exact t_L_isPassed_148 hd9 C _ hR _ _ _ h
            · refine g_aload_n C dL_isPassed_100 rfl ?_
              refine g_iconst C dL_isPassed_101 ?_
              refine g_iconst C dL_isPassed_102 ?_
              obtain ⟨q14, hq14, h⟩ := x_bind h
              refine g_callX C dL_isPassed_103 (xin_31 _ (List.mem_of_getElem? (i := 1) rfl)) xy_X10_end xi_X10_end xs_X10_end (by omega) (by decide) (b := 0) (ci := 11) rfl ⟨_, _, rfl⟩ (av := [.inl 0, .inl 0]) rfl (Nat.le_of_ble_eq_true rfl) (fun l => c_X_end l _ _ _ _ hq14) rfl ?_
              refine g_aload_n C dL_isPassed_106 rfl ?_
              refine g_iconst C dL_isPassed_107 ?_
              refine g_iconst C dL_isPassed_108 ?_
              obtain ⟨q15, hq15, h⟩ := x_bind h
              refine g_callX C dL_isPassed_109 (xin_31 _ (List.mem_of_getElem? (i := 1) rfl)) xy_X10_end xi_X10_end xs_X10_end (by omega) (by decide) (b := 0) (ci := 11) rfl ⟨_, _, rfl⟩ (av := [.inl 1, .inl 0]) rfl (Nat.le_of_ble_eq_true rfl) (fun l => c_X_end l _ _ _ _ hq15) rfl ?_
              refine g_iadd C dL_isPassed_112 ?_
              refine g_aload_n C dL_isPassed_113 rfl ?_
              refine g_iconst C dL_isPassed_114 ?_
              refine g_iconst C dL_isPassed_115 ?_
              obtain ⟨q16, hq16, h⟩ := x_bind h
              refine g_callX C dL_isPassed_116 (xin_31 _ (List.mem_of_getElem? (i := 1) rfl)) xy_X10_end xi_X10_end xs_X10_end (by omega) (by decide) (b := 0) (ci := 11) rfl ⟨_, _, rfl⟩ (av := [.inl 0, .inl 1]) rfl (Nat.le_of_ble_eq_true rfl) (fun l => c_X_end l _ _ _ _ hq16) rfl ?_
              refine g_iadd C dL_isPassed_119 ?_
              refine g_aload_n C dL_isPassed_120 rfl ?_
              refine g_iconst C dL_isPassed_121 ?_
              refine g_iconst C dL_isPassed_122 ?_
              obtain ⟨q17, hq17, h⟩ := x_bind h
              refine g_callX C dL_isPassed_123 (xin_31 _ (List.mem_of_getElem? (i := 1) rfl)) xy_X10_end xi_X10_end xs_X10_end (by omega) (by decide) (b := 0) (ci := 11) rfl ⟨_, _, rfl⟩ (av := [.inl 1, .inl 1]) rfl (Nat.le_of_ble_eq_true rfl) (fun l => c_X_end l _ _ _ _ hq17) rfl ?_
              refine g_iadd C dL_isPassed_126 ?_
              refine g_aload_n C dL_isPassed_127 rfl ?_
              refine g_iconst C dL_isPassed_128 ?_
              refine g_iconst C dL_isPassed_129 ?_
              obtain ⟨q18, hq18, h⟩ := x_bind h
              refine g_callX C dL_isPassed_130 (xin_31 _ (List.mem_of_getElem? (i := 1) rfl)) xy_X10_end xi_X10_end xs_X10_end (by omega) (by decide) (b := 0) (ci := 11) rfl ⟨_, _, rfl⟩ (av := [.inl 0, .inl 2]) rfl (Nat.le_of_ble_eq_true rfl) (fun l => c_X_end l _ _ _ _ hq18) rfl ?_
              refine g_iadd C dL_isPassed_133 ?_
              refine g_aload_n C dL_isPassed_134 rfl ?_
              refine g_iconst C dL_isPassed_135 ?_
              refine g_iconst C dL_isPassed_136 ?_
              obtain ⟨q19, hq19, h⟩ := x_bind h
              refine g_callX C dL_isPassed_137 (xin_31 _ (List.mem_of_getElem? (i := 1) rfl)) xy_X10_end xi_X10_end xs_X10_end (by omega) (by decide) (b := 0) (ci := 11) rfl ⟨_, _, rfl⟩ (av := [.inl 1, .inl 2]) rfl (Nat.le_of_ble_eq_true rfl) (fun l => c_X_end l _ _ _ _ hq19) rfl ?_
              refine g_iadd C dL_isPassed_140 ?_
              refine g_if_ne C 148 dL_isPassed_141 (by decide) h (fun h => ?_) (fun h => ?_)
              · refine g_loc [(0, .inr (.inr (some 0))), (1, .inl n0), (2, .inr (.inl q0)), (6, .inl q3.1)] ⟨rfl, rfl, rfl, rfl, trivial⟩ ?_
                exact t_L_isPassed_148 hd9 C _ hR _ _ _ h
              · refine g_iconst C dL_isPassed_144 ?_
                refine g_goto C 149 dL_isPassed_145 (by decide) ?_
                refine g_loc [(0, .inr (.inr (some 0))), (1, .inl n0), (2, .inr (.inl q0)), (6, .inl q3.1)] ⟨rfl, rfl, rfl, rfl, trivial⟩ ?_
                exact t_L_isPassed_149 hd9 C _ hR _ _ _ _ h
          · refine g_iconst C dL_isPassed_89 ?_
            exact g_zreturn hR (by decide) dL_isPassed_90 (by cases h; exact ⟨rfl, rfl, rfl⟩)
theorem c_L_isPassed {n0 : Int} {m m9 : xM} {r : Int} {hp : gH} (h : f_L_isPassed n0 hp m = some (r, m9)) (l : Launch) : gMet l yL_isPassed cL_isPassed 9 (some .boolean) 9 lay_X [.inr (.inr (some 0)), .inl n0] m hp (some (.inl r)) m9 hp :=
  gMet_z (by decide +kernel) (Nat.le_of_ble_eq_true rfl) (fun P C hR => t_L_isPassed (Nat.le_refl _) C _ hR m h)
/-! ===== yL_act ===== -/
theorem xy_L_most : xY yL_most cL_most 2 (some .int) 2 := ⟨(xin_34 _ (List.mem_of_getElem? (i := 13) rfl)), (xin_8 _ (List.mem_of_getElem? (i := 21) rfl)), by decide, by decide, by decide +kernel⟩
theorem xt_L_most : Cond.static yL_most ∈ wsL_law := (xin_34 _ (List.mem_of_getElem? (i := 12) rfl))
theorem nF_97 : xFN RL 97 1 .int false := ⟨RX11, TX11, 31, tyX11, rfl, by decide, (List.mem_of_getElem? (i := 0) rfl), rfl, inlX11, tyX11_ok, nmX11, rfl, rfl⟩
theorem xy_X11_losing : xY yX11_losing cX11_losing 7 (some .int) 0 := ⟨(xin_40 _ (List.mem_of_getElem? (i := 4) rfl)), (xin_33 _ (List.mem_of_getElem? (i := 5) rfl)), by decide, by decide, by decide +kernel⟩
theorem xi_X11_losing : Cond.instanceMethod yX11_losing ∈ wsL_law := (xin_40 _ (List.mem_of_getElem? (i := 2) rfl))
theorem xs_X11_losing : Cond.selects yX11_losing.cls yX11_losing yX11_losing ∈ wsL_law := (xin_40 _ (List.mem_of_getElem? (i := 3) rfl))
theorem xy_X10_hangUp : xY yX10_hangUp cX10_hangUp 2 (some .int) 0 := ⟨(xin_40 _ (List.mem_of_getElem? (i := 8) rfl)), (xin_1 _ (List.mem_of_getElem? (i := 2) rfl)), by decide, by decide, by decide +kernel⟩
theorem xi_X10_hangUp : Cond.instanceMethod yX10_hangUp ∈ wsL_law := (xin_40 _ (List.mem_of_getElem? (i := 6) rfl))
theorem xs_X10_hangUp : Cond.selects yX10_hangUp.cls yX10_hangUp yX10_hangUp ∈ wsL_law := (xin_40 _ (List.mem_of_getElem? (i := 7) rfl))
theorem nF_159 : xFN RL 159 26 (.array .boolean) false := ⟨RX11, TX11, 31, tyX11, rfl, by decide, (List.mem_of_getElem? (i := 14) rfl), rfl, inlX11, tyX11_ok, nmX11, rfl, rfl⟩
theorem nF_143 : xFN RL 143 18 (.array (.array .int)) false := ⟨RX11, TX11, 31, tyX11, rfl, by decide, (List.mem_of_getElem? (i := 11) rfl), rfl, inlX11, tyX11_ok, nmX11, rfl, rfl⟩
theorem xy_X10_resume : xY yX10_resume cX10_resume 2 (some .int) 1 := ⟨(xin_40 _ (List.mem_of_getElem? (i := 1) rfl)), (xin_1 _ (List.mem_of_getElem? (i := 2) rfl)), by decide, by decide, by decide +kernel⟩
theorem xi_X10_resume : Cond.instanceMethod yX10_resume ∈ wsL_law := (xin_39 _ (List.mem_of_getElem? (i := 23) rfl))
theorem xs_X10_resume : Cond.selects yX10_resume.cls yX10_resume yX10_resume ∈ wsL_law := (xin_40 _ (List.mem_of_getElem? (i := 0) rfl))
theorem xy_X10_escape : xY yX10_escape cX10_escape 2 (some .int) 1 := ⟨(xin_39 _ (List.mem_of_getElem? (i := 17) rfl)), (xin_1 _ (List.mem_of_getElem? (i := 2) rfl)), by decide, by decide, by decide +kernel⟩
theorem xi_X10_escape : Cond.instanceMethod yX10_escape ∈ wsL_law := (xin_39 _ (List.mem_of_getElem? (i := 15) rfl))
theorem xs_X10_escape : Cond.selects yX10_escape.cls yX10_escape yX10_escape ∈ wsL_law := (xin_39 _ (List.mem_of_getElem? (i := 16) rfl))
theorem xy_X10_setQuality : xY yX10_setQuality cX10_setQuality 3 (some .int) 1 := ⟨(xin_32 _ (List.mem_of_getElem? (i := 15) rfl)), (xin_1 _ (List.mem_of_getElem? (i := 2) rfl)), by decide, by decide, by decide +kernel⟩
theorem xi_X10_setQuality : Cond.instanceMethod yX10_setQuality ∈ wsL_law := (xin_32 _ (List.mem_of_getElem? (i := 13) rfl))
theorem xs_X10_setQuality : Cond.selects yX10_setQuality.cls yX10_setQuality yX10_setQuality ∈ wsL_law := (xin_32 _ (List.mem_of_getElem? (i := 14) rfl))
theorem xy_X10_send : xY yX10_send cX10_send 4 (some .int) 2 := ⟨(xin_29 _ (List.mem_of_getElem? (i := 19) rfl)), (xin_1 _ (List.mem_of_getElem? (i := 2) rfl)), by decide, by decide, by decide +kernel⟩
theorem xi_X10_send : Cond.instanceMethod yX10_send ∈ wsL_law := (xin_29 _ (List.mem_of_getElem? (i := 17) rfl))
theorem xs_X10_send : Cond.selects yX10_send.cls yX10_send yX10_send ∈ wsL_law := (xin_29 _ (List.mem_of_getElem? (i := 18) rfl))
theorem nF_106 : xFN RL 106 4 .int false := ⟨RX11, TX11, 31, tyX11, rfl, by decide, (List.mem_of_getElem? (i := 2) rfl), rfl, inlX11, tyX11_ok, nmX11, rfl, rfl⟩
theorem nF_109 : xFN RL 109 5 .int false := ⟨RX11, TX11, 31, tyX11, rfl, by decide, (List.mem_of_getElem? (i := 3) rfl), rfl, inlX11, tyX11_ok, nmX11, rfl, rfl⟩
theorem nF_112 : xFN RL 112 6 .int false := ⟨RX11, TX11, 31, tyX11, rfl, by decide, (List.mem_of_getElem? (i := 4) rfl), rfl, inlX11, tyX11_ok, nmX11, rfl, rfl⟩
theorem nF_147 : xFN RL 147 22 (.array .int) false := ⟨RX11, TX11, 31, tyX11, rfl, by decide, (List.mem_of_getElem? (i := 12) rfl), rfl, inlX11, tyX11_ok, nmX11, rfl, rfl⟩
theorem nF_150 : xFN RL 150 23 (.array .int) false := ⟨RX11, TX11, 31, tyX11, rfl, by decide, (List.mem_of_getElem? (i := 13) rfl), rfl, inlX11, tyX11_ok, nmX11, rfl, rfl⟩
theorem xy_X10_dial : xY yX10_dial cX10_dial 1 (some .int) 0 := ⟨(xin_17 _ (List.mem_of_getElem? (i := 16) rfl)), (xin_1 _ (List.mem_of_getElem? (i := 2) rfl)), by decide, by decide, by decide +kernel⟩
theorem xi_X10_dial : Cond.instanceMethod yX10_dial ∈ wsL_law := (xin_17 _ (List.mem_of_getElem? (i := 14) rfl))
theorem xs_X10_dial : Cond.selects yX10_dial.cls yX10_dial yX10_dial ∈ wsL_law := (xin_17 _ (List.mem_of_getElem? (i := 15) rfl))
theorem nF_133 : xFN RL 133 17 (.array .int) false := ⟨RX11, TX11, 31, tyX11, rfl, by decide, (List.mem_of_getElem? (i := 10) rfl), rfl, inlX11, tyX11_ok, nmX11, rfl, rfl⟩
theorem xy_X11_tick : xY yX11_tick cX11_tick 1 none 0 := ⟨(xin_36 _ (List.mem_of_getElem? (i := 3) rfl)), (xin_33 _ (List.mem_of_getElem? (i := 5) rfl)), by decide, by decide, by decide +kernel⟩
theorem xi_X11_tick : Cond.instanceMethod yX11_tick ∈ wsL_law := (xin_36 _ (List.mem_of_getElem? (i := 1) rfl))
theorem xs_X11_tick : Cond.selects yX11_tick.cls yX11_tick yX11_tick ∈ wsL_law := (xin_36 _ (List.mem_of_getElem? (i := 2) rfl))
theorem dL_act_0 : decode cL_act 0 = .ok (.iload_n 3, 1) := by decide +kernel
theorem dL_act_1 : decode cL_act 1 = .ok (.bipush 19, 2) := by decide +kernel
theorem dL_act_3 : decode cL_act 3 = .ok (.invokestatic 27, 3) := by decide +kernel
theorem dL_act_6 : decode cL_act 6 = .ok (.istore 4, 2) := by decide +kernel
theorem dL_act_8 : decode cL_act 8 = .ok (.iload_n 3, 1) := by decide +kernel
theorem dL_act_9 : decode cL_act 9 = .ok (.iconst 4, 1) := by decide +kernel
theorem dL_act_10 : decode cL_act 10 = .ok (.ishr, 1) := by decide +kernel
theorem dL_act_11 : decode cL_act 11 = .ok (.istore 5, 2) := by decide +kernel
theorem dL_act_13 : decode cL_act 13 = .ok (.iload 5, 2) := by decide +kernel
theorem dL_act_15 : decode cL_act 15 = .ok (.iconst 2, 1) := by decide +kernel
theorem dL_act_16 : decode cL_act 16 = .ok (.invokestatic 27, 3) := by decide +kernel
theorem dL_act_19 : decode cL_act 19 = .ok (.istore 6, 2) := by decide +kernel
theorem dL_act_21 : decode cL_act 21 = .ok (.iload 4, 2) := by decide +kernel
theorem dL_act_23 : decode cL_act 23 = .ok (.bipush 7, 2) := by decide +kernel
theorem dL_act_25 : decode cL_act 25 = .ok (.if_icmp .ge 84, 3) := by decide +kernel
theorem dL_act_28 : decode cL_act 28 = .ok (.iconst 1, 1) := by decide +kernel
theorem dL_act_29 : decode cL_act 29 = .ok (.iload 5, 2) := by decide +kernel
theorem dL_act_31 : decode cL_act 31 = .ok (.iload 5, 2) := by decide +kernel
theorem dL_act_33 : decode cL_act 33 = .ok (.iconst 3, 1) := by decide +kernel
theorem dL_act_34 : decode cL_act 34 = .ok (.ishr, 1) := by decide +kernel
theorem dL_act_35 : decode cL_act 35 = .ok (.iconst 4, 1) := by decide +kernel
theorem dL_act_36 : decode cL_act 36 = .ok (.invokestatic 27, 3) := by decide +kernel
theorem dL_act_39 : decode cL_act 39 = .ok (.ifCond .ne 8, 3) := by decide +kernel
theorem dL_act_42 : decode cL_act 42 = .ok (.bipush 40, 2) := by decide +kernel
theorem dL_act_44 : decode cL_act 44 = .ok (.goto 5, 3) := by decide +kernel
theorem dL_act_47 : decode cL_act 47 = .ok (.bipush 7, 2) := by decide +kernel
theorem dL_act_49 : decode cL_act 49 = .ok (.invokestatic 27, 3) := by decide +kernel
theorem dL_act_52 : decode cL_act 52 = .ok (.iadd, 1) := by decide +kernel
theorem dL_act_53 : decode cL_act 53 = .ok (.istore 7, 2) := by decide +kernel
theorem dL_act_55 : decode cL_act 55 = .ok (.aload_n 2, 1) := by decide +kernel
theorem dL_act_56 : decode cL_act 56 = .ok (.getfield 133, 3) := by decide +kernel
theorem dL_act_59 : decode cL_act 59 = .ok (.bipush 10, 2) := by decide +kernel
theorem dL_act_61 : decode cL_act 61 = .ok (.iaload, 1) := by decide +kernel
theorem dL_act_62 : decode cL_act 62 = .ok (.istore 8, 2) := by decide +kernel
theorem dL_act_64 : decode cL_act 64 = .ok (.iconst 0, 1) := by decide +kernel
theorem dL_act_65 : decode cL_act 65 = .ok (.istore 9, 2) := by decide +kernel
theorem dL_act_67 : decode cL_act 67 = .ok (.iload 9, 2) := by decide +kernel
theorem dL_act_69 : decode cL_act 69 = .ok (.iload 7, 2) := by decide +kernel
theorem dL_act_71 : decode cL_act 71 = .ok (.if_icmp .ge 13, 3) := by decide +kernel
theorem dL_act_74 : decode cL_act 74 = .ok (.aload_n 2, 1) := by decide +kernel
theorem dL_act_75 : decode cL_act 75 = .ok (.invokevirtual 185, 3) := by decide +kernel
theorem dL_act_78 : decode cL_act 78 = .ok (.iinc 9 1, 3) := by decide +kernel
theorem dL_act_81 : decode cL_act 81 = .ok (.goto (-14), 3) := by decide +kernel
theorem dL_act_84 : decode cL_act 84 = .ok (.aload_n 0, 1) := by decide +kernel
theorem dL_act_85 : decode cL_act 85 = .ok (.iload 7, 2) := by decide +kernel
theorem dL_act_87 : decode cL_act 87 = .ok (.invokevirtual 188, 3) := by decide +kernel
theorem dL_act_90 : decode cL_act 90 = .ok (.aload_n 2, 1) := by decide +kernel
theorem dL_act_91 : decode cL_act 91 = .ok (.getfield 133, 3) := by decide +kernel
theorem dL_act_94 : decode cL_act 94 = .ok (.bipush 10, 2) := by decide +kernel
theorem dL_act_96 : decode cL_act 96 = .ok (.iaload, 1) := by decide +kernel
theorem dL_act_97 : decode cL_act 97 = .ok (.iload 8, 2) := by decide +kernel
theorem dL_act_99 : decode cL_act 99 = .ok (.isub, 1) := by decide +kernel
theorem dL_act_100 : decode cL_act 100 = .ok (.if_icmp .ne 7, 3) := by decide +kernel
theorem dL_act_103 : decode cL_act 103 = .ok (.iconst 1, 1) := by decide +kernel
theorem dL_act_104 : decode cL_act 104 = .ok (.goto 4, 3) := by decide +kernel
theorem dL_act_107 : decode cL_act 107 = .ok (.iconst (-1), 1) := by decide +kernel
theorem dL_act_108 : decode cL_act 108 = .ok (.ireturn, 1) := by decide +kernel
theorem dL_act_109 : decode cL_act 109 = .ok (.iload 4, 2) := by decide +kernel
theorem dL_act_111 : decode cL_act 111 = .ok (.bipush 10, 2) := by decide +kernel
theorem dL_act_113 : decode cL_act 113 = .ok (.if_icmp .ge 104, 3) := by decide +kernel
theorem dL_act_116 : decode cL_act 116 = .ok (.aload_n 2, 1) := by decide +kernel
theorem dL_act_117 : decode cL_act 117 = .ok (.getfield 97, 3) := by decide +kernel
theorem dL_act_120 : decode cL_act 120 = .ok (.ifCond .eq 18, 3) := by decide +kernel
theorem dL_act_123 : decode cL_act 123 = .ok (.aload_n 0, 1) := by decide +kernel
theorem dL_act_124 : decode cL_act 124 = .ok (.invokevirtual 191, 3) := by decide +kernel
theorem dL_act_127 : decode cL_act 127 = .ok (.bipush (-2), 2) := by decide +kernel
theorem dL_act_129 : decode cL_act 129 = .ok (.if_icmp .ne 7, 3) := by decide +kernel
theorem dL_act_132 : decode cL_act 132 = .ok (.iconst 0, 1) := by decide +kernel
theorem dL_act_133 : decode cL_act 133 = .ok (.goto 4, 3) := by decide +kernel
theorem dL_act_136 : decode cL_act 136 = .ok (.iconst (-1), 1) := by decide +kernel
theorem dL_act_137 : decode cL_act 137 = .ok (.ireturn, 1) := by decide +kernel
theorem dL_act_138 : decode cL_act 138 = .ok (.aload_n 2, 1) := by decide +kernel
theorem dL_act_139 : decode cL_act 139 = .ok (.iconst 1, 1) := by decide +kernel
theorem dL_act_140 : decode cL_act 140 = .ok (.putfield 97, 3) := by decide +kernel
theorem dL_act_143 : decode cL_act 143 = .ok (.aload_n 2, 1) := by decide +kernel
theorem dL_act_144 : decode cL_act 144 = .ok (.iconst 0, 1) := by decide +kernel
theorem dL_act_145 : decode cL_act 145 = .ok (.putfield 106, 3) := by decide +kernel
theorem dL_act_148 : decode cL_act 148 = .ok (.aload_n 2, 1) := by decide +kernel
theorem dL_act_149 : decode cL_act 149 = .ok (.aload_n 2, 1) := by decide +kernel
theorem dL_act_150 : decode cL_act 150 = .ok (.getfield 42, 3) := by decide +kernel
theorem dL_act_153 : decode cL_act 153 = .ok (.iconst 0, 1) := by decide +kernel
theorem dL_act_154 : decode cL_act 154 = .ok (.iaload, 1) := by decide +kernel
theorem dL_act_155 : decode cL_act 155 = .ok (.putfield 109, 3) := by decide +kernel
theorem dL_act_158 : decode cL_act 158 = .ok (.aload_n 2, 1) := by decide +kernel
theorem dL_act_159 : decode cL_act 159 = .ok (.iconst 0, 1) := by decide +kernel
theorem dL_act_160 : decode cL_act 160 = .ok (.putfield 112, 3) := by decide +kernel
theorem dL_act_163 : decode cL_act 163 = .ok (.aload_n 2, 1) := by decide +kernel
theorem dL_act_164 : decode cL_act 164 = .ok (.iconst 2, 1) := by decide +kernel
theorem dL_act_165 : decode cL_act 165 = .ok (.newarray .int, 2) := by decide +kernel
theorem dL_act_167 : decode cL_act 167 = .ok (.putfield 147, 3) := by decide +kernel
theorem dL_act_170 : decode cL_act 170 = .ok (.aload_n 2, 1) := by decide +kernel
theorem dL_act_171 : decode cL_act 171 = .ok (.iconst 2, 1) := by decide +kernel
theorem dL_act_172 : decode cL_act 172 = .ok (.newarray .int, 2) := by decide +kernel
theorem dL_act_174 : decode cL_act 174 = .ok (.putfield 150, 3) := by decide +kernel
theorem dL_act_177 : decode cL_act 177 = .ok (.aload_n 0, 1) := by decide +kernel
theorem dL_act_178 : decode cL_act 178 = .ok (.invokevirtual 191, 3) := by decide +kernel
theorem dL_act_181 : decode cL_act 181 = .ok (.aload_n 2, 1) := by decide +kernel
theorem dL_act_182 : decode cL_act 182 = .ok (.getfield 42, 3) := by decide +kernel
theorem dL_act_185 : decode cL_act 185 = .ok (.iconst 0, 1) := by decide +kernel
theorem dL_act_186 : decode cL_act 186 = .ok (.iaload, 1) := by decide +kernel
theorem dL_act_187 : decode cL_act 187 = .ok (.aload_n 2, 1) := by decide +kernel
theorem dL_act_188 : decode cL_act 188 = .ok (.getfield 42, 3) := by decide +kernel
theorem dL_act_191 : decode cL_act 191 = .ok (.iconst 1, 1) := by decide +kernel
theorem dL_act_192 : decode cL_act 192 = .ok (.iaload, 1) := by decide +kernel
theorem dL_act_193 : decode cL_act 193 = .ok (.iadd, 1) := by decide +kernel
theorem dL_act_194 : decode cL_act 194 = .ok (.aload_n 2, 1) := by decide +kernel
theorem dL_act_195 : decode cL_act 195 = .ok (.getfield 42, 3) := by decide +kernel
theorem dL_act_198 : decode cL_act 198 = .ok (.iconst 2, 1) := by decide +kernel
theorem dL_act_199 : decode cL_act 199 = .ok (.iaload, 1) := by decide +kernel
theorem dL_act_200 : decode cL_act 200 = .ok (.iadd, 1) := by decide +kernel
theorem dL_act_201 : decode cL_act 201 = .ok (.aload_n 2, 1) := by decide +kernel
theorem dL_act_202 : decode cL_act 202 = .ok (.getfield 42, 3) := by decide +kernel
theorem dL_act_205 : decode cL_act 205 = .ok (.iconst 3, 1) := by decide +kernel
theorem dL_act_206 : decode cL_act 206 = .ok (.iaload, 1) := by decide +kernel
theorem dL_act_207 : decode cL_act 207 = .ok (.iadd, 1) := by decide +kernel
theorem dL_act_208 : decode cL_act 208 = .ok (.if_icmp .ne 7, 3) := by decide +kernel
theorem dL_act_211 : decode cL_act 211 = .ok (.iconst 1, 1) := by decide +kernel
theorem dL_act_212 : decode cL_act 212 = .ok (.goto 4, 3) := by decide +kernel
theorem dL_act_215 : decode cL_act 215 = .ok (.iconst (-1), 1) := by decide +kernel
theorem dL_act_216 : decode cL_act 216 = .ok (.ireturn, 1) := by decide +kernel
theorem dL_act_217 : decode cL_act 217 = .ok (.iload 4, 2) := by decide +kernel
theorem dL_act_219 : decode cL_act 219 = .ok (.bipush 15, 2) := by decide +kernel
theorem dL_act_221 : decode cL_act 221 = .ok (.if_icmp .ge 184, 3) := by decide +kernel
theorem dL_act_224 : decode cL_act 224 = .ok (.iload 5, 2) := by decide +kernel
theorem dL_act_226 : decode cL_act 226 = .ok (.iconst 2, 1) := by decide +kernel
theorem dL_act_227 : decode cL_act 227 = .ok (.ishr, 1) := by decide +kernel
theorem dL_act_228 : decode cL_act 228 = .ok (.iload 5, 2) := by decide +kernel
theorem dL_act_230 : decode cL_act 230 = .ok (.iconst 4, 1) := by decide +kernel
theorem dL_act_231 : decode cL_act 231 = .ok (.ishr, 1) := by decide +kernel
theorem dL_act_232 : decode cL_act 232 = .ok (.iconst 3, 1) := by decide +kernel
theorem dL_act_233 : decode cL_act 233 = .ok (.invokestatic 27, 3) := by decide +kernel
theorem dL_act_236 : decode cL_act 236 = .ok (.ifCond .ne 8, 3) := by decide +kernel
theorem dL_act_239 : decode cL_act 239 = .ok (.bipush 70, 2) := by decide +kernel
theorem dL_act_241 : decode cL_act 241 = .ok (.goto 5, 3) := by decide +kernel
theorem dL_act_244 : decode cL_act 244 = .ok (.bipush 14, 2) := by decide +kernel
theorem dL_act_246 : decode cL_act 246 = .ok (.invokestatic 27, 3) := by decide +kernel
theorem dL_act_249 : decode cL_act 249 = .ok (.istore 7, 2) := by decide +kernel
theorem dL_act_251 : decode cL_act 251 = .ok (.aload_n 2, 1) := by decide +kernel
theorem dL_act_252 : decode cL_act 252 = .ok (.getfield 143, 3) := by decide +kernel
theorem dL_act_255 : decode cL_act 255 = .ok (.iload 6, 2) := by decide +kernel
theorem dL_act_257 : decode cL_act 257 = .ok (.aaload, 1) := by decide +kernel
theorem dL_act_258 : decode cL_act 258 = .ok (.astore 8, 2) := by decide +kernel
theorem dL_act_260 : decode cL_act 260 = .ok (.iconst 0, 1) := by decide +kernel
theorem dL_act_261 : decode cL_act 261 = .ok (.istore 9, 2) := by decide +kernel
theorem dL_act_263 : decode cL_act 263 = .ok (.iload 9, 2) := by decide +kernel
theorem dL_act_265 : decode cL_act 265 = .ok (.iload 7, 2) := by decide +kernel
theorem dL_act_267 : decode cL_act 267 = .ok (.if_icmp .ge 58, 3) := by decide +kernel
theorem dL_act_270 : decode cL_act 270 = .ok (.bipush 97, 2) := by decide +kernel
theorem dL_act_272 : decode cL_act 272 = .ok (.iload 5, 2) := by decide +kernel
theorem dL_act_274 : decode cL_act 274 = .ok (.iload 9, 2) := by decide +kernel
theorem dL_act_276 : decode cL_act 276 = .ok (.bipush 7, 2) := by decide +kernel
theorem dL_act_278 : decode cL_act 278 = .ok (.irem, 1) := by decide +kernel
theorem dL_act_279 : decode cL_act 279 = .ok (.ishr, 1) := by decide +kernel
theorem dL_act_280 : decode cL_act 280 = .ok (.iload 5, 2) := by decide +kernel
theorem dL_act_282 : decode cL_act 282 = .ok (.iconst 3, 1) := by decide +kernel
theorem dL_act_283 : decode cL_act 283 = .ok (.ishr, 1) := by decide +kernel
theorem dL_act_284 : decode cL_act 284 = .ok (.iconst 2, 1) := by decide +kernel
theorem dL_act_285 : decode cL_act 285 = .ok (.invokestatic 27, 3) := by decide +kernel
theorem dL_act_288 : decode cL_act 288 = .ok (.ifCond .ne 8, 3) := by decide +kernel
theorem dL_act_291 : decode cL_act 291 = .ok (.bipush 12, 2) := by decide +kernel
theorem dL_act_293 : decode cL_act 293 = .ok (.goto 4, 3) := by decide +kernel
theorem dL_act_296 : decode cL_act 296 = .ok (.iconst 4, 1) := by decide +kernel
theorem dL_act_297 : decode cL_act 297 = .ok (.invokestatic 27, 3) := by decide +kernel
theorem dL_act_300 : decode cL_act 300 = .ok (.iadd, 1) := by decide +kernel
theorem dL_act_301 : decode cL_act 301 = .ok (.istore 10, 2) := by decide +kernel
theorem dL_act_303 : decode cL_act 303 = .ok (.aload_n 0, 1) := by decide +kernel
theorem dL_act_304 : decode cL_act 304 = .ok (.aload_n 1, 1) := by decide +kernel
theorem dL_act_305 : decode cL_act 305 = .ok (.iload 10, 2) := by decide +kernel
theorem dL_act_307 : decode cL_act 307 = .ok (.invokestatic 14, 3) := by decide +kernel
theorem dL_act_310 : decode cL_act 310 = .ok (.aload 8, 2) := by decide +kernel
theorem dL_act_312 : decode cL_act 312 = .ok (.iload 10, 2) := by decide +kernel
theorem dL_act_314 : decode cL_act 314 = .ok (.invokestatic 194, 3) := by decide +kernel
theorem dL_act_317 : decode cL_act 317 = .ok (.astore 8, 2) := by decide +kernel
theorem dL_act_319 : decode cL_act 319 = .ok (.iinc 9 1, 3) := by decide +kernel
theorem dL_act_322 : decode cL_act 322 = .ok (.goto (-59), 3) := by decide +kernel
theorem dL_act_325 : decode cL_act 325 = .ok (.aload_n 0, 1) := by decide +kernel
theorem dL_act_326 : decode cL_act 326 = .ok (.iload 6, 2) := by decide +kernel
theorem dL_act_328 : decode cL_act 328 = .ok (.aload_n 0, 1) := by decide +kernel
theorem dL_act_329 : decode cL_act 329 = .ok (.aload_n 1, 1) := by decide +kernel
theorem dL_act_330 : decode cL_act 330 = .ok (.invokestatic 89, 3) := by decide +kernel
theorem dL_act_333 : decode cL_act 333 = .ok (.invokevirtual 198, 3) := by decide +kernel
theorem dL_act_336 : decode cL_act 336 = .ok (.istore 9, 2) := by decide +kernel
theorem dL_act_338 : decode cL_act 338 = .ok (.aload_n 2, 1) := by decide +kernel
theorem dL_act_339 : decode cL_act 339 = .ok (.getfield 97, 3) := by decide +kernel
theorem dL_act_342 : decode cL_act 342 = .ok (.ifCond .ne 8, 3) := by decide +kernel
theorem dL_act_345 : decode cL_act 345 = .ok (.bipush (-2), 2) := by decide +kernel
theorem dL_act_347 : decode cL_act 347 = .ok (.goto 20, 3) := by decide +kernel
theorem dL_act_350 : decode cL_act 350 = .ok (.aload 8, 2) := by decide +kernel
theorem dL_act_352 : decode cL_act 352 = .ok (.arraylength, 1) := by decide +kernel
theorem dL_act_353 : decode cL_act 353 = .ok (.sipush 200, 3) := by decide +kernel
theorem dL_act_356 : decode cL_act 356 = .ok (.if_icmp .le 8, 3) := by decide +kernel
theorem dL_act_359 : decode cL_act 359 = .ok (.bipush (-3), 2) := by decide +kernel
theorem dL_act_361 : decode cL_act 361 = .ok (.goto 6, 3) := by decide +kernel
theorem dL_act_364 : decode cL_act 364 = .ok (.aload 8, 2) := by decide +kernel
theorem dL_act_366 : decode cL_act 366 = .ok (.arraylength, 1) := by decide +kernel
theorem dL_act_367 : decode cL_act 367 = .ok (.istore 10, 2) := by decide +kernel
theorem dL_act_369 : decode cL_act 369 = .ok (.iload 10, 2) := by decide +kernel
theorem dL_act_371 : decode cL_act 371 = .ok (.ifCond .lt 12, 3) := by decide +kernel
theorem dL_act_374 : decode cL_act 374 = .ok (.aload_n 2, 1) := by decide +kernel
theorem dL_act_375 : decode cL_act 375 = .ok (.getfield 143, 3) := by decide +kernel
theorem dL_act_378 : decode cL_act 378 = .ok (.iload 6, 2) := by decide +kernel
theorem dL_act_380 : decode cL_act 380 = .ok (.aload 8, 2) := by decide +kernel
theorem dL_act_382 : decode cL_act 382 = .ok (.aastore, 1) := by decide +kernel
theorem dL_act_383 : decode cL_act 383 = .ok (.iload 9, 2) := by decide +kernel
theorem dL_act_385 : decode cL_act 385 = .ok (.iload 10, 2) := by decide +kernel
theorem dL_act_387 : decode cL_act 387 = .ok (.if_icmp .eq 7, 3) := by decide +kernel
theorem dL_act_390 : decode cL_act 390 = .ok (.iconst (-1), 1) := by decide +kernel
theorem dL_act_391 : decode cL_act 391 = .ok (.goto 13, 3) := by decide +kernel
theorem dL_act_394 : decode cL_act 394 = .ok (.iload 10, 2) := by decide +kernel
theorem dL_act_396 : decode cL_act 396 = .ok (.ifCond .ge 7, 3) := by decide +kernel
theorem dL_act_399 : decode cL_act 399 = .ok (.iconst 0, 1) := by decide +kernel
theorem dL_act_400 : decode cL_act 400 = .ok (.goto 4, 3) := by decide +kernel
theorem dL_act_403 : decode cL_act 403 = .ok (.iconst 1, 1) := by decide +kernel
theorem dL_act_404 : decode cL_act 404 = .ok (.ireturn, 1) := by decide +kernel
theorem dL_act_405 : decode cL_act 405 = .ok (.iload 4, 2) := by decide +kernel
theorem dL_act_407 : decode cL_act 407 = .ok (.bipush 15, 2) := by decide +kernel
theorem dL_act_409 : decode cL_act 409 = .ok (.if_icmp .ne 56, 3) := by decide +kernel
theorem dL_act_412 : decode cL_act 412 = .ok (.aload_n 2, 1) := by decide +kernel
theorem dL_act_413 : decode cL_act 413 = .ok (.getfield 31, 3) := by decide +kernel
theorem dL_act_416 : decode cL_act 416 = .ok (.istore 7, 2) := by decide +kernel
theorem dL_act_418 : decode cL_act 418 = .ok (.aload_n 2, 1) := by decide +kernel
theorem dL_act_419 : decode cL_act 419 = .ok (.iload 5, 2) := by decide +kernel
theorem dL_act_421 : decode cL_act 421 = .ok (.iconst 3, 1) := by decide +kernel
theorem dL_act_422 : decode cL_act 422 = .ok (.invokestatic 27, 3) := by decide +kernel
theorem dL_act_425 : decode cL_act 425 = .ok (.ifCond .ne 7, 3) := by decide +kernel
theorem dL_act_428 : decode cL_act 428 = .ok (.iconst 0, 1) := by decide +kernel
theorem dL_act_429 : decode cL_act 429 = .ok (.goto 14, 3) := by decide +kernel
theorem dL_act_432 : decode cL_act 432 = .ok (.iconst 1, 1) := by decide +kernel
theorem dL_act_433 : decode cL_act 433 = .ok (.iload 5, 2) := by decide +kernel
theorem dL_act_435 : decode cL_act 435 = .ok (.iconst 2, 1) := by decide +kernel
theorem dL_act_436 : decode cL_act 436 = .ok (.ishr, 1) := by decide +kernel
theorem dL_act_437 : decode cL_act 437 = .ok (.bipush 9, 2) := by decide +kernel
theorem dL_act_439 : decode cL_act 439 = .ok (.invokestatic 27, 3) := by decide +kernel
theorem dL_act_442 : decode cL_act 442 = .ok (.iadd, 1) := by decide +kernel
theorem dL_act_443 : decode cL_act 443 = .ok (.putfield 31, 3) := by decide +kernel
theorem dL_act_446 : decode cL_act 446 = .ok (.aload_n 0, 1) := by decide +kernel
theorem dL_act_447 : decode cL_act 447 = .ok (.aload_n 2, 1) := by decide +kernel
theorem dL_act_448 : decode cL_act 448 = .ok (.getfield 31, 3) := by decide +kernel
theorem dL_act_451 : decode cL_act 451 = .ok (.invokevirtual 201, 3) := by decide +kernel
theorem dL_act_454 : decode cL_act 454 = .ok (.iload 7, 2) := by decide +kernel
theorem dL_act_456 : decode cL_act 456 = .ok (.if_icmp .ne 7, 3) := by decide +kernel
theorem dL_act_459 : decode cL_act 459 = .ok (.iconst 1, 1) := by decide +kernel
theorem dL_act_460 : decode cL_act 460 = .ok (.goto 4, 3) := by decide +kernel
theorem dL_act_463 : decode cL_act 463 = .ok (.iconst (-1), 1) := by decide +kernel
theorem dL_act_464 : decode cL_act 464 = .ok (.ireturn, 1) := by decide +kernel
theorem dL_act_465 : decode cL_act 465 = .ok (.iload 4, 2) := by decide +kernel
theorem dL_act_467 : decode cL_act 467 = .ok (.bipush 18, 2) := by decide +kernel
theorem dL_act_469 : decode cL_act 469 = .ok (.if_icmp .ge 111, 3) := by decide +kernel
theorem dL_act_472 : decode cL_act 472 = .ok (.iload 4, 2) := by decide +kernel
theorem dL_act_474 : decode cL_act 474 = .ok (.bipush 16, 2) := by decide +kernel
theorem dL_act_476 : decode cL_act 476 = .ok (.if_icmp .ne 7, 3) := by decide +kernel
theorem dL_act_479 : decode cL_act 479 = .ok (.iconst 1, 1) := by decide +kernel
theorem dL_act_480 : decode cL_act 480 = .ok (.goto 4, 3) := by decide +kernel
theorem dL_act_483 : decode cL_act 483 = .ok (.iconst 0, 1) := by decide +kernel
theorem dL_act_484 : decode cL_act 484 = .ok (.istore 7, 2) := by decide +kernel
theorem dL_act_486 : decode cL_act 486 = .ok (.aload_n 2, 1) := by decide +kernel
theorem dL_act_487 : decode cL_act 487 = .ok (.getfield 97, 3) := by decide +kernel
theorem dL_act_490 : decode cL_act 490 = .ok (.iconst 2, 1) := by decide +kernel
theorem dL_act_491 : decode cL_act 491 = .ok (.if_icmp .eq 8, 3) := by decide +kernel
theorem dL_act_494 : decode cL_act 494 = .ok (.bipush (-2), 2) := by decide +kernel
theorem dL_act_496 : decode cL_act 496 = .ok (.goto 28, 3) := by decide +kernel
theorem dL_act_499 : decode cL_act 499 = .ok (.aload_n 2, 1) := by decide +kernel
theorem dL_act_500 : decode cL_act 500 = .ok (.getfield 159, 3) := by decide +kernel
theorem dL_act_503 : decode cL_act 503 = .ok (.iload 6, 2) := by decide +kernel
theorem dL_act_505 : decode cL_act 505 = .ok (.baload, 1) := by decide +kernel
theorem dL_act_506 : decode cL_act 506 = .ok (.iload 7, 2) := by decide +kernel
theorem dL_act_508 : decode cL_act 508 = .ok (.if_icmp .ne 8, 3) := by decide +kernel
theorem dL_act_511 : decode cL_act 511 = .ok (.bipush (-3), 2) := by decide +kernel
theorem dL_act_513 : decode cL_act 513 = .ok (.goto 11, 3) := by decide +kernel
theorem dL_act_516 : decode cL_act 516 = .ok (.aload_n 2, 1) := by decide +kernel
theorem dL_act_517 : decode cL_act 517 = .ok (.getfield 143, 3) := by decide +kernel
theorem dL_act_520 : decode cL_act 520 = .ok (.iload 6, 2) := by decide +kernel
theorem dL_act_522 : decode cL_act 522 = .ok (.aaload, 1) := by decide +kernel
theorem dL_act_523 : decode cL_act 523 = .ok (.arraylength, 1) := by decide +kernel
theorem dL_act_524 : decode cL_act 524 = .ok (.istore 8, 2) := by decide +kernel
theorem dL_act_526 : decode cL_act 526 = .ok (.iload 8, 2) := by decide +kernel
theorem dL_act_528 : decode cL_act 528 = .ok (.ifCond .lt 12, 3) := by decide +kernel
theorem dL_act_531 : decode cL_act 531 = .ok (.aload_n 2, 1) := by decide +kernel
theorem dL_act_532 : decode cL_act 532 = .ok (.getfield 159, 3) := by decide +kernel
theorem dL_act_535 : decode cL_act 535 = .ok (.iload 6, 2) := by decide +kernel
theorem dL_act_537 : decode cL_act 537 = .ok (.iload 7, 2) := by decide +kernel
theorem dL_act_539 : decode cL_act 539 = .ok (.bastore, 1) := by decide +kernel
theorem dL_act_540 : decode cL_act 540 = .ok (.iload 7, 2) := by decide +kernel
theorem dL_act_542 : decode cL_act 542 = .ok (.ifCond .eq 12, 3) := by decide +kernel
theorem dL_act_545 : decode cL_act 545 = .ok (.aload_n 0, 1) := by decide +kernel
theorem dL_act_546 : decode cL_act 546 = .ok (.iload 6, 2) := by decide +kernel
theorem dL_act_548 : decode cL_act 548 = .ok (.invokevirtual 204, 3) := by decide +kernel
theorem dL_act_551 : decode cL_act 551 = .ok (.goto 9, 3) := by decide +kernel
theorem dL_act_554 : decode cL_act 554 = .ok (.aload_n 0, 1) := by decide +kernel
theorem dL_act_555 : decode cL_act 555 = .ok (.iload 6, 2) := by decide +kernel
theorem dL_act_557 : decode cL_act 557 = .ok (.invokevirtual 207, 3) := by decide +kernel
theorem dL_act_560 : decode cL_act 560 = .ok (.iload 8, 2) := by decide +kernel
theorem dL_act_562 : decode cL_act 562 = .ok (.if_icmp .eq 7, 3) := by decide +kernel
theorem dL_act_565 : decode cL_act 565 = .ok (.iconst (-1), 1) := by decide +kernel
theorem dL_act_566 : decode cL_act 566 = .ok (.goto 13, 3) := by decide +kernel
theorem dL_act_569 : decode cL_act 569 = .ok (.iload 8, 2) := by decide +kernel
theorem dL_act_571 : decode cL_act 571 = .ok (.ifCond .ge 7, 3) := by decide +kernel
theorem dL_act_574 : decode cL_act 574 = .ok (.iconst 0, 1) := by decide +kernel
theorem dL_act_575 : decode cL_act 575 = .ok (.goto 4, 3) := by decide +kernel
theorem dL_act_578 : decode cL_act 578 = .ok (.iconst 1, 1) := by decide +kernel
theorem dL_act_579 : decode cL_act 579 = .ok (.ireturn, 1) := by decide +kernel
theorem dL_act_580 : decode cL_act 580 = .ok (.aload_n 2, 1) := by decide +kernel
theorem dL_act_581 : decode cL_act 581 = .ok (.getfield 97, 3) := by decide +kernel
theorem dL_act_584 : decode cL_act 584 = .ok (.ifCond .eq 12, 3) := by decide +kernel
theorem dL_act_587 : decode cL_act 587 = .ok (.iload 5, 2) := by decide +kernel
theorem dL_act_589 : decode cL_act 589 = .ok (.iconst 3, 1) := by decide +kernel
theorem dL_act_590 : decode cL_act 590 = .ok (.invokestatic 27, 3) := by decide +kernel
theorem dL_act_593 : decode cL_act 593 = .ok (.ifCond .le 5, 3) := by decide +kernel
theorem dL_act_596 : decode cL_act 596 = .ok (.iconst 0, 1) := by decide +kernel
theorem dL_act_597 : decode cL_act 597 = .ok (.ireturn, 1) := by decide +kernel
theorem dL_act_598 : decode cL_act 598 = .ok (.aload_n 2, 1) := by decide +kernel
theorem dL_act_599 : decode cL_act 599 = .ok (.invokevirtual 210, 3) := by decide +kernel
theorem dL_act_602 : decode cL_act 602 = .ok (.istore 7, 2) := by decide +kernel
theorem dL_act_604 : decode cL_act 604 = .ok (.aload_n 2, 1) := by decide +kernel
theorem dL_act_605 : decode cL_act 605 = .ok (.invokevirtual 213, 3) := by decide +kernel
theorem dL_act_608 : decode cL_act 608 = .ok (.aload_n 0, 1) := by decide +kernel
theorem dL_act_609 : decode cL_act 609 = .ok (.invokevirtual 216, 3) := by decide +kernel
theorem dL_act_612 : decode cL_act 612 = .ok (.iload 7, 2) := by decide +kernel
theorem dL_act_614 : decode cL_act 614 = .ok (.if_icmp .ne 7, 3) := by decide +kernel
theorem dL_act_617 : decode cL_act 617 = .ok (.iconst 1, 1) := by decide +kernel
theorem dL_act_618 : decode cL_act 618 = .ok (.goto 4, 3) := by decide +kernel
theorem dL_act_621 : decode cL_act 621 = .ok (.iconst (-1), 1) := by decide +kernel
theorem dL_act_622 : decode cL_act 622 = .ok (.ireturn, 1) := by decide +kernel
def f_L_act_560 (w : Nat) (u : Nat) (v : Int) (x8 : Int) (s0 : Int) (m : xM) (hp : gH) : Option (Int × xM × gH) :=
     (if xw s0 = xw x8 then (if xw x8 < 0 then some (0, m, hp)
      else some (1, m, hp))
      else some ((-1), m, hp))
set_option maxRecDepth 1000000 in
set_option maxHeartbeats 4000000 in
theorem t_L_act_560 {P : gG → Prop} {d : Nat} {r : Int} {m9 : xM} {h9 : gH} (hd9 : 9 ≤ d) (C : ∀ Γ, P Γ → gX Γ lay_X RL cL_act 11 d h9) (w : Nat) (u : Nat) (v : Int) (hR : ∀ Γ, P Γ → gRi Γ lay_X cL_act r m9 h9) (x8 : Int) (s0 : Int) (m : xM) (hp : gH) (h : f_L_act_560 w u v x8 s0 m hp = some (r, m9, h9)) : gJ P lay_X 11 560 [(8, .inl x8)] [.inl s0] m hp h9 := by
  unfold f_L_act_560 at h
  refine g_iload C dL_act_560 rfl ?_
  refine g_icmp_eq C 569 dL_act_562 (by decide) h (fun h => ?_) (fun h => ?_)
  · refine g_iload C dL_act_569 rfl ?_
    refine g_if_ge C 578 dL_act_571 (by decide) h (fun h => ?_) (fun h => ?_)
    · refine g_iconst C dL_act_578 ?_
      exact g_ireturn hR dL_act_579 (by cases h; exact ⟨rfl, rfl, rfl⟩)
    · refine g_iconst C dL_act_574 ?_
      refine g_goto C 579 dL_act_575 (by decide) ?_
      exact g_ireturn hR dL_act_579 (by cases h; exact ⟨rfl, rfl, rfl⟩)
  · refine g_iconst C dL_act_565 ?_
    refine g_goto C 579 dL_act_566 (by decide) ?_
    exact g_ireturn hR dL_act_579 (by cases h; exact ⟨rfl, rfl, rfl⟩)
def f_L_act_540 (w : Nat) (u : Nat) (v : Int) (x6 : Int) (x7 : Int) (x8 : Int) (m : xM) (hp : gH) : Option (Int × xM × gH) :=
     (if xw x7 = 0 then (Option.bind (f_X_resume x6 m) fun q15 =>
      f_L_act_560 w u v x8 q15.1 q15.2 hp)
      else (Option.bind (f_X_escape x6 m) fun q16 =>
      f_L_act_560 w u v x8 q16.1 q16.2 hp))
set_option maxRecDepth 1000000 in
set_option maxHeartbeats 4000000 in
theorem t_L_act_540 {P : gG → Prop} {d : Nat} {r : Int} {m9 : xM} {h9 : gH} (hd9 : 9 ≤ d) (C : ∀ Γ, P Γ → gX Γ lay_X RL cL_act 11 d h9) (w : Nat) (u : Nat) (v : Int) (hR : ∀ Γ, P Γ → gRi Γ lay_X cL_act r m9 h9) (x6 : Int) (x7 : Int) (x8 : Int) (m : xM) (hp : gH) (h : f_L_act_540 w u v x6 x7 x8 m hp = some (r, m9, h9)) : gJ P lay_X 11 540 [(0, .inr (.inr (some 0))), (6, .inl x6), (7, .inl x7), (8, .inl x8)] [] m hp h9 := by
  unfold f_L_act_540 at h
  refine g_iload C dL_act_540 rfl ?_
  refine g_if_eq C 554 dL_act_542 (by decide) h (fun h => ?_) (fun h => ?_)
  · refine g_aload_n C dL_act_554 rfl ?_
    refine g_iload C dL_act_555 rfl ?_
    obtain ⟨q15, hq15, h⟩ := x_bind h
    refine g_callX C dL_act_557 (xin_39 _ (List.mem_of_getElem? (i := 22) rfl)) xy_X10_resume xi_X10_resume xs_X10_resume (by omega) (by decide) (b := 0) (ci := 11) rfl ⟨_, _, rfl⟩ (av := [.inl x6]) rfl (Nat.le_of_ble_eq_true rfl) (fun l => c_X_resume l _ _ q15.1 q15.2 hq15) rfl ?_
    refine g_loc [(8, .inl x8)] ⟨rfl, trivial⟩ ?_
    exact t_L_act_560 hd9 C _ _ _ hR _ _ _ _ h
  · refine g_aload_n C dL_act_545 rfl ?_
    refine g_iload C dL_act_546 rfl ?_
    obtain ⟨q16, hq16, h⟩ := x_bind h
    refine g_callX C dL_act_548 (xin_39 _ (List.mem_of_getElem? (i := 14) rfl)) xy_X10_escape xi_X10_escape xs_X10_escape (by omega) (by decide) (b := 0) (ci := 11) rfl ⟨_, _, rfl⟩ (av := [.inl x6]) rfl (Nat.le_of_ble_eq_true rfl) (fun l => c_X_escape l _ _ q16.1 q16.2 hq16) rfl ?_
    refine g_goto C 560 dL_act_551 (by decide) ?_
    refine g_loc [(8, .inl x8)] ⟨rfl, trivial⟩ ?_
    exact t_L_act_560 hd9 C _ _ _ hR _ _ _ _ h
def f_L_act_524 (w : Nat) (u : Nat) (v : Int) (x6 : Int) (x7 : Int) (s0 : Int) (m : xM) (hp : gH) : Option (Int × xM × gH) :=
     (if xw s0 < 0 then f_L_act_540 w u v x6 x7 s0 m hp
      else (Option.bind (gfK hp u 26) fun q17 =>
      (if xbz x7 then (Option.bind (gsN 3 hp q17 x6 x7) fun q19 =>
      f_L_act_540 w u v x6 x7 s0 m q19)
      else none)))
set_option maxRecDepth 1000000 in
set_option maxHeartbeats 4000000 in
theorem t_L_act_524 {P : gG → Prop} {d : Nat} {r : Int} {m9 : xM} {h9 : gH} (hd9 : 9 ≤ d) (C : ∀ Γ, P Γ → gX Γ lay_X RL cL_act 11 d h9) (w : Nat) (u : Nat) (v : Int) (hR : ∀ Γ, P Γ → gRi Γ lay_X cL_act r m9 h9) (x6 : Int) (x7 : Int) (s0 : Int) (m : xM) (hp : gH) (h : f_L_act_524 w u v x6 x7 s0 m hp = some (r, m9, h9)) : gJ P lay_X 11 524 [(0, .inr (.inr (some 0))), (2, .inr (.inr (some u))), (6, .inl x6), (7, .inl x7)] [.inl s0] m hp h9 := by
  unfold f_L_act_524 at h
  refine g_istore C dL_act_524 (by decide) ?_
  refine g_iload C dL_act_526 rfl ?_
  refine g_if_lt C 540 dL_act_528 (by decide) h (fun h => ?_) (fun h => ?_)
  · refine g_loc [(0, .inr (.inr (some 0))), (6, .inl x6), (7, .inl x7), (8, .inl s0)] ⟨rfl, rfl, rfl, rfl, trivial⟩ ?_
    exact t_L_act_540 hd9 C _ _ _ hR _ _ _ _ _ h
  · refine g_aload_n C dL_act_531 rfl ?_
    obtain ⟨q17, hq17, h⟩ := x_bind h
    refine g_getKN C dL_act_532 nF_159 hq17 ?_
    refine g_iload C dL_act_535 rfl ?_
    refine g_iload C dL_act_537 rfl ?_
    obtain ⟨hz919, h⟩ := x_some1 h
    obtain ⟨q19, hq19, h⟩ := x_bind h
    refine g_bastore C dL_act_539 hz919 hq19 ?_
    refine g_loc [(0, .inr (.inr (some 0))), (6, .inl x6), (7, .inl x7), (8, .inl s0)] ⟨rfl, rfl, rfl, rfl, trivial⟩ ?_
    exact t_L_act_540 hd9 C _ _ _ hR _ _ _ _ _ h
def f_L_act_484 (w : Nat) (u : Nat) (v : Int) (x6 : Int) (s0 : Int) (m : xM) (hp : gH) : Option (Int × xM × gH) :=
     (Option.bind (gfI hp u 1) fun q9 =>
      (if xw q9 = xw 2 then (Option.bind (gfK hp u 26) fun q10 =>
      (Option.bind (gaN 3 hp q10 x6) fun q11 =>
      (if xw q11 = xw s0 then f_L_act_524 w u v x6 s0 (-3) m hp
      else (Option.bind (gfK hp u 18) fun q12 =>
      (Option.bind (gaK 4 hp q12 x6) fun q13 =>
      (Option.bind (glc hp q13) fun q14 =>
      f_L_act_524 w u v x6 s0 q14 m hp))))))
      else f_L_act_524 w u v x6 s0 (-2) m hp))
set_option maxRecDepth 1000000 in
set_option maxHeartbeats 4000000 in
theorem t_L_act_484 {P : gG → Prop} {d : Nat} {r : Int} {m9 : xM} {h9 : gH} (hd9 : 9 ≤ d) (C : ∀ Γ, P Γ → gX Γ lay_X RL cL_act 11 d h9) (w : Nat) (u : Nat) (v : Int) (hR : ∀ Γ, P Γ → gRi Γ lay_X cL_act r m9 h9) (x6 : Int) (s0 : Int) (m : xM) (hp : gH) (h : f_L_act_484 w u v x6 s0 m hp = some (r, m9, h9)) : gJ P lay_X 11 484 [(0, .inr (.inr (some 0))), (2, .inr (.inr (some u))), (6, .inl x6)] [.inl s0] m hp h9 := by
  unfold f_L_act_484 at h
  refine g_istore C dL_act_484 (by decide) ?_
  refine g_aload_n C dL_act_486 rfl ?_
  obtain ⟨q9, hq9, h⟩ := x_bind h
  refine g_getIN C dL_act_487 nF_97 hq9 ?_
  refine g_iconst C dL_act_490 ?_
  refine g_icmp_eq C 499 dL_act_491 (by decide) h (fun h => ?_) (fun h => ?_)
  · refine g_aload_n C dL_act_499 rfl ?_
    obtain ⟨q10, hq10, h⟩ := x_bind h
    refine g_getKN C dL_act_500 nF_159 hq10 ?_
    refine g_iload C dL_act_503 rfl ?_
    obtain ⟨q11, hq11, h⟩ := x_bind h
    refine g_baload C dL_act_505 hq11 ?_
    refine g_iload C dL_act_506 rfl ?_
    refine g_icmp_ne C 516 dL_act_508 (by decide) h (fun h => ?_) (fun h => ?_)
    · refine g_aload_n C dL_act_516 rfl ?_
      obtain ⟨q12, hq12, h⟩ := x_bind h
      refine g_getKN C dL_act_517 nF_143 hq12 ?_
      refine g_iload C dL_act_520 rfl ?_
      obtain ⟨q13, hq13, h⟩ := x_bind h
      refine g_aaloadK4 C dL_act_522 hq13 ?_
      obtain ⟨q14, hq14, h⟩ := x_bind h
      refine g_lenC C dL_act_523 hq14 ?_
      refine g_loc [(0, .inr (.inr (some 0))), (2, .inr (.inr (some u))), (6, .inl x6), (7, .inl s0)] ⟨rfl, rfl, rfl, rfl, trivial⟩ ?_
      exact t_L_act_524 hd9 C _ _ _ hR _ _ _ _ _ h
    · refine g_bipush C dL_act_511 (by decide) ?_
      refine g_goto C 524 dL_act_513 (by decide) ?_
      refine g_loc [(0, .inr (.inr (some 0))), (2, .inr (.inr (some u))), (6, .inl x6), (7, .inl s0)] ⟨rfl, rfl, rfl, rfl, trivial⟩ ?_
      exact t_L_act_524 hd9 C _ _ _ hR _ _ _ _ _ h
  · refine g_bipush C dL_act_494 (by decide) ?_
    refine g_goto C 524 dL_act_496 (by decide) ?_
    refine g_loc [(0, .inr (.inr (some 0))), (2, .inr (.inr (some u))), (6, .inl x6), (7, .inl s0)] ⟨rfl, rfl, rfl, rfl, trivial⟩ ?_
    exact t_L_act_524 hd9 C _ _ _ hR _ _ _ _ _ h
def f_L_act_443 (w : Nat) (u : Nat) (v : Int) (x7 : Int) (s0 : Int) (s1 : Nat) (m : xM) (hp : gH) : Option (Int × xM × gH) :=
     (Option.bind (gpt hp s1 2 (.inl s0)) fun q23 =>
      (Option.bind (gfI q23 u 2) fun q24 =>
      (Option.bind (f_X_setQuality q24 m) fun q25 =>
      (if xw q25.1 = xw x7 then some (1, q25.2, q23)
      else some ((-1), q25.2, q23)))))
set_option maxRecDepth 1000000 in
set_option maxHeartbeats 4000000 in
theorem t_L_act_443 {P : gG → Prop} {d : Nat} {r : Int} {m9 : xM} {h9 : gH} (hd9 : 9 ≤ d) (C : ∀ Γ, P Γ → gX Γ lay_X RL cL_act 11 d h9) (w : Nat) (u : Nat) (v : Int) (hR : ∀ Γ, P Γ → gRi Γ lay_X cL_act r m9 h9) (x7 : Int) (s0 : Int) (s1 : Nat) (m : xM) (hp : gH) (h : f_L_act_443 w u v x7 s0 s1 m hp = some (r, m9, h9)) : gJ P lay_X 11 443 [(0, .inr (.inr (some 0))), (2, .inr (.inr (some u))), (7, .inl x7)] [.inl s0, .inr (.inr (some s1))] m hp h9 := by
  unfold f_L_act_443 at h
  obtain ⟨q23, hq23, h⟩ := x_bind h
  refine g_putIN C dL_act_443 nF_31 hq23 ?_
  refine g_aload_n C dL_act_446 rfl ?_
  refine g_aload_n C dL_act_447 rfl ?_
  obtain ⟨q24, hq24, h⟩ := x_bind h
  refine g_getIN C dL_act_448 nF_31 hq24 ?_
  obtain ⟨q25, hq25, h⟩ := x_bind h
  refine g_callX C dL_act_451 (xin_32 _ (List.mem_of_getElem? (i := 12) rfl)) xy_X10_setQuality xi_X10_setQuality xs_X10_setQuality (by omega) (by decide) (b := 0) (ci := 11) rfl ⟨_, _, rfl⟩ (av := [.inl q24]) rfl (Nat.le_of_ble_eq_true rfl) (fun l => c_X_setQuality l _ _ q25.1 q25.2 hq25) rfl ?_
  refine g_iload C dL_act_454 rfl ?_
  refine g_icmp_ne C 463 dL_act_456 (by decide) h (fun h => ?_) (fun h => ?_)
  · refine g_iconst C dL_act_463 ?_
    exact g_ireturn hR dL_act_464 (by cases h; exact ⟨rfl, rfl, rfl⟩)
  · refine g_iconst C dL_act_459 ?_
    refine g_goto C 464 dL_act_460 (by decide) ?_
    exact g_ireturn hR dL_act_464 (by cases h; exact ⟨rfl, rfl, rfl⟩)
def f_L_act_383 (w : Nat) (u : Nat) (v : Int) (x9 : Int) (x10 : Int) (m : xM) (hp : gH) : Option (Int × xM × gH) :=
     (if xw x9 = xw x10 then (if xw x10 < 0 then some (0, m, hp)
      else some (1, m, hp))
      else some ((-1), m, hp))
set_option maxRecDepth 1000000 in
set_option maxHeartbeats 4000000 in
theorem t_L_act_383 {P : gG → Prop} {d : Nat} {r : Int} {m9 : xM} {h9 : gH} (hd9 : 9 ≤ d) (C : ∀ Γ, P Γ → gX Γ lay_X RL cL_act 11 d h9) (w : Nat) (u : Nat) (v : Int) (hR : ∀ Γ, P Γ → gRi Γ lay_X cL_act r m9 h9) (x9 : Int) (x10 : Int) (m : xM) (hp : gH) (h : f_L_act_383 w u v x9 x10 m hp = some (r, m9, h9)) : gJ P lay_X 11 383 [(9, .inl x9), (10, .inl x10)] [] m hp h9 := by
  unfold f_L_act_383 at h
  refine g_iload C dL_act_383 rfl ?_
  refine g_iload C dL_act_385 rfl ?_
  refine g_icmp_eq C 394 dL_act_387 (by decide) h (fun h => ?_) (fun h => ?_)
  · refine g_iload C dL_act_394 rfl ?_
    refine g_if_ge C 403 dL_act_396 (by decide) h (fun h => ?_) (fun h => ?_)
    · refine g_iconst C dL_act_403 ?_
      exact g_ireturn hR dL_act_404 (by cases h; exact ⟨rfl, rfl, rfl⟩)
    · refine g_iconst C dL_act_399 ?_
      refine g_goto C 404 dL_act_400 (by decide) ?_
      exact g_ireturn hR dL_act_404 (by cases h; exact ⟨rfl, rfl, rfl⟩)
  · refine g_iconst C dL_act_390 ?_
    refine g_goto C 404 dL_act_391 (by decide) ?_
    exact g_ireturn hR dL_act_404 (by cases h; exact ⟨rfl, rfl, rfl⟩)
def f_L_act_367 (w : Nat) (u : Nat) (v : Int) (x6 : Int) (x8 : Nat) (x9 : Int) (s0 : Int) (m : xM) (hp : gH) : Option (Int × xM × gH) :=
     (if xw s0 < 0 then f_L_act_383 w u v x9 s0 m hp
      else (Option.bind (gfK hp u 18) fun q35 =>
      (Option.bind (gsQ 4 hp q35 x6 (some x8)) fun q36 =>
      f_L_act_383 w u v x9 s0 m q36)))
set_option maxRecDepth 1000000 in
set_option maxHeartbeats 4000000 in
theorem t_L_act_367 {P : gG → Prop} {d : Nat} {r : Int} {m9 : xM} {h9 : gH} (hd9 : 9 ≤ d) (C : ∀ Γ, P Γ → gX Γ lay_X RL cL_act 11 d h9) (w : Nat) (u : Nat) (v : Int) (hR : ∀ Γ, P Γ → gRi Γ lay_X cL_act r m9 h9) (x6 : Int) (x8 : Nat) (x9 : Int) (s0 : Int) (m : xM) (hp : gH) (h : f_L_act_367 w u v x6 x8 x9 s0 m hp = some (r, m9, h9)) : gJ P lay_X 11 367 [(2, .inr (.inr (some u))), (6, .inl x6), (8, .inr (.inr (some x8))), (9, .inl x9)] [.inl s0] m hp h9 := by
  unfold f_L_act_367 at h
  refine g_istore C dL_act_367 (by decide) ?_
  refine g_iload C dL_act_369 rfl ?_
  refine g_if_lt C 383 dL_act_371 (by decide) h (fun h => ?_) (fun h => ?_)
  · refine g_loc [(9, .inl x9), (10, .inl s0)] ⟨rfl, rfl, trivial⟩ ?_
    exact t_L_act_383 hd9 C _ _ _ hR _ _ _ _ h
  · refine g_aload_n C dL_act_374 rfl ?_
    obtain ⟨q35, hq35, h⟩ := x_bind h
    refine g_getKN C dL_act_375 nF_143 hq35 ?_
    refine g_iload C dL_act_378 rfl ?_
    refine g_aload C dL_act_380 rfl ?_
    obtain ⟨q36, hq36, h⟩ := x_bind h
    refine g_aastore4 C dL_act_382 hq36 ?_
    refine g_loc [(9, .inl x9), (10, .inl s0)] ⟨rfl, rfl, trivial⟩ ?_
    exact t_L_act_383 hd9 C _ _ _ hR _ _ _ _ h
def f_L_act_325 (w : Nat) (u : Nat) (v : Int) (x6 : Int) (x8 : Nat) (m : xM) (hp : gH) : Option (Int × xM × gH) :=
     (Option.bind (f_L_end w m hp) fun q30 =>
      (Option.bind (f_X_send x6 q30.1 q30.2.1) fun q31 =>
      (Option.bind (gfI q30.2.2 u 1) fun q32 =>
      (if xw q32 = 0 then f_L_act_367 w u v x6 x8 q31.1 (-2) q31.2 q30.2.2
      else (Option.bind (glc q30.2.2 x8) fun q33 =>
      (if xw 200 < xw q33 then f_L_act_367 w u v x6 x8 q31.1 (-3) q31.2 q30.2.2
      else (Option.bind (glc q30.2.2 x8) fun q34 =>
      f_L_act_367 w u v x6 x8 q31.1 q34 q31.2 q30.2.2)))))))
set_option maxRecDepth 1000000 in
set_option maxHeartbeats 4000000 in
theorem t_L_act_325 {P : gG → Prop} {d : Nat} {r : Int} {m9 : xM} {h9 : gH} (hd9 : 9 ≤ d) (C : ∀ Γ, P Γ → gX Γ lay_X RL cL_act 11 d h9) (w : Nat) (u : Nat) (v : Int) (hR : ∀ Γ, P Γ → gRi Γ lay_X cL_act r m9 h9) (x6 : Int) (x8 : Nat) (m : xM) (hp : gH) (h : f_L_act_325 w u v x6 x8 m hp = some (r, m9, h9)) : gJ P lay_X 11 325 [(0, .inr (.inr (some 0))), (1, .inr (.inr (some w))), (2, .inr (.inr (some u))), (6, .inl x6), (8, .inr (.inr (some x8)))] [] m hp h9 := by
  unfold f_L_act_325 at h
  refine g_aload_n C dL_act_325 rfl ?_
  refine g_iload C dL_act_326 rfl ?_
  refine g_aload_n C dL_act_328 rfl ?_
  refine g_aload_n C dL_act_329 rfl ?_
  obtain ⟨q30, hq30, h⟩ := x_bind h
  refine g_callS C dL_act_330 (xin_11 _ (List.mem_of_getElem? (i := 11) rfl)) xy_L_end xt_L_end (by omega) (by decide) (av := [.inr (.inr (some 0)), .inr (.inr (some w))]) rfl (Nat.le_of_ble_eq_true rfl) (le_L_end hq30) (c_L_end hq30) rfl ?_
  obtain ⟨q31, hq31, h⟩ := x_bind h
  refine g_callX C dL_act_333 (xin_29 _ (List.mem_of_getElem? (i := 16) rfl)) xy_X10_send xi_X10_send xs_X10_send (by omega) (by decide) (b := 0) (ci := 11) rfl ⟨_, _, rfl⟩ (av := [.inl x6, .inl q30.1]) rfl (Nat.le_of_ble_eq_true rfl) (fun l => c_X_send l _ _ _ q31.1 q31.2 hq31) rfl ?_
  refine g_istore C dL_act_336 (by decide) ?_
  refine g_aload_n C dL_act_338 rfl ?_
  obtain ⟨q32, hq32, h⟩ := x_bind h
  refine g_getIN C dL_act_339 nF_97 hq32 ?_
  refine g_if_ne C 350 dL_act_342 (by decide) h (fun h => ?_) (fun h => ?_)
  · refine g_aload C dL_act_350 rfl ?_
    obtain ⟨q33, hq33, h⟩ := x_bind h
    refine g_lenC C dL_act_352 hq33 ?_
    refine g_sipush C dL_act_353 (by decide) ?_
    refine g_icmp_le C 364 dL_act_356 (by decide) h (fun h => ?_) (fun h => ?_)
    · refine g_aload C dL_act_364 rfl ?_
      obtain ⟨q34, hq34, h⟩ := x_bind h
      refine g_lenC C dL_act_366 hq34 ?_
      refine g_loc [(2, .inr (.inr (some u))), (6, .inl x6), (8, .inr (.inr (some x8))), (9, .inl q31.1)] ⟨rfl, rfl, rfl, rfl, trivial⟩ ?_
      exact t_L_act_367 hd9 C _ _ _ hR _ _ _ _ _ _ h
    · refine g_bipush C dL_act_359 (by decide) ?_
      refine g_goto C 367 dL_act_361 (by decide) ?_
      refine g_loc [(2, .inr (.inr (some u))), (6, .inl x6), (8, .inr (.inr (some x8))), (9, .inl q31.1)] ⟨rfl, rfl, rfl, rfl, trivial⟩ ?_
      exact t_L_act_367 hd9 C _ _ _ hR _ _ _ _ _ _ h
  · refine g_bipush C dL_act_345 (by decide) ?_
    refine g_goto C 367 dL_act_347 (by decide) ?_
    refine g_loc [(2, .inr (.inr (some u))), (6, .inl x6), (8, .inr (.inr (some x8))), (9, .inl q31.1)] ⟨rfl, rfl, rfl, rfl, trivial⟩ ?_
    exact t_L_act_367 hd9 C _ _ _ hR _ _ _ _ _ _ h
def f_L_act_297 (w : Nat) (u : Nat) (v : Int) (k263 : Int → Int → Int → Nat → Int → xM → gH → Option (Int × xM × gH)) (x5 : Int) (x6 : Int) (x7 : Int) (x8 : Nat) (x9 : Int) (s0 : Int) (s1 : Int) (s2 : Int) (m : xM) (hp : gH) : Option (Int × xM × gH) :=
     (Option.bind (f_L_most s1 s0 hp) fun q38 =>
      (Option.bind (f_L_add w (s2 + q38) m hp) fun q39 =>
      (Option.bind (f_O_with x8 (s2 + q38) q39.2) fun q40 =>
      k263 x5 x6 x7 q40.1 (x9 + 1) q39.1 q40.2)))
set_option maxRecDepth 1000000 in
set_option maxHeartbeats 4000000 in
theorem t_L_act_297 {P : gG → Prop} {d : Nat} {r : Int} {m9 : xM} {h9 : gH} (hd9 : 9 ≤ d) (C : ∀ Γ, P Γ → gX Γ lay_X RL cL_act 11 d h9) (w : Nat) (u : Nat) (v : Int) (hR : ∀ Γ, P Γ → gRi Γ lay_X cL_act r m9 h9) {k263 : Int → Int → Int → Nat → Int → xM → gH → Option (Int × xM × gH)} (hk263 : ∀ (x5 : Int) (x6 : Int) (x7 : Int) (x8 : Nat) (x9 : Int) (m : xM) (hp : gH), k263 x5 x6 x7 x8 x9 m hp = some (r, m9, h9) → gJ P lay_X 11 263 [(0, .inr (.inr (some 0))), (1, .inr (.inr (some w))), (2, .inr (.inr (some u))), (5, .inl x5), (6, .inl x6), (7, .inl x7), (8, .inr (.inr (some x8))), (9, .inl x9)] [] m hp h9) (x5 : Int) (x6 : Int) (x7 : Int) (x8 : Nat) (x9 : Int) (s0 : Int) (s1 : Int) (s2 : Int) (m : xM) (hp : gH) (h : f_L_act_297 w u v k263 x5 x6 x7 x8 x9 s0 s1 s2 m hp = some (r, m9, h9)) : gJ P lay_X 11 297 [(0, .inr (.inr (some 0))), (1, .inr (.inr (some w))), (2, .inr (.inr (some u))), (5, .inl x5), (6, .inl x6), (7, .inl x7), (8, .inr (.inr (some x8))), (9, .inl x9)] [.inl s0, .inl s1, .inl s2] m hp h9 := by
  unfold f_L_act_297 at h
  obtain ⟨q38, hq38, h⟩ := x_bind h
  refine g_callS C dL_act_297 (xin_34 _ (List.mem_of_getElem? (i := 11) rfl)) xy_L_most xt_L_most (by omega) (by decide) (av := [.inl s1, .inl s0]) rfl (Nat.le_of_ble_eq_true rfl) gle.rf (c_L_most _ hq38) rfl ?_
  refine g_iadd C dL_act_300 ?_
  refine g_istore C dL_act_301 (by decide) ?_
  refine g_aload_n C dL_act_303 rfl ?_
  refine g_aload_n C dL_act_304 rfl ?_
  refine g_iload C dL_act_305 rfl ?_
  obtain ⟨q39, hq39, h⟩ := x_bind h
  refine g_callS C dL_act_307 (xin_10 _ (List.mem_of_getElem? (i := 23) rfl)) xy_L_add xt_L_add (by omega) (by decide) (av := [.inr (.inr (some 0)), .inr (.inr (some w)), .inl (s2 + q38)]) rfl (Nat.le_of_ble_eq_true rfl) (le_L_add hq39) (c_L_add hq39) rfl ?_
  refine g_aload C dL_act_310 rfl ?_
  refine g_iload C dL_act_312 rfl ?_
  obtain ⟨q40, hq40, h⟩ := x_bind h
  refine g_callSN C dL_act_314 (List.mem_of_getElem? (i := 17) rfl) xy_X11_with xt_X11_with (by omega) (by decide) (av := [.inr (.inr (some x8)), .inl (s2 + q38)]) rfl (Nat.le_of_ble_eq_true rfl) (le_O_with hq40) (c_O_with _ hq40) rfl ?_
  refine g_astore C dL_act_317 (by decide) ?_
  refine g_iinc C dL_act_319 (by decide) rfl ?_
  refine g_goto C 263 dL_act_322 (by decide) ?_
  refine g_loc [(0, .inr (.inr (some 0))), (1, .inr (.inr (some w))), (2, .inr (.inr (some u))), (5, .inl x5), (6, .inl x6), (7, .inl x7), (8, .inr (.inr (some q40.1))), (9, .inl (x9 + 1))] ⟨rfl, rfl, rfl, rfl, rfl, rfl, rfl, rfl, trivial⟩ ?_
  exact hk263 _ _ _ _ _ _ _ h
def f_L_act_263 (w : Nat) (u : Nat) (v : Int) : Nat → Int → Int → Int → Nat → Int → xM → gH → Option (Int × xM × gH)
  | 0, _, _, _, _, _, _, _ => none
  | n + 1, x5, x6, x7, x8, x9, m, hp =>
     (if xw x9 < xw x7 then (if xw 7 = 0 then none
      else (Option.bind (f_L_most (xishr x5 3) 2 hp) fun q37 =>
      (if xw q37 = 0 then f_L_act_297 w u v (f_L_act_263 w u v n) x5 x6 x7 x8 x9 12 (xishr x5 (xirem x9 7)) 97 m hp
      else f_L_act_297 w u v (f_L_act_263 w u v n) x5 x6 x7 x8 x9 4 (xishr x5 (xirem x9 7)) 97 m hp)))
      else f_L_act_325 w u v x6 x8 m hp)
set_option maxRecDepth 1000000 in
set_option maxHeartbeats 4000000 in
theorem t_L_act_263 {P : gG → Prop} {d : Nat} {r : Int} {m9 : xM} {h9 : gH} (hd9 : 9 ≤ d) (C : ∀ Γ, P Γ → gX Γ lay_X RL cL_act 11 d h9) (w : Nat) (u : Nat) (v : Int) (hR : ∀ Γ, P Γ → gRi Γ lay_X cL_act r m9 h9) : ∀ (n : Nat) (x5 : Int) (x6 : Int) (x7 : Int) (x8 : Nat) (x9 : Int) (m : xM) (hp : gH), f_L_act_263 w u v n x5 x6 x7 x8 x9 m hp = some (r, m9, h9) → gJ P lay_X 11 263 [(0, .inr (.inr (some 0))), (1, .inr (.inr (some w))), (2, .inr (.inr (some u))), (5, .inl x5), (6, .inl x6), (7, .inl x7), (8, .inr (.inr (some x8))), (9, .inl x9)] [] m hp h9 := by
  intro n
  induction n with
  | zero => intro _ _ _ _ _ _ _ h; cases h
  | succ n ih =>
    intro x5 x6 x7 x8 x9 m hp h
    rw [f_L_act_263] at h
    refine g_iload C dL_act_263 rfl ?_
    refine g_iload C dL_act_265 rfl ?_
    refine g_icmp_ge C 325 dL_act_267 (by decide) h (fun h => ?_) (fun h => ?_)
    · refine g_loc [(0, .inr (.inr (some 0))), (1, .inr (.inr (some w))), (2, .inr (.inr (some u))), (6, .inl x6), (8, .inr (.inr (some x8)))] ⟨rfl, rfl, rfl, rfl, rfl, trivial⟩ ?_
      exact t_L_act_325 hd9 C _ _ _ hR _ _ _ _ h
    · refine g_bipush C dL_act_270 (by decide) ?_
      refine g_iload C dL_act_272 rfl ?_
      refine g_iload C dL_act_274 rfl ?_
      refine g_bipush C dL_act_276 (by decide) ?_
      refine g_irem C dL_act_278 h (fun h9 h => ?_)
      refine g_ishr C dL_act_279 ?_
      refine g_iload C dL_act_280 rfl ?_
      refine g_iconst C dL_act_282 ?_
      refine g_ishr C dL_act_283 ?_
      refine g_iconst C dL_act_284 ?_
      obtain ⟨q37, hq37, h⟩ := x_bind h
      refine g_callS C dL_act_285 (xin_34 _ (List.mem_of_getElem? (i := 11) rfl)) xy_L_most xt_L_most (by omega) (by decide) (av := [.inl (xishr x5 3), .inl 2]) rfl (Nat.le_of_ble_eq_true rfl) gle.rf (c_L_most _ hq37) rfl ?_
      refine g_if_ne C 296 dL_act_288 (by decide) h (fun h => ?_) (fun h => ?_)
      · refine g_iconst C dL_act_296 ?_
        refine g_loc [(0, .inr (.inr (some 0))), (1, .inr (.inr (some w))), (2, .inr (.inr (some u))), (5, .inl x5), (6, .inl x6), (7, .inl x7), (8, .inr (.inr (some x8))), (9, .inl x9)] ⟨rfl, rfl, rfl, rfl, rfl, rfl, rfl, rfl, trivial⟩ ?_
        exact t_L_act_297 hd9 C _ _ _ hR ih _ _ _ _ _ _ _ _ _ _ h
      · refine g_bipush C dL_act_291 (by decide) ?_
        refine g_goto C 297 dL_act_293 (by decide) ?_
        refine g_loc [(0, .inr (.inr (some 0))), (1, .inr (.inr (some w))), (2, .inr (.inr (some u))), (5, .inl x5), (6, .inl x6), (7, .inl x7), (8, .inr (.inr (some x8))), (9, .inl x9)] ⟨rfl, rfl, rfl, rfl, rfl, rfl, rfl, rfl, trivial⟩ ?_
        exact t_L_act_297 hd9 C _ _ _ hR ih _ _ _ _ _ _ _ _ _ _ h
def f_L_act_246 (w : Nat) (u : Nat) (v : Int) (x5 : Int) (x6 : Int) (s0 : Int) (s1 : Int) (m : xM) (hp : gH) : Option (Int × xM × gH) :=
     (Option.bind (f_L_most s1 s0 hp) fun q27 =>
      (Option.bind (gfK hp u 18) fun q28 =>
      (Option.bind (gaK 4 hp q28 x6) fun q29 =>
      f_L_act_263 w u v fu x5 x6 q27 q29 0 m hp)))
set_option maxRecDepth 1000000 in
set_option maxHeartbeats 4000000 in
theorem t_L_act_246 {P : gG → Prop} {d : Nat} {r : Int} {m9 : xM} {h9 : gH} (hd9 : 9 ≤ d) (C : ∀ Γ, P Γ → gX Γ lay_X RL cL_act 11 d h9) (w : Nat) (u : Nat) (v : Int) (hR : ∀ Γ, P Γ → gRi Γ lay_X cL_act r m9 h9) (x5 : Int) (x6 : Int) (s0 : Int) (s1 : Int) (m : xM) (hp : gH) (h : f_L_act_246 w u v x5 x6 s0 s1 m hp = some (r, m9, h9)) : gJ P lay_X 11 246 [(0, .inr (.inr (some 0))), (1, .inr (.inr (some w))), (2, .inr (.inr (some u))), (5, .inl x5), (6, .inl x6)] [.inl s0, .inl s1] m hp h9 := by
  unfold f_L_act_246 at h
  obtain ⟨q27, hq27, h⟩ := x_bind h
  refine g_callS C dL_act_246 (xin_34 _ (List.mem_of_getElem? (i := 11) rfl)) xy_L_most xt_L_most (by omega) (by decide) (av := [.inl s1, .inl s0]) rfl (Nat.le_of_ble_eq_true rfl) gle.rf (c_L_most _ hq27) rfl ?_
  refine g_istore C dL_act_249 (by decide) ?_
  refine g_aload_n C dL_act_251 rfl ?_
  obtain ⟨q28, hq28, h⟩ := x_bind h
  refine g_getKN C dL_act_252 nF_143 hq28 ?_
  refine g_iload C dL_act_255 rfl ?_
  obtain ⟨q29, hq29, h⟩ := x_bind h
  refine g_aaloadK4 C dL_act_257 hq29 ?_
  refine g_astore C dL_act_258 (by decide) ?_
  refine g_iconst C dL_act_260 ?_
  refine g_istore C dL_act_261 (by decide) ?_
  refine g_loc [(0, .inr (.inr (some 0))), (1, .inr (.inr (some w))), (2, .inr (.inr (some u))), (5, .inl x5), (6, .inl x6), (7, .inl q27), (8, .inr (.inr (some q29))), (9, .inl 0)] ⟨rfl, rfl, rfl, rfl, rfl, rfl, rfl, rfl, trivial⟩ ?_
  exact t_L_act_263 hd9 C _ _ _ hR fu _ _ _ _ _ _ _ h
def f_L_act_84 (w : Nat) (u : Nat) (v : Int) (x7 : Int) (x8 : Int) (m : xM) (hp : gH) : Option (Int × xM × gH) :=
     (Option.bind (f_X_pass x7 m) fun q66 =>
      (Option.bind (gfK hp u 17) fun q67 =>
      (Option.bind (gaN 0 hp q67 10) fun q68 =>
      (if xw q66.1 = xw (q68 - x8) then some (1, q66.2, hp)
      else some ((-1), q66.2, hp)))))
set_option maxRecDepth 1000000 in
set_option maxHeartbeats 4000000 in
theorem t_L_act_84 {P : gG → Prop} {d : Nat} {r : Int} {m9 : xM} {h9 : gH} (hd9 : 9 ≤ d) (C : ∀ Γ, P Γ → gX Γ lay_X RL cL_act 11 d h9) (w : Nat) (u : Nat) (v : Int) (hR : ∀ Γ, P Γ → gRi Γ lay_X cL_act r m9 h9) (x7 : Int) (x8 : Int) (m : xM) (hp : gH) (h : f_L_act_84 w u v x7 x8 m hp = some (r, m9, h9)) : gJ P lay_X 11 84 [(0, .inr (.inr (some 0))), (2, .inr (.inr (some u))), (7, .inl x7), (8, .inl x8)] [] m hp h9 := by
  unfold f_L_act_84 at h
  refine g_aload_n C dL_act_84 rfl ?_
  refine g_iload C dL_act_85 rfl ?_
  obtain ⟨q66, hq66, h⟩ := x_bind h
  refine g_callX C dL_act_87 (xin_20 _ (List.mem_of_getElem? (i := 19) rfl)) xy_X10_pass xi_X10_pass xs_X10_pass (by omega) (by decide) (b := 0) (ci := 11) rfl ⟨_, _, rfl⟩ (av := [.inl x7]) rfl (Nat.le_of_ble_eq_true rfl) (fun l => c_X_pass l _ _ q66.1 q66.2 hq66) rfl ?_
  refine g_aload_n C dL_act_90 rfl ?_
  obtain ⟨q67, hq67, h⟩ := x_bind h
  refine g_getKN C dL_act_91 nF_133 hq67 ?_
  refine g_bipush C dL_act_94 (by decide) ?_
  obtain ⟨q68, hq68, h⟩ := x_bind h
  refine g_iaload C dL_act_96 hq68 ?_
  refine g_iload C dL_act_97 rfl ?_
  refine g_isub C dL_act_99 ?_
  refine g_icmp_ne C 107 dL_act_100 (by decide) h (fun h => ?_) (fun h => ?_)
  · refine g_iconst C dL_act_107 ?_
    exact g_ireturn hR dL_act_108 (by cases h; exact ⟨rfl, rfl, rfl⟩)
  · refine g_iconst C dL_act_103 ?_
    refine g_goto C 108 dL_act_104 (by decide) ?_
    exact g_ireturn hR dL_act_108 (by cases h; exact ⟨rfl, rfl, rfl⟩)
def f_L_act_67 (w : Nat) (u : Nat) (v : Int) : Nat → Int → Int → Int → xM → gH → Option (Int × xM × gH)
  | 0, _, _, _, _, _ => none
  | n + 1, x7, x8, x9, m, hp =>
     (if xw x9 < xw x7 then (Option.bind (f_O_tick u hp) fun q69 =>
      (if gob hp u = true then f_L_act_67 w u v n x7 x8 (x9 + 1) m q69
      else none))
      else f_L_act_84 w u v x7 x8 m hp)
set_option maxRecDepth 1000000 in
set_option maxHeartbeats 4000000 in
theorem t_L_act_67 {P : gG → Prop} {d : Nat} {r : Int} {m9 : xM} {h9 : gH} (hd9 : 9 ≤ d) (C : ∀ Γ, P Γ → gX Γ lay_X RL cL_act 11 d h9) (w : Nat) (u : Nat) (v : Int) (hR : ∀ Γ, P Γ → gRi Γ lay_X cL_act r m9 h9) : ∀ (n : Nat) (x7 : Int) (x8 : Int) (x9 : Int) (m : xM) (hp : gH), f_L_act_67 w u v n x7 x8 x9 m hp = some (r, m9, h9) → gJ P lay_X 11 67 [(0, .inr (.inr (some 0))), (2, .inr (.inr (some u))), (7, .inl x7), (8, .inl x8), (9, .inl x9)] [] m hp h9 := by
  intro n
  induction n with
  | zero => intro _ _ _ _ _ h; cases h
  | succ n ih =>
    intro x7 x8 x9 m hp h
    rw [f_L_act_67] at h
    refine g_iload C dL_act_67 rfl ?_
    refine g_iload C dL_act_69 rfl ?_
    refine g_icmp_ge C 84 dL_act_71 (by decide) h (fun h => ?_) (fun h => ?_)
    · refine g_loc [(0, .inr (.inr (some 0))), (2, .inr (.inr (some u))), (7, .inl x7), (8, .inl x8)] ⟨rfl, rfl, rfl, rfl, trivial⟩ ?_
      exact t_L_act_84 hd9 C _ _ _ hR _ _ _ _ h
    · refine g_aload_n C dL_act_74 rfl ?_
      obtain ⟨q69, hq69, h⟩ := x_bind h
      obtain ⟨fo71, h⟩ := x_some1 h
      obtain ⟨_, hfo71⟩ := gob_some fo71
      refine g_callVN C dL_act_75 (List.mem_of_getElem? (i := 16) rfl) xy_X11_tick xi_X11_tick xs_X11_tick hfo71 ⟨_, _, rfl⟩ (by omega) (by decide) (av := []) rfl (Nat.le_of_ble_eq_true rfl) (le_O_tick hq69) (c_O_tick _ hq69) rfl ?_
      refine g_iinc C dL_act_78 (by decide) rfl ?_
      refine g_goto C 67 dL_act_81 (by decide) ?_
      refine g_loc [(0, .inr (.inr (some 0))), (2, .inr (.inr (some u))), (7, .inl x7), (8, .inl x8), (9, .inl (x9 + 1))] ⟨rfl, rfl, rfl, rfl, rfl, trivial⟩ ?_
      exact ih _ _ _ _ _ h
def f_L_act_49 (w : Nat) (u : Nat) (v : Int) (s0 : Int) (s1 : Int) (s2 : Int) (m : xM) (hp : gH) : Option (Int × xM × gH) :=
     (Option.bind (f_L_most s1 s0 hp) fun q63 =>
      (Option.bind (gfK hp u 17) fun q64 =>
      (Option.bind (gaN 0 hp q64 10) fun q65 =>
      f_L_act_67 w u v fu (s2 + q63) q65 0 m hp)))
set_option maxRecDepth 1000000 in
set_option maxHeartbeats 4000000 in
theorem t_L_act_49 {P : gG → Prop} {d : Nat} {r : Int} {m9 : xM} {h9 : gH} (hd9 : 9 ≤ d) (C : ∀ Γ, P Γ → gX Γ lay_X RL cL_act 11 d h9) (w : Nat) (u : Nat) (v : Int) (hR : ∀ Γ, P Γ → gRi Γ lay_X cL_act r m9 h9) (s0 : Int) (s1 : Int) (s2 : Int) (m : xM) (hp : gH) (h : f_L_act_49 w u v s0 s1 s2 m hp = some (r, m9, h9)) : gJ P lay_X 11 49 [(0, .inr (.inr (some 0))), (2, .inr (.inr (some u)))] [.inl s0, .inl s1, .inl s2] m hp h9 := by
  unfold f_L_act_49 at h
  obtain ⟨q63, hq63, h⟩ := x_bind h
  refine g_callS C dL_act_49 (xin_34 _ (List.mem_of_getElem? (i := 11) rfl)) xy_L_most xt_L_most (by omega) (by decide) (av := [.inl s1, .inl s0]) rfl (Nat.le_of_ble_eq_true rfl) gle.rf (c_L_most _ hq63) rfl ?_
  refine g_iadd C dL_act_52 ?_
  refine g_istore C dL_act_53 (by decide) ?_
  refine g_aload_n C dL_act_55 rfl ?_
  obtain ⟨q64, hq64, h⟩ := x_bind h
  refine g_getKN C dL_act_56 nF_133 hq64 ?_
  refine g_bipush C dL_act_59 (by decide) ?_
  obtain ⟨q65, hq65, h⟩ := x_bind h
  refine g_iaload C dL_act_61 hq65 ?_
  refine g_istore C dL_act_62 (by decide) ?_
  refine g_iconst C dL_act_64 ?_
  refine g_istore C dL_act_65 (by decide) ?_
  refine g_loc [(0, .inr (.inr (some 0))), (2, .inr (.inr (some u))), (7, .inl (s2 + q63)), (8, .inl q65), (9, .inl 0)] ⟨rfl, rfl, rfl, rfl, rfl, trivial⟩ ?_
  exact t_L_act_67 hd9 C _ _ _ hR fu _ _ _ _ _ h
def f_L_act (w : Nat) (u : Nat) (v : Int) (m : xM) (hp : gH) : Option (Int × xM × gH) :=
     (Option.bind (f_L_most v 19 hp) fun q0 =>
      (Option.bind (f_L_most (xishr v 4) 2 hp) fun q1 =>
      (if xw q0 < xw 7 then (Option.bind (f_L_most (xishr (xishr v 4) 3) 4 hp) fun q62 =>
      (if xw q62 = 0 then f_L_act_49 w u v 40 (xishr v 4) 1 m hp
      else f_L_act_49 w u v 7 (xishr v 4) 1 m hp))
      else (if xw q0 < xw 10 then (Option.bind (gfI hp u 1) fun q41 =>
      (if xw q41 = 0 then (Option.bind (gpt hp u 1 (.inl 1)) fun q42 =>
      (Option.bind (gpt q42 u 4 (.inl 0)) fun q43 =>
      (Option.bind (gfK q43 u 14) fun q44 =>
      (Option.bind (gaN 0 q43 q44 0) fun q45 =>
      (Option.bind (gpt q43 u 5 (.inl q45)) fun q46 =>
      (Option.bind (gpt q46 u 6 (.inl 0)) fun q47 =>
      (Option.bind (gNw 0 q47 2) fun q48 =>
      (Option.bind (gpt q48.2 u 22 (.inr (.inr (some q48.1)))) fun q49 =>
      (Option.bind (gNw 0 q49 2) fun q50 =>
      (Option.bind (gpt q50.2 u 23 (.inr (.inr (some q50.1)))) fun q51 =>
      (Option.bind (f_X_dial m) fun q52 =>
      (Option.bind (gfK q51 u 14) fun q53 =>
      (Option.bind (gaN 0 q51 q53 0) fun q54 =>
      (Option.bind (gfK q51 u 14) fun q55 =>
      (Option.bind (gaN 0 q51 q55 1) fun q56 =>
      (Option.bind (gfK q51 u 14) fun q57 =>
      (Option.bind (gaN 0 q51 q57 2) fun q58 =>
      (Option.bind (gfK q51 u 14) fun q59 =>
      (Option.bind (gaN 0 q51 q59 3) fun q60 =>
      (if xw q52.1 = xw (((q54 + q56) + q58) + q60) then some (1, q52.2, q51)
      else some ((-1), q52.2, q51)))))))))))))))))))))
      else (Option.bind (f_X_dial m) fun q61 =>
      (if xw q61.1 = xw (-2) then some (0, q61.2, hp)
      else some ((-1), q61.2, hp)))))
      else (if xw q0 < xw 15 then (Option.bind (f_L_most (xishr (xishr v 4) 4) 3 hp) fun q26 =>
      (if xw q26 = 0 then f_L_act_246 w u v (xishr v 4) q1 70 (xishr (xishr v 4) 2) m hp
      else f_L_act_246 w u v (xishr v 4) q1 14 (xishr (xishr v 4) 2) m hp))
      else (if xw q0 = xw 15 then (Option.bind (gfI hp u 2) fun q20 =>
      (Option.bind (f_L_most (xishr v 4) 3 hp) fun q21 =>
      (if xw q21 = 0 then f_L_act_443 w u v q20 0 u m hp
      else (Option.bind (f_L_most (xishr (xishr v 4) 2) 9 hp) fun q22 =>
      f_L_act_443 w u v q20 (1 + q22) u m hp))))
      else (if xw q0 < xw 18 then (if xw q0 = xw 16 then f_L_act_484 w u v q1 1 m hp
      else f_L_act_484 w u v q1 0 m hp)
      else (Option.bind (gfI hp u 1) fun q2 =>
      (if xw q2 = 0 then some (0, m, hp)
      else (Option.bind (f_L_most (xishr v 4) 3 hp) fun q3 =>
      (if 0 < xw q3 then some (0, m, hp)
      else (Option.bind (f_O_losing u hp) fun q4 =>
      (if gob hp u = true then (Option.bind (f_O_hang u hp) fun q6 =>
      (if gob hp u = true then (Option.bind (f_X_hangUp m) fun q8 =>
      (if xw q8.1 = xw q4 then some (1, q8.2, q6)
      else some ((-1), q8.2, q6)))
      else none))
      else none)))))))))))))
set_option maxRecDepth 1000000 in
set_option maxHeartbeats 4000000 in
theorem t_L_act {P : gG → Prop} {d : Nat} {r : Int} {m9 : xM} {h9 : gH} (hd9 : 9 ≤ d) (C : ∀ Γ, P Γ → gX Γ lay_X RL cL_act 11 d h9) (w : Nat) (u : Nat) (v : Int) (hR : ∀ Γ, P Γ → gRi Γ lay_X cL_act r m9 h9) (m : xM) (hp : gH) (h : f_L_act w u v m hp = some (r, m9, h9)) : gJ P lay_X 11 0 [(0, .inr (.inr (some 0))), (1, .inr (.inr (some w))), (2, .inr (.inr (some u))), (3, .inl v)] [] m hp h9 := by
  unfold f_L_act at h
  refine g_iload_n C dL_act_0 rfl ?_
  refine g_bipush C dL_act_1 (by decide) ?_
  obtain ⟨q0, hq0, h⟩ := x_bind h
  refine g_callS C dL_act_3 (xin_34 _ (List.mem_of_getElem? (i := 11) rfl)) xy_L_most xt_L_most (by omega) (by decide) (av := [.inl v, .inl 19]) rfl (Nat.le_of_ble_eq_true rfl) gle.rf (c_L_most _ hq0) rfl ?_
  refine g_istore C dL_act_6 (by decide) ?_
  refine g_iload_n C dL_act_8 rfl ?_
  refine g_iconst C dL_act_9 ?_
  refine g_ishr C dL_act_10 ?_
  refine g_istore C dL_act_11 (by decide) ?_
  refine g_iload C dL_act_13 rfl ?_
  refine g_iconst C dL_act_15 ?_
  obtain ⟨q1, hq1, h⟩ := x_bind h
  refine g_callS C dL_act_16 (xin_34 _ (List.mem_of_getElem? (i := 11) rfl)) xy_L_most xt_L_most (by omega) (by decide) (av := [.inl (xishr v 4), .inl 2]) rfl (Nat.le_of_ble_eq_true rfl) gle.rf (c_L_most _ hq1) rfl ?_
  refine g_istore C dL_act_19 (by decide) ?_
  refine g_iload C dL_act_21 rfl ?_
  refine g_bipush C dL_act_23 (by decide) ?_
  refine g_icmp_ge C 109 dL_act_25 (by decide) h (fun h => ?_) (fun h => ?_)
  · refine g_iload C dL_act_109 rfl ?_
    refine g_bipush C dL_act_111 (by decide) ?_
    refine g_icmp_ge C 217 dL_act_113 (by decide) h (fun h => ?_) (fun h => ?_)
    · refine g_iload C dL_act_217 rfl ?_
      refine g_bipush C dL_act_219 (by decide) ?_
      refine g_icmp_ge C 405 dL_act_221 (by decide) h (fun h => ?_) (fun h => ?_)
      · refine g_iload C dL_act_405 rfl ?_
        refine g_bipush C dL_act_407 (by decide) ?_
        refine g_icmp_ne C 465 dL_act_409 (by decide) h (fun h => ?_) (fun h => ?_)
        · refine g_iload C dL_act_465 rfl ?_
          refine g_bipush C dL_act_467 (by decide) ?_
          refine g_icmp_ge C 580 dL_act_469 (by decide) h (fun h => ?_) (fun h => ?_)
          · refine g_aload_n C dL_act_580 rfl ?_
            obtain ⟨q2, hq2, h⟩ := x_bind h
            refine g_getIN C dL_act_581 nF_97 hq2 ?_
            refine g_if_eq C 596 dL_act_584 (by decide) h (fun h => ?_) (fun h => ?_)
            · refine g_iconst C dL_act_596 ?_
              exact g_ireturn hR dL_act_597 (by cases h; exact ⟨rfl, rfl, rfl⟩)
            · refine g_iload C dL_act_587 rfl ?_
              refine g_iconst C dL_act_589 ?_
              obtain ⟨q3, hq3, h⟩ := x_bind h
              refine g_callS C dL_act_590 (xin_34 _ (List.mem_of_getElem? (i := 11) rfl)) xy_L_most xt_L_most (by omega) (by decide) (av := [.inl (xishr v 4), .inl 3]) rfl (Nat.le_of_ble_eq_true rfl) gle.rf (c_L_most _ hq3) rfl ?_
              refine g_if_le C 598 dL_act_593 (by decide) h (fun h => ?_) (fun h => ?_)
              · refine g_aload_n C dL_act_598 rfl ?_
                obtain ⟨q4, hq4, h⟩ := x_bind h
                obtain ⟨fo6, h⟩ := x_some1 h
                obtain ⟨_, hfo6⟩ := gob_some fo6
                refine g_callVN C dL_act_599 (List.mem_of_getElem? (i := 18) rfl) xy_X11_losing xi_X11_losing xs_X11_losing hfo6 ⟨_, _, rfl⟩ (by omega) (by decide) (av := []) rfl (Nat.le_of_ble_eq_true rfl) gle.rf (c_O_losing _ hq4) rfl ?_
                refine g_istore C dL_act_602 (by decide) ?_
                refine g_aload_n C dL_act_604 rfl ?_
                obtain ⟨q6, hq6, h⟩ := x_bind h
                obtain ⟨fo8, h⟩ := x_some1 h
                obtain ⟨_, hfo8⟩ := gob_some fo8
                refine g_callVN C dL_act_605 (List.mem_of_getElem? (i := 19) rfl) xy_X11_hang xi_X11_hang xs_X11_hang hfo8 ⟨_, _, rfl⟩ (by omega) (by decide) (av := []) rfl (Nat.le_of_ble_eq_true rfl) (le_O_hang hq6) (c_O_hang _ hq6) rfl ?_
                refine g_aload_n C dL_act_608 rfl ?_
                obtain ⟨q8, hq8, h⟩ := x_bind h
                refine g_callX C dL_act_609 (xin_40 _ (List.mem_of_getElem? (i := 5) rfl)) xy_X10_hangUp xi_X10_hangUp xs_X10_hangUp (by omega) (by decide) (b := 0) (ci := 11) rfl ⟨_, _, rfl⟩ (av := []) rfl (Nat.le_of_ble_eq_true rfl) (fun l => c_X_hangUp l _ q8.1 q8.2 hq8) rfl ?_
                refine g_iload C dL_act_612 rfl ?_
                refine g_icmp_ne C 621 dL_act_614 (by decide) h (fun h => ?_) (fun h => ?_)
                · refine g_iconst C dL_act_621 ?_
                  exact g_ireturn hR dL_act_622 (by cases h; exact ⟨rfl, rfl, rfl⟩)
                · refine g_iconst C dL_act_617 ?_
                  refine g_goto C 622 dL_act_618 (by decide) ?_
                  exact g_ireturn hR dL_act_622 (by cases h; exact ⟨rfl, rfl, rfl⟩)
              · refine g_iconst C dL_act_596 ?_
                exact g_ireturn hR dL_act_597 (by cases h; exact ⟨rfl, rfl, rfl⟩)
          · refine g_iload C dL_act_472 rfl ?_
            refine g_bipush C dL_act_474 (by decide) ?_
            refine g_icmp_ne C 483 dL_act_476 (by decide) h (fun h => ?_) (fun h => ?_)
            · refine g_iconst C dL_act_483 ?_
              refine g_loc [(0, .inr (.inr (some 0))), (2, .inr (.inr (some u))), (6, .inl q1)] ⟨rfl, rfl, rfl, trivial⟩ ?_
              exact t_L_act_484 hd9 C _ _ _ hR _ _ _ _ h
            · refine g_iconst C dL_act_479 ?_
              refine g_goto C 484 dL_act_480 (by decide) ?_
              refine g_loc [(0, .inr (.inr (some 0))), (2, .inr (.inr (some u))), (6, .inl q1)] ⟨rfl, rfl, rfl, trivial⟩ ?_
              exact t_L_act_484 hd9 C _ _ _ hR _ _ _ _ h
        · refine g_aload_n C dL_act_412 rfl ?_
          obtain ⟨q20, hq20, h⟩ := x_bind h
          refine g_getIN C dL_act_413 nF_31 hq20 ?_
          refine g_istore C dL_act_416 (by decide) ?_
          refine g_aload_n C dL_act_418 rfl ?_
          refine g_iload C dL_act_419 rfl ?_
          refine g_iconst C dL_act_421 ?_
          obtain ⟨q21, hq21, h⟩ := x_bind h
          refine g_callS C dL_act_422 (xin_34 _ (List.mem_of_getElem? (i := 11) rfl)) xy_L_most xt_L_most (by omega) (by decide) (av := [.inl (xishr v 4), .inl 3]) rfl (Nat.le_of_ble_eq_true rfl) gle.rf (c_L_most _ hq21) rfl ?_
          refine g_if_ne C 432 dL_act_425 (by decide) h (fun h => ?_) (fun h => ?_)
          · refine g_iconst C dL_act_432 ?_
            refine g_iload C dL_act_433 rfl ?_
            refine g_iconst C dL_act_435 ?_
            refine g_ishr C dL_act_436 ?_
            refine g_bipush C dL_act_437 (by decide) ?_
            obtain ⟨q22, hq22, h⟩ := x_bind h
            refine g_callS C dL_act_439 (xin_34 _ (List.mem_of_getElem? (i := 11) rfl)) xy_L_most xt_L_most (by omega) (by decide) (av := [.inl (xishr (xishr v 4) 2), .inl 9]) rfl (Nat.le_of_ble_eq_true rfl) gle.rf (c_L_most _ hq22) rfl ?_
            refine g_iadd C dL_act_442 ?_
            refine g_loc [(0, .inr (.inr (some 0))), (2, .inr (.inr (some u))), (7, .inl q20)] ⟨rfl, rfl, rfl, trivial⟩ ?_
            exact t_L_act_443 hd9 C _ _ _ hR _ _ _ _ _ h
          · refine g_iconst C dL_act_428 ?_
            refine g_goto C 443 dL_act_429 (by decide) ?_
            refine g_loc [(0, .inr (.inr (some 0))), (2, .inr (.inr (some u))), (7, .inl q20)] ⟨rfl, rfl, rfl, trivial⟩ ?_
            exact t_L_act_443 hd9 C _ _ _ hR _ _ _ _ _ h
      · refine g_iload C dL_act_224 rfl ?_
        refine g_iconst C dL_act_226 ?_
        refine g_ishr C dL_act_227 ?_
        refine g_iload C dL_act_228 rfl ?_
        refine g_iconst C dL_act_230 ?_
        refine g_ishr C dL_act_231 ?_
        refine g_iconst C dL_act_232 ?_
        obtain ⟨q26, hq26, h⟩ := x_bind h
        refine g_callS C dL_act_233 (xin_34 _ (List.mem_of_getElem? (i := 11) rfl)) xy_L_most xt_L_most (by omega) (by decide) (av := [.inl (xishr (xishr v 4) 4), .inl 3]) rfl (Nat.le_of_ble_eq_true rfl) gle.rf (c_L_most _ hq26) rfl ?_
        refine g_if_ne C 244 dL_act_236 (by decide) h (fun h => ?_) (fun h => ?_)
        · refine g_bipush C dL_act_244 (by decide) ?_
          refine g_loc [(0, .inr (.inr (some 0))), (1, .inr (.inr (some w))), (2, .inr (.inr (some u))), (5, .inl (xishr v 4)), (6, .inl q1)] ⟨rfl, rfl, rfl, rfl, rfl, trivial⟩ ?_
          exact t_L_act_246 hd9 C _ _ _ hR _ _ _ _ _ _ h
        · refine g_bipush C dL_act_239 (by decide) ?_
          refine g_goto C 246 dL_act_241 (by decide) ?_
          refine g_loc [(0, .inr (.inr (some 0))), (1, .inr (.inr (some w))), (2, .inr (.inr (some u))), (5, .inl (xishr v 4)), (6, .inl q1)] ⟨rfl, rfl, rfl, rfl, rfl, trivial⟩ ?_
          exact t_L_act_246 hd9 C _ _ _ hR _ _ _ _ _ _ h
    · refine g_aload_n C dL_act_116 rfl ?_
      obtain ⟨q41, hq41, h⟩ := x_bind h
      refine g_getIN C dL_act_117 nF_97 hq41 ?_
      refine g_if_eq C 138 dL_act_120 (by decide) h (fun h => ?_) (fun h => ?_)
      · refine g_aload_n C dL_act_138 rfl ?_
        refine g_iconst C dL_act_139 ?_
        obtain ⟨q42, hq42, h⟩ := x_bind h
        refine g_putIN C dL_act_140 nF_97 hq42 ?_
        refine g_aload_n C dL_act_143 rfl ?_
        refine g_iconst C dL_act_144 ?_
        obtain ⟨q43, hq43, h⟩ := x_bind h
        refine g_putIN C dL_act_145 nF_106 hq43 ?_
        refine g_aload_n C dL_act_148 rfl ?_
        refine g_aload_n C dL_act_149 rfl ?_
        obtain ⟨q44, hq44, h⟩ := x_bind h
        refine g_getKN C dL_act_150 nF_42 hq44 ?_
        refine g_iconst C dL_act_153 ?_
        obtain ⟨q45, hq45, h⟩ := x_bind h
        refine g_iaload C dL_act_154 hq45 ?_
        obtain ⟨q46, hq46, h⟩ := x_bind h
        refine g_putIN C dL_act_155 nF_109 hq46 ?_
        refine g_aload_n C dL_act_158 rfl ?_
        refine g_iconst C dL_act_159 ?_
        obtain ⟨q47, hq47, h⟩ := x_bind h
        refine g_putIN C dL_act_160 nF_112 hq47 ?_
        refine g_aload_n C dL_act_163 rfl ?_
        refine g_iconst C dL_act_164 ?_
        obtain ⟨q48, hq48, h⟩ := x_bind h
        refine g_newi C dL_act_165 (xin_1 _ (List.mem_of_getElem? (i := 3) rfl)) hq48 ?_
        obtain ⟨q49, hq49, h⟩ := x_bind h
        refine g_putRN C dL_act_167 nF_147 hq49 ?_
        refine g_aload_n C dL_act_170 rfl ?_
        refine g_iconst C dL_act_171 ?_
        obtain ⟨q50, hq50, h⟩ := x_bind h
        refine g_newi C dL_act_172 (xin_1 _ (List.mem_of_getElem? (i := 3) rfl)) hq50 ?_
        obtain ⟨q51, hq51, h⟩ := x_bind h
        refine g_putRN C dL_act_174 nF_150 hq51 ?_
        refine g_aload_n C dL_act_177 rfl ?_
        obtain ⟨q52, hq52, h⟩ := x_bind h
        refine g_callX C dL_act_178 (xin_17 _ (List.mem_of_getElem? (i := 13) rfl)) xy_X10_dial xi_X10_dial xs_X10_dial (by omega) (by decide) (b := 0) (ci := 11) rfl ⟨_, _, rfl⟩ (av := []) rfl (Nat.le_of_ble_eq_true rfl) (fun l => c_X_dial l _ q52.1 q52.2 hq52) rfl ?_
        refine g_aload_n C dL_act_181 rfl ?_
        obtain ⟨q53, hq53, h⟩ := x_bind h
        refine g_getKN C dL_act_182 nF_42 hq53 ?_
        refine g_iconst C dL_act_185 ?_
        obtain ⟨q54, hq54, h⟩ := x_bind h
        refine g_iaload C dL_act_186 hq54 ?_
        refine g_aload_n C dL_act_187 rfl ?_
        obtain ⟨q55, hq55, h⟩ := x_bind h
        refine g_getKN C dL_act_188 nF_42 hq55 ?_
        refine g_iconst C dL_act_191 ?_
        obtain ⟨q56, hq56, h⟩ := x_bind h
        refine g_iaload C dL_act_192 hq56 ?_
        refine g_iadd C dL_act_193 ?_
        refine g_aload_n C dL_act_194 rfl ?_
        obtain ⟨q57, hq57, h⟩ := x_bind h
        refine g_getKN C dL_act_195 nF_42 hq57 ?_
        refine g_iconst C dL_act_198 ?_
        obtain ⟨q58, hq58, h⟩ := x_bind h
        refine g_iaload C dL_act_199 hq58 ?_
        refine g_iadd C dL_act_200 ?_
        refine g_aload_n C dL_act_201 rfl ?_
        obtain ⟨q59, hq59, h⟩ := x_bind h
        refine g_getKN C dL_act_202 nF_42 hq59 ?_
        refine g_iconst C dL_act_205 ?_
        obtain ⟨q60, hq60, h⟩ := x_bind h
        refine g_iaload C dL_act_206 hq60 ?_
        refine g_iadd C dL_act_207 ?_
        refine g_icmp_ne C 215 dL_act_208 (by decide) h (fun h => ?_) (fun h => ?_)
        · refine g_iconst C dL_act_215 ?_
          exact g_ireturn hR dL_act_216 (by cases h; exact ⟨rfl, rfl, rfl⟩)
        · refine g_iconst C dL_act_211 ?_
          refine g_goto C 216 dL_act_212 (by decide) ?_
          exact g_ireturn hR dL_act_216 (by cases h; exact ⟨rfl, rfl, rfl⟩)
      · refine g_aload_n C dL_act_123 rfl ?_
        obtain ⟨q61, hq61, h⟩ := x_bind h
        refine g_callX C dL_act_124 (xin_17 _ (List.mem_of_getElem? (i := 13) rfl)) xy_X10_dial xi_X10_dial xs_X10_dial (by omega) (by decide) (b := 0) (ci := 11) rfl ⟨_, _, rfl⟩ (av := []) rfl (Nat.le_of_ble_eq_true rfl) (fun l => c_X_dial l _ q61.1 q61.2 hq61) rfl ?_
        refine g_bipush C dL_act_127 (by decide) ?_
        refine g_icmp_ne C 136 dL_act_129 (by decide) h (fun h => ?_) (fun h => ?_)
        · refine g_iconst C dL_act_136 ?_
          exact g_ireturn hR dL_act_137 (by cases h; exact ⟨rfl, rfl, rfl⟩)
        · refine g_iconst C dL_act_132 ?_
          refine g_goto C 137 dL_act_133 (by decide) ?_
          exact g_ireturn hR dL_act_137 (by cases h; exact ⟨rfl, rfl, rfl⟩)
  · refine g_iconst C dL_act_28 ?_
    refine g_iload C dL_act_29 rfl ?_
    refine g_iload C dL_act_31 rfl ?_
    refine g_iconst C dL_act_33 ?_
    refine g_ishr C dL_act_34 ?_
    refine g_iconst C dL_act_35 ?_
    obtain ⟨q62, hq62, h⟩ := x_bind h
    refine g_callS C dL_act_36 (xin_34 _ (List.mem_of_getElem? (i := 11) rfl)) xy_L_most xt_L_most (by omega) (by decide) (av := [.inl (xishr (xishr v 4) 3), .inl 4]) rfl (Nat.le_of_ble_eq_true rfl) gle.rf (c_L_most _ hq62) rfl ?_
    refine g_if_ne C 47 dL_act_39 (by decide) h (fun h => ?_) (fun h => ?_)
    · refine g_bipush C dL_act_47 (by decide) ?_
      refine g_loc [(0, .inr (.inr (some 0))), (2, .inr (.inr (some u)))] ⟨rfl, rfl, trivial⟩ ?_
      exact t_L_act_49 hd9 C _ _ _ hR _ _ _ _ _ h
    · refine g_bipush C dL_act_42 (by decide) ?_
      refine g_goto C 49 dL_act_44 (by decide) ?_
      refine g_loc [(0, .inr (.inr (some 0))), (2, .inr (.inr (some u)))] ⟨rfl, rfl, trivial⟩ ?_
      exact t_L_act_49 hd9 C _ _ _ hR _ _ _ _ _ h
theorem c_L_act {w : Nat} {u : Nat} {v : Int} {m m9 : xM} {r : Int} {hp h9 : gH} (h : f_L_act w u v m hp = some (r, m9, h9)) (l : Launch) : gMet l yL_act cL_act 11 (some .int) 9 lay_X [.inr (.inr (some 0)), .inr (.inr (some w)), .inr (.inr (some u)), .inl v] m hp (some (.inl r)) m9 h9 :=
  gMet_i (by decide +kernel) (Nat.le_of_ble_eq_true rfl) (fun P C hR => t_L_act (Nat.le_refl _) C _ _ _ hR m hp h)
theorem le_L_act {w : Nat} {u : Nat} {v : Int} {m m9 : xM} {r : Int} {hp h9 : gH} (h : f_L_act w u v m hp = some (r, m9, h9)) : gle hp h9 :=
  (t_L_act (P := fun _ => False) (Nat.le_refl _) (fun _ q => q.elim) _ _ _ (fun _ q => q.elim) m hp h).1

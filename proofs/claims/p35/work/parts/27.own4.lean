/-! ===== yX11_timer ===== -/
theorem dX11_timer_0 : decode cX11_timer 0 = .ok (.iconst 0, 1) := by decide +kernel
theorem dX11_timer_1 : decode cX11_timer 1 = .ok (.istore_n 2, 1) := by decide +kernel
theorem dX11_timer_2 : decode cX11_timer 2 = .ok (.iconst 1, 1) := by decide +kernel
theorem dX11_timer_3 : decode cX11_timer 3 = .ok (.istore_n 3, 1) := by decide +kernel
theorem dX11_timer_4 : decode cX11_timer 4 = .ok (.aload_n 0, 1) := by decide +kernel
theorem dX11_timer_5 : decode cX11_timer 5 = .ok (.getfield 67, 3) := by decide +kernel
theorem dX11_timer_8 : decode cX11_timer 8 = .ok (.iload_n 1, 1) := by decide +kernel
theorem dX11_timer_9 : decode cX11_timer 9 = .ok (.aaload, 1) := by decide +kernel
theorem dX11_timer_10 : decode cX11_timer 10 = .ok (.astore 4, 2) := by decide +kernel
theorem dX11_timer_12 : decode cX11_timer 12 = .ok (.aload 4, 2) := by decide +kernel
theorem dX11_timer_14 : decode cX11_timer 14 = .ok (.arraylength, 1) := by decide +kernel
theorem dX11_timer_15 : decode cX11_timer 15 = .ok (.istore 5, 2) := by decide +kernel
theorem dX11_timer_17 : decode cX11_timer 17 = .ok (.iconst 0, 1) := by decide +kernel
theorem dX11_timer_18 : decode cX11_timer 18 = .ok (.istore 6, 2) := by decide +kernel
theorem dX11_timer_20 : decode cX11_timer 20 = .ok (.iload 6, 2) := by decide +kernel
theorem dX11_timer_22 : decode cX11_timer 22 = .ok (.iload 5, 2) := by decide +kernel
theorem dX11_timer_24 : decode cX11_timer 24 = .ok (.if_icmp .ge 55, 3) := by decide +kernel
theorem dX11_timer_27 : decode cX11_timer 27 = .ok (.aload 4, 2) := by decide +kernel
theorem dX11_timer_29 : decode cX11_timer 29 = .ok (.iload 6, 2) := by decide +kernel
theorem dX11_timer_31 : decode cX11_timer 31 = .ok (.aaload, 1) := by decide +kernel
theorem dX11_timer_32 : decode cX11_timer 32 = .ok (.astore 7, 2) := by decide +kernel
theorem dX11_timer_34 : decode cX11_timer 34 = .ok (.aload 7, 2) := by decide +kernel
theorem dX11_timer_36 : decode cX11_timer 36 = .ok (.iconst 2, 1) := by decide +kernel
theorem dX11_timer_37 : decode cX11_timer 37 = .ok (.iaload, 1) := by decide +kernel
theorem dX11_timer_38 : decode cX11_timer 38 = .ok (.ifCond .ne 35, 3) := by decide +kernel
theorem dX11_timer_41 : decode cX11_timer 41 = .ok (.iload_n 2, 1) := by decide +kernel
theorem dX11_timer_42 : decode cX11_timer 42 = .ok (.iload_n 3, 1) := by decide +kernel
theorem dX11_timer_43 : decode cX11_timer 43 = .ok (.ifCond .eq 25, 3) := by decide +kernel
theorem dX11_timer_46 : decode cX11_timer 46 = .ok (.aload_n 0, 1) := by decide +kernel
theorem dX11_timer_47 : decode cX11_timer 47 = .ok (.getfield 78, 3) := by decide +kernel
theorem dX11_timer_50 : decode cX11_timer 50 = .ok (.aload 7, 2) := by decide +kernel
theorem dX11_timer_52 : decode cX11_timer 52 = .ok (.iconst 1, 1) := by decide +kernel
theorem dX11_timer_53 : decode cX11_timer 53 = .ok (.iaload, 1) := by decide +kernel
theorem dX11_timer_54 : decode cX11_timer 54 = .ok (.isub, 1) := by decide +kernel
theorem dX11_timer_55 : decode cX11_timer 55 = .ok (.aload_n 0, 1) := by decide +kernel
theorem dX11_timer_56 : decode cX11_timer 56 = .ok (.getfield 26, 3) := by decide +kernel
theorem dX11_timer_59 : decode cX11_timer 59 = .ok (.iconst 4, 1) := by decide +kernel
theorem dX11_timer_60 : decode cX11_timer 60 = .ok (.iaload, 1) := by decide +kernel
theorem dX11_timer_61 : decode cX11_timer 61 = .ok (.if_icmp .lt 7, 3) := by decide +kernel
theorem dX11_timer_64 : decode cX11_timer 64 = .ok (.iconst 1, 1) := by decide +kernel
theorem dX11_timer_65 : decode cX11_timer 65 = .ok (.goto 4, 3) := by decide +kernel
theorem dX11_timer_68 : decode cX11_timer 68 = .ok (.iconst 0, 1) := by decide +kernel
theorem dX11_timer_69 : decode cX11_timer 69 = .ok (.ior, 1) := by decide +kernel
theorem dX11_timer_70 : decode cX11_timer 70 = .ok (.istore_n 2, 1) := by decide +kernel
theorem dX11_timer_71 : decode cX11_timer 71 = .ok (.iconst 0, 1) := by decide +kernel
theorem dX11_timer_72 : decode cX11_timer 72 = .ok (.istore_n 3, 1) := by decide +kernel
theorem dX11_timer_73 : decode cX11_timer 73 = .ok (.iinc 6 1, 3) := by decide +kernel
theorem dX11_timer_76 : decode cX11_timer 76 = .ok (.goto (-56), 3) := by decide +kernel
theorem dX11_timer_79 : decode cX11_timer 79 = .ok (.iload_n 2, 1) := by decide +kernel
theorem dX11_timer_80 : decode cX11_timer 80 = .ok (.ifCond .ne 4, 3) := by decide +kernel
theorem dX11_timer_83 : decode cX11_timer 83 = .ok (.return_, 1) := by decide +kernel
theorem dX11_timer_84 : decode cX11_timer 84 = .ok (.aload_n 0, 1) := by decide +kernel
theorem dX11_timer_85 : decode cX11_timer 85 = .ok (.getfield 67, 3) := by decide +kernel
theorem dX11_timer_88 : decode cX11_timer 88 = .ok (.iload_n 1, 1) := by decide +kernel
theorem dX11_timer_89 : decode cX11_timer 89 = .ok (.aaload, 1) := by decide +kernel
theorem dX11_timer_90 : decode cX11_timer 90 = .ok (.astore 4, 2) := by decide +kernel
theorem dX11_timer_92 : decode cX11_timer 92 = .ok (.aload 4, 2) := by decide +kernel
theorem dX11_timer_94 : decode cX11_timer 94 = .ok (.arraylength, 1) := by decide +kernel
theorem dX11_timer_95 : decode cX11_timer 95 = .ok (.istore 5, 2) := by decide +kernel
theorem dX11_timer_97 : decode cX11_timer 97 = .ok (.iconst 0, 1) := by decide +kernel
theorem dX11_timer_98 : decode cX11_timer 98 = .ok (.istore 6, 2) := by decide +kernel
theorem dX11_timer_100 : decode cX11_timer 100 = .ok (.iload 6, 2) := by decide +kernel
theorem dX11_timer_102 : decode cX11_timer 102 = .ok (.iload 5, 2) := by decide +kernel
theorem dX11_timer_104 : decode cX11_timer 104 = .ok (.if_icmp .ge 21, 3) := by decide +kernel
theorem dX11_timer_107 : decode cX11_timer 107 = .ok (.aload 4, 2) := by decide +kernel
theorem dX11_timer_109 : decode cX11_timer 109 = .ok (.iload 6, 2) := by decide +kernel
theorem dX11_timer_111 : decode cX11_timer 111 = .ok (.aaload, 1) := by decide +kernel
theorem dX11_timer_112 : decode cX11_timer 112 = .ok (.astore 7, 2) := by decide +kernel
theorem dX11_timer_114 : decode cX11_timer 114 = .ok (.aload 7, 2) := by decide +kernel
theorem dX11_timer_116 : decode cX11_timer 116 = .ok (.iconst 2, 1) := by decide +kernel
theorem dX11_timer_117 : decode cX11_timer 117 = .ok (.iconst 1, 1) := by decide +kernel
theorem dX11_timer_118 : decode cX11_timer 118 = .ok (.iastore, 1) := by decide +kernel
theorem dX11_timer_119 : decode cX11_timer 119 = .ok (.iinc 6 1, 3) := by decide +kernel
theorem dX11_timer_122 : decode cX11_timer 122 = .ok (.goto (-22), 3) := by decide +kernel
theorem dX11_timer_125 : decode cX11_timer 125 = .ok (.aload_n 0, 1) := by decide +kernel
theorem dX11_timer_126 : decode cX11_timer 126 = .ok (.getfield 62, 3) := by decide +kernel
theorem dX11_timer_129 : decode cX11_timer 129 = .ok (.iload_n 1, 1) := by decide +kernel
theorem dX11_timer_130 : decode cX11_timer 130 = .ok (.iconst 1, 1) := by decide +kernel
theorem dX11_timer_131 : decode cX11_timer 131 = .ok (.bastore, 1) := by decide +kernel
theorem dX11_timer_132 : decode cX11_timer 132 = .ok (.aload_n 0, 1) := by decide +kernel
theorem dX11_timer_133 : decode cX11_timer 133 = .ok (.getfield 29, 3) := by decide +kernel
theorem dX11_timer_136 : decode cX11_timer 136 = .ok (.iconst 3, 1) := by decide +kernel
theorem dX11_timer_137 : decode cX11_timer 137 = .ok (.dup2, 1) := by decide +kernel
theorem dX11_timer_138 : decode cX11_timer 138 = .ok (.iaload, 1) := by decide +kernel
theorem dX11_timer_139 : decode cX11_timer 139 = .ok (.iconst 1, 1) := by decide +kernel
theorem dX11_timer_140 : decode cX11_timer 140 = .ok (.iadd, 1) := by decide +kernel
theorem dX11_timer_141 : decode cX11_timer 141 = .ok (.iastore, 1) := by decide +kernel
theorem dX11_timer_142 : decode cX11_timer 142 = .ok (.aload_n 0, 1) := by decide +kernel
theorem dX11_timer_143 : decode cX11_timer 143 = .ok (.dup, 1) := by decide +kernel
theorem dX11_timer_144 : decode cX11_timer 144 = .ok (.getfield 99, 3) := by decide +kernel
theorem dX11_timer_147 : decode cX11_timer 147 = .ok (.iconst 1, 1) := by decide +kernel
theorem dX11_timer_148 : decode cX11_timer 148 = .ok (.iadd, 1) := by decide +kernel
theorem dX11_timer_149 : decode cX11_timer 149 = .ok (.putfield 99, 3) := by decide +kernel
theorem dX11_timer_152 : decode cX11_timer 152 = .ok (.aload_n 0, 1) := by decide +kernel
theorem dX11_timer_153 : decode cX11_timer 153 = .ok (.iconst 0, 1) := by decide +kernel
theorem dX11_timer_154 : decode cX11_timer 154 = .ok (.putfield 102, 3) := by decide +kernel
theorem dX11_timer_157 : decode cX11_timer 157 = .ok (.aload_n 0, 1) := by decide +kernel
theorem dX11_timer_158 : decode cX11_timer 158 = .ok (.bipush 6, 2) := by decide +kernel
theorem dX11_timer_160 : decode cX11_timer 160 = .ok (.iload_n 1, 1) := by decide +kernel
theorem dX11_timer_161 : decode cX11_timer 161 = .ok (.invokevirtual 144, 3) := by decide +kernel
theorem dX11_timer_164 : decode cX11_timer 164 = .ok (.aload_n 0, 1) := by decide +kernel
theorem dX11_timer_165 : decode cX11_timer 165 = .ok (.getfield 99, 3) := by decide +kernel
theorem dX11_timer_168 : decode cX11_timer 168 = .ok (.aload_n 0, 1) := by decide +kernel
theorem dX11_timer_169 : decode cX11_timer 169 = .ok (.getfield 26, 3) := by decide +kernel
theorem dX11_timer_172 : decode cX11_timer 172 = .ok (.iconst 5, 1) := by decide +kernel
theorem dX11_timer_173 : decode cX11_timer 173 = .ok (.iaload, 1) := by decide +kernel
theorem dX11_timer_174 : decode cX11_timer 174 = .ok (.if_icmp .ge 4, 3) := by decide +kernel
theorem dX11_timer_177 : decode cX11_timer 177 = .ok (.return_, 1) := by decide +kernel
theorem dX11_timer_178 : decode cX11_timer 178 = .ok (.aload_n 0, 1) := by decide +kernel
theorem dX11_timer_179 : decode cX11_timer 179 = .ok (.getfield 84, 3) := by decide +kernel
theorem dX11_timer_182 : decode cX11_timer 182 = .ok (.ifCond .ne 8, 3) := by decide +kernel
theorem dX11_timer_185 : decode cX11_timer 185 = .ok (.aload_n 0, 1) := by decide +kernel
theorem dX11_timer_186 : decode cX11_timer 186 = .ok (.invokevirtual 155, 3) := by decide +kernel
theorem dX11_timer_189 : decode cX11_timer 189 = .ok (.return_, 1) := by decide +kernel
theorem dX11_timer_190 : decode cX11_timer 190 = .ok (.aload_n 0, 1) := by decide +kernel
theorem dX11_timer_191 : decode cX11_timer 191 = .ok (.dup, 1) := by decide +kernel
theorem dX11_timer_192 : decode cX11_timer 192 = .ok (.getfield 84, 3) := by decide +kernel
theorem dX11_timer_195 : decode cX11_timer 195 = .ok (.iconst 1, 1) := by decide +kernel
theorem dX11_timer_196 : decode cX11_timer 196 = .ok (.isub, 1) := by decide +kernel
theorem dX11_timer_197 : decode cX11_timer 197 = .ok (.putfield 84, 3) := by decide +kernel
theorem dX11_timer_200 : decode cX11_timer 200 = .ok (.aload_n 0, 1) := by decide +kernel
theorem dX11_timer_201 : decode cX11_timer 201 = .ok (.iconst 0, 1) := by decide +kernel
theorem dX11_timer_202 : decode cX11_timer 202 = .ok (.putfield 99, 3) := by decide +kernel
theorem dX11_timer_205 : decode cX11_timer 205 = .ok (.aload_n 0, 1) := by decide +kernel
theorem dX11_timer_206 : decode cX11_timer 206 = .ok (.getfield 29, 3) := by decide +kernel
theorem dX11_timer_209 : decode cX11_timer 209 = .ok (.iconst 4, 1) := by decide +kernel
theorem dX11_timer_210 : decode cX11_timer 210 = .ok (.dup2, 1) := by decide +kernel
theorem dX11_timer_211 : decode cX11_timer 211 = .ok (.iaload, 1) := by decide +kernel
theorem dX11_timer_212 : decode cX11_timer 212 = .ok (.iconst 1, 1) := by decide +kernel
theorem dX11_timer_213 : decode cX11_timer 213 = .ok (.iadd, 1) := by decide +kernel
theorem dX11_timer_214 : decode cX11_timer 214 = .ok (.iastore, 1) := by decide +kernel
theorem dX11_timer_215 : decode cX11_timer 215 = .ok (.aload_n 0, 1) := by decide +kernel
theorem dX11_timer_216 : decode cX11_timer 216 = .ok (.iconst 2, 1) := by decide +kernel
theorem dX11_timer_217 : decode cX11_timer 217 = .ok (.iconst (-1), 1) := by decide +kernel
theorem dX11_timer_218 : decode cX11_timer 218 = .ok (.invokevirtual 144, 3) := by decide +kernel
theorem dX11_timer_221 : decode cX11_timer 221 = .ok (.return_, 1) := by decide +kernel
def f_O_timer_125 (o : Nat) (e : Int) (hp : gH) : Option (gH) :=
     (Option.bind (gfK hp o 27) fun q6 =>
      (Option.bind (gsN 3 hp q6 e 1) fun q7 =>
      (Option.bind (gfK q7 o 17) fun q8 =>
      (Option.bind (gaN 0 q7 q8 3) fun q9 =>
      (Option.bind (gsN 0 q7 q8 3 (q9 + 1)) fun q10 =>
      (Option.bind (gfI q10 o 8) fun q11 =>
      (Option.bind (gpt q10 o 8 (.inl (q11 + 1))) fun q12 =>
      (Option.bind (gpt q12 o 9 (.inl 0)) fun q13 =>
      (Option.bind (f_O_tell o 6 e q13) fun q14 =>
      (if gob q13 o = true then (Option.bind (gfI q14 o 8) fun q16 =>
      (Option.bind (gfK q14 o 16) fun q17 =>
      (Option.bind (gaN 0 q14 q17 5) fun q18 =>
      (if xw q16 < xw q18 then some q14
      else (Option.bind (gfI q14 o 3) fun q19 =>
      (if xw q19 = 0 then (Option.bind (f_O_hang o q14) fun q28 =>
      (if gob q14 o = true then some q28
      else none))
      else (Option.bind (gfI q14 o 3) fun q20 =>
      (Option.bind (gpt q14 o 3 (.inl (q20 - 1))) fun q21 =>
      (Option.bind (gpt q21 o 8 (.inl 0)) fun q22 =>
      (Option.bind (gfK q22 o 17) fun q23 =>
      (Option.bind (gaN 0 q22 q23 4) fun q24 =>
      (Option.bind (gsN 0 q22 q23 4 (q24 + 1)) fun q25 =>
      (Option.bind (f_O_tell o 2 (-1) q25) fun q26 =>
      (if gob q25 o = true then some q26
      else none))))))))))))))
      else none))))))))))
set_option maxRecDepth 1000000 in
set_option maxHeartbeats 4000000 in
theorem t_O_timer_125 {P : gG → Prop} {d : Nat} {m : xM} {h9 : gH} (hd9 : 3 ≤ d) (C : ∀ Γ, P Γ → gX Γ lay_X RX11 cX11_timer 8 d h9) (o : Nat) (e : Int) (hR : ∀ Γ, P Γ → gRv Γ lay_X cX11_timer m h9) (hp : gH) (h : f_O_timer_125 o e hp = some h9) : gJ P lay_X 8 125 [(0, .inr (.inr (some o))), (1, .inl e)] [] m hp h9 := by
  unfold f_O_timer_125 at h
  refine g_aload_n C dX11_timer_125 rfl ?_
  obtain ⟨q6, hq6, h⟩ := x_bind h
  refine g_getK C dX11_timer_126 fF_X11_62 hq6 ?_
  refine g_iload_n C dX11_timer_129 rfl ?_
  refine g_iconst C dX11_timer_130 ?_
  obtain ⟨q7, hq7, h⟩ := x_bind h
  refine g_bastore C dX11_timer_131 (by decide) hq7 ?_
  refine g_aload_n C dX11_timer_132 rfl ?_
  obtain ⟨q8, hq8, h⟩ := x_bind h
  refine g_getK C dX11_timer_133 fF_X11_29 hq8 ?_
  refine g_iconst C dX11_timer_136 ?_
  refine g_dup2 C dX11_timer_137 rfl rfl ?_
  obtain ⟨q9, hq9, h⟩ := x_bind h
  refine g_iaload C dX11_timer_138 hq9 ?_
  refine g_iconst C dX11_timer_139 ?_
  refine g_iadd C dX11_timer_140 ?_
  obtain ⟨q10, hq10, h⟩ := x_bind h
  refine g_iastore C dX11_timer_141 hq10 ?_
  refine g_aload_n C dX11_timer_142 rfl ?_
  refine g_dup C dX11_timer_143 rfl ?_
  obtain ⟨q11, hq11, h⟩ := x_bind h
  refine g_getI C dX11_timer_144 fF_X11_99 hq11 ?_
  refine g_iconst C dX11_timer_147 ?_
  refine g_iadd C dX11_timer_148 ?_
  obtain ⟨q12, hq12, h⟩ := x_bind h
  refine g_putI C dX11_timer_149 fF_X11_99 hq12 ?_
  refine g_aload_n C dX11_timer_152 rfl ?_
  refine g_iconst C dX11_timer_153 ?_
  obtain ⟨q13, hq13, h⟩ := x_bind h
  refine g_putI C dX11_timer_154 fF_X11_102 hq13 ?_
  refine g_aload_n C dX11_timer_157 rfl ?_
  refine g_bipush C dX11_timer_158 (by decide) ?_
  refine g_iload_n C dX11_timer_160 rfl ?_
  obtain ⟨q14, hq14, h⟩ := x_bind h
  obtain ⟨fo16, h⟩ := x_some1 h
  obtain ⟨_, hfo16⟩ := gob_some fo16
  refine g_callV C dX11_timer_161 (xin_36 _ (List.mem_of_getElem? (i := 19) rfl)) xy_X11_tell xi_X11_tell xs_X11_tell hfo16 ⟨_, _, rfl⟩ (by omega) (by decide) (av := [.inl 6, .inl e]) rfl (Nat.le_of_ble_eq_true rfl) (le_O_tell hq14) (c_O_tell _ hq14) rfl ?_
  refine g_aload_n C dX11_timer_164 rfl ?_
  obtain ⟨q16, hq16, h⟩ := x_bind h
  refine g_getI C dX11_timer_165 fF_X11_99 hq16 ?_
  refine g_aload_n C dX11_timer_168 rfl ?_
  obtain ⟨q17, hq17, h⟩ := x_bind h
  refine g_getK C dX11_timer_169 fF_X11_26 hq17 ?_
  refine g_iconst C dX11_timer_172 ?_
  obtain ⟨q18, hq18, h⟩ := x_bind h
  refine g_iaload C dX11_timer_173 hq18 ?_
  refine g_icmp_ge C 178 dX11_timer_174 (by decide) h (fun h => ?_) (fun h => ?_)
  · refine g_aload_n C dX11_timer_178 rfl ?_
    obtain ⟨q19, hq19, h⟩ := x_bind h
    refine g_getI C dX11_timer_179 fF_X11_84 hq19 ?_
    refine g_if_ne C 190 dX11_timer_182 (by decide) h (fun h => ?_) (fun h => ?_)
    · refine g_aload_n C dX11_timer_190 rfl ?_
      refine g_dup C dX11_timer_191 rfl ?_
      obtain ⟨q20, hq20, h⟩ := x_bind h
      refine g_getI C dX11_timer_192 fF_X11_84 hq20 ?_
      refine g_iconst C dX11_timer_195 ?_
      refine g_isub C dX11_timer_196 ?_
      obtain ⟨q21, hq21, h⟩ := x_bind h
      refine g_putI C dX11_timer_197 fF_X11_84 hq21 ?_
      refine g_aload_n C dX11_timer_200 rfl ?_
      refine g_iconst C dX11_timer_201 ?_
      obtain ⟨q22, hq22, h⟩ := x_bind h
      refine g_putI C dX11_timer_202 fF_X11_99 hq22 ?_
      refine g_aload_n C dX11_timer_205 rfl ?_
      obtain ⟨q23, hq23, h⟩ := x_bind h
      refine g_getK C dX11_timer_206 fF_X11_29 hq23 ?_
      refine g_iconst C dX11_timer_209 ?_
      refine g_dup2 C dX11_timer_210 rfl rfl ?_
      obtain ⟨q24, hq24, h⟩ := x_bind h
      refine g_iaload C dX11_timer_211 hq24 ?_
      refine g_iconst C dX11_timer_212 ?_
      refine g_iadd C dX11_timer_213 ?_
      obtain ⟨q25, hq25, h⟩ := x_bind h
      refine g_iastore C dX11_timer_214 hq25 ?_
      refine g_aload_n C dX11_timer_215 rfl ?_
      refine g_iconst C dX11_timer_216 ?_
      refine g_iconst C dX11_timer_217 ?_
      obtain ⟨q26, hq26, h⟩ := x_bind h
      obtain ⟨fo28, h⟩ := x_some1 h
      obtain ⟨_, hfo28⟩ := gob_some fo28
      refine g_callV C dX11_timer_218 (xin_36 _ (List.mem_of_getElem? (i := 19) rfl)) xy_X11_tell xi_X11_tell xs_X11_tell hfo28 ⟨_, _, rfl⟩ (by omega) (by decide) (av := [.inl 2, .inl (-1)]) rfl (Nat.le_of_ble_eq_true rfl) (le_O_tell hq26) (c_O_tell _ hq26) rfl ?_
      exact g_return hR dX11_timer_221 (by cases h; exact ⟨rfl, rfl⟩)
    · refine g_aload_n C dX11_timer_185 rfl ?_
      obtain ⟨q28, hq28, h⟩ := x_bind h
      obtain ⟨fo30, h⟩ := x_some1 h
      obtain ⟨_, hfo30⟩ := gob_some fo30
      refine g_callV C dX11_timer_186 (xin_36 _ (List.mem_of_getElem? (i := 14) rfl)) xy_X11_hang xi_X11_hang xs_X11_hang hfo30 ⟨_, _, rfl⟩ (by omega) (by decide) (av := []) rfl (Nat.le_of_ble_eq_true rfl) (le_O_hang hq28) (c_O_hang _ hq28) rfl ?_
      exact g_return hR dX11_timer_189 (by cases h; exact ⟨rfl, rfl⟩)
  · exact g_return hR dX11_timer_177 (by cases h; exact ⟨rfl, rfl⟩)
def f_O_timer_100 (o : Nat) (e : Int) : Nat → Nat → Int → Int → gH → Option (gH)
  | 0, _, _, _, _ => none
  | n + 1, x4, x5, x6, hp =>
     (if xw x6 < xw x5 then (Option.bind (gaK 4 hp x4 x6) fun q30 =>
      (Option.bind (gsN 0 hp q30 2 1) fun q31 =>
      f_O_timer_100 o e n x4 x5 (x6 + 1) q31))
      else f_O_timer_125 o e hp)
set_option maxRecDepth 1000000 in
set_option maxHeartbeats 4000000 in
theorem t_O_timer_100 {P : gG → Prop} {d : Nat} {m : xM} {h9 : gH} (hd9 : 3 ≤ d) (C : ∀ Γ, P Γ → gX Γ lay_X RX11 cX11_timer 8 d h9) (o : Nat) (e : Int) (hR : ∀ Γ, P Γ → gRv Γ lay_X cX11_timer m h9) : ∀ (n : Nat) (x4 : Nat) (x5 : Int) (x6 : Int) (hp : gH), f_O_timer_100 o e n x4 x5 x6 hp = some h9 → gJ P lay_X 8 100 [(0, .inr (.inr (some o))), (1, .inl e), (4, .inr (.inr (some x4))), (5, .inl x5), (6, .inl x6)] [] m hp h9 := by
  intro n
  induction n with
  | zero => intro _ _ _ _ h; cases h
  | succ n ih =>
    intro x4 x5 x6 hp h
    rw [f_O_timer_100] at h
    refine g_iload C dX11_timer_100 rfl ?_
    refine g_iload C dX11_timer_102 rfl ?_
    refine g_icmp_ge C 125 dX11_timer_104 (by decide) h (fun h => ?_) (fun h => ?_)
    · refine g_loc [(0, .inr (.inr (some o))), (1, .inl e)] ⟨rfl, rfl, trivial⟩ ?_
      exact t_O_timer_125 hd9 C _ _ hR _ h
    · refine g_aload C dX11_timer_107 rfl ?_
      refine g_iload C dX11_timer_109 rfl ?_
      obtain ⟨q30, hq30, h⟩ := x_bind h
      refine g_aaloadK4 C dX11_timer_111 hq30 ?_
      refine g_astore C dX11_timer_112 (by decide) ?_
      refine g_aload C dX11_timer_114 rfl ?_
      refine g_iconst C dX11_timer_116 ?_
      refine g_iconst C dX11_timer_117 ?_
      obtain ⟨q31, hq31, h⟩ := x_bind h
      refine g_iastore C dX11_timer_118 hq31 ?_
      refine g_iinc C dX11_timer_119 (by decide) rfl ?_
      refine g_goto C 100 dX11_timer_122 (by decide) ?_
      refine g_loc [(0, .inr (.inr (some o))), (1, .inl e), (4, .inr (.inr (some x4))), (5, .inl x5), (6, .inl (x6 + 1))] ⟨rfl, rfl, rfl, rfl, rfl, trivial⟩ ?_
      exact ih _ _ _ _ h
def f_O_timer_79 (o : Nat) (e : Int) (x2 : Int) (hp : gH) : Option (gH) :=
     (if xw x2 = 0 then some hp
      else (Option.bind (gfK hp o 28) fun q3 =>
      (Option.bind (gaK 5 hp q3 e) fun q4 =>
      (Option.bind (glc hp q4) fun q5 =>
      f_O_timer_100 o e fu q4 q5 0 hp))))
set_option maxRecDepth 1000000 in
set_option maxHeartbeats 4000000 in
theorem t_O_timer_79 {P : gG → Prop} {d : Nat} {m : xM} {h9 : gH} (hd9 : 3 ≤ d) (C : ∀ Γ, P Γ → gX Γ lay_X RX11 cX11_timer 8 d h9) (o : Nat) (e : Int) (hR : ∀ Γ, P Γ → gRv Γ lay_X cX11_timer m h9) (x2 : Int) (hp : gH) (h : f_O_timer_79 o e x2 hp = some h9) : gJ P lay_X 8 79 [(0, .inr (.inr (some o))), (1, .inl e), (2, .inl x2)] [] m hp h9 := by
  unfold f_O_timer_79 at h
  refine g_iload_n C dX11_timer_79 rfl ?_
  refine g_if_ne C 84 dX11_timer_80 (by decide) h (fun h => ?_) (fun h => ?_)
  · refine g_aload_n C dX11_timer_84 rfl ?_
    obtain ⟨q3, hq3, h⟩ := x_bind h
    refine g_getK C dX11_timer_85 fF_X11_67 hq3 ?_
    refine g_iload_n C dX11_timer_88 rfl ?_
    obtain ⟨q4, hq4, h⟩ := x_bind h
    refine g_aaloadK5 C dX11_timer_89 hq4 ?_
    refine g_astore C dX11_timer_90 (by decide) ?_
    refine g_aload C dX11_timer_92 rfl ?_
    obtain ⟨q5, hq5, h⟩ := x_bind h
    refine g_lenC C dX11_timer_94 hq5 ?_
    refine g_istore C dX11_timer_95 (by decide) ?_
    refine g_iconst C dX11_timer_97 ?_
    refine g_istore C dX11_timer_98 (by decide) ?_
    refine g_loc [(0, .inr (.inr (some o))), (1, .inl e), (4, .inr (.inr (some q4))), (5, .inl q5), (6, .inl 0)] ⟨rfl, rfl, rfl, rfl, rfl, trivial⟩ ?_
    exact t_O_timer_100 hd9 C _ _ hR fu _ _ _ _ h
  · exact g_return hR dX11_timer_83 (by cases h; exact ⟨rfl, rfl⟩)
def f_O_timer_73 (o : Nat) (e : Int) (k20 : Int → Int → Nat → Int → Int → gH → Option (gH)) (x2 : Int) (x3 : Int) (x4 : Nat) (x5 : Int) (x6 : Int) (hp : gH) : Option (gH) :=
     k20 x2 x3 x4 x5 (x6 + 1) hp
set_option maxRecDepth 1000000 in
set_option maxHeartbeats 4000000 in
theorem t_O_timer_73 {P : gG → Prop} {d : Nat} {m : xM} {h9 : gH} (hd9 : 3 ≤ d) (C : ∀ Γ, P Γ → gX Γ lay_X RX11 cX11_timer 8 d h9) (o : Nat) (e : Int) (hR : ∀ Γ, P Γ → gRv Γ lay_X cX11_timer m h9) {k20 : Int → Int → Nat → Int → Int → gH → Option (gH)} (hk20 : ∀ (x2 : Int) (x3 : Int) (x4 : Nat) (x5 : Int) (x6 : Int) (hp : gH), k20 x2 x3 x4 x5 x6 hp = some h9 → gJ P lay_X 8 20 [(0, .inr (.inr (some o))), (1, .inl e), (2, .inl x2), (3, .inl x3), (4, .inr (.inr (some x4))), (5, .inl x5), (6, .inl x6)] [] m hp h9) (x2 : Int) (x3 : Int) (x4 : Nat) (x5 : Int) (x6 : Int) (hp : gH) (h : f_O_timer_73 o e k20 x2 x3 x4 x5 x6 hp = some h9) : gJ P lay_X 8 73 [(0, .inr (.inr (some o))), (1, .inl e), (2, .inl x2), (3, .inl x3), (4, .inr (.inr (some x4))), (5, .inl x5), (6, .inl x6)] [] m hp h9 := by
  unfold f_O_timer_73 at h
  refine g_iinc C dX11_timer_73 (by decide) rfl ?_
  refine g_goto C 20 dX11_timer_76 (by decide) ?_
  refine g_loc [(0, .inr (.inr (some o))), (1, .inl e), (2, .inl x2), (3, .inl x3), (4, .inr (.inr (some x4))), (5, .inl x5), (6, .inl (x6 + 1))] ⟨rfl, rfl, rfl, rfl, rfl, rfl, rfl, trivial⟩ ?_
  exact hk20 _ _ _ _ _ _ h
def f_O_timer_69 (o : Nat) (e : Int) (k20 : Int → Int → Nat → Int → Int → gH → Option (gH)) (x4 : Nat) (x5 : Int) (x6 : Int) (s0 : Int) (s1 : Int) (hp : gH) : Option (gH) :=
     f_O_timer_73 o e k20 (xior s1 s0) 0 x4 x5 x6 hp
set_option maxRecDepth 1000000 in
set_option maxHeartbeats 4000000 in
theorem t_O_timer_69 {P : gG → Prop} {d : Nat} {m : xM} {h9 : gH} (hd9 : 3 ≤ d) (C : ∀ Γ, P Γ → gX Γ lay_X RX11 cX11_timer 8 d h9) (o : Nat) (e : Int) (hR : ∀ Γ, P Γ → gRv Γ lay_X cX11_timer m h9) {k20 : Int → Int → Nat → Int → Int → gH → Option (gH)} (hk20 : ∀ (x2 : Int) (x3 : Int) (x4 : Nat) (x5 : Int) (x6 : Int) (hp : gH), k20 x2 x3 x4 x5 x6 hp = some h9 → gJ P lay_X 8 20 [(0, .inr (.inr (some o))), (1, .inl e), (2, .inl x2), (3, .inl x3), (4, .inr (.inr (some x4))), (5, .inl x5), (6, .inl x6)] [] m hp h9) (x4 : Nat) (x5 : Int) (x6 : Int) (s0 : Int) (s1 : Int) (hp : gH) (h : f_O_timer_69 o e k20 x4 x5 x6 s0 s1 hp = some h9) : gJ P lay_X 8 69 [(0, .inr (.inr (some o))), (1, .inl e), (4, .inr (.inr (some x4))), (5, .inl x5), (6, .inl x6)] [.inl s0, .inl s1] m hp h9 := by
  unfold f_O_timer_69 at h
  refine g_ior C dX11_timer_69 ?_
  refine g_istore_n C dX11_timer_70 (by decide) ?_
  refine g_iconst C dX11_timer_71 ?_
  refine g_istore_n C dX11_timer_72 (by decide) ?_
  refine g_loc [(0, .inr (.inr (some o))), (1, .inl e), (2, .inl (xior s1 s0)), (3, .inl 0), (4, .inr (.inr (some x4))), (5, .inl x5), (6, .inl x6)] ⟨rfl, rfl, rfl, rfl, rfl, rfl, rfl, trivial⟩ ?_
  exact t_O_timer_73 hd9 C _ _ hR hk20 _ _ _ _ _ _ h
def f_O_timer_68 (o : Nat) (e : Int) (k20 : Int → Int → Nat → Int → Int → gH → Option (gH)) (x4 : Nat) (x5 : Int) (x6 : Int) (s0 : Int) (hp : gH) : Option (gH) :=
     f_O_timer_69 o e k20 x4 x5 x6 0 s0 hp
set_option maxRecDepth 1000000 in
set_option maxHeartbeats 4000000 in
theorem t_O_timer_68 {P : gG → Prop} {d : Nat} {m : xM} {h9 : gH} (hd9 : 3 ≤ d) (C : ∀ Γ, P Γ → gX Γ lay_X RX11 cX11_timer 8 d h9) (o : Nat) (e : Int) (hR : ∀ Γ, P Γ → gRv Γ lay_X cX11_timer m h9) {k20 : Int → Int → Nat → Int → Int → gH → Option (gH)} (hk20 : ∀ (x2 : Int) (x3 : Int) (x4 : Nat) (x5 : Int) (x6 : Int) (hp : gH), k20 x2 x3 x4 x5 x6 hp = some h9 → gJ P lay_X 8 20 [(0, .inr (.inr (some o))), (1, .inl e), (2, .inl x2), (3, .inl x3), (4, .inr (.inr (some x4))), (5, .inl x5), (6, .inl x6)] [] m hp h9) (x4 : Nat) (x5 : Int) (x6 : Int) (s0 : Int) (hp : gH) (h : f_O_timer_68 o e k20 x4 x5 x6 s0 hp = some h9) : gJ P lay_X 8 68 [(0, .inr (.inr (some o))), (1, .inl e), (4, .inr (.inr (some x4))), (5, .inl x5), (6, .inl x6)] [.inl s0] m hp h9 := by
  unfold f_O_timer_68 at h
  refine g_iconst C dX11_timer_68 ?_
  refine g_loc [(0, .inr (.inr (some o))), (1, .inl e), (4, .inr (.inr (some x4))), (5, .inl x5), (6, .inl x6)] ⟨rfl, rfl, rfl, rfl, rfl, trivial⟩ ?_
  exact t_O_timer_69 hd9 C _ _ hR hk20 _ _ _ _ _ _ h
def f_O_timer_20 (o : Nat) (e : Int) : Nat → Int → Int → Nat → Int → Int → gH → Option (gH)
  | 0, _, _, _, _, _, _ => none
  | n + 1, x2, x3, x4, x5, x6, hp =>
     (if xw x6 < xw x5 then (Option.bind (gaK 4 hp x4 x6) fun q32 =>
      (Option.bind (gaN 0 hp q32 2) fun q33 =>
      (if xw q33 = 0 then (if xw x3 = 0 then f_O_timer_68 o e (f_O_timer_20 o e n) x4 x5 x6 x2 hp
      else (Option.bind (gfI hp o 0) fun q34 =>
      (Option.bind (gaN 0 hp q32 1) fun q35 =>
      (Option.bind (gfK hp o 16) fun q36 =>
      (Option.bind (gaN 0 hp q36 4) fun q37 =>
      (if xw (q34 - q35) < xw q37 then f_O_timer_68 o e (f_O_timer_20 o e n) x4 x5 x6 x2 hp
      else f_O_timer_69 o e (f_O_timer_20 o e n) x4 x5 x6 1 x2 hp))))))
      else f_O_timer_73 o e (f_O_timer_20 o e n) x2 x3 x4 x5 x6 hp)))
      else f_O_timer_79 o e x2 hp)
set_option maxRecDepth 1000000 in
set_option maxHeartbeats 4000000 in
theorem t_O_timer_20 {P : gG → Prop} {d : Nat} {m : xM} {h9 : gH} (hd9 : 3 ≤ d) (C : ∀ Γ, P Γ → gX Γ lay_X RX11 cX11_timer 8 d h9) (o : Nat) (e : Int) (hR : ∀ Γ, P Γ → gRv Γ lay_X cX11_timer m h9) : ∀ (n : Nat) (x2 : Int) (x3 : Int) (x4 : Nat) (x5 : Int) (x6 : Int) (hp : gH), f_O_timer_20 o e n x2 x3 x4 x5 x6 hp = some h9 → gJ P lay_X 8 20 [(0, .inr (.inr (some o))), (1, .inl e), (2, .inl x2), (3, .inl x3), (4, .inr (.inr (some x4))), (5, .inl x5), (6, .inl x6)] [] m hp h9 := by
  intro n
  induction n with
  | zero => intro _ _ _ _ _ _ h; cases h
  | succ n ih =>
    intro x2 x3 x4 x5 x6 hp h
    rw [f_O_timer_20] at h
    refine g_iload C dX11_timer_20 rfl ?_
    refine g_iload C dX11_timer_22 rfl ?_
    refine g_icmp_ge C 79 dX11_timer_24 (by decide) h (fun h => ?_) (fun h => ?_)
    · refine g_loc [(0, .inr (.inr (some o))), (1, .inl e), (2, .inl x2)] ⟨rfl, rfl, rfl, trivial⟩ ?_
      exact t_O_timer_79 hd9 C _ _ hR _ _ h
    · refine g_aload C dX11_timer_27 rfl ?_
      refine g_iload C dX11_timer_29 rfl ?_
      obtain ⟨q32, hq32, h⟩ := x_bind h
      refine g_aaloadK4 C dX11_timer_31 hq32 ?_
      refine g_astore C dX11_timer_32 (by decide) ?_
      refine g_aload C dX11_timer_34 rfl ?_
      refine g_iconst C dX11_timer_36 ?_
      obtain ⟨q33, hq33, h⟩ := x_bind h
      refine g_iaload C dX11_timer_37 hq33 ?_
      refine g_if_ne C 73 dX11_timer_38 (by decide) h (fun h => ?_) (fun h => ?_)
      · refine g_loc [(0, .inr (.inr (some o))), (1, .inl e), (2, .inl x2), (3, .inl x3), (4, .inr (.inr (some x4))), (5, .inl x5), (6, .inl x6)] ⟨rfl, rfl, rfl, rfl, rfl, rfl, rfl, trivial⟩ ?_
        exact t_O_timer_73 hd9 C _ _ hR ih _ _ _ _ _ _ h
      · refine g_iload_n C dX11_timer_41 rfl ?_
        refine g_iload_n C dX11_timer_42 rfl ?_
        refine g_if_eq C 68 dX11_timer_43 (by decide) h (fun h => ?_) (fun h => ?_)
        · refine g_loc [(0, .inr (.inr (some o))), (1, .inl e), (4, .inr (.inr (some x4))), (5, .inl x5), (6, .inl x6)] ⟨rfl, rfl, rfl, rfl, rfl, trivial⟩ ?_
          exact t_O_timer_68 hd9 C _ _ hR ih _ _ _ _ _ h
        · refine g_aload_n C dX11_timer_46 rfl ?_
          obtain ⟨q34, hq34, h⟩ := x_bind h
          refine g_getI C dX11_timer_47 fF_X11_78 hq34 ?_
          refine g_aload C dX11_timer_50 rfl ?_
          refine g_iconst C dX11_timer_52 ?_
          obtain ⟨q35, hq35, h⟩ := x_bind h
          refine g_iaload C dX11_timer_53 hq35 ?_
          refine g_isub C dX11_timer_54 ?_
          refine g_aload_n C dX11_timer_55 rfl ?_
          obtain ⟨q36, hq36, h⟩ := x_bind h
          refine g_getK C dX11_timer_56 fF_X11_26 hq36 ?_
          refine g_iconst C dX11_timer_59 ?_
          obtain ⟨q37, hq37, h⟩ := x_bind h
          refine g_iaload C dX11_timer_60 hq37 ?_
          refine g_icmp_lt C 68 dX11_timer_61 (by decide) h (fun h => ?_) (fun h => ?_)
          · refine g_loc [(0, .inr (.inr (some o))), (1, .inl e), (4, .inr (.inr (some x4))), (5, .inl x5), (6, .inl x6)] ⟨rfl, rfl, rfl, rfl, rfl, trivial⟩ ?_
            exact t_O_timer_68 hd9 C _ _ hR ih _ _ _ _ _ h
          · refine g_iconst C dX11_timer_64 ?_
            refine g_goto C 69 dX11_timer_65 (by decide) ?_
            refine g_loc [(0, .inr (.inr (some o))), (1, .inl e), (4, .inr (.inr (some x4))), (5, .inl x5), (6, .inl x6)] ⟨rfl, rfl, rfl, rfl, rfl, trivial⟩ ?_
            exact t_O_timer_69 hd9 C _ _ hR ih _ _ _ _ _ _ h
def f_O_timer (o : Nat) (e : Int) (hp : gH) : Option (gH) :=
     (Option.bind (gfK hp o 28) fun q0 =>
      (Option.bind (gaK 5 hp q0 e) fun q1 =>
      (Option.bind (glc hp q1) fun q2 =>
      f_O_timer_20 o e fu 0 1 q1 q2 0 hp)))
set_option maxRecDepth 1000000 in
set_option maxHeartbeats 4000000 in
theorem t_O_timer {P : gG → Prop} {d : Nat} {m : xM} {h9 : gH} (hd9 : 3 ≤ d) (C : ∀ Γ, P Γ → gX Γ lay_X RX11 cX11_timer 8 d h9) (o : Nat) (e : Int) (hR : ∀ Γ, P Γ → gRv Γ lay_X cX11_timer m h9) (hp : gH) (h : f_O_timer o e hp = some h9) : gJ P lay_X 8 0 [(0, .inr (.inr (some o))), (1, .inl e)] [] m hp h9 := by
  unfold f_O_timer at h
  refine g_iconst C dX11_timer_0 ?_
  refine g_istore_n C dX11_timer_1 (by decide) ?_
  refine g_iconst C dX11_timer_2 ?_
  refine g_istore_n C dX11_timer_3 (by decide) ?_
  refine g_aload_n C dX11_timer_4 rfl ?_
  obtain ⟨q0, hq0, h⟩ := x_bind h
  refine g_getK C dX11_timer_5 fF_X11_67 hq0 ?_
  refine g_iload_n C dX11_timer_8 rfl ?_
  obtain ⟨q1, hq1, h⟩ := x_bind h
  refine g_aaloadK5 C dX11_timer_9 hq1 ?_
  refine g_astore C dX11_timer_10 (by decide) ?_
  refine g_aload C dX11_timer_12 rfl ?_
  obtain ⟨q2, hq2, h⟩ := x_bind h
  refine g_lenC C dX11_timer_14 hq2 ?_
  refine g_istore C dX11_timer_15 (by decide) ?_
  refine g_iconst C dX11_timer_17 ?_
  refine g_istore C dX11_timer_18 (by decide) ?_
  refine g_loc [(0, .inr (.inr (some o))), (1, .inl e), (2, .inl 0), (3, .inl 1), (4, .inr (.inr (some q1))), (5, .inl q2), (6, .inl 0)] ⟨rfl, rfl, rfl, rfl, rfl, rfl, rfl, trivial⟩ ?_
  exact t_O_timer_20 hd9 C _ _ hR fu _ _ _ _ _ _ h
theorem c_O_timer {o : Nat} {e : Int} (m : xM) {hp h9 : gH} (h : f_O_timer o e hp = some h9) (l : Launch) : gMet l yX11_timer cX11_timer 8 none 3 lay_X [.inr (.inr (some o)), .inl e] m hp none m h9 :=
  gMet_v (by decide +kernel) (Nat.le_of_ble_eq_true rfl) (fun P C hR => t_O_timer (Nat.le_refl _) C _ _ hR hp h)
theorem le_O_timer {o : Nat} {e : Int} {hp h9 : gH} (h : f_O_timer o e hp = some h9) : gle hp h9 :=
  (t_O_timer (P := fun _ => False) (m := fun _ _ => 0) (Nat.le_refl _) (fun _ q => q.elim) _ _ (fun _ q => q.elim) hp h).1
/-! ===== yX11_send ===== -/
theorem fF_X11_13 : xF RX11 13 12 12 (.array .int) false := ⟨RX11, TX11, 31, tyX11, rfl, by decide, (xin_33 _ (List.mem_of_getElem? (i := 10) rfl)), rfl, inlX11, tyX11_ok, nmX11, rfl, rfl⟩
theorem fF_X11_46 : xF RX11 46 12 22 (.array .int) false := ⟨RX11, TX11, 31, tyX11, rfl, by decide, (xin_33 _ (List.mem_of_getElem? (i := 21) rfl)), rfl, inlX11, tyX11_ok, nmX11, rfl, rfl⟩
theorem xy_X11_launch : xY yX11_launch cX11_launch 11 (some .boolean) 3 := ⟨(xin_39 _ (List.mem_of_getElem? (i := 6) rfl)), (xin_33 _ (List.mem_of_getElem? (i := 5) rfl)), by decide, by decide, by decide +kernel⟩
theorem xi_X11_launch : Cond.instanceMethod yX11_launch ∈ wsL_law := (xin_39 _ (List.mem_of_getElem? (i := 4) rfl))
theorem xs_X11_launch : Cond.selects yX11_launch.cls yX11_launch yX11_launch ∈ wsL_law := (xin_39 _ (List.mem_of_getElem? (i := 5) rfl))
theorem xy_X11_bytes : xY yX11_bytes cX11_bytes 1 (some (.array .int)) 1 := ⟨(xin_38 _ (List.mem_of_getElem? (i := 23) rfl)), (xin_33 _ (List.mem_of_getElem? (i := 5) rfl)), by decide, by decide, by decide +kernel⟩
theorem xt_X11_bytes : Cond.static yX11_bytes ∈ wsL_law := (xin_38 _ (List.mem_of_getElem? (i := 22) rfl))
theorem dX11_send_0 : decode cX11_send 0 = .ok (.aload_n 0, 1) := by decide +kernel
theorem dX11_send_1 : decode cX11_send 1 = .ok (.getfield 55, 3) := by decide +kernel
theorem dX11_send_4 : decode cX11_send 4 = .ok (.iload_n 1, 1) := by decide +kernel
theorem dX11_send_5 : decode cX11_send 5 = .ok (.aload_n 0, 1) := by decide +kernel
theorem dX11_send_6 : decode cX11_send 6 = .ok (.getfield 55, 3) := by decide +kernel
theorem dX11_send_9 : decode cX11_send 9 = .ok (.iload_n 1, 1) := by decide +kernel
theorem dX11_send_10 : decode cX11_send 10 = .ok (.iaload, 1) := by decide +kernel
theorem dX11_send_11 : decode cX11_send 11 = .ok (.aload_n 0, 1) := by decide +kernel
theorem dX11_send_12 : decode cX11_send 12 = .ok (.getfield 13, 3) := by decide +kernel
theorem dX11_send_15 : decode cX11_send 15 = .ok (.aload_n 0, 1) := by decide +kernel
theorem dX11_send_16 : decode cX11_send 16 = .ok (.getfield 84, 3) := by decide +kernel
theorem dX11_send_19 : decode cX11_send 19 = .ok (.iaload, 1) := by decide +kernel
theorem dX11_send_20 : decode cX11_send 20 = .ok (.iadd, 1) := by decide +kernel
theorem dX11_send_21 : decode cX11_send 21 = .ok (.aload_n 0, 1) := by decide +kernel
theorem dX11_send_22 : decode cX11_send 22 = .ok (.getfield 13, 3) := by decide +kernel
theorem dX11_send_25 : decode cX11_send 25 = .ok (.aload_n 0, 1) := by decide +kernel
theorem dX11_send_26 : decode cX11_send 26 = .ok (.getfield 84, 3) := by decide +kernel
theorem dX11_send_29 : decode cX11_send 29 = .ok (.iaload, 1) := by decide +kernel
theorem dX11_send_30 : decode cX11_send 30 = .ok (.bipush 28, 2) := by decide +kernel
theorem dX11_send_32 : decode cX11_send 32 = .ok (.iadd, 1) := by decide +kernel
theorem dX11_send_33 : decode cX11_send 33 = .ok (.invokestatic 158, 3) := by decide +kernel
theorem dX11_send_36 : decode cX11_send 36 = .ok (.iastore, 1) := by decide +kernel
theorem dX11_send_37 : decode cX11_send 37 = .ok (.aload_n 0, 1) := by decide +kernel
theorem dX11_send_38 : decode cX11_send 38 = .ok (.getfield 58, 3) := by decide +kernel
theorem dX11_send_41 : decode cX11_send 41 = .ok (.iload_n 1, 1) := by decide +kernel
theorem dX11_send_42 : decode cX11_send 42 = .ok (.baload, 1) := by decide +kernel
theorem dX11_send_43 : decode cX11_send 43 = .ok (.ifCond .ne 7, 3) := by decide +kernel
theorem dX11_send_46 : decode cX11_send 46 = .ok (.iconst 1, 1) := by decide +kernel
theorem dX11_send_47 : decode cX11_send 47 = .ok (.goto 4, 3) := by decide +kernel
theorem dX11_send_50 : decode cX11_send 50 = .ok (.iconst 0, 1) := by decide +kernel
theorem dX11_send_51 : decode cX11_send 51 = .ok (.istore_n 2, 1) := by decide +kernel
theorem dX11_send_52 : decode cX11_send 52 = .ok (.iload_n 2, 1) := by decide +kernel
theorem dX11_send_53 : decode cX11_send 53 = .ok (.ifCond .eq 284, 3) := by decide +kernel
theorem dX11_send_56 : decode cX11_send 56 = .ok (.aconst_null, 1) := by decide +kernel
theorem dX11_send_57 : decode cX11_send 57 = .ok (.astore_n 3, 1) := by decide +kernel
theorem dX11_send_58 : decode cX11_send 58 = .ok (.aload_n 0, 1) := by decide +kernel
theorem dX11_send_59 : decode cX11_send 59 = .ok (.getfield 67, 3) := by decide +kernel
theorem dX11_send_62 : decode cX11_send 62 = .ok (.iload_n 1, 1) := by decide +kernel
theorem dX11_send_63 : decode cX11_send 63 = .ok (.aaload, 1) := by decide +kernel
theorem dX11_send_64 : decode cX11_send 64 = .ok (.astore 4, 2) := by decide +kernel
theorem dX11_send_66 : decode cX11_send 66 = .ok (.aload 4, 2) := by decide +kernel
theorem dX11_send_68 : decode cX11_send 68 = .ok (.arraylength, 1) := by decide +kernel
theorem dX11_send_69 : decode cX11_send 69 = .ok (.istore 5, 2) := by decide +kernel
theorem dX11_send_71 : decode cX11_send 71 = .ok (.iconst 0, 1) := by decide +kernel
theorem dX11_send_72 : decode cX11_send 72 = .ok (.istore 6, 2) := by decide +kernel
theorem dX11_send_74 : decode cX11_send 74 = .ok (.iload 6, 2) := by decide +kernel
theorem dX11_send_76 : decode cX11_send 76 = .ok (.iload 5, 2) := by decide +kernel
theorem dX11_send_78 : decode cX11_send 78 = .ok (.if_icmp .ge 31, 3) := by decide +kernel
theorem dX11_send_81 : decode cX11_send 81 = .ok (.aload 4, 2) := by decide +kernel
theorem dX11_send_83 : decode cX11_send 83 = .ok (.iload 6, 2) := by decide +kernel
theorem dX11_send_85 : decode cX11_send 85 = .ok (.aaload, 1) := by decide +kernel
theorem dX11_send_86 : decode cX11_send 86 = .ok (.astore 7, 2) := by decide +kernel
theorem dX11_send_88 : decode cX11_send 88 = .ok (.aload_n 3, 1) := by decide +kernel
theorem dX11_send_89 : decode cX11_send 89 = .ok (.ifnonnull 14, 3) := by decide +kernel
theorem dX11_send_92 : decode cX11_send 92 = .ok (.aload 7, 2) := by decide +kernel
theorem dX11_send_94 : decode cX11_send 94 = .ok (.iconst 2, 1) := by decide +kernel
theorem dX11_send_95 : decode cX11_send 95 = .ok (.iaload, 1) := by decide +kernel
theorem dX11_send_96 : decode cX11_send 96 = .ok (.iconst 1, 1) := by decide +kernel
theorem dX11_send_97 : decode cX11_send 97 = .ok (.if_icmp .ne 6, 3) := by decide +kernel
theorem dX11_send_100 : decode cX11_send 100 = .ok (.aload 7, 2) := by decide +kernel
theorem dX11_send_102 : decode cX11_send 102 = .ok (.astore_n 3, 1) := by decide +kernel
theorem dX11_send_103 : decode cX11_send 103 = .ok (.iinc 6 1, 3) := by decide +kernel
theorem dX11_send_106 : decode cX11_send 106 = .ok (.goto (-32), 3) := by decide +kernel
theorem dX11_send_109 : decode cX11_send 109 = .ok (.aload_n 3, 1) := by decide +kernel
theorem dX11_send_110 : decode cX11_send 110 = .ok (.ifnull 34, 3) := by decide +kernel
theorem dX11_send_113 : decode cX11_send 113 = .ok (.aload_n 0, 1) := by decide +kernel
theorem dX11_send_114 : decode cX11_send 114 = .ok (.iload_n 1, 1) := by decide +kernel
theorem dX11_send_115 : decode cX11_send 115 = .ok (.aload_n 3, 1) := by decide +kernel
theorem dX11_send_116 : decode cX11_send 116 = .ok (.iconst 0, 1) := by decide +kernel
theorem dX11_send_117 : decode cX11_send 117 = .ok (.iaload, 1) := by decide +kernel
theorem dX11_send_118 : decode cX11_send 118 = .ok (.aload_n 3, 1) := by decide +kernel
theorem dX11_send_119 : decode cX11_send 119 = .ok (.invokestatic 164, 3) := by decide +kernel
theorem dX11_send_122 : decode cX11_send 122 = .ok (.invokevirtual 168, 3) := by decide +kernel
theorem dX11_send_125 : decode cX11_send 125 = .ok (.istore_n 2, 1) := by decide +kernel
theorem dX11_send_126 : decode cX11_send 126 = .ok (.iload_n 2, 1) := by decide +kernel
theorem dX11_send_127 : decode cX11_send 127 = .ok (.ifCond .eq (-75), 3) := by decide +kernel
theorem dX11_send_130 : decode cX11_send 130 = .ok (.aload_n 3, 1) := by decide +kernel
theorem dX11_send_131 : decode cX11_send 131 = .ok (.iconst 1, 1) := by decide +kernel
theorem dX11_send_132 : decode cX11_send 132 = .ok (.aload_n 0, 1) := by decide +kernel
theorem dX11_send_133 : decode cX11_send 133 = .ok (.getfield 78, 3) := by decide +kernel
theorem dX11_send_136 : decode cX11_send 136 = .ok (.iastore, 1) := by decide +kernel
theorem dX11_send_137 : decode cX11_send 137 = .ok (.aload_n 3, 1) := by decide +kernel
theorem dX11_send_138 : decode cX11_send 138 = .ok (.iconst 2, 1) := by decide +kernel
theorem dX11_send_139 : decode cX11_send 139 = .ok (.iconst 0, 1) := by decide +kernel
theorem dX11_send_140 : decode cX11_send 140 = .ok (.iastore, 1) := by decide +kernel
theorem dX11_send_141 : decode cX11_send 141 = .ok (.goto (-89), 3) := by decide +kernel
theorem dX11_send_144 : decode cX11_send 144 = .ok (.bipush 8, 2) := by decide +kernel
theorem dX11_send_146 : decode cX11_send 146 = .ok (.aload_n 0, 1) := by decide +kernel
theorem dX11_send_147 : decode cX11_send 147 = .ok (.getfield 34, 3) := by decide +kernel
theorem dX11_send_150 : decode cX11_send 150 = .ok (.iload_n 1, 1) := by decide +kernel
theorem dX11_send_151 : decode cX11_send 151 = .ok (.aaload, 1) := by decide +kernel
theorem dX11_send_152 : decode cX11_send 152 = .ok (.arraylength, 1) := by decide +kernel
theorem dX11_send_153 : decode cX11_send 153 = .ok (.invokestatic 158, 3) := by decide +kernel
theorem dX11_send_156 : decode cX11_send 156 = .ok (.istore 4, 2) := by decide +kernel
theorem dX11_send_158 : decode cX11_send 158 = .ok (.aload_n 0, 1) := by decide +kernel
theorem dX11_send_159 : decode cX11_send 159 = .ok (.getfield 34, 3) := by decide +kernel
theorem dX11_send_162 : decode cX11_send 162 = .ok (.iload_n 1, 1) := by decide +kernel
theorem dX11_send_163 : decode cX11_send 163 = .ok (.aaload, 1) := by decide +kernel
theorem dX11_send_164 : decode cX11_send 164 = .ok (.iconst 0, 1) := by decide +kernel
theorem dX11_send_165 : decode cX11_send 165 = .ok (.iload 4, 2) := by decide +kernel
theorem dX11_send_167 : decode cX11_send 167 = .ok (.invokestatic 128, 3) := by decide +kernel
theorem dX11_send_170 : decode cX11_send 170 = .ok (.astore 5, 2) := by decide +kernel
theorem dX11_send_172 : decode cX11_send 172 = .ok (.iload 4, 2) := by decide +kernel
theorem dX11_send_174 : decode cX11_send 174 = .ok (.ifCond .le 39, 3) := by decide +kernel
theorem dX11_send_177 : decode cX11_send 177 = .ok (.aload_n 0, 1) := by decide +kernel
theorem dX11_send_178 : decode cX11_send 178 = .ok (.getfield 67, 3) := by decide +kernel
theorem dX11_send_181 : decode cX11_send 181 = .ok (.iload_n 1, 1) := by decide +kernel
theorem dX11_send_182 : decode cX11_send 182 = .ok (.aaload, 1) := by decide +kernel
theorem dX11_send_183 : decode cX11_send 183 = .ok (.arraylength, 1) := by decide +kernel
theorem dX11_send_184 : decode cX11_send 184 = .ok (.aload_n 0, 1) := by decide +kernel
theorem dX11_send_185 : decode cX11_send 185 = .ok (.getfield 26, 3) := by decide +kernel
theorem dX11_send_188 : decode cX11_send 188 = .ok (.iconst 2, 1) := by decide +kernel
theorem dX11_send_189 : decode cX11_send 189 = .ok (.iaload, 1) := by decide +kernel
theorem dX11_send_190 : decode cX11_send 190 = .ok (.if_icmp .ge 23, 3) := by decide +kernel
theorem dX11_send_193 : decode cX11_send 193 = .ok (.aload_n 0, 1) := by decide +kernel
theorem dX11_send_194 : decode cX11_send 194 = .ok (.iload_n 1, 1) := by decide +kernel
theorem dX11_send_195 : decode cX11_send 195 = .ok (.aload_n 0, 1) := by decide +kernel
theorem dX11_send_196 : decode cX11_send 196 = .ok (.getfield 46, 3) := by decide +kernel
theorem dX11_send_199 : decode cX11_send 199 = .ok (.iload_n 1, 1) := by decide +kernel
theorem dX11_send_200 : decode cX11_send 200 = .ok (.iaload, 1) := by decide +kernel
theorem dX11_send_201 : decode cX11_send 201 = .ok (.aload 5, 2) := by decide +kernel
theorem dX11_send_203 : decode cX11_send 203 = .ok (.invokevirtual 168, 3) := by decide +kernel
theorem dX11_send_206 : decode cX11_send 206 = .ok (.ifCond .eq 7, 3) := by decide +kernel
theorem dX11_send_209 : decode cX11_send 209 = .ok (.iconst 1, 1) := by decide +kernel
theorem dX11_send_210 : decode cX11_send 210 = .ok (.goto 4, 3) := by decide +kernel
theorem dX11_send_213 : decode cX11_send 213 = .ok (.iconst 0, 1) := by decide +kernel
theorem dX11_send_214 : decode cX11_send 214 = .ok (.istore_n 2, 1) := by decide +kernel
theorem dX11_send_215 : decode cX11_send 215 = .ok (.iload_n 2, 1) := by decide +kernel
theorem dX11_send_216 : decode cX11_send 216 = .ok (.ifCond .ne 6, 3) := by decide +kernel
theorem dX11_send_219 : decode cX11_send 219 = .ok (.goto (-167), 3) := by decide +kernel
theorem dX11_send_222 : decode cX11_send 222 = .ok (.iconst 3, 1) := by decide +kernel
theorem dX11_send_223 : decode cX11_send 223 = .ok (.newarray .int, 2) := by decide +kernel
theorem dX11_send_225 : decode cX11_send 225 = .ok (.dup, 1) := by decide +kernel
theorem dX11_send_226 : decode cX11_send 226 = .ok (.iconst 0, 1) := by decide +kernel
theorem dX11_send_227 : decode cX11_send 227 = .ok (.aload_n 0, 1) := by decide +kernel
theorem dX11_send_228 : decode cX11_send 228 = .ok (.getfield 46, 3) := by decide +kernel
theorem dX11_send_231 : decode cX11_send 231 = .ok (.iload_n 1, 1) := by decide +kernel
theorem dX11_send_232 : decode cX11_send 232 = .ok (.dup2, 1) := by decide +kernel
theorem dX11_send_233 : decode cX11_send 233 = .ok (.iaload, 1) := by decide +kernel
theorem dX11_send_234 : decode cX11_send 234 = .ok (.dup_x2, 1) := by decide +kernel
theorem dX11_send_235 : decode cX11_send 235 = .ok (.iconst 1, 1) := by decide +kernel
theorem dX11_send_236 : decode cX11_send 236 = .ok (.iadd, 1) := by decide +kernel
theorem dX11_send_237 : decode cX11_send 237 = .ok (.iastore, 1) := by decide +kernel
theorem dX11_send_238 : decode cX11_send 238 = .ok (.iastore, 1) := by decide +kernel
theorem dX11_send_239 : decode cX11_send 239 = .ok (.dup, 1) := by decide +kernel
theorem dX11_send_240 : decode cX11_send 240 = .ok (.iconst 1, 1) := by decide +kernel
theorem dX11_send_241 : decode cX11_send 241 = .ok (.aload_n 0, 1) := by decide +kernel
theorem dX11_send_242 : decode cX11_send 242 = .ok (.getfield 78, 3) := by decide +kernel
theorem dX11_send_245 : decode cX11_send 245 = .ok (.iastore, 1) := by decide +kernel
theorem dX11_send_246 : decode cX11_send 246 = .ok (.dup, 1) := by decide +kernel
theorem dX11_send_247 : decode cX11_send 247 = .ok (.iconst 2, 1) := by decide +kernel
theorem dX11_send_248 : decode cX11_send 248 = .ok (.iconst 0, 1) := by decide +kernel
theorem dX11_send_249 : decode cX11_send 249 = .ok (.iastore, 1) := by decide +kernel
theorem dX11_send_250 : decode cX11_send 250 = .ok (.astore 6, 2) := by decide +kernel
theorem dX11_send_252 : decode cX11_send 252 = .ok (.aload 5, 2) := by decide +kernel
theorem dX11_send_254 : decode cX11_send 254 = .ok (.astore 7, 2) := by decide +kernel
theorem dX11_send_256 : decode cX11_send 256 = .ok (.aload 7, 2) := by decide +kernel
theorem dX11_send_258 : decode cX11_send 258 = .ok (.arraylength, 1) := by decide +kernel
theorem dX11_send_259 : decode cX11_send 259 = .ok (.istore 8, 2) := by decide +kernel
theorem dX11_send_261 : decode cX11_send 261 = .ok (.iconst 0, 1) := by decide +kernel
theorem dX11_send_262 : decode cX11_send 262 = .ok (.istore 9, 2) := by decide +kernel
theorem dX11_send_264 : decode cX11_send 264 = .ok (.iload 9, 2) := by decide +kernel
theorem dX11_send_266 : decode cX11_send 266 = .ok (.iload 8, 2) := by decide +kernel
theorem dX11_send_268 : decode cX11_send 268 = .ok (.if_icmp .ge 25, 3) := by decide +kernel
theorem dX11_send_271 : decode cX11_send 271 = .ok (.aload 7, 2) := by decide +kernel
theorem dX11_send_273 : decode cX11_send 273 = .ok (.iload 9, 2) := by decide +kernel
theorem dX11_send_275 : decode cX11_send 275 = .ok (.iaload, 1) := by decide +kernel
theorem dX11_send_276 : decode cX11_send 276 = .ok (.istore 10, 2) := by decide +kernel
theorem dX11_send_278 : decode cX11_send 278 = .ok (.aload 6, 2) := by decide +kernel
theorem dX11_send_280 : decode cX11_send 280 = .ok (.iload 10, 2) := by decide +kernel
theorem dX11_send_282 : decode cX11_send 282 = .ok (.invokestatic 117, 3) := by decide +kernel
theorem dX11_send_285 : decode cX11_send 285 = .ok (.astore 6, 2) := by decide +kernel
theorem dX11_send_287 : decode cX11_send 287 = .ok (.iinc 9 1, 3) := by decide +kernel
theorem dX11_send_290 : decode cX11_send 290 = .ok (.goto (-26), 3) := by decide +kernel
theorem dX11_send_293 : decode cX11_send 293 = .ok (.aload_n 0, 1) := by decide +kernel
theorem dX11_send_294 : decode cX11_send 294 = .ok (.getfield 67, 3) := by decide +kernel
theorem dX11_send_297 : decode cX11_send 297 = .ok (.iload_n 1, 1) := by decide +kernel
theorem dX11_send_298 : decode cX11_send 298 = .ok (.aload_n 0, 1) := by decide +kernel
theorem dX11_send_299 : decode cX11_send 299 = .ok (.getfield 67, 3) := by decide +kernel
theorem dX11_send_302 : decode cX11_send 302 = .ok (.iload_n 1, 1) := by decide +kernel
theorem dX11_send_303 : decode cX11_send 303 = .ok (.aaload, 1) := by decide +kernel
theorem dX11_send_304 : decode cX11_send 304 = .ok (.aload 6, 2) := by decide +kernel
theorem dX11_send_306 : decode cX11_send 306 = .ok (.invokestatic 132, 3) := by decide +kernel
theorem dX11_send_309 : decode cX11_send 309 = .ok (.aastore, 1) := by decide +kernel
theorem dX11_send_310 : decode cX11_send 310 = .ok (.aload_n 0, 1) := by decide +kernel
theorem dX11_send_311 : decode cX11_send 311 = .ok (.getfield 34, 3) := by decide +kernel
theorem dX11_send_314 : decode cX11_send 314 = .ok (.iload_n 1, 1) := by decide +kernel
theorem dX11_send_315 : decode cX11_send 315 = .ok (.aload_n 0, 1) := by decide +kernel
theorem dX11_send_316 : decode cX11_send 316 = .ok (.getfield 34, 3) := by decide +kernel
theorem dX11_send_319 : decode cX11_send 319 = .ok (.iload_n 1, 1) := by decide +kernel
theorem dX11_send_320 : decode cX11_send 320 = .ok (.aaload, 1) := by decide +kernel
theorem dX11_send_321 : decode cX11_send 321 = .ok (.iload 4, 2) := by decide +kernel
theorem dX11_send_323 : decode cX11_send 323 = .ok (.aload_n 0, 1) := by decide +kernel
theorem dX11_send_324 : decode cX11_send 324 = .ok (.getfield 34, 3) := by decide +kernel
theorem dX11_send_327 : decode cX11_send 327 = .ok (.iload_n 1, 1) := by decide +kernel
theorem dX11_send_328 : decode cX11_send 328 = .ok (.aaload, 1) := by decide +kernel
theorem dX11_send_329 : decode cX11_send 329 = .ok (.arraylength, 1) := by decide +kernel
theorem dX11_send_330 : decode cX11_send 330 = .ok (.invokestatic 128, 3) := by decide +kernel
theorem dX11_send_333 : decode cX11_send 333 = .ok (.aastore, 1) := by decide +kernel
theorem dX11_send_334 : decode cX11_send 334 = .ok (.goto (-282), 3) := by decide +kernel
theorem dX11_send_337 : decode cX11_send 337 = .ok (.return_, 1) := by decide +kernel
def f_O_send_293 (o : Nat) (e : Int) (k52 : Int → gH → Option (gH)) (x2 : Int) (x4 : Int) (x6 : Nat) (hp : gH) : Option (gH) :=
     (Option.bind (gfK hp o 28) fun q30 =>
      (Option.bind (gfK hp o 28) fun q31 =>
      (Option.bind (gaK 5 hp q31 e) fun q32 =>
      (Option.bind (f_O_more q32 x6 hp) fun q33 =>
      (Option.bind (gsQ 5 q33.2 q30 e (some q33.1)) fun q34 =>
      (Option.bind (gfK q34 o 18) fun q35 =>
      (Option.bind (gfK q34 o 18) fun q36 =>
      (Option.bind (gaK 4 q34 q36 e) fun q37 =>
      (Option.bind (gfK q34 o 18) fun q38 =>
      (Option.bind (gaK 4 q34 q38 e) fun q39 =>
      (Option.bind (glc q34 q39) fun q40 =>
      (Option.bind (f_O_part q37 x4 q40 q34) fun q41 =>
      (Option.bind (gsQ 4 q41.2 q35 e (some q41.1)) fun q42 =>
      k52 x2 q42)))))))))))))
set_option maxRecDepth 1000000 in
set_option maxHeartbeats 4000000 in
theorem t_O_send_293 {P : gG → Prop} {d : Nat} {m : xM} {h9 : gH} (hd9 : 5 ≤ d) (C : ∀ Γ, P Γ → gX Γ lay_X RX11 cX11_send 11 d h9) (o : Nat) (e : Int) (hR : ∀ Γ, P Γ → gRv Γ lay_X cX11_send m h9) {k52 : Int → gH → Option (gH)} (hk52 : ∀ (x2 : Int) (hp : gH), k52 x2 hp = some h9 → gJ P lay_X 11 52 [(0, .inr (.inr (some o))), (1, .inl e), (2, .inl x2)] [] m hp h9) (x2 : Int) (x4 : Int) (x6 : Nat) (hp : gH) (h : f_O_send_293 o e k52 x2 x4 x6 hp = some h9) : gJ P lay_X 11 293 [(0, .inr (.inr (some o))), (1, .inl e), (2, .inl x2), (4, .inl x4), (6, .inr (.inr (some x6)))] [] m hp h9 := by
  unfold f_O_send_293 at h
  refine g_aload_n C dX11_send_293 rfl ?_
  obtain ⟨q30, hq30, h⟩ := x_bind h
  refine g_getK C dX11_send_294 fF_X11_67 hq30 ?_
  refine g_iload_n C dX11_send_297 rfl ?_
  refine g_aload_n C dX11_send_298 rfl ?_
  obtain ⟨q31, hq31, h⟩ := x_bind h
  refine g_getK C dX11_send_299 fF_X11_67 hq31 ?_
  refine g_iload_n C dX11_send_302 rfl ?_
  obtain ⟨q32, hq32, h⟩ := x_bind h
  refine g_aaloadK5 C dX11_send_303 hq32 ?_
  refine g_aload C dX11_send_304 rfl ?_
  obtain ⟨q33, hq33, h⟩ := x_bind h
  refine g_callS C dX11_send_306 (xin_37 _ (List.mem_of_getElem? (i := 11) rfl)) xy_X11_more xt_X11_more (by omega) (by decide) (av := [.inr (.inr (some q32)), .inr (.inr (some x6))]) rfl (Nat.le_of_ble_eq_true rfl) (le_O_more hq33) (c_O_more _ hq33) rfl ?_
  obtain ⟨q34, hq34, h⟩ := x_bind h
  refine g_aastore5 C dX11_send_309 hq34 ?_
  refine g_aload_n C dX11_send_310 rfl ?_
  obtain ⟨q35, hq35, h⟩ := x_bind h
  refine g_getK C dX11_send_311 fF_X11_34 hq35 ?_
  refine g_iload_n C dX11_send_314 rfl ?_
  refine g_aload_n C dX11_send_315 rfl ?_
  obtain ⟨q36, hq36, h⟩ := x_bind h
  refine g_getK C dX11_send_316 fF_X11_34 hq36 ?_
  refine g_iload_n C dX11_send_319 rfl ?_
  obtain ⟨q37, hq37, h⟩ := x_bind h
  refine g_aaloadK4 C dX11_send_320 hq37 ?_
  refine g_iload C dX11_send_321 rfl ?_
  refine g_aload_n C dX11_send_323 rfl ?_
  obtain ⟨q38, hq38, h⟩ := x_bind h
  refine g_getK C dX11_send_324 fF_X11_34 hq38 ?_
  refine g_iload_n C dX11_send_327 rfl ?_
  obtain ⟨q39, hq39, h⟩ := x_bind h
  refine g_aaloadK4 C dX11_send_328 hq39 ?_
  obtain ⟨q40, hq40, h⟩ := x_bind h
  refine g_lenC C dX11_send_329 hq40 ?_
  obtain ⟨q41, hq41, h⟩ := x_bind h
  refine g_callS C dX11_send_330 (xin_39 _ (List.mem_of_getElem? (i := 0) rfl)) xy_X11_part xt_X11_part (by omega) (by decide) (av := [.inr (.inr (some q37)), .inl x4, .inl q40]) rfl (Nat.le_of_ble_eq_true rfl) (le_O_part hq41) (c_O_part _ hq41) rfl ?_
  obtain ⟨q42, hq42, h⟩ := x_bind h
  refine g_aastore4 C dX11_send_333 hq42 ?_
  refine g_goto C 52 dX11_send_334 (by decide) ?_
  refine g_loc [(0, .inr (.inr (some o))), (1, .inl e), (2, .inl x2)] ⟨rfl, rfl, rfl, trivial⟩ ?_
  exact hk52 _ _ h
def f_O_send_264 (o : Nat) (e : Int) (k52 : Int → gH → Option (gH)) : Nat → Int → Int → Nat → Nat → Int → Int → gH → Option (gH)
  | 0, _, _, _, _, _, _, _ => none
  | n + 1, x2, x4, x6, x7, x8, x9, hp =>
     (if xw x9 < xw x8 then (Option.bind (gaN 0 hp x7 x9) fun q43 =>
      (Option.bind (f_O_with x6 q43 hp) fun q44 =>
      f_O_send_264 o e k52 n x2 x4 q44.1 x7 x8 (x9 + 1) q44.2))
      else f_O_send_293 o e k52 x2 x4 x6 hp)
set_option maxRecDepth 1000000 in
set_option maxHeartbeats 4000000 in
theorem t_O_send_264 {P : gG → Prop} {d : Nat} {m : xM} {h9 : gH} (hd9 : 5 ≤ d) (C : ∀ Γ, P Γ → gX Γ lay_X RX11 cX11_send 11 d h9) (o : Nat) (e : Int) (hR : ∀ Γ, P Γ → gRv Γ lay_X cX11_send m h9) {k52 : Int → gH → Option (gH)} (hk52 : ∀ (x2 : Int) (hp : gH), k52 x2 hp = some h9 → gJ P lay_X 11 52 [(0, .inr (.inr (some o))), (1, .inl e), (2, .inl x2)] [] m hp h9) : ∀ (n : Nat) (x2 : Int) (x4 : Int) (x6 : Nat) (x7 : Nat) (x8 : Int) (x9 : Int) (hp : gH), f_O_send_264 o e k52 n x2 x4 x6 x7 x8 x9 hp = some h9 → gJ P lay_X 11 264 [(0, .inr (.inr (some o))), (1, .inl e), (2, .inl x2), (4, .inl x4), (6, .inr (.inr (some x6))), (7, .inr (.inr (some x7))), (8, .inl x8), (9, .inl x9)] [] m hp h9 := by
  intro n
  induction n with
  | zero => intro _ _ _ _ _ _ _ h; cases h
  | succ n ih =>
    intro x2 x4 x6 x7 x8 x9 hp h
    rw [f_O_send_264] at h
    refine g_iload C dX11_send_264 rfl ?_
    refine g_iload C dX11_send_266 rfl ?_
    refine g_icmp_ge C 293 dX11_send_268 (by decide) h (fun h => ?_) (fun h => ?_)
    · refine g_loc [(0, .inr (.inr (some o))), (1, .inl e), (2, .inl x2), (4, .inl x4), (6, .inr (.inr (some x6)))] ⟨rfl, rfl, rfl, rfl, rfl, trivial⟩ ?_
      exact t_O_send_293 hd9 C _ _ hR hk52 _ _ _ _ h
    · refine g_aload C dX11_send_271 rfl ?_
      refine g_iload C dX11_send_273 rfl ?_
      obtain ⟨q43, hq43, h⟩ := x_bind h
      refine g_iaload C dX11_send_275 hq43 ?_
      refine g_istore C dX11_send_276 (by decide) ?_
      refine g_aload C dX11_send_278 rfl ?_
      refine g_iload C dX11_send_280 rfl ?_
      obtain ⟨q44, hq44, h⟩ := x_bind h
      refine g_callS C dX11_send_282 (xin_38 _ (List.mem_of_getElem? (i := 9) rfl)) xy_X11_with xt_X11_with (by omega) (by decide) (av := [.inr (.inr (some x6)), .inl q43]) rfl (Nat.le_of_ble_eq_true rfl) (le_O_with hq44) (c_O_with _ hq44) rfl ?_
      refine g_astore C dX11_send_285 (by decide) ?_
      refine g_iinc C dX11_send_287 (by decide) rfl ?_
      refine g_goto C 264 dX11_send_290 (by decide) ?_
      refine g_loc [(0, .inr (.inr (some o))), (1, .inl e), (2, .inl x2), (4, .inl x4), (6, .inr (.inr (some q44.1))), (7, .inr (.inr (some x7))), (8, .inl x8), (9, .inl (x9 + 1))] ⟨rfl, rfl, rfl, rfl, rfl, rfl, rfl, rfl, trivial⟩ ?_
      exact ih _ _ _ _ _ _ _ h
def f_O_send_214 (o : Nat) (e : Int) (k52 : Int → gH → Option (gH)) (x4 : Int) (x5 : Nat) (s0 : Int) (hp : gH) : Option (gH) :=
     (if xw s0 = 0 then k52 s0 hp
      else (Option.bind (gNw 0 hp 3) fun q21 =>
      (Option.bind (gfK q21.2 o 22) fun q22 =>
      (Option.bind (gaN 0 q21.2 q22 e) fun q23 =>
      (Option.bind (gsN 0 q21.2 q22 e (q23 + 1)) fun q24 =>
      (Option.bind (gsN 0 q24 q21.1 0 q23) fun q25 =>
      (Option.bind (gfI q25 o 0) fun q26 =>
      (Option.bind (gsN 0 q25 q21.1 1 q26) fun q27 =>
      (Option.bind (gsN 0 q27 q21.1 2 0) fun q28 =>
      (Option.bind (glc q28 x5) fun q29 =>
      f_O_send_264 o e k52 fu s0 x4 q21.1 x5 q29 0 q28))))))))))
set_option maxRecDepth 1000000 in
set_option maxHeartbeats 4000000 in
theorem t_O_send_214 {P : gG → Prop} {d : Nat} {m : xM} {h9 : gH} (hd9 : 5 ≤ d) (C : ∀ Γ, P Γ → gX Γ lay_X RX11 cX11_send 11 d h9) (o : Nat) (e : Int) (hR : ∀ Γ, P Γ → gRv Γ lay_X cX11_send m h9) {k52 : Int → gH → Option (gH)} (hk52 : ∀ (x2 : Int) (hp : gH), k52 x2 hp = some h9 → gJ P lay_X 11 52 [(0, .inr (.inr (some o))), (1, .inl e), (2, .inl x2)] [] m hp h9) (x4 : Int) (x5 : Nat) (s0 : Int) (hp : gH) (h : f_O_send_214 o e k52 x4 x5 s0 hp = some h9) : gJ P lay_X 11 214 [(0, .inr (.inr (some o))), (1, .inl e), (4, .inl x4), (5, .inr (.inr (some x5)))] [.inl s0] m hp h9 := by
  unfold f_O_send_214 at h
  refine g_istore_n C dX11_send_214 (by decide) ?_
  refine g_iload_n C dX11_send_215 rfl ?_
  refine g_if_ne C 222 dX11_send_216 (by decide) h (fun h => ?_) (fun h => ?_)
  · refine g_iconst C dX11_send_222 ?_
    obtain ⟨q21, hq21, h⟩ := x_bind h
    refine g_newi C dX11_send_223 (xin_1 _ (List.mem_of_getElem? (i := 3) rfl)) hq21 ?_
    refine g_dup C dX11_send_225 rfl ?_
    refine g_iconst C dX11_send_226 ?_
    refine g_aload_n C dX11_send_227 rfl ?_
    obtain ⟨q22, hq22, h⟩ := x_bind h
    refine g_getK C dX11_send_228 fF_X11_46 hq22 ?_
    refine g_iload_n C dX11_send_231 rfl ?_
    refine g_dup2 C dX11_send_232 rfl rfl ?_
    obtain ⟨q23, hq23, h⟩ := x_bind h
    refine g_iaload C dX11_send_233 hq23 ?_
    refine g_dup_x2 C dX11_send_234 rfl rfl rfl ?_
    refine g_iconst C dX11_send_235 ?_
    refine g_iadd C dX11_send_236 ?_
    obtain ⟨q24, hq24, h⟩ := x_bind h
    refine g_iastore C dX11_send_237 hq24 ?_
    obtain ⟨q25, hq25, h⟩ := x_bind h
    refine g_iastore C dX11_send_238 hq25 ?_
    refine g_dup C dX11_send_239 rfl ?_
    refine g_iconst C dX11_send_240 ?_
    refine g_aload_n C dX11_send_241 rfl ?_
    obtain ⟨q26, hq26, h⟩ := x_bind h
    refine g_getI C dX11_send_242 fF_X11_78 hq26 ?_
    obtain ⟨q27, hq27, h⟩ := x_bind h
    refine g_iastore C dX11_send_245 hq27 ?_
    refine g_dup C dX11_send_246 rfl ?_
    refine g_iconst C dX11_send_247 ?_
    refine g_iconst C dX11_send_248 ?_
    obtain ⟨q28, hq28, h⟩ := x_bind h
    refine g_iastore C dX11_send_249 hq28 ?_
    refine g_astore C dX11_send_250 (by decide) ?_
    refine g_aload C dX11_send_252 rfl ?_
    refine g_astore C dX11_send_254 (by decide) ?_
    refine g_aload C dX11_send_256 rfl ?_
    obtain ⟨q29, hq29, h⟩ := x_bind h
    refine g_lenC C dX11_send_258 hq29 ?_
    refine g_istore C dX11_send_259 (by decide) ?_
    refine g_iconst C dX11_send_261 ?_
    refine g_istore C dX11_send_262 (by decide) ?_
    refine g_loc [(0, .inr (.inr (some o))), (1, .inl e), (2, .inl s0), (4, .inl x4), (6, .inr (.inr (some q21.1))), (7, .inr (.inr (some x5))), (8, .inl q29), (9, .inl 0)] ⟨rfl, rfl, rfl, rfl, rfl, rfl, rfl, rfl, trivial⟩ ?_
    exact t_O_send_264 hd9 C _ _ hR hk52 fu _ _ _ _ _ _ _ h
  · refine g_goto C 52 dX11_send_219 (by decide) ?_
    refine g_loc [(0, .inr (.inr (some o))), (1, .inl e), (2, .inl s0)] ⟨rfl, rfl, rfl, trivial⟩ ?_
    exact hk52 _ _ h
def f_O_send_213 (o : Nat) (e : Int) (k52 : Int → gH → Option (gH)) (x4 : Int) (x5 : Nat) (hp : gH) : Option (gH) :=
     f_O_send_214 o e k52 x4 x5 0 hp
set_option maxRecDepth 1000000 in
set_option maxHeartbeats 4000000 in
theorem t_O_send_213 {P : gG → Prop} {d : Nat} {m : xM} {h9 : gH} (hd9 : 5 ≤ d) (C : ∀ Γ, P Γ → gX Γ lay_X RX11 cX11_send 11 d h9) (o : Nat) (e : Int) (hR : ∀ Γ, P Γ → gRv Γ lay_X cX11_send m h9) {k52 : Int → gH → Option (gH)} (hk52 : ∀ (x2 : Int) (hp : gH), k52 x2 hp = some h9 → gJ P lay_X 11 52 [(0, .inr (.inr (some o))), (1, .inl e), (2, .inl x2)] [] m hp h9) (x4 : Int) (x5 : Nat) (hp : gH) (h : f_O_send_213 o e k52 x4 x5 hp = some h9) : gJ P lay_X 11 213 [(0, .inr (.inr (some o))), (1, .inl e), (4, .inl x4), (5, .inr (.inr (some x5)))] [] m hp h9 := by
  unfold f_O_send_213 at h
  refine g_iconst C dX11_send_213 ?_
  refine g_loc [(0, .inr (.inr (some o))), (1, .inl e), (4, .inl x4), (5, .inr (.inr (some x5)))] ⟨rfl, rfl, rfl, rfl, trivial⟩ ?_
  exact t_O_send_214 hd9 C _ _ hR hk52 _ _ _ _ h
def f_O_send_109 (o : Nat) (e : Int) (k52 : Int → gH → Option (gH)) (x3 : Option Nat) (hp : gH) : Option (gH) :=
     (if x3 = none then (Option.bind (gfK hp o 18) fun q15 =>
      (Option.bind (gaK 4 hp q15 e) fun q16 =>
      (Option.bind (glc hp q16) fun q17 =>
      (Option.bind (gfK hp o 18) fun q18 =>
      (Option.bind (gaK 4 hp q18 e) fun q19 =>
      (Option.bind (f_O_part q19 0 (if xw q17 < xw 8 then q17 else 8) hp) fun q20 =>
      (if 0 < xw (if xw q17 < xw 8 then q17 else 8) then (Option.bind (gfK q20.2 o 28) fun q45 =>
      (Option.bind (gaK 5 q20.2 q45 e) fun q46 =>
      (Option.bind (glc q20.2 q46) fun q47 =>
      (Option.bind (gfK q20.2 o 16) fun q48 =>
      (Option.bind (gaN 0 q20.2 q48 2) fun q49 =>
      (if xw q47 < xw q49 then (Option.bind (gfK q20.2 o 22) fun q50 =>
      (Option.bind (gaN 0 q20.2 q50 e) fun q51 =>
      (Option.bind (f_O_launch o e q51 q20.1 q20.2) fun q52 =>
      (if gob q20.2 o = true then (if xw q52.1 = 0 then f_O_send_213 o e k52 (if xw q17 < xw 8 then q17 else 8) q20.1 q52.2
      else f_O_send_214 o e k52 (if xw q17 < xw 8 then q17 else 8) q20.1 1 q52.2)
      else none))))
      else f_O_send_213 o e k52 (if xw q17 < xw 8 then q17 else 8) q20.1 q20.2))))))
      else f_O_send_213 o e k52 (if xw q17 < xw 8 then q17 else 8) q20.1 q20.2)))))))
      else (Option.bind x3 fun q54 =>
      (Option.bind (gaN 0 hp q54 0) fun q55 =>
      (Option.bind (f_O_bytes q54 hp) fun q56 =>
      (Option.bind (f_O_launch o e q55 q56.1 q56.2) fun q57 =>
      (if gob q56.2 o = true then (if xw q57.1 = 0 then k52 q57.1 q57.2
      else (Option.bind (gfI q57.2 o 0) fun q59 =>
      (Option.bind (gsN 0 q57.2 q54 1 q59) fun q60 =>
      (Option.bind (gsN 0 q60 q54 2 0) fun q61 =>
      k52 q57.1 q61))))
      else none))))))
set_option maxRecDepth 1000000 in
set_option maxHeartbeats 4000000 in
theorem t_O_send_109 {P : gG → Prop} {d : Nat} {m : xM} {h9 : gH} (hd9 : 5 ≤ d) (C : ∀ Γ, P Γ → gX Γ lay_X RX11 cX11_send 11 d h9) (o : Nat) (e : Int) (hR : ∀ Γ, P Γ → gRv Γ lay_X cX11_send m h9) {k52 : Int → gH → Option (gH)} (hk52 : ∀ (x2 : Int) (hp : gH), k52 x2 hp = some h9 → gJ P lay_X 11 52 [(0, .inr (.inr (some o))), (1, .inl e), (2, .inl x2)] [] m hp h9) (x3 : Option Nat) (hp : gH) (h : f_O_send_109 o e k52 x3 hp = some h9) : gJ P lay_X 11 109 [(0, .inr (.inr (some o))), (1, .inl e), (3, .inr (.inr x3))] [] m hp h9 := by
  unfold f_O_send_109 at h
  refine g_aload_n C dX11_send_109 rfl ?_
  refine g_ifnull C 144 dX11_send_110 (by decide) h (fun h => ?_) (fun h => ?_)
  · refine g_bipush C dX11_send_144 (by decide) ?_
    refine g_aload_n C dX11_send_146 rfl ?_
    obtain ⟨q15, hq15, h⟩ := x_bind h
    refine g_getK C dX11_send_147 fF_X11_34 hq15 ?_
    refine g_iload_n C dX11_send_150 rfl ?_
    obtain ⟨q16, hq16, h⟩ := x_bind h
    refine g_aaloadK4 C dX11_send_151 hq16 ?_
    obtain ⟨q17, hq17, h⟩ := x_bind h
    refine g_lenC C dX11_send_152 hq17 ?_
    refine g_min C dX11_send_153 (xin_38 _ (List.mem_of_getElem? (i := 20) rfl)) gm_min_s gm_math gm_min_c (by omega) (Nat.le_of_ble_eq_true rfl) ?_
    refine g_istore C dX11_send_156 (by decide) ?_
    refine g_aload_n C dX11_send_158 rfl ?_
    obtain ⟨q18, hq18, h⟩ := x_bind h
    refine g_getK C dX11_send_159 fF_X11_34 hq18 ?_
    refine g_iload_n C dX11_send_162 rfl ?_
    obtain ⟨q19, hq19, h⟩ := x_bind h
    refine g_aaloadK4 C dX11_send_163 hq19 ?_
    refine g_iconst C dX11_send_164 ?_
    refine g_iload C dX11_send_165 rfl ?_
    obtain ⟨q20, hq20, h⟩ := x_bind h
    refine g_callS C dX11_send_167 (xin_39 _ (List.mem_of_getElem? (i := 0) rfl)) xy_X11_part xt_X11_part (by omega) (by decide) (av := [.inr (.inr (some q19)), .inl 0, .inl (if xw q17 < xw 8 then q17 else 8)]) rfl (Nat.le_of_ble_eq_true rfl) (le_O_part hq20) (c_O_part _ hq20) rfl ?_
    refine g_astore C dX11_send_170 (by decide) ?_
    refine g_iload C dX11_send_172 rfl ?_
    refine g_if_le C 213 dX11_send_174 (by decide) h (fun h => ?_) (fun h => ?_)
    · refine g_loc [(0, .inr (.inr (some o))), (1, .inl e), (4, .inl (if xw q17 < xw 8 then q17 else 8)), (5, .inr (.inr (some q20.1)))] ⟨rfl, rfl, rfl, rfl, trivial⟩ ?_
      exact t_O_send_213 hd9 C _ _ hR hk52 _ _ _ h
    · refine g_aload_n C dX11_send_177 rfl ?_
      obtain ⟨q45, hq45, h⟩ := x_bind h
      refine g_getK C dX11_send_178 fF_X11_67 hq45 ?_
      refine g_iload_n C dX11_send_181 rfl ?_
      obtain ⟨q46, hq46, h⟩ := x_bind h
      refine g_aaloadK5 C dX11_send_182 hq46 ?_
      obtain ⟨q47, hq47, h⟩ := x_bind h
      refine g_lenC C dX11_send_183 hq47 ?_
      refine g_aload_n C dX11_send_184 rfl ?_
      obtain ⟨q48, hq48, h⟩ := x_bind h
      refine g_getK C dX11_send_185 fF_X11_26 hq48 ?_
      refine g_iconst C dX11_send_188 ?_
      obtain ⟨q49, hq49, h⟩ := x_bind h
      refine g_iaload C dX11_send_189 hq49 ?_
      refine g_icmp_ge C 213 dX11_send_190 (by decide) h (fun h => ?_) (fun h => ?_)
      · refine g_loc [(0, .inr (.inr (some o))), (1, .inl e), (4, .inl (if xw q17 < xw 8 then q17 else 8)), (5, .inr (.inr (some q20.1)))] ⟨rfl, rfl, rfl, rfl, trivial⟩ ?_
        exact t_O_send_213 hd9 C _ _ hR hk52 _ _ _ h
      · refine g_aload_n C dX11_send_193 rfl ?_
        refine g_iload_n C dX11_send_194 rfl ?_
        refine g_aload_n C dX11_send_195 rfl ?_
        obtain ⟨q50, hq50, h⟩ := x_bind h
        refine g_getK C dX11_send_196 fF_X11_46 hq50 ?_
        refine g_iload_n C dX11_send_199 rfl ?_
        obtain ⟨q51, hq51, h⟩ := x_bind h
        refine g_iaload C dX11_send_200 hq51 ?_
        refine g_aload C dX11_send_201 rfl ?_
        obtain ⟨q52, hq52, h⟩ := x_bind h
        obtain ⟨fo54, h⟩ := x_some1 h
        obtain ⟨_, hfo54⟩ := gob_some fo54
        refine g_callV C dX11_send_203 (xin_39 _ (List.mem_of_getElem? (i := 3) rfl)) xy_X11_launch xi_X11_launch xs_X11_launch hfo54 ⟨_, _, rfl⟩ (by omega) (by decide) (av := [.inl e, .inl q51, .inr (.inr (some q20.1))]) rfl (Nat.le_of_ble_eq_true rfl) (le_O_launch hq52) (c_O_launch _ hq52) rfl ?_
        refine g_if_eq C 213 dX11_send_206 (by decide) h (fun h => ?_) (fun h => ?_)
        · refine g_loc [(0, .inr (.inr (some o))), (1, .inl e), (4, .inl (if xw q17 < xw 8 then q17 else 8)), (5, .inr (.inr (some q20.1)))] ⟨rfl, rfl, rfl, rfl, trivial⟩ ?_
          exact t_O_send_213 hd9 C _ _ hR hk52 _ _ _ h
        · refine g_iconst C dX11_send_209 ?_
          refine g_goto C 214 dX11_send_210 (by decide) ?_
          refine g_loc [(0, .inr (.inr (some o))), (1, .inl e), (4, .inl (if xw q17 < xw 8 then q17 else 8)), (5, .inr (.inr (some q20.1)))] ⟨rfl, rfl, rfl, rfl, trivial⟩ ?_
          exact t_O_send_214 hd9 C _ _ hR hk52 _ _ _ _ h
  · refine g_aload_n C dX11_send_113 rfl ?_
    refine g_iload_n C dX11_send_114 rfl ?_
    refine g_aload_n C dX11_send_115 rfl ?_
    refine g_iconst C dX11_send_116 ?_
    obtain ⟨q54, hq54, hzq54⟩ := x_bind h
    subst hq54
    have h := hzq54
    obtain ⟨q55, hq55, h⟩ := x_bind h
    refine g_iaload C dX11_send_117 hq55 ?_
    refine g_aload_n C dX11_send_118 rfl ?_
    obtain ⟨q56, hq56, h⟩ := x_bind h
    refine g_callS C dX11_send_119 (xin_38 _ (List.mem_of_getElem? (i := 21) rfl)) xy_X11_bytes xt_X11_bytes (by omega) (by decide) (av := [.inr (.inr (some q54))]) rfl (Nat.le_of_ble_eq_true rfl) (le_O_bytes hq56) (c_O_bytes _ hq56) rfl ?_
    obtain ⟨q57, hq57, h⟩ := x_bind h
    obtain ⟨fo59, h⟩ := x_some1 h
    obtain ⟨_, hfo59⟩ := gob_some fo59
    refine g_callV C dX11_send_122 (xin_39 _ (List.mem_of_getElem? (i := 3) rfl)) xy_X11_launch xi_X11_launch xs_X11_launch hfo59 ⟨_, _, rfl⟩ (by omega) (by decide) (av := [.inl e, .inl q55, .inr (.inr (some q56.1))]) rfl (Nat.le_of_ble_eq_true rfl) (le_O_launch hq57) (c_O_launch _ hq57) rfl ?_
    refine g_istore_n C dX11_send_125 (by decide) ?_
    refine g_iload_n C dX11_send_126 rfl ?_
    refine g_if_eq C 52 dX11_send_127 (by decide) h (fun h => ?_) (fun h => ?_)
    · refine g_loc [(0, .inr (.inr (some o))), (1, .inl e), (2, .inl q57.1)] ⟨rfl, rfl, rfl, trivial⟩ ?_
      exact hk52 _ _ h
    · refine g_aload_n C dX11_send_130 rfl ?_
      refine g_iconst C dX11_send_131 ?_
      refine g_aload_n C dX11_send_132 rfl ?_
      obtain ⟨q59, hq59, h⟩ := x_bind h
      refine g_getI C dX11_send_133 fF_X11_78 hq59 ?_
      obtain ⟨q60, hq60, h⟩ := x_bind h
      refine g_iastore C dX11_send_136 hq60 ?_
      refine g_aload_n C dX11_send_137 rfl ?_
      refine g_iconst C dX11_send_138 ?_
      refine g_iconst C dX11_send_139 ?_
      obtain ⟨q61, hq61, h⟩ := x_bind h
      refine g_iastore C dX11_send_140 hq61 ?_
      refine g_goto C 52 dX11_send_141 (by decide) ?_
      refine g_loc [(0, .inr (.inr (some o))), (1, .inl e), (2, .inl q57.1)] ⟨rfl, rfl, rfl, trivial⟩ ?_
      exact hk52 _ _ h
def f_O_send_103 (o : Nat) (e : Int) (k52 : Int → gH → Option (gH)) (k74 : Option Nat → Nat → Int → Int → gH → Option (gH)) (x3 : Option Nat) (x4 : Nat) (x5 : Int) (x6 : Int) (hp : gH) : Option (gH) :=
     k74 x3 x4 x5 (x6 + 1) hp
set_option maxRecDepth 1000000 in
set_option maxHeartbeats 4000000 in
theorem t_O_send_103 {P : gG → Prop} {d : Nat} {m : xM} {h9 : gH} (hd9 : 5 ≤ d) (C : ∀ Γ, P Γ → gX Γ lay_X RX11 cX11_send 11 d h9) (o : Nat) (e : Int) (hR : ∀ Γ, P Γ → gRv Γ lay_X cX11_send m h9) {k52 : Int → gH → Option (gH)} (hk52 : ∀ (x2 : Int) (hp : gH), k52 x2 hp = some h9 → gJ P lay_X 11 52 [(0, .inr (.inr (some o))), (1, .inl e), (2, .inl x2)] [] m hp h9) {k74 : Option Nat → Nat → Int → Int → gH → Option (gH)} (hk74 : ∀ (x3 : Option Nat) (x4 : Nat) (x5 : Int) (x6 : Int) (hp : gH), k74 x3 x4 x5 x6 hp = some h9 → gJ P lay_X 11 74 [(0, .inr (.inr (some o))), (1, .inl e), (3, .inr (.inr x3)), (4, .inr (.inr (some x4))), (5, .inl x5), (6, .inl x6)] [] m hp h9) (x3 : Option Nat) (x4 : Nat) (x5 : Int) (x6 : Int) (hp : gH) (h : f_O_send_103 o e k52 k74 x3 x4 x5 x6 hp = some h9) : gJ P lay_X 11 103 [(0, .inr (.inr (some o))), (1, .inl e), (3, .inr (.inr x3)), (4, .inr (.inr (some x4))), (5, .inl x5), (6, .inl x6)] [] m hp h9 := by
  unfold f_O_send_103 at h
  refine g_iinc C dX11_send_103 (by decide) rfl ?_
  refine g_goto C 74 dX11_send_106 (by decide) ?_
  refine g_loc [(0, .inr (.inr (some o))), (1, .inl e), (3, .inr (.inr x3)), (4, .inr (.inr (some x4))), (5, .inl x5), (6, .inl (x6 + 1))] ⟨rfl, rfl, rfl, rfl, rfl, rfl, trivial⟩ ?_
  exact hk74 _ _ _ _ _ h
def f_O_send_74 (o : Nat) (e : Int) (k52 : Int → gH → Option (gH)) : Nat → Option Nat → Nat → Int → Int → gH → Option (gH)
  | 0, _, _, _, _, _ => none
  | n + 1, x3, x4, x5, x6, hp =>
     (if xw x6 < xw x5 then (Option.bind (gaK 4 hp x4 x6) fun q62 =>
      (if x3 = none then (Option.bind (gaN 0 hp q62 2) fun q63 =>
      (if xw q63 = xw 1 then f_O_send_103 o e k52 (f_O_send_74 o e k52 n) (some q62) x4 x5 x6 hp
      else f_O_send_103 o e k52 (f_O_send_74 o e k52 n) x3 x4 x5 x6 hp))
      else f_O_send_103 o e k52 (f_O_send_74 o e k52 n) x3 x4 x5 x6 hp))
      else f_O_send_109 o e k52 x3 hp)
set_option maxRecDepth 1000000 in
set_option maxHeartbeats 4000000 in
theorem t_O_send_74 {P : gG → Prop} {d : Nat} {m : xM} {h9 : gH} (hd9 : 5 ≤ d) (C : ∀ Γ, P Γ → gX Γ lay_X RX11 cX11_send 11 d h9) (o : Nat) (e : Int) (hR : ∀ Γ, P Γ → gRv Γ lay_X cX11_send m h9) {k52 : Int → gH → Option (gH)} (hk52 : ∀ (x2 : Int) (hp : gH), k52 x2 hp = some h9 → gJ P lay_X 11 52 [(0, .inr (.inr (some o))), (1, .inl e), (2, .inl x2)] [] m hp h9) : ∀ (n : Nat) (x3 : Option Nat) (x4 : Nat) (x5 : Int) (x6 : Int) (hp : gH), f_O_send_74 o e k52 n x3 x4 x5 x6 hp = some h9 → gJ P lay_X 11 74 [(0, .inr (.inr (some o))), (1, .inl e), (3, .inr (.inr x3)), (4, .inr (.inr (some x4))), (5, .inl x5), (6, .inl x6)] [] m hp h9 := by
  intro n
  induction n with
  | zero => intro _ _ _ _ _ h; cases h
  | succ n ih =>
    intro x3 x4 x5 x6 hp h
    rw [f_O_send_74] at h
    refine g_iload C dX11_send_74 rfl ?_
    refine g_iload C dX11_send_76 rfl ?_
    refine g_icmp_ge C 109 dX11_send_78 (by decide) h (fun h => ?_) (fun h => ?_)
    · refine g_loc [(0, .inr (.inr (some o))), (1, .inl e), (3, .inr (.inr x3))] ⟨rfl, rfl, rfl, trivial⟩ ?_
      exact t_O_send_109 hd9 C _ _ hR hk52 _ _ h
    · refine g_aload C dX11_send_81 rfl ?_
      refine g_iload C dX11_send_83 rfl ?_
      obtain ⟨q62, hq62, h⟩ := x_bind h
      refine g_aaloadK4 C dX11_send_85 hq62 ?_
      refine g_astore C dX11_send_86 (by decide) ?_
      refine g_aload_n C dX11_send_88 rfl ?_
      refine g_ifnonnull C 103 dX11_send_89 (by decide) h (fun h => ?_) (fun h => ?_)
      · refine g_loc [(0, .inr (.inr (some o))), (1, .inl e), (3, .inr (.inr x3)), (4, .inr (.inr (some x4))), (5, .inl x5), (6, .inl x6)] ⟨rfl, rfl, rfl, rfl, rfl, rfl, trivial⟩ ?_
        exact t_O_send_103 hd9 C _ _ hR hk52 ih _ _ _ _ _ h
      · refine g_aload C dX11_send_92 rfl ?_
        refine g_iconst C dX11_send_94 ?_
        obtain ⟨q63, hq63, h⟩ := x_bind h
        refine g_iaload C dX11_send_95 hq63 ?_
        refine g_iconst C dX11_send_96 ?_
        refine g_icmp_ne C 103 dX11_send_97 (by decide) h (fun h => ?_) (fun h => ?_)
        · refine g_loc [(0, .inr (.inr (some o))), (1, .inl e), (3, .inr (.inr x3)), (4, .inr (.inr (some x4))), (5, .inl x5), (6, .inl x6)] ⟨rfl, rfl, rfl, rfl, rfl, rfl, trivial⟩ ?_
          exact t_O_send_103 hd9 C _ _ hR hk52 ih _ _ _ _ _ h
        · refine g_aload C dX11_send_100 rfl ?_
          refine g_astore_n C dX11_send_102 (by decide) ?_
          refine g_loc [(0, .inr (.inr (some o))), (1, .inl e), (3, .inr (.inr (some q62))), (4, .inr (.inr (some x4))), (5, .inl x5), (6, .inl x6)] ⟨rfl, rfl, rfl, rfl, rfl, rfl, trivial⟩ ?_
          exact t_O_send_103 hd9 C _ _ hR hk52 ih _ _ _ _ _ h
def f_O_send_52 (o : Nat) (e : Int) : Nat → Int → gH → Option (gH)
  | 0, _, _ => none
  | n + 1, x2, hp =>
     (if xw x2 = 0 then some hp
      else (Option.bind (gfK hp o 28) fun q12 =>
      (Option.bind (gaK 5 hp q12 e) fun q13 =>
      (Option.bind (glc hp q13) fun q14 =>
      f_O_send_74 o e (f_O_send_52 o e n) fu none q13 q14 0 hp))))
set_option maxRecDepth 1000000 in
set_option maxHeartbeats 4000000 in
theorem t_O_send_52 {P : gG → Prop} {d : Nat} {m : xM} {h9 : gH} (hd9 : 5 ≤ d) (C : ∀ Γ, P Γ → gX Γ lay_X RX11 cX11_send 11 d h9) (o : Nat) (e : Int) (hR : ∀ Γ, P Γ → gRv Γ lay_X cX11_send m h9) : ∀ (n : Nat) (x2 : Int) (hp : gH), f_O_send_52 o e n x2 hp = some h9 → gJ P lay_X 11 52 [(0, .inr (.inr (some o))), (1, .inl e), (2, .inl x2)] [] m hp h9 := by
  intro n
  induction n with
  | zero => intro _ _ h; cases h
  | succ n ih =>
    intro x2 hp h
    rw [f_O_send_52] at h
    refine g_iload_n C dX11_send_52 rfl ?_
    refine g_if_eq C 337 dX11_send_53 (by decide) h (fun h => ?_) (fun h => ?_)
    · exact g_return hR dX11_send_337 (by cases h; exact ⟨rfl, rfl⟩)
    · refine g_null C dX11_send_56 ?_
      refine g_astore_n C dX11_send_57 (by decide) ?_
      refine g_aload_n C dX11_send_58 rfl ?_
      obtain ⟨q12, hq12, h⟩ := x_bind h
      refine g_getK C dX11_send_59 fF_X11_67 hq12 ?_
      refine g_iload_n C dX11_send_62 rfl ?_
      obtain ⟨q13, hq13, h⟩ := x_bind h
      refine g_aaloadK5 C dX11_send_63 hq13 ?_
      refine g_astore C dX11_send_64 (by decide) ?_
      refine g_aload C dX11_send_66 rfl ?_
      obtain ⟨q14, hq14, h⟩ := x_bind h
      refine g_lenC C dX11_send_68 hq14 ?_
      refine g_istore C dX11_send_69 (by decide) ?_
      refine g_iconst C dX11_send_71 ?_
      refine g_istore C dX11_send_72 (by decide) ?_
      refine g_loc [(0, .inr (.inr (some o))), (1, .inl e), (3, .inr (.inr none)), (4, .inr (.inr (some q13))), (5, .inl q14), (6, .inl 0)] ⟨rfl, rfl, rfl, rfl, rfl, rfl, trivial⟩ ?_
      exact t_O_send_74 hd9 C _ _ hR ih fu _ _ _ _ _ h
def f_O_send_51 (o : Nat) (e : Int) (s0 : Int) (hp : gH) : Option (gH) :=
     f_O_send_52 o e fu s0 hp
set_option maxRecDepth 1000000 in
set_option maxHeartbeats 4000000 in
theorem t_O_send_51 {P : gG → Prop} {d : Nat} {m : xM} {h9 : gH} (hd9 : 5 ≤ d) (C : ∀ Γ, P Γ → gX Γ lay_X RX11 cX11_send 11 d h9) (o : Nat) (e : Int) (hR : ∀ Γ, P Γ → gRv Γ lay_X cX11_send m h9) (s0 : Int) (hp : gH) (h : f_O_send_51 o e s0 hp = some h9) : gJ P lay_X 11 51 [(0, .inr (.inr (some o))), (1, .inl e)] [.inl s0] m hp h9 := by
  unfold f_O_send_51 at h
  refine g_istore_n C dX11_send_51 (by decide) ?_
  refine g_loc [(0, .inr (.inr (some o))), (1, .inl e), (2, .inl s0)] ⟨rfl, rfl, rfl, trivial⟩ ?_
  exact t_O_send_52 hd9 C _ _ hR fu _ _ h
def f_O_send (o : Nat) (e : Int) (hp : gH) : Option (gH) :=
     (Option.bind (gfK hp o 25) fun q0 =>
      (Option.bind (gfK hp o 25) fun q1 =>
      (Option.bind (gaN 0 hp q1 e) fun q2 =>
      (Option.bind (gfK hp o 12) fun q3 =>
      (Option.bind (gfI hp o 3) fun q4 =>
      (Option.bind (gaN 0 hp q3 q4) fun q5 =>
      (Option.bind (gfK hp o 12) fun q6 =>
      (Option.bind (gfI hp o 3) fun q7 =>
      (Option.bind (gaN 0 hp q6 q7) fun q8 =>
      (Option.bind (gsN 0 hp q0 e (if xw (q8 + 28) < xw (q2 + q5) then q8 + 28 else q2 + q5)) fun q9 =>
      (Option.bind (gfK q9 o 26) fun q10 =>
      (Option.bind (gaN 3 q9 q10 e) fun q11 =>
      (if xw q11 = 0 then f_O_send_51 o e 1 q9
      else f_O_send_51 o e 0 q9)))))))))))))
set_option maxRecDepth 1000000 in
set_option maxHeartbeats 4000000 in
theorem t_O_send {P : gG → Prop} {d : Nat} {m : xM} {h9 : gH} (hd9 : 5 ≤ d) (C : ∀ Γ, P Γ → gX Γ lay_X RX11 cX11_send 11 d h9) (o : Nat) (e : Int) (hR : ∀ Γ, P Γ → gRv Γ lay_X cX11_send m h9) (hp : gH) (h : f_O_send o e hp = some h9) : gJ P lay_X 11 0 [(0, .inr (.inr (some o))), (1, .inl e)] [] m hp h9 := by
  unfold f_O_send at h
  refine g_aload_n C dX11_send_0 rfl ?_
  obtain ⟨q0, hq0, h⟩ := x_bind h
  refine g_getK C dX11_send_1 fF_X11_55 hq0 ?_
  refine g_iload_n C dX11_send_4 rfl ?_
  refine g_aload_n C dX11_send_5 rfl ?_
  obtain ⟨q1, hq1, h⟩ := x_bind h
  refine g_getK C dX11_send_6 fF_X11_55 hq1 ?_
  refine g_iload_n C dX11_send_9 rfl ?_
  obtain ⟨q2, hq2, h⟩ := x_bind h
  refine g_iaload C dX11_send_10 hq2 ?_
  refine g_aload_n C dX11_send_11 rfl ?_
  obtain ⟨q3, hq3, h⟩ := x_bind h
  refine g_getK C dX11_send_12 fF_X11_13 hq3 ?_
  refine g_aload_n C dX11_send_15 rfl ?_
  obtain ⟨q4, hq4, h⟩ := x_bind h
  refine g_getI C dX11_send_16 fF_X11_84 hq4 ?_
  obtain ⟨q5, hq5, h⟩ := x_bind h
  refine g_iaload C dX11_send_19 hq5 ?_
  refine g_iadd C dX11_send_20 ?_
  refine g_aload_n C dX11_send_21 rfl ?_
  obtain ⟨q6, hq6, h⟩ := x_bind h
  refine g_getK C dX11_send_22 fF_X11_13 hq6 ?_
  refine g_aload_n C dX11_send_25 rfl ?_
  obtain ⟨q7, hq7, h⟩ := x_bind h
  refine g_getI C dX11_send_26 fF_X11_84 hq7 ?_
  obtain ⟨q8, hq8, h⟩ := x_bind h
  refine g_iaload C dX11_send_29 hq8 ?_
  refine g_bipush C dX11_send_30 (by decide) ?_
  refine g_iadd C dX11_send_32 ?_
  refine g_min C dX11_send_33 (xin_38 _ (List.mem_of_getElem? (i := 20) rfl)) gm_min_s gm_math gm_min_c (by omega) (Nat.le_of_ble_eq_true rfl) ?_
  obtain ⟨q9, hq9, h⟩ := x_bind h
  refine g_iastore C dX11_send_36 hq9 ?_
  refine g_aload_n C dX11_send_37 rfl ?_
  obtain ⟨q10, hq10, h⟩ := x_bind h
  refine g_getK C dX11_send_38 fF_X11_58 hq10 ?_
  refine g_iload_n C dX11_send_41 rfl ?_
  obtain ⟨q11, hq11, h⟩ := x_bind h
  refine g_baload C dX11_send_42 hq11 ?_
  refine g_if_ne C 50 dX11_send_43 (by decide) h (fun h => ?_) (fun h => ?_)
  · refine g_iconst C dX11_send_50 ?_
    refine g_loc [(0, .inr (.inr (some o))), (1, .inl e)] ⟨rfl, rfl, trivial⟩ ?_
    exact t_O_send_51 hd9 C _ _ hR _ _ h
  · refine g_iconst C dX11_send_46 ?_
    refine g_goto C 51 dX11_send_47 (by decide) ?_
    refine g_loc [(0, .inr (.inr (some o))), (1, .inl e)] ⟨rfl, rfl, trivial⟩ ?_
    exact t_O_send_51 hd9 C _ _ hR _ _ h
theorem c_O_send {o : Nat} {e : Int} (m : xM) {hp h9 : gH} (h : f_O_send o e hp = some h9) (l : Launch) : gMet l yX11_send cX11_send 11 none 5 lay_X [.inr (.inr (some o)), .inl e] m hp none m h9 :=
  gMet_v (by decide +kernel) (Nat.le_of_ble_eq_true rfl) (fun P C hR => t_O_send (Nat.le_refl _) C _ _ hR hp h)
theorem le_O_send {o : Nat} {e : Int} {hp h9 : gH} (h : f_O_send o e hp = some h9) : gle hp h9 :=
  (t_O_send (P := fun _ => False) (m := fun _ _ => 0) (Nat.le_refl _) (fun _ q => q.elim) _ _ (fun _ q => q.elim) hp h).1

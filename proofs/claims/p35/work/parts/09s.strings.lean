/-! ===== the constant texts: length and charAt ===== -/
theorem dJ3_checkIndex_8e157_0 : decode cJ3_checkIndex_8e157 0 = .ok (.iload_n 0, 1) := by decide +kernel
theorem dJ3_checkIndex_8e157_1 : decode cJ3_checkIndex_8e157 1 = .ok (.ifCond .lt 8, 3) := by decide +kernel
theorem dJ3_checkIndex_8e157_4 : decode cJ3_checkIndex_8e157 4 = .ok (.iload_n 0, 1) := by decide +kernel
theorem dJ3_checkIndex_8e157_5 : decode cJ3_checkIndex_8e157 5 = .ok (.iload_n 1, 1) := by decide +kernel
theorem dJ3_checkIndex_8e157_6 : decode cJ3_checkIndex_8e157 6 = .ok (.if_icmp .lt 10, 3) := by decide +kernel
theorem dJ3_checkIndex_8e157_16 : decode cJ3_checkIndex_8e157 16 = .ok (.iload_n 0, 1) := by decide +kernel
theorem dJ3_checkIndex_8e157_17 : decode cJ3_checkIndex_8e157 17 = .ok (.ireturn, 1) := by decide +kernel
theorem dJ0_checkIndex_df160_0 : decode cJ0_checkIndex_df160 0 = .ok (.iload_n 0, 1) := by decide +kernel
theorem dJ0_checkIndex_df160_1 : decode cJ0_checkIndex_df160 1 = .ok (.iload_n 1, 1) := by decide +kernel
theorem dJ0_checkIndex_df160_2 : decode cJ0_checkIndex_df160 2 = .ok (.getstatic 1053, 3) := by decide +kernel
theorem dJ0_checkIndex_df160_5 : decode cJ0_checkIndex_df160 5 = .ok (.invokestatic 1059, 3) := by decide +kernel
theorem dJ0_checkIndex_df160_8 : decode cJ0_checkIndex_df160 8 = .ok (.pop, 1) := by decide +kernel
theorem dJ0_checkIndex_df160_9 : decode cJ0_checkIndex_df160 9 = .ok (.return_, 1) := by decide +kernel
theorem dJ1_charAt_3b067_0 : decode cJ1_charAt_3b067 0 = .ok (.iload_n 1, 1) := by decide +kernel
theorem dJ1_charAt_3b067_1 : decode cJ1_charAt_3b067 1 = .ok (.aload_n 0, 1) := by decide +kernel
theorem dJ1_charAt_3b067_2 : decode cJ1_charAt_3b067 2 = .ok (.arraylength, 1) := by decide +kernel
theorem dJ1_charAt_3b067_3 : decode cJ1_charAt_3b067 3 = .ok (.invokestatic 9, 3) := by decide +kernel
theorem dJ1_charAt_3b067_6 : decode cJ1_charAt_3b067 6 = .ok (.aload_n 0, 1) := by decide +kernel
theorem dJ1_charAt_3b067_7 : decode cJ1_charAt_3b067 7 = .ok (.iload_n 1, 1) := by decide +kernel
theorem dJ1_charAt_3b067_8 : decode cJ1_charAt_3b067 8 = .ok (.baload, 1) := by decide +kernel
theorem dJ1_charAt_3b067_9 : decode cJ1_charAt_3b067 9 = .ok (.sipush 255, 3) := by decide +kernel
theorem dJ1_charAt_3b067_12 : decode cJ1_charAt_3b067 12 = .ok (.iand, 1) := by decide +kernel
theorem dJ1_charAt_3b067_13 : decode cJ1_charAt_3b067 13 = .ok (.i2c, 1) := by decide +kernel
theorem dJ1_charAt_3b067_14 : decode cJ1_charAt_3b067 14 = .ok (.ireturn, 1) := by decide +kernel
theorem dJ0_isLatin1_aae02_0 : decode cJ0_isLatin1_aae02 0 = .ok (.getstatic 38, 3) := by decide +kernel
theorem dJ0_isLatin1_aae02_3 : decode cJ0_isLatin1_aae02 3 = .ok (.ifCond .eq 14, 3) := by decide +kernel
theorem dJ0_isLatin1_aae02_6 : decode cJ0_isLatin1_aae02 6 = .ok (.aload_n 0, 1) := by decide +kernel
theorem dJ0_isLatin1_aae02_7 : decode cJ0_isLatin1_aae02 7 = .ok (.getfield 15, 3) := by decide +kernel
theorem dJ0_isLatin1_aae02_10 : decode cJ0_isLatin1_aae02 10 = .ok (.ifCond .ne 7, 3) := by decide +kernel
theorem dJ0_isLatin1_aae02_13 : decode cJ0_isLatin1_aae02 13 = .ok (.iconst 1, 1) := by decide +kernel
theorem dJ0_isLatin1_aae02_14 : decode cJ0_isLatin1_aae02 14 = .ok (.goto 4, 3) := by decide +kernel
theorem dJ0_isLatin1_aae02_18 : decode cJ0_isLatin1_aae02 18 = .ok (.ireturn, 1) := by decide +kernel
theorem dJ0_charAt_5068e_0 : decode cJ0_charAt_5068e 0 = .ok (.aload_n 0, 1) := by decide +kernel
theorem dJ0_charAt_5068e_1 : decode cJ0_charAt_5068e 1 = .ok (.invokevirtual 492, 3) := by decide +kernel
theorem dJ0_charAt_5068e_4 : decode cJ0_charAt_5068e 4 = .ok (.ifCond .eq 12, 3) := by decide +kernel
theorem dJ0_charAt_5068e_7 : decode cJ0_charAt_5068e 7 = .ok (.aload_n 0, 1) := by decide +kernel
theorem dJ0_charAt_5068e_8 : decode cJ0_charAt_5068e 8 = .ok (.getfield 9, 3) := by decide +kernel
theorem dJ0_charAt_5068e_11 : decode cJ0_charAt_5068e 11 = .ok (.iload_n 1, 1) := by decide +kernel
theorem dJ0_charAt_5068e_12 : decode cJ0_charAt_5068e 12 = .ok (.invokestatic 495, 3) := by decide +kernel
theorem dJ0_charAt_5068e_15 : decode cJ0_charAt_5068e 15 = .ok (.ireturn, 1) := by decide +kernel
theorem dJ0_coder_7d493_0 : decode cJ0_coder_7d493 0 = .ok (.getstatic 38, 3) := by decide +kernel
theorem dJ0_coder_7d493_3 : decode cJ0_coder_7d493 3 = .ok (.ifCond .eq 10, 3) := by decide +kernel
theorem dJ0_coder_7d493_6 : decode cJ0_coder_7d493 6 = .ok (.aload_n 0, 1) := by decide +kernel
theorem dJ0_coder_7d493_7 : decode cJ0_coder_7d493 7 = .ok (.getfield 15, 3) := by decide +kernel
theorem dJ0_coder_7d493_10 : decode cJ0_coder_7d493 10 = .ok (.goto 4, 3) := by decide +kernel
theorem dJ0_coder_7d493_14 : decode cJ0_coder_7d493 14 = .ok (.ireturn, 1) := by decide +kernel
theorem dJ0_length_8abf5_0 : decode cJ0_length_8abf5 0 = .ok (.aload_n 0, 1) := by decide +kernel
theorem dJ0_length_8abf5_1 : decode cJ0_length_8abf5 1 = .ok (.getfield 9, 3) := by decide +kernel
theorem dJ0_length_8abf5_4 : decode cJ0_length_8abf5 4 = .ok (.arraylength, 1) := by decide +kernel
theorem dJ0_length_8abf5_5 : decode cJ0_length_8abf5 5 = .ok (.aload_n 0, 1) := by decide +kernel
theorem dJ0_length_8abf5_6 : decode cJ0_length_8abf5 6 = .ok (.invokevirtual 335, 3) := by decide +kernel
theorem dJ0_length_8abf5_9 : decode cJ0_length_8abf5 9 = .ok (.ishr, 1) := by decide +kernel
theorem dJ0_length_8abf5_10 : decode cJ0_length_8abf5 10 = .ok (.ireturn, 1) := by decide +kernel
theorem xMet_c {l : Launch} {y : MethodName} {cc : ByteArray} {maxL d : Nat} {lay : List xS} {av : List xV} {m m' : xM} {r : Int} (ty : FieldType) (hnar : narrow ty (.int (Int32.ofInt r)) = .int (Int32.ofInt r)) (hy : plainName y.cls = true ∨ plainFor y = true) (hw : xwid av ≤ maxL)
    (hb : ∀ Γ : xG, xC Γ lay y.cls cc maxL d → xRi Γ lay cc r m' → Γ.1.2.1 = l → xW Γ lay maxL 0 (xargs 0 av) [] m) : xMet l y cc maxL (some ty) d lay av m (some (.inl r)) m' := by
  intro dC dI dA ad sz
  refine x_ofW (cc := cc) (maxL := maxL) (ret := some ty) hy rfl ?_
  intro p e s m0 args below meth c s₁ B hml hv
  obtain ⟨rfl, hsz, hP, hK, hD0, hX0⟩ := hv
  subst hsz
  have hl := lv_entry (av.map (xval ad)) (n := maxL) (by rw [xwid_sl]; exact hw)
  rw [lg_entry_eq]
  rw [xargs_lv] at hl
  refine hb ((p, l, e, xrm d, s, m0, (av.map (xval ad)).toArray, below, meth, c), (xAr ad lay s.heap.size, ad, dC, dI, dA), (0, 0, _)) ?_ ?_ rfl s.heap [] _ hP va_S.rf hl
  · exact ⟨B.exec, B.bytes, hml, findClass_of_methodNamed B.named, fun w h => atoms_spec (ws := Cond.code y cc maxL (some ty) :: wsL_law) B.pre w (List.mem_cons_of_mem _ h), hK, xAr_D hD0, fun q h => Or.inr h, Nat.le_refl _, Nat.le_refl _, Nat.le_refl _, Nat.le_refl _, hX0⟩
  · intro H locs ls pc hP hS hd
    exact W.zret (v := Int32.ofInt r) (ty := ty) B.exec B.bytes B.returns hnar (fun t ht hW => ⟨⟨rfl, by rw [ht]; exact hP⟩, hS.F ht⟩) hS.2.2 hd B.notSynchronized
section XK
variable {Γ : xG} {lay : List xS} {own : String} {cc : ByteArray} {nL d pc : Nat} {L : List (Nat × xV)} {st : List xV} {m : xM}
theorem x_sval (C : xC Γ lay own cc nL d) {idx : Nat} (i : Nat) (hi : xSok i) (hd : decode cc pc = .ok (.getfield idx, 3)) (hl : Cond.fieldLink own idx "java/lang/String" "value" "[B" ∈ wsL_law) (h : xW Γ lay nL (pc + 3) L (.inr (.inr (some (1000 + (100 + i)))) :: st) m) : xW Γ lay nL pc L (.inr (.inr (some (1000 + i))) :: st) m := by
  obtain ⟨⟨p, l, e, R, s, m0, args, below, meth, c⟩, ⟨A, ad, dC, dI, dA⟩, cells, slots, Q⟩ := Γ
  obtain ⟨hx, hb, hml, hown, hts, hK, hD, hA, hfr, hlo, hce, hsl, hstr⟩ := C
  intro H locs ls hP hS hv
  exact vk_getf hx hb (hstr.1 i hi).2.2.1 hS hown (hts _ hl) (fun _ h => h) hd (h H locs ls hP hS hv)
theorem x_scod (C : xC Γ lay own cc nL d) {idx : Nat} (i : Nat) (hi : xSok i) (hd : decode cc pc = .ok (.getfield idx, 3)) (hl : Cond.fieldLink own idx "java/lang/String" "coder" "B" ∈ wsL_law) (h : xW Γ lay nL (pc + 3) L (.inl 0 :: st) m) : xW Γ lay nL pc L (.inr (.inr (some (1000 + i))) :: st) m := by
  obtain ⟨⟨p, l, e, R, s, m0, args, below, meth, c⟩, ⟨A, ad, dC, dI, dA⟩, cells, slots, Q⟩ := Γ
  obtain ⟨hx, hb, hml, hown, hts, hK, hD, hA, hfr, hlo, hce, hsl, hstr⟩ := C
  intro H locs ls hP hS hv
  exact vk_getf hx hb (hstr.1 i hi).2.1 hS hown (hts _ hl) (fun _ h => h) hd (h H locs ls hP hS hv)
theorem x_comp (C : xC Γ lay own cc nL d) {idx : Nat} (hd : decode cc pc = .ok (.getstatic idx, 3)) (hl : Cond.fieldLink own idx "java/lang/String" "COMPACT_STRINGS" "Z" ∈ wsL_law) (h : xW Γ lay nL (pc + 3) L (.inl 1 :: st) m) : xW Γ lay nL pc L st m := by
  obtain ⟨⟨p, l, e, R, s, m0, args, below, meth, c⟩, ⟨A, ad, dC, dI, dA⟩, cells, slots, Q⟩ := Γ
  obtain ⟨hx, hb, hml, hown, hts, hK, hD, hA, hfr, hlo, hce, hsl, hstr⟩ := C
  intro H locs ls hP hS hv
  exact va_gets hx hb hstr.2.2.1 hS hown (hts _ hl) (fun _ h => h) hd (h H locs ls hP hS hv)
theorem x_siob (C : xC Γ lay own cc nL d) {idx : Nat} (hd : decode cc pc = .ok (.getstatic idx, 3)) (hl : Cond.fieldLink own idx "jdk/internal/util/Preconditions" "SIOOBE_FORMATTER" "Ljava/util/function/BiFunction;" ∈ wsL_law) (h : ∀ o : Option Nat, xW Γ lay nL (pc + 3) L (.inr (.inr o) :: st) m) : xW Γ lay nL pc L st m := by
  obtain ⟨⟨p, l, e, R, s, m0, args, below, meth, c⟩, ⟨A, ad, dC, dI, dA⟩, cells, slots, Q⟩ := Γ
  obtain ⟨hx, hb, hml, hown, hts, hK, hD, hA, hfr, hlo, hce, hsl, hstr⟩ := C
  intro H locs ls hP hS hv
  rcases hstr.2.2.2 with hz | hz
  · exact va_gets hx hb hz hS hown (hts _ hl) (fun _ h => h) hd (h none H locs ls hP hS hv)
  · exact va_gets hx hb hz hS hown (hts _ hl) (fun _ h => h) hd (h (some (1000 + 200)) H locs ls hP hS hv)
theorem x_sal (C : xC Γ lay own cc nL d) (i : Nat) (hi : xSok i) (hd : decode cc pc = .ok (.arraylength, 1)) (h : xW Γ lay nL (pc + 1) L (.inl (xsl i) :: st) m) : xW Γ lay nL pc L (.inr (.inr (some (1000 + (100 + i)))) :: st) m := by
  obtain ⟨⟨p, l, e, R, s, m0, args, below, meth, c⟩, ⟨A, ad, dC, dI, dA⟩, cells, slots, Q⟩ := Γ
  obtain ⟨hx, hb, hml, hown, hts, hK, hD, hA, hfr, hlo, hce, hsl, hstr⟩ := C
  intro H locs ls hP hS hv
  exact va_tlen hx hb (hstr.1 i hi).2.2.2 hS (v := Int32.ofInt (xsl i)) (by unfold xsl; rw [Int32.ofInt_eq_ofNat]) hd (h H locs ls hP hS hv)
theorem x_sbal (C : xC Γ lay own cc nL d) (i : Nat) (hi : xSok i) {j : Int} (hj : xib j (xSby.getD i []).length) (hd : decode cc pc = .ok (.baload, 1)) (h : xW Γ lay nL (pc + 1) L (.inl (xsc i (xix j)) :: st) m) : xW Γ lay nL pc L (.inl j :: .inr (.inr (some (1000 + (100 + i)))) :: st) m := by
  obtain ⟨⟨p, l, e, R, s, m0, args, below, meth, c⟩, ⟨A, ad, dC, dI, dA⟩, cells, slots, Q⟩ := Γ
  obtain ⟨hx, hb, hml, hown, hts, hK, hD, hA, hfr, hlo, hce, hsl, hstr⟩ := C
  intro H locs ls hP hS hv
  refine va_tb hx hb (hstr.1 i hi).2.2.2 hS (xib_in hj) (v := Value.int (Int32.ofInt (xsc i (xix j)))) ?_ hd (h H locs ls hP hS hv)
  show Value.int ((xSby.getD i []).getD (Int32.ofInt j).toNatClampNeg 0) = _
  unfold xsc
  rw [Int32.ofInt_toInt]
  rfl
theorem xsc_tab : ∀ i, i < 28 → ∀ k, k < (xSby.getD i []).length → ((((xSby.getD i []).getD k 0) &&& 255).toUInt32 % 65536).toInt32 = (xSby.getD i []).getD k 0 ∧ narrow .char (.int ((xSby.getD i []).getD k 0)) = .int ((xSby.getD i []).getD k 0) := by decide +kernel
theorem xsl_tab : ∀ i, i < 28 → xw (xsl i) = xsl i ∧ xishr (xsl i) 0 = xsl i := by decide +kernel
theorem x_i2cB (C : xC Γ lay own cc nL d) (i k : Nat) (hi : xSok i) (hk : k < (xSby.getD i []).length) (hd : decode cc pc = .ok (.i2c, 1)) (h : xW Γ lay nL (pc + 1) L (.inl (xsc i k) :: st) m) : xW Γ lay nL pc L (.inl (xiand (xsc i k) 255) :: st) m := by
  obtain ⟨⟨p, l, e, R, s, m0, args, below, meth, c⟩, ⟨A, ad, dC, dI, dA⟩, cells, slots, Q⟩ := Γ
  obtain ⟨hx, hb, -⟩ := C
  intro H locs ls hP hS hv
  refine lv_i2c hx hb hd ?_ (h H locs ls hP hS hv)
  unfold xiand xsc
  rw [Int32.ofInt_toInt, Int32.ofInt_toInt]
  exact (xsc_tab i (xSok_lt hi) k hk).1
variable {dY maxL n b idx : Nat} {cY : ByteArray} {y : MethodName} {ret : Option FieldType} {av : List xV} {rv : Option xV} {mY : xM}
theorem x_callVK (C : xC Γ lay own cc nL d) (hd : decode cc pc = .ok (.invokevirtual idx, 3)) (hl : Cond.methodLink own idx y ∈ wsL_law) (hY : xY y cY maxL ret n) (hin : Cond.instanceMethod y ∈ wsL_law) (hse : Cond.selects y.cls y y ∈ wsL_law) (hdd : dY + 1 ≤ d) (hmax : maxL ≤ 11)
    (hb : ∃ i : Nat, xSok i ∧ b = 1000 + i) (hci : y.cls = "java/lang/String") (hn : av.length = n) (hst : (st.map xcat).sum ≤ 8)
    (hM : xMet Γ.1.2.1 y cY maxL ret dY lay (.inr (.inr (some b)) :: av) m rv mY) {stk : List xV} (hs : stk = av.reverse ++ .inr (.inr (some b)) :: st)
    (k : xW Γ lay nL (pc + 3) L (rv.toList ++ st) mY) : xW Γ lay nL pc L stk m := by
  subst hs
  obtain ⟨⟨p, l, e, R, s, m0, args, below, meth, c⟩, ⟨A, ad, dC, dI, dA⟩, cells, slots, Q⟩ := Γ
  obtain ⟨hx, hbc, hml, hown, hts, hK, hD, hA, hfr, hlo, hce, hsl, hstr⟩ := C
  intro H locs ls hP hS hv
  have hMy := hM dC dI dA ad H.size
  have hAA2 : ∀ q : Nat, xAr ad lay H.size q → A q := fun q h2 => by
    rcases h2 with ⟨i, hi, rfl⟩ | h2
    · exact hD.2 _ hi
    · exact hA _ (Nat.le_trans hS.1 h2)
  obtain ⟨ib, hib, rfl⟩ := hb
  have hrc : ∃ cell : Cell, H[ad (1000 + ib)]? = some cell ∧ cell.vm.isStatics = false ∧ s.vm.findClass y.cls = some cell.cls := by
    obtain ⟨cell, h1, h2, h3, -⟩ := (hstr.1 ib hib).1.kept hS.2.1
    exact ⟨cell, h1, h2, by rw [hci]; exact h3⟩
  have hGW : GoodIn wsL_law (wsV own idx y.cls y (Cond.code y cY maxL ret :: wsL_law)) := by
    intro w hw
    unfold wsV at hw
    rcases List.mem_append.mp hw with h | h
    · simp only [List.mem_cons, List.not_mem_nil, or_false] at h
      rcases h with rfl | rfl | rfl | rfl
      · exact xgood1 hl
      · exact xgood1 hin
      · exact xgood1 hse
      · exact xgood1 hY.2.1
    · exact xgoodY hY.1 w h
  have hrun := va_runV (p := p) (l := l) (e := e) (R := R) (s := s) (m := m0) (args := args) (below := below) (meth := meth) (c := c) (H := H) (locs := locs) (cells := cells) (slots := slots) (nL := nL) (As := av.map (xval ad)) (rest := st.map (xval ad)) (g := F0 m0 pc ls (((av.reverse ++ .inr (.inr (some (1000 + ib))) :: st)).map (xval ad)))
    ⟨hx, hbc, hml, hown, hts⟩ hMy (cwV n hts hGW rfl rfl rfl ⟨rfl, hY.2.2⟩ ⟨by show dY + 1 ≤ R.frames; omega, by show 8 + (maxL + 11) + 30 * dY ≤ R.locals; omega⟩)
    ⟨xPre_blind _ _ _ _ _ _ _ _, hrc, fun U hU hW => ⟨rfl, by rw [hU], by rw [hU]; exact hP, va_K.moved hW.alike hK, hD.1, by rw [hU]; exact xStr.goes hW hstr (fun _ => rfl) (fun q h1 h2 => hS.2.1 q h1 h2) hAA2⟩⟩
    rfl (by rw [List.length_map]; exact hn) hv.1 (by
      show List.map (xval ad) _ = _
      rw [List.map_append, List.map_reverse, List.map_cons]
      rfl) (by
      refine lv_room ?_
      rw [List.map_map]
      have e1 : ((fun v => v.category) ∘ xval ad) = xcat := funext fun v => xcat_val ad v
      rw [e1]; exact hst) hd ⟨by omega, by omega⟩
  intro Ts hTs X
  obtain ⟨v, st₀, t, T', Lo, h0, X', hL, e1, e2, ⟨⟨hv1, hp1⟩, hz, hkk⟩, stp⟩ := hrun Ts hTs X
  cases hv1
  rw [h0] at hz hkk
  have hP2 : va_P (dC, dI) vwCl (xwld ad dA mY 0 lay) T'.heap := by rw [e1]; exact hp1
  have hAA : ∀ q : Nat, q < H.size → xAr ad lay H.size q → A q := fun q h1 h2 => by
    rcases h2 with ⟨i, hi, rfl⟩ | h2
    · exact hD.2 _ hi
    · omega
  obtain ⟨t2, a1, b1⟩ := k T'.heap (locs ++ Lo) ls hP2 ⟨Nat.le_trans hS.1 (by rw [e1]; exact hz), fun q h1 h2 => by rw [e1, hkk q (Nat.lt_of_lt_of_le h1 hS.1) (fun z => h2 (hAA q (Nat.lt_of_lt_of_le h1 hS.1) z))]; exact hS.2.1 q h1 h2, fun q hq => by
      rcases List.mem_append.mp hq with h | h
      · exact hS.2.2 q h
      · rcases hL q h with ⟨i, hi, hq⟩ | h2
        · rw [hq]; exact hD.2 _ hi
        · exact hA _ (Nat.le_trans hS.1 h2)⟩ hv T' rfl X'
  refine ⟨t2, stp t2 ?_, b1⟩
  show Steps p.tables e below (T'.setTop (F0 m0 (pc + 3) ls ((rv.map (xval ad)).toList ++ st.map (xval ad)))) t2
  have e3 : ((rv.map (xval ad)).toList ++ st.map (xval ad)) = ((rv.toList ++ st).map (xval ad)) := by
    cases rv with
    | none => rfl
    | some v => rfl
  rw [e3]
  exact a1
end XK
theorem xyJ3_check : xY yJ3_checkIndex_8e157 cJ3_checkIndex_8e157 3 (some .int) 3 := ⟨by decide +kernel, by decide +kernel, by decide, by decide, by decide +kernel⟩
theorem xyJ0_check : xY yJ0_checkIndex_df160 cJ0_checkIndex_df160 2 none 2 := ⟨by decide +kernel, by decide +kernel, by decide, by decide, by decide +kernel⟩
theorem xyJ1_char : xY yJ1_charAt_3b067 cJ1_charAt_3b067 2 (some .char) 2 := ⟨by decide +kernel, by decide +kernel, by decide, by decide, by decide +kernel⟩
theorem xyJ0_latin : xY yJ0_isLatin1_aae02 cJ0_isLatin1_aae02 1 (some .boolean) 0 := ⟨by decide +kernel, by decide +kernel, by decide, by decide, by decide +kernel⟩
theorem xyJ0_char : xY yJ0_charAt_5068e cJ0_charAt_5068e 2 (some .char) 1 := ⟨by decide +kernel, by decide +kernel, by decide, by decide, by decide +kernel⟩
theorem xyJ0_coder : xY yJ0_coder_7d493 cJ0_coder_7d493 1 (some .byte) 0 := ⟨by decide +kernel, by decide +kernel, by decide, by decide, by decide +kernel⟩
theorem xyJ0_length : xY yJ0_length_8abf5 cJ0_length_8abf5 1 (some .int) 0 := ⟨by decide +kernel, by decide +kernel, by decide, by decide, by decide +kernel⟩
theorem c_s0 (l : Launch) (lay : List xS) (m : xM) {j n : Int} (o : Option Nat) (h1 : ¬ xw j < 0) (h2 : xw j < xw n) : xMet l yJ3_checkIndex_8e157 cJ3_checkIndex_8e157 3 (some .int) 0 lay [.inl j, .inl n, .inr (.inr o)] m (some (.inl j)) m :=
  xMet_i (by decide +kernel) (by cases o <;> exact Nat.le_of_ble_eq_true rfl) (fun Γ C hR _ => by
    refine x_iload_n C dJ3_checkIndex_8e157_0 rfl ?_
    refine x_if_ltN C 9 dJ3_checkIndex_8e157_1 (by decide) h1 ?_
    refine x_iload_n C dJ3_checkIndex_8e157_4 rfl ?_
    refine x_iload_n C dJ3_checkIndex_8e157_5 rfl ?_
    refine x_icmp_ltT C 16 dJ3_checkIndex_8e157_6 (by decide) h2 ?_
    refine x_iload_n C dJ3_checkIndex_8e157_16 rfl ?_
    exact x_ireturn hR dJ3_checkIndex_8e157_17 rfl)
theorem c_s1 (l : Launch) (lay : List xS) (m : xM) {j n : Int} (h1 : ¬ xw j < 0) (h2 : xw j < xw n) : xMet l yJ0_checkIndex_df160 cJ0_checkIndex_df160 2 none 1 lay [.inl j, .inl n] m none m :=
  xMet_v (by decide +kernel) (Nat.le_of_ble_eq_true rfl) (fun Γ C hR _ => by
    refine x_iload_n C dJ0_checkIndex_df160_0 rfl ?_
    refine x_iload_n C dJ0_checkIndex_df160_1 rfl ?_
    refine x_siob C dJ0_checkIndex_df160_2 (by decide +kernel) (fun o => ?_)
    refine x_callSI C (dY := 0) (st := []) (av := [.inl j, .inl n, .inr (.inr o)]) dJ0_checkIndex_df160_5 (by decide +kernel) xyJ3_check (by decide +kernel) (Nat.le_refl _) (by decide) rfl (by decide) (c_s0 _ _ _ o h1 h2) rfl ?_
    refine x_pop C dJ0_checkIndex_df160_8 rfl ?_
    exact x_returnV hR dJ0_checkIndex_df160_9 rfl)
theorem c_s2 (l : Launch) (lay : List xS) (m : xM) (i : Nat) (hi : xSok i) {j : Int} (hj : xib j (xSby.getD i []).length) : xMet l yJ1_charAt_3b067 cJ1_charAt_3b067 2 (some .char) 2 lay [.inr (.inr (some (1000 + (100 + i)))), .inl j] m (some (.inl (xsc i (xix j)))) m := by
  have hk : xix j < (xSby.getD i []).length := by
    obtain ⟨q1, q2⟩ := hj
    unfold xix; omega
  have hn : narrow .char (.int (Int32.ofInt (xsc i (xix j)))) = .int (Int32.ofInt (xsc i (xix j))) := by
    unfold xsc
    rw [Int32.ofInt_toInt]
    exact (xsc_tab i (xSok_lt hi) _ hk).2
  have h1 : ¬ xw j < 0 := by
    obtain ⟨q1, q2⟩ := hj
    omega
  have h2 : xw j < xw (xsl i) := by
    rw [(xsl_tab i (xSok_lt hi)).1]
    exact hj.2
  exact xMet_c .char hn (by decide +kernel) (Nat.le_of_ble_eq_true rfl) (fun Γ C hR _ => by
    refine x_iload_n C dJ1_charAt_3b067_0 rfl ?_
    refine x_aload_n C dJ1_charAt_3b067_1 rfl ?_
    refine x_sal C i hi dJ1_charAt_3b067_2 ?_
    refine x_callSI C (dY := 1) (st := []) (av := [.inl j, .inl (xsl i)]) dJ1_charAt_3b067_3 (by decide +kernel) xyJ0_check (by decide +kernel) (Nat.le_refl _) (by decide) rfl (by decide) (c_s1 _ _ _ h1 h2) rfl ?_
    refine x_aload_n C dJ1_charAt_3b067_6 rfl ?_
    refine x_iload_n C dJ1_charAt_3b067_7 rfl ?_
    refine x_sbal C i hi hj dJ1_charAt_3b067_8 ?_
    refine x_sipush C dJ1_charAt_3b067_9 (by decide) ?_
    refine x_iand C dJ1_charAt_3b067_12 ?_
    refine x_i2cB C i _ hi hk dJ1_charAt_3b067_13 ?_
    exact x_ireturn hR dJ1_charAt_3b067_14 rfl)
theorem c_s3 (l : Launch) (lay : List xS) (m : xM) (i : Nat) (hi : xSok i) : xMet l yJ0_isLatin1_aae02 cJ0_isLatin1_aae02 1 (some .boolean) 0 lay [.inr (.inr (some (1000 + i)))] m (some (.inl 1)) m :=
  xMet_c .boolean rfl (by decide +kernel) (Nat.le_of_ble_eq_true rfl) (fun Γ C hR _ => by
    refine x_comp C dJ0_isLatin1_aae02_0 (by decide +kernel) ?_
    refine x_if_eqN C 17 dJ0_isLatin1_aae02_3 (by decide) (by decide) ?_
    refine x_aload_n C dJ0_isLatin1_aae02_6 rfl ?_
    refine x_scod C i hi dJ0_isLatin1_aae02_7 (by decide +kernel) ?_
    refine x_if_neN C 17 dJ0_isLatin1_aae02_10 (by decide) (by decide) ?_
    refine x_iconst C dJ0_isLatin1_aae02_13 ?_
    refine x_goto C 18 dJ0_isLatin1_aae02_14 (by decide) ?_
    exact x_ireturn hR dJ0_isLatin1_aae02_18 rfl)
theorem c_s4 (l : Launch) (lay : List xS) (m : xM) (i : Nat) (hi : xSok i) {j : Int} (hj : xib j (xSby.getD i []).length) : xMet l yJ0_charAt_5068e cJ0_charAt_5068e 2 (some .char) 3 lay [.inr (.inr (some (1000 + i))), .inl j] m (some (.inl (xsc i (xix j)))) m := by
  have hk : xix j < (xSby.getD i []).length := by
    obtain ⟨q1, q2⟩ := hj
    unfold xix; omega
  have hn : narrow .char (.int (Int32.ofInt (xsc i (xix j)))) = .int (Int32.ofInt (xsc i (xix j))) := by
    unfold xsc
    rw [Int32.ofInt_toInt]
    exact (xsc_tab i (xSok_lt hi) _ hk).2
  exact xMet_c .char hn (by decide +kernel) (Nat.le_of_ble_eq_true rfl) (fun Γ C hR _ => by
    refine x_aload_n C dJ0_charAt_5068e_0 rfl ?_
    refine x_callVK C (dY := 0) (st := []) (av := []) (b := 1000 + i) dJ0_charAt_5068e_1 (by decide +kernel) xyJ0_latin (by decide +kernel) (by decide +kernel) (by decide) (by decide) ⟨i, hi, rfl⟩ rfl rfl (by decide) (c_s3 _ _ _ i hi) rfl ?_
    refine x_if_eqN C 16 dJ0_charAt_5068e_4 (by decide) (by decide) ?_
    refine x_aload_n C dJ0_charAt_5068e_7 rfl ?_
    refine x_sval C i hi dJ0_charAt_5068e_8 (by decide +kernel) ?_
    refine x_iload_n C dJ0_charAt_5068e_11 rfl ?_
    refine x_callSI C (dY := 2) (st := []) (av := [.inr (.inr (some (1000 + (100 + i)))), .inl j]) dJ0_charAt_5068e_12 (by decide +kernel) xyJ1_char (by decide +kernel) (Nat.le_refl _) (by decide) rfl (by decide) (c_s2 _ _ _ i hi hj) rfl ?_
    exact x_ireturn hR dJ0_charAt_5068e_15 rfl)
theorem c_s5 (l : Launch) (lay : List xS) (m : xM) (i : Nat) (hi : xSok i) : xMet l yJ0_coder_7d493 cJ0_coder_7d493 1 (some .byte) 0 lay [.inr (.inr (some (1000 + i)))] m (some (.inl 0)) m :=
  xMet_c .byte rfl (by decide +kernel) (Nat.le_of_ble_eq_true rfl) (fun Γ C hR _ => by
    refine x_comp C dJ0_coder_7d493_0 (by decide +kernel) ?_
    refine x_if_eqN C 13 dJ0_coder_7d493_3 (by decide) (by decide) ?_
    refine x_aload_n C dJ0_coder_7d493_6 rfl ?_
    refine x_scod C i hi dJ0_coder_7d493_7 (by decide +kernel) ?_
    refine x_goto C 14 dJ0_coder_7d493_10 (by decide) ?_
    exact x_ireturn hR dJ0_coder_7d493_14 rfl)
theorem c_s6 (l : Launch) (lay : List xS) (m : xM) (i : Nat) (hi : xSok i) : xMet l yJ0_length_8abf5 cJ0_length_8abf5 1 (some .int) 1 lay [.inr (.inr (some (1000 + i)))] m (some (.inl (xsl i))) m :=
  xMet_i (by decide +kernel) (Nat.le_of_ble_eq_true rfl) (fun Γ C hR _ => by
    refine x_aload_n C dJ0_length_8abf5_0 rfl ?_
    refine x_sval C i hi dJ0_length_8abf5_1 (by decide +kernel) ?_
    refine x_sal C i hi dJ0_length_8abf5_4 ?_
    refine x_aload_n C dJ0_length_8abf5_5 rfl ?_
    refine x_callVK C (dY := 0) (st := [.inl (xsl i)]) (av := []) (b := 1000 + i) dJ0_length_8abf5_6 (by decide +kernel) xyJ0_coder (by decide +kernel) (by decide +kernel) (Nat.le_refl _) (by decide) ⟨i, hi, rfl⟩ rfl rfl (Nat.le_of_ble_eq_true rfl) (c_s5 _ _ _ i hi) rfl ?_
    refine x_ishr C dJ0_length_8abf5_9 ?_
    exact x_ireturn hR dJ0_length_8abf5_10 (by rw [(xsl_tab i (xSok_lt hi)).2]))
section XK2
variable {Γ : xG} {lay : List xS} {own : String} {cc : ByteArray} {nL d pc : Nat} {L : List (Nat × xV)} {st : List xV} {m : xM}
theorem x_slen (C : xC Γ lay own cc nL d) {idx : Nat} (i : Nat) (hi : xSok i) (hd : decode cc pc = .ok (.invokevirtual idx, 3)) (hl : Cond.methodLink own idx yJ0_length_8abf5 ∈ wsL_law) (hdd : 4 ≤ d) (hst : (st.map xcat).sum ≤ 8)
    (k : xW Γ lay nL (pc + 3) L (.inl (xsl i) :: st) m) : xW Γ lay nL pc L (.inr (.inr (some (1000 + i))) :: st) m := by
  exact x_callVK C (dY := 1) (st := st) (av := []) (b := 1000 + i) hd hl xyJ0_length (by decide +kernel) (by decide +kernel) (by omega) (by decide) ⟨i, hi, rfl⟩ rfl rfl hst (c_s6 _ _ _ i hi) rfl k
theorem x_schar (C : xC Γ lay own cc nL d) {idx : Nat} (i : Nat) (hi : xSok i) {j : Int} (hd : decode cc pc = .ok (.invokevirtual idx, 3)) (hl : Cond.methodLink own idx yJ0_charAt_5068e ∈ wsL_law) (hdd : 4 ≤ d) (hst : (st.map xcat).sum ≤ 8) {α : Type} {a : Option α} {r : α} (h : (if xib j (xSby.getD i []).length then a else none) = some r)
    (k : a = some r → xW Γ lay nL (pc + 3) L (.inl (xsc i (xix j)) :: st) m) : xW Γ lay nL pc L (.inl j :: .inr (.inr (some (1000 + i))) :: st) m := by
  obtain ⟨hj, ha⟩ := x_some (a := r) h
  exact x_callVK C (dY := 3) (st := st) (av := [.inl j]) (b := 1000 + i) hd hl xyJ0_char (by decide +kernel) (by decide +kernel) (by omega) (by decide) ⟨i, hi, rfl⟩ rfl rfl hst (c_s4 _ _ _ i hi hj) rfl (k ha)
end XK2

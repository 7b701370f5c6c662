/-! ===== the law's helpers ===== -/
theorem dL_load_0 : decode cL_load 0 = .ok (.aload_n 2, 1) := by decide +kernel
theorem dL_load_1 : decode cL_load 1 = .ok (.iconst 0, 1) := by decide +kernel
theorem dL_load_2 : decode cL_load 2 = .ok (.aload_n 0, 1) := by decide +kernel
theorem dL_load_3 : decode cL_load 3 = .ok (.iload_n 1, 1) := by decide +kernel
theorem dL_load_4 : decode cL_load 4 = .ok (.invokevirtual 7, 3) := by decide +kernel
theorem dL_load_7 : decode cL_load 7 = .ok (.i2l, 1) := by decide +kernel
theorem dL_load_8 : decode cL_load 8 = .ok (.lastore, 1) := by decide +kernel
theorem dL_load_9 : decode cL_load 9 = .ok (.goto 6, 3) := by decide +kernel
theorem dL_load_12 : decode cL_load 12 = .ok (.astore_n 3, 1) := by decide +kernel
theorem dL_load_13 : decode cL_load 13 = .ok (.iconst 1, 1) := by decide +kernel
theorem dL_load_14 : decode cL_load 14 = .ok (.ireturn, 1) := by decide +kernel
theorem dL_load_15 : decode cL_load 15 = .ok (.iconst 0, 1) := by decide +kernel
theorem dL_load_16 : decode cL_load 16 = .ok (.ireturn, 1) := by decide +kernel
theorem xy_X10_load : xY yX10_load cX10_load 2 (some .int) 1 := ⟨(xin_10 _ (List.mem_of_getElem? (i := 18) rfl)), (xin_1 _ (List.mem_of_getElem? (i := 2) rfl)), by decide +kernel, by decide +kernel, by decide +kernel⟩
theorem xi_X10_load : Cond.instanceMethod yX10_load ∈ wsL_law := (xin_10 _ (List.mem_of_getElem? (i := 16) rfl))
theorem xs_X10_load : Cond.selects yX10_load.cls yX10_load yX10_load ∈ wsL_law := (xin_10 _ (List.mem_of_getElem? (i := 17) rfl))
set_option maxHeartbeats 4000000 in
theorem r_L_load {l : Launch} (hl : l.stackTraces = false) {z0 r : Int} {m m9 : xM} {dX : Nat} (hd9 : dX ≤ 12) (h : xMet l yX10_load cX10_load 2 (some .int) dX lay_X [.inr (.inr (some 0)), .inl z0] m (some (.inl r)) m9) (dC : Nat → ClassId) (dI : Nat → Nat → Nat) (dA : Nat → ClassId) (ad : Nat → Nat) (o : Nat) (g : Nat → Int64) (sz : Nat) : wMet l yL_load (Cond.codeWith yL_load cL_load 4 (some .int) [(0, 9, 12, 13)]) 13 1 6 [.ref (ad 0), .int (Int32.ofInt z0), .ref o] (some (.int 0)) dC dI dA ad ((o, .inl (dA 1, 1, .inr (.inl g))) :: xwld ad dA m 0 lay_X) ((o, .inl (dA 1, 1, .inr (.inl (fun j => if j = 0 then (Int32.ofInt r).toInt64 else g j)))) :: xwld ad dA m9 0 lay_X) sz := by
  refine wMet_of hl (by decide +kernel) (by show 3 ≤ 4; decide) (fun Γ C hsa hda Z hl9 hR => ?_)
  subst hl9; subst hda
  refine y_aload C 2 dL_load_0 rfl rfl ?_
  refine y_iconst (v := 0) C dL_load_1 (by decide) ?_
  refine y_aload C 0 dL_load_2 rfl rfl ?_
  refine y_iload C 1 dL_load_3 rfl rfl ?_
  refine y_callX (wa := [_]) (st := [.int 0, .ref o]) (av := [.inl z0]) (b := 0) (layY := lay_X) (m := m) C ad dL_load_4 (xin_10 _ (List.mem_of_getElem? (i := 15) rfl)) xy_X10_load xi_X10_load xs_X10_load (by omega) (by decide) rfl ⟨_, _, rfl⟩ rfl (Nat.le_of_ble_eq_true rfl) h (by omega) (by omega) (fun i => by rw [hsa]) rfl ?_
  refine y_i2l C dL_load_7 rfl ?_
  refine y_lastore0 C dL_load_8 ?_
  refine y_goto C 15 dL_load_9 (by decide) ?_
  refine y_iconst (v := 0) C dL_load_15 (by decide) ?_
  exact w_ret hR dL_load_16 (by omega) (by omega)
set_option maxHeartbeats 4000000 in
theorem s1_L_load {l : Launch} (hl : l.stackTraces = false) {z0 : Int} {m : xM} {dX : Nat} (hd9 : dX ≤ 12) (h : xMetT l yX10_load cX10_load 2 (some .int) dX lay_X [.inr (.inr (some 0)), .inl z0] m (xEx 1)) (dC : Nat → ClassId) (dI : Nat → Nat → Nat) (dA : Nat → ClassId) (ad : Nat → Nat) (o : Nat) (g : Nat → Int64) (sz : Nat) : wMet l yL_load (Cond.codeWith yL_load cL_load 4 (some .int) [(0, 9, 12, 13)]) 13 1 6 [.ref (ad 0), .int (Int32.ofInt z0), .ref o] (some (.int 1)) dC dI dA ad ((o, .inl (dA 1, 1, .inr (.inl g))) :: xwld ad dA m 0 lay_X) ((o, .inl (dA 1, 1, .inr (.inl g))) :: xwld ad dA m 0 lay_X) sz := by
  refine wMet_of hl (by decide +kernel) (by show 3 ≤ 4; decide) (fun Γ C hsa hda Z hl9 hR => ?_)
  subst hl9; subst hda
  refine y_aload C 2 dL_load_0 rfl rfl ?_
  refine y_iconst (v := 0) C dL_load_1 (by decide) ?_
  refine y_aload C 0 dL_load_2 rfl rfl ?_
  refine y_iload C 1 dL_load_3 rfl rfl ?_
  refine y_catch (wa := [_]) (st := [.int 0, .ref o]) (av := [.inl z0]) (b := 0) (layY := lay_X) (m := m) (nm := xE1) C Z ad dL_load_4 (xin_10 _ (List.mem_of_getElem? (i := 15) rfl)) xy_X10_load xi_X10_load xs_X10_load (by omega) (by decide) rfl ⟨_, _, rfl⟩ rfl (Nat.le_of_ble_eq_true rfl) h (by omega) (by omega) (fun i => by rw [hsa]) rfl [] ⟨0, 9, 12, 13⟩ [] rfl (fun z hz => absurd hz List.not_mem_nil) rfl (by decide) (xin_10 _ (List.mem_of_getElem? (i := 14) rfl)) (List.mem_of_getElem? (i := 0) rfl) (fun q9 => ?_)
  refine y_astoren C dL_load_12 rfl (by omega) rfl ?_
  refine y_iconst (v := 1) C dL_load_13 (by decide) ?_
  exact w_ret hR dL_load_14 (by omega) (by omega)
theorem dL_size_0 : decode cL_size 0 = .ok (.aload_n 2, 1) := by decide +kernel
theorem dL_size_1 : decode cL_size 1 = .ok (.iconst 0, 1) := by decide +kernel
theorem dL_size_2 : decode cL_size 2 = .ok (.aload_n 0, 1) := by decide +kernel
theorem dL_size_3 : decode cL_size 3 = .ok (.iload_n 1, 1) := by decide +kernel
theorem dL_size_4 : decode cL_size 4 = .ok (.invokevirtual 15, 3) := by decide +kernel
theorem dL_size_7 : decode cL_size 7 = .ok (.i2l, 1) := by decide +kernel
theorem dL_size_8 : decode cL_size 8 = .ok (.lastore, 1) := by decide +kernel
theorem dL_size_9 : decode cL_size 9 = .ok (.goto 6, 3) := by decide +kernel
theorem dL_size_12 : decode cL_size 12 = .ok (.astore_n 3, 1) := by decide +kernel
theorem dL_size_13 : decode cL_size 13 = .ok (.iconst 1, 1) := by decide +kernel
theorem dL_size_14 : decode cL_size 14 = .ok (.ireturn, 1) := by decide +kernel
theorem dL_size_15 : decode cL_size 15 = .ok (.iconst 0, 1) := by decide +kernel
theorem dL_size_16 : decode cL_size 16 = .ok (.ireturn, 1) := by decide +kernel
theorem xy_X10_size : xY yX10_size cX10_size 4 (some .int) 1 := ⟨(xin_24 _ (List.mem_of_getElem? (i := 14) rfl)), (xin_1 _ (List.mem_of_getElem? (i := 2) rfl)), by decide +kernel, by decide +kernel, by decide +kernel⟩
theorem xi_X10_size : Cond.instanceMethod yX10_size ∈ wsL_law := (xin_24 _ (List.mem_of_getElem? (i := 12) rfl))
theorem xs_X10_size : Cond.selects yX10_size.cls yX10_size yX10_size ∈ wsL_law := (xin_24 _ (List.mem_of_getElem? (i := 13) rfl))
set_option maxHeartbeats 4000000 in
theorem r_L_size {l : Launch} (hl : l.stackTraces = false) {z0 r : Int} {m m9 : xM} {dX : Nat} (hd9 : dX ≤ 12) (h : xMet l yX10_size cX10_size 4 (some .int) dX lay_X [.inr (.inr (some 0)), .inl z0] m (some (.inl r)) m9) (dC : Nat → ClassId) (dI : Nat → Nat → Nat) (dA : Nat → ClassId) (ad : Nat → Nat) (o : Nat) (g : Nat → Int64) (sz : Nat) : wMet l yL_size (Cond.codeWith yL_size cL_size 4 (some .int) [(0, 9, 12, 18)]) 13 1 6 [.ref (ad 0), .int (Int32.ofInt z0), .ref o] (some (.int 0)) dC dI dA ad ((o, .inl (dA 1, 1, .inr (.inl g))) :: xwld ad dA m 0 lay_X) ((o, .inl (dA 1, 1, .inr (.inl (fun j => if j = 0 then (Int32.ofInt r).toInt64 else g j)))) :: xwld ad dA m9 0 lay_X) sz := by
  refine wMet_of hl (by decide +kernel) (by show 3 ≤ 4; decide) (fun Γ C hsa hda Z hl9 hR => ?_)
  subst hl9; subst hda
  refine y_aload C 2 dL_size_0 rfl rfl ?_
  refine y_iconst (v := 0) C dL_size_1 (by decide) ?_
  refine y_aload C 0 dL_size_2 rfl rfl ?_
  refine y_iload C 1 dL_size_3 rfl rfl ?_
  refine y_callX (wa := [_]) (st := [.int 0, .ref o]) (av := [.inl z0]) (b := 0) (layY := lay_X) (m := m) C ad dL_size_4 (xin_24 _ (List.mem_of_getElem? (i := 11) rfl)) xy_X10_size xi_X10_size xs_X10_size (by omega) (by decide) rfl ⟨_, _, rfl⟩ rfl (Nat.le_of_ble_eq_true rfl) h (by omega) (by omega) (fun i => by rw [hsa]) rfl ?_
  refine y_i2l C dL_size_7 rfl ?_
  refine y_lastore0 C dL_size_8 ?_
  refine y_goto C 15 dL_size_9 (by decide) ?_
  refine y_iconst (v := 0) C dL_size_15 (by decide) ?_
  exact w_ret hR dL_size_16 (by omega) (by omega)
set_option maxHeartbeats 4000000 in
theorem s2_L_size {l : Launch} (hl : l.stackTraces = false) {z0 : Int} {m : xM} {dX : Nat} (hd9 : dX ≤ 12) (h : xMetT l yX10_size cX10_size 4 (some .int) dX lay_X [.inr (.inr (some 0)), .inl z0] m (xEx 2)) (dC : Nat → ClassId) (dI : Nat → Nat → Nat) (dA : Nat → ClassId) (ad : Nat → Nat) (o : Nat) (g : Nat → Int64) (sz : Nat) : wMet l yL_size (Cond.codeWith yL_size cL_size 4 (some .int) [(0, 9, 12, 18)]) 13 1 6 [.ref (ad 0), .int (Int32.ofInt z0), .ref o] (some (.int 1)) dC dI dA ad ((o, .inl (dA 1, 1, .inr (.inl g))) :: xwld ad dA m 0 lay_X) ((o, .inl (dA 1, 1, .inr (.inl g))) :: xwld ad dA m 0 lay_X) sz := by
  refine wMet_of hl (by decide +kernel) (by show 3 ≤ 4; decide) (fun Γ C hsa hda Z hl9 hR => ?_)
  subst hl9; subst hda
  refine y_aload C 2 dL_size_0 rfl rfl ?_
  refine y_iconst (v := 0) C dL_size_1 (by decide) ?_
  refine y_aload C 0 dL_size_2 rfl rfl ?_
  refine y_iload C 1 dL_size_3 rfl rfl ?_
  refine y_catch (wa := [_]) (st := [.int 0, .ref o]) (av := [.inl z0]) (b := 0) (layY := lay_X) (m := m) (nm := xE2) C Z ad dL_size_4 (xin_24 _ (List.mem_of_getElem? (i := 11) rfl)) xy_X10_size xi_X10_size xs_X10_size (by omega) (by decide) rfl ⟨_, _, rfl⟩ rfl (Nat.le_of_ble_eq_true rfl) h (by omega) (by omega) (fun i => by rw [hsa]) rfl [] ⟨0, 9, 12, 18⟩ [] rfl (fun z hz => absurd hz List.not_mem_nil) rfl (by decide) (xin_24 _ (List.mem_of_getElem? (i := 10) rfl)) (List.mem_of_getElem? (i := 1) rfl) (fun q9 => ?_)
  refine y_astoren C dL_size_12 rfl (by omega) rfl ?_
  refine y_iconst (v := 1) C dL_size_13 (by decide) ?_
  exact w_ret hR dL_size_14 (by omega) (by omega)
theorem dL_total_0 : decode cL_total 0 = .ok (.aload_n 2, 1) := by decide +kernel
theorem dL_total_1 : decode cL_total 1 = .ok (.iconst 0, 1) := by decide +kernel
theorem dL_total_2 : decode cL_total 2 = .ok (.aload_n 0, 1) := by decide +kernel
theorem dL_total_3 : decode cL_total 3 = .ok (.iload_n 1, 1) := by decide +kernel
theorem dL_total_4 : decode cL_total 4 = .ok (.invokevirtual 20, 3) := by decide +kernel
theorem dL_total_7 : decode cL_total 7 = .ok (.i2l, 1) := by decide +kernel
theorem dL_total_8 : decode cL_total 8 = .ok (.lastore, 1) := by decide +kernel
theorem dL_total_9 : decode cL_total 9 = .ok (.goto 6, 3) := by decide +kernel
theorem dL_total_12 : decode cL_total 12 = .ok (.astore_n 3, 1) := by decide +kernel
theorem dL_total_13 : decode cL_total 13 = .ok (.iconst 1, 1) := by decide +kernel
theorem dL_total_14 : decode cL_total 14 = .ok (.ireturn, 1) := by decide +kernel
theorem dL_total_15 : decode cL_total 15 = .ok (.iconst 0, 1) := by decide +kernel
theorem dL_total_16 : decode cL_total 16 = .ok (.ireturn, 1) := by decide +kernel
theorem xy_X10_total : xY yX10_total cX10_total 2 (some .int) 1 := ⟨(xin_25 _ (List.mem_of_getElem? (i := 22) rfl)), (xin_1 _ (List.mem_of_getElem? (i := 2) rfl)), by decide +kernel, by decide +kernel, by decide +kernel⟩
theorem xi_X10_total : Cond.instanceMethod yX10_total ∈ wsL_law := (xin_25 _ (List.mem_of_getElem? (i := 20) rfl))
theorem xs_X10_total : Cond.selects yX10_total.cls yX10_total yX10_total ∈ wsL_law := (xin_25 _ (List.mem_of_getElem? (i := 21) rfl))
set_option maxHeartbeats 4000000 in
theorem r_L_total {l : Launch} (hl : l.stackTraces = false) {z0 r : Int} {m m9 : xM} {dX : Nat} (hd9 : dX ≤ 12) (h : xMet l yX10_total cX10_total 2 (some .int) dX lay_X [.inr (.inr (some 0)), .inl z0] m (some (.inl r)) m9) (dC : Nat → ClassId) (dI : Nat → Nat → Nat) (dA : Nat → ClassId) (ad : Nat → Nat) (o : Nat) (g : Nat → Int64) (sz : Nat) : wMet l yL_total (Cond.codeWith yL_total cL_total 4 (some .int) [(0, 9, 12, 18)]) 13 1 6 [.ref (ad 0), .int (Int32.ofInt z0), .ref o] (some (.int 0)) dC dI dA ad ((o, .inl (dA 1, 1, .inr (.inl g))) :: xwld ad dA m 0 lay_X) ((o, .inl (dA 1, 1, .inr (.inl (fun j => if j = 0 then (Int32.ofInt r).toInt64 else g j)))) :: xwld ad dA m9 0 lay_X) sz := by
  refine wMet_of hl (by decide +kernel) (by show 3 ≤ 4; decide) (fun Γ C hsa hda Z hl9 hR => ?_)
  subst hl9; subst hda
  refine y_aload C 2 dL_total_0 rfl rfl ?_
  refine y_iconst (v := 0) C dL_total_1 (by decide) ?_
  refine y_aload C 0 dL_total_2 rfl rfl ?_
  refine y_iload C 1 dL_total_3 rfl rfl ?_
  refine y_callX (wa := [_]) (st := [.int 0, .ref o]) (av := [.inl z0]) (b := 0) (layY := lay_X) (m := m) C ad dL_total_4 (xin_25 _ (List.mem_of_getElem? (i := 19) rfl)) xy_X10_total xi_X10_total xs_X10_total (by omega) (by decide) rfl ⟨_, _, rfl⟩ rfl (Nat.le_of_ble_eq_true rfl) h (by omega) (by omega) (fun i => by rw [hsa]) rfl ?_
  refine y_i2l C dL_total_7 rfl ?_
  refine y_lastore0 C dL_total_8 ?_
  refine y_goto C 15 dL_total_9 (by decide) ?_
  refine y_iconst (v := 0) C dL_total_15 (by decide) ?_
  exact w_ret hR dL_total_16 (by omega) (by omega)
set_option maxHeartbeats 4000000 in
theorem s2_L_total {l : Launch} (hl : l.stackTraces = false) {z0 : Int} {m : xM} {dX : Nat} (hd9 : dX ≤ 12) (h : xMetT l yX10_total cX10_total 2 (some .int) dX lay_X [.inr (.inr (some 0)), .inl z0] m (xEx 2)) (dC : Nat → ClassId) (dI : Nat → Nat → Nat) (dA : Nat → ClassId) (ad : Nat → Nat) (o : Nat) (g : Nat → Int64) (sz : Nat) : wMet l yL_total (Cond.codeWith yL_total cL_total 4 (some .int) [(0, 9, 12, 18)]) 13 1 6 [.ref (ad 0), .int (Int32.ofInt z0), .ref o] (some (.int 1)) dC dI dA ad ((o, .inl (dA 1, 1, .inr (.inl g))) :: xwld ad dA m 0 lay_X) ((o, .inl (dA 1, 1, .inr (.inl g))) :: xwld ad dA m 0 lay_X) sz := by
  refine wMet_of hl (by decide +kernel) (by show 3 ≤ 4; decide) (fun Γ C hsa hda Z hl9 hR => ?_)
  subst hl9; subst hda
  refine y_aload C 2 dL_total_0 rfl rfl ?_
  refine y_iconst (v := 0) C dL_total_1 (by decide) ?_
  refine y_aload C 0 dL_total_2 rfl rfl ?_
  refine y_iload C 1 dL_total_3 rfl rfl ?_
  refine y_catch (wa := [_]) (st := [.int 0, .ref o]) (av := [.inl z0]) (b := 0) (layY := lay_X) (m := m) (nm := xE2) C Z ad dL_total_4 (xin_25 _ (List.mem_of_getElem? (i := 19) rfl)) xy_X10_total xi_X10_total xs_X10_total (by omega) (by decide) rfl ⟨_, _, rfl⟩ rfl (Nat.le_of_ble_eq_true rfl) h (by omega) (by omega) (fun i => by rw [hsa]) rfl [] ⟨0, 9, 12, 18⟩ [] rfl (fun z hz => absurd hz List.not_mem_nil) rfl (by decide) (xin_24 _ (List.mem_of_getElem? (i := 10) rfl)) (List.mem_of_getElem? (i := 1) rfl) (fun q9 => ?_)
  refine y_astoren C dL_total_12 rfl (by omega) rfl ?_
  refine y_iconst (v := 1) C dL_total_13 (by decide) ?_
  exact w_ret hR dL_total_14 (by omega) (by omega)
theorem dL_end_0 : decode cL_end 0 = .ok (.aload_n 3, 1) := by decide +kernel
theorem dL_end_1 : decode cL_end 1 = .ok (.iconst 0, 1) := by decide +kernel
theorem dL_end_2 : decode cL_end 2 = .ok (.aload_n 0, 1) := by decide +kernel
theorem dL_end_3 : decode cL_end 3 = .ok (.iload_n 1, 1) := by decide +kernel
theorem dL_end_4 : decode cL_end 4 = .ok (.iload_n 2, 1) := by decide +kernel
theorem dL_end_5 : decode cL_end 5 = .ok (.invokevirtual 23, 3) := by decide +kernel
theorem dL_end_8 : decode cL_end 8 = .ok (.i2l, 1) := by decide +kernel
theorem dL_end_9 : decode cL_end 9 = .ok (.lastore, 1) := by decide +kernel
theorem dL_end_10 : decode cL_end 10 = .ok (.goto 7, 3) := by decide +kernel
theorem dL_end_13 : decode cL_end 13 = .ok (.astore 4, 2) := by decide +kernel
theorem dL_end_15 : decode cL_end 15 = .ok (.iconst 1, 1) := by decide +kernel
theorem dL_end_16 : decode cL_end 16 = .ok (.ireturn, 1) := by decide +kernel
theorem dL_end_17 : decode cL_end 17 = .ok (.iconst 0, 1) := by decide +kernel
theorem dL_end_18 : decode cL_end 18 = .ok (.ireturn, 1) := by decide +kernel
theorem xy_X10_end : xY yX10_end cX10_end 4 (some .int) 2 := ⟨(xin_26 _ (List.mem_of_getElem? (i := 10) rfl)), (xin_1 _ (List.mem_of_getElem? (i := 2) rfl)), by decide +kernel, by decide +kernel, by decide +kernel⟩
theorem xi_X10_end : Cond.instanceMethod yX10_end ∈ wsL_law := (xin_26 _ (List.mem_of_getElem? (i := 8) rfl))
theorem xs_X10_end : Cond.selects yX10_end.cls yX10_end yX10_end ∈ wsL_law := (xin_26 _ (List.mem_of_getElem? (i := 9) rfl))
set_option maxHeartbeats 4000000 in
theorem r_L_end {l : Launch} (hl : l.stackTraces = false) {z0 z1 r : Int} {m m9 : xM} {dX : Nat} (hd9 : dX ≤ 12) (h : xMet l yX10_end cX10_end 4 (some .int) dX lay_X [.inr (.inr (some 0)), .inl z0, .inl z1] m (some (.inl r)) m9) (dC : Nat → ClassId) (dI : Nat → Nat → Nat) (dA : Nat → ClassId) (ad : Nat → Nat) (o : Nat) (g : Nat → Int64) (sz : Nat) : wMet l yL_end (Cond.codeWith yL_end cL_end 5 (some .int) [(0, 10, 13, 18)]) 13 1 6 [.ref (ad 0), .int (Int32.ofInt z0), .int (Int32.ofInt z1), .ref o] (some (.int 0)) dC dI dA ad ((o, .inl (dA 1, 1, .inr (.inl g))) :: xwld ad dA m 0 lay_X) ((o, .inl (dA 1, 1, .inr (.inl (fun j => if j = 0 then (Int32.ofInt r).toInt64 else g j)))) :: xwld ad dA m9 0 lay_X) sz := by
  refine wMet_of hl (by decide +kernel) (by show 4 ≤ 5; decide) (fun Γ C hsa hda Z hl9 hR => ?_)
  subst hl9; subst hda
  refine y_aload C 3 dL_end_0 rfl rfl ?_
  refine y_iconst (v := 0) C dL_end_1 (by decide) ?_
  refine y_aload C 0 dL_end_2 rfl rfl ?_
  refine y_iload C 1 dL_end_3 rfl rfl ?_
  refine y_iload C 2 dL_end_4 rfl rfl ?_
  refine y_callX (wa := [_]) (st := [.int 0, .ref o]) (av := [.inl z0, .inl z1]) (b := 0) (layY := lay_X) (m := m) C ad dL_end_5 (xin_26 _ (List.mem_of_getElem? (i := 7) rfl)) xy_X10_end xi_X10_end xs_X10_end (by omega) (by decide) rfl ⟨_, _, rfl⟩ rfl (Nat.le_of_ble_eq_true rfl) h (by omega) (by omega) (fun i => by rw [hsa]) rfl ?_
  refine y_i2l C dL_end_8 rfl ?_
  refine y_lastore0 C dL_end_9 ?_
  refine y_goto C 17 dL_end_10 (by decide) ?_
  refine y_iconst (v := 0) C dL_end_17 (by decide) ?_
  exact w_ret hR dL_end_18 (by omega) (by omega)
set_option maxHeartbeats 4000000 in
theorem s2_L_end {l : Launch} (hl : l.stackTraces = false) {z0 z1 : Int} {m : xM} {dX : Nat} (hd9 : dX ≤ 12) (h : xMetT l yX10_end cX10_end 4 (some .int) dX lay_X [.inr (.inr (some 0)), .inl z0, .inl z1] m (xEx 2)) (dC : Nat → ClassId) (dI : Nat → Nat → Nat) (dA : Nat → ClassId) (ad : Nat → Nat) (o : Nat) (g : Nat → Int64) (sz : Nat) : wMet l yL_end (Cond.codeWith yL_end cL_end 5 (some .int) [(0, 10, 13, 18)]) 13 1 6 [.ref (ad 0), .int (Int32.ofInt z0), .int (Int32.ofInt z1), .ref o] (some (.int 1)) dC dI dA ad ((o, .inl (dA 1, 1, .inr (.inl g))) :: xwld ad dA m 0 lay_X) ((o, .inl (dA 1, 1, .inr (.inl g))) :: xwld ad dA m 0 lay_X) sz := by
  refine wMet_of hl (by decide +kernel) (by show 4 ≤ 5; decide) (fun Γ C hsa hda Z hl9 hR => ?_)
  subst hl9; subst hda
  refine y_aload C 3 dL_end_0 rfl rfl ?_
  refine y_iconst (v := 0) C dL_end_1 (by decide) ?_
  refine y_aload C 0 dL_end_2 rfl rfl ?_
  refine y_iload C 1 dL_end_3 rfl rfl ?_
  refine y_iload C 2 dL_end_4 rfl rfl ?_
  refine y_catch (wa := [_]) (st := [.int 0, .ref o]) (av := [.inl z0, .inl z1]) (b := 0) (layY := lay_X) (m := m) (nm := xE2) C Z ad dL_end_5 (xin_26 _ (List.mem_of_getElem? (i := 7) rfl)) xy_X10_end xi_X10_end xs_X10_end (by omega) (by decide) rfl ⟨_, _, rfl⟩ rfl (Nat.le_of_ble_eq_true rfl) h (by omega) (by omega) (fun i => by rw [hsa]) rfl [] ⟨0, 10, 13, 18⟩ [] rfl (fun z hz => absurd hz List.not_mem_nil) rfl (by decide) (xin_24 _ (List.mem_of_getElem? (i := 10) rfl)) (List.mem_of_getElem? (i := 1) rfl) (fun q9 => ?_)
  refine y_astore C dL_end_13 (by omega) rfl ?_
  refine y_iconst (v := 1) C dL_end_15 (by decide) ?_
  exact w_ret hR dL_end_16 (by omega) (by omega)
theorem dL_rate_0 : decode cL_rate 0 = .ok (.aload_n 3, 1) := by decide +kernel
theorem dL_rate_1 : decode cL_rate 1 = .ok (.iconst 0, 1) := by decide +kernel
theorem dL_rate_2 : decode cL_rate 2 = .ok (.aload_n 0, 1) := by decide +kernel
theorem dL_rate_3 : decode cL_rate 3 = .ok (.iload_n 1, 1) := by decide +kernel
theorem dL_rate_4 : decode cL_rate 4 = .ok (.iload_n 2, 1) := by decide +kernel
theorem dL_rate_5 : decode cL_rate 5 = .ok (.invokevirtual 27, 3) := by decide +kernel
theorem dL_rate_8 : decode cL_rate 8 = .ok (.i2l, 1) := by decide +kernel
theorem dL_rate_9 : decode cL_rate 9 = .ok (.lastore, 1) := by decide +kernel
theorem dL_rate_10 : decode cL_rate 10 = .ok (.goto 7, 3) := by decide +kernel
theorem dL_rate_13 : decode cL_rate 13 = .ok (.astore 4, 2) := by decide +kernel
theorem dL_rate_15 : decode cL_rate 15 = .ok (.iconst 1, 1) := by decide +kernel
theorem dL_rate_16 : decode cL_rate 16 = .ok (.ireturn, 1) := by decide +kernel
theorem dL_rate_17 : decode cL_rate 17 = .ok (.iconst 0, 1) := by decide +kernel
theorem dL_rate_18 : decode cL_rate 18 = .ok (.ireturn, 1) := by decide +kernel
theorem xy_X10_rate : xY yX10_rate cX10_rate 3 (some .int) 2 := ⟨(xin_28 _ (List.mem_of_getElem? (i := 14) rfl)), (xin_1 _ (List.mem_of_getElem? (i := 2) rfl)), by decide +kernel, by decide +kernel, by decide +kernel⟩
theorem xi_X10_rate : Cond.instanceMethod yX10_rate ∈ wsL_law := (xin_28 _ (List.mem_of_getElem? (i := 12) rfl))
theorem xs_X10_rate : Cond.selects yX10_rate.cls yX10_rate yX10_rate ∈ wsL_law := (xin_28 _ (List.mem_of_getElem? (i := 13) rfl))
set_option maxHeartbeats 4000000 in
theorem r_L_rate {l : Launch} (hl : l.stackTraces = false) {z0 z1 r : Int} {m m9 : xM} {dX : Nat} (hd9 : dX ≤ 12) (h : xMet l yX10_rate cX10_rate 3 (some .int) dX lay_X [.inr (.inr (some 0)), .inl z0, .inl z1] m (some (.inl r)) m9) (dC : Nat → ClassId) (dI : Nat → Nat → Nat) (dA : Nat → ClassId) (ad : Nat → Nat) (o : Nat) (g : Nat → Int64) (sz : Nat) : wMet l yL_rate (Cond.codeWith yL_rate cL_rate 5 (some .int) [(0, 10, 13, 18)]) 13 1 6 [.ref (ad 0), .int (Int32.ofInt z0), .int (Int32.ofInt z1), .ref o] (some (.int 0)) dC dI dA ad ((o, .inl (dA 1, 1, .inr (.inl g))) :: xwld ad dA m 0 lay_X) ((o, .inl (dA 1, 1, .inr (.inl (fun j => if j = 0 then (Int32.ofInt r).toInt64 else g j)))) :: xwld ad dA m9 0 lay_X) sz := by
  refine wMet_of hl (by decide +kernel) (by show 4 ≤ 5; decide) (fun Γ C hsa hda Z hl9 hR => ?_)
  subst hl9; subst hda
  refine y_aload C 3 dL_rate_0 rfl rfl ?_
  refine y_iconst (v := 0) C dL_rate_1 (by decide) ?_
  refine y_aload C 0 dL_rate_2 rfl rfl ?_
  refine y_iload C 1 dL_rate_3 rfl rfl ?_
  refine y_iload C 2 dL_rate_4 rfl rfl ?_
  refine y_callX (wa := [_]) (st := [.int 0, .ref o]) (av := [.inl z0, .inl z1]) (b := 0) (layY := lay_X) (m := m) C ad dL_rate_5 (xin_28 _ (List.mem_of_getElem? (i := 11) rfl)) xy_X10_rate xi_X10_rate xs_X10_rate (by omega) (by decide) rfl ⟨_, _, rfl⟩ rfl (Nat.le_of_ble_eq_true rfl) h (by omega) (by omega) (fun i => by rw [hsa]) rfl ?_
  refine y_i2l C dL_rate_8 rfl ?_
  refine y_lastore0 C dL_rate_9 ?_
  refine y_goto C 17 dL_rate_10 (by decide) ?_
  refine y_iconst (v := 0) C dL_rate_17 (by decide) ?_
  exact w_ret hR dL_rate_18 (by omega) (by omega)
set_option maxHeartbeats 4000000 in
theorem s2_L_rate {l : Launch} (hl : l.stackTraces = false) {z0 z1 : Int} {m : xM} {dX : Nat} (hd9 : dX ≤ 12) (h : xMetT l yX10_rate cX10_rate 3 (some .int) dX lay_X [.inr (.inr (some 0)), .inl z0, .inl z1] m (xEx 2)) (dC : Nat → ClassId) (dI : Nat → Nat → Nat) (dA : Nat → ClassId) (ad : Nat → Nat) (o : Nat) (g : Nat → Int64) (sz : Nat) : wMet l yL_rate (Cond.codeWith yL_rate cL_rate 5 (some .int) [(0, 10, 13, 18)]) 13 1 6 [.ref (ad 0), .int (Int32.ofInt z0), .int (Int32.ofInt z1), .ref o] (some (.int 1)) dC dI dA ad ((o, .inl (dA 1, 1, .inr (.inl g))) :: xwld ad dA m 0 lay_X) ((o, .inl (dA 1, 1, .inr (.inl g))) :: xwld ad dA m 0 lay_X) sz := by
  refine wMet_of hl (by decide +kernel) (by show 4 ≤ 5; decide) (fun Γ C hsa hda Z hl9 hR => ?_)
  subst hl9; subst hda
  refine y_aload C 3 dL_rate_0 rfl rfl ?_
  refine y_iconst (v := 0) C dL_rate_1 (by decide) ?_
  refine y_aload C 0 dL_rate_2 rfl rfl ?_
  refine y_iload C 1 dL_rate_3 rfl rfl ?_
  refine y_iload C 2 dL_rate_4 rfl rfl ?_
  refine y_catch (wa := [_]) (st := [.int 0, .ref o]) (av := [.inl z0, .inl z1]) (b := 0) (layY := lay_X) (m := m) (nm := xE2) C Z ad dL_rate_5 (xin_28 _ (List.mem_of_getElem? (i := 11) rfl)) xy_X10_rate xi_X10_rate xs_X10_rate (by omega) (by decide) rfl ⟨_, _, rfl⟩ rfl (Nat.le_of_ble_eq_true rfl) h (by omega) (by omega) (fun i => by rw [hsa]) rfl [] ⟨0, 10, 13, 18⟩ [] rfl (fun z hz => absurd hz List.not_mem_nil) rfl (by decide) (xin_24 _ (List.mem_of_getElem? (i := 10) rfl)) (List.mem_of_getElem? (i := 1) rfl) (fun q9 => ?_)
  refine y_astore C dL_rate_13 (by omega) rfl ?_
  refine y_iconst (v := 1) C dL_rate_15 (by decide) ?_
  exact w_ret hR dL_rate_16 (by omega) (by omega)
theorem dL_frame_0 : decode cL_frame 0 = .ok (.aload 4, 2) := by decide +kernel
theorem dL_frame_2 : decode cL_frame 2 = .ok (.iconst 0, 1) := by decide +kernel
theorem dL_frame_3 : decode cL_frame 3 = .ok (.aload_n 0, 1) := by decide +kernel
theorem dL_frame_4 : decode cL_frame 4 = .ok (.iload_n 1, 1) := by decide +kernel
theorem dL_frame_5 : decode cL_frame 5 = .ok (.iload_n 2, 1) := by decide +kernel
theorem dL_frame_6 : decode cL_frame 6 = .ok (.iload_n 3, 1) := by decide +kernel
theorem dL_frame_7 : decode cL_frame 7 = .ok (.invokevirtual 30, 3) := by decide +kernel
theorem dL_frame_10 : decode cL_frame 10 = .ok (.i2l, 1) := by decide +kernel
theorem dL_frame_11 : decode cL_frame 11 = .ok (.lastore, 1) := by decide +kernel
theorem dL_frame_12 : decode cL_frame 12 = .ok (.goto 7, 3) := by decide +kernel
theorem dL_frame_15 : decode cL_frame 15 = .ok (.astore 5, 2) := by decide +kernel
theorem dL_frame_17 : decode cL_frame 17 = .ok (.iconst 1, 1) := by decide +kernel
theorem dL_frame_18 : decode cL_frame 18 = .ok (.ireturn, 1) := by decide +kernel
theorem dL_frame_19 : decode cL_frame 19 = .ok (.iconst 0, 1) := by decide +kernel
theorem dL_frame_20 : decode cL_frame 20 = .ok (.ireturn, 1) := by decide +kernel
theorem xy_X10_frame : xY yX10_frame cX10_frame 5 (some .int) 3 := ⟨(xin_29 _ (List.mem_of_getElem? (i := 7) rfl)), (xin_1 _ (List.mem_of_getElem? (i := 2) rfl)), by decide +kernel, by decide +kernel, by decide +kernel⟩
theorem xi_X10_frame : Cond.instanceMethod yX10_frame ∈ wsL_law := (xin_29 _ (List.mem_of_getElem? (i := 5) rfl))
theorem xs_X10_frame : Cond.selects yX10_frame.cls yX10_frame yX10_frame ∈ wsL_law := (xin_29 _ (List.mem_of_getElem? (i := 6) rfl))
set_option maxHeartbeats 4000000 in
theorem r_L_frame {l : Launch} (hl : l.stackTraces = false) {z0 z1 z2 r : Int} {m m9 : xM} {dX : Nat} (hd9 : dX ≤ 12) (h : xMet l yX10_frame cX10_frame 5 (some .int) dX lay_X [.inr (.inr (some 0)), .inl z0, .inl z1, .inl z2] m (some (.inl r)) m9) (dC : Nat → ClassId) (dI : Nat → Nat → Nat) (dA : Nat → ClassId) (ad : Nat → Nat) (o : Nat) (g : Nat → Int64) (sz : Nat) : wMet l yL_frame (Cond.codeWith yL_frame cL_frame 6 (some .int) [(0, 12, 15, 18)]) 13 1 6 [.ref (ad 0), .int (Int32.ofInt z0), .int (Int32.ofInt z1), .int (Int32.ofInt z2), .ref o] (some (.int 0)) dC dI dA ad ((o, .inl (dA 1, 1, .inr (.inl g))) :: xwld ad dA m 0 lay_X) ((o, .inl (dA 1, 1, .inr (.inl (fun j => if j = 0 then (Int32.ofInt r).toInt64 else g j)))) :: xwld ad dA m9 0 lay_X) sz := by
  refine wMet_of hl (by decide +kernel) (by show 5 ≤ 6; decide) (fun Γ C hsa hda Z hl9 hR => ?_)
  subst hl9; subst hda
  refine y_aloadw C 4 dL_frame_0 rfl ?_
  refine y_iconst (v := 0) C dL_frame_2 (by decide) ?_
  refine y_aload C 0 dL_frame_3 rfl rfl ?_
  refine y_iload C 1 dL_frame_4 rfl rfl ?_
  refine y_iload C 2 dL_frame_5 rfl rfl ?_
  refine y_iload C 3 dL_frame_6 rfl rfl ?_
  refine y_callX (wa := [_]) (st := [.int 0, .ref o]) (av := [.inl z0, .inl z1, .inl z2]) (b := 0) (layY := lay_X) (m := m) C ad dL_frame_7 (xin_29 _ (List.mem_of_getElem? (i := 4) rfl)) xy_X10_frame xi_X10_frame xs_X10_frame (by omega) (by decide) rfl ⟨_, _, rfl⟩ rfl (Nat.le_of_ble_eq_true rfl) h (by omega) (by omega) (fun i => by rw [hsa]) rfl ?_
  refine y_i2l C dL_frame_10 rfl ?_
  refine y_lastore0 C dL_frame_11 ?_
  refine y_goto C 19 dL_frame_12 (by decide) ?_
  refine y_iconst (v := 0) C dL_frame_19 (by decide) ?_
  exact w_ret hR dL_frame_20 (by omega) (by omega)
set_option maxHeartbeats 4000000 in
theorem s2_L_frame {l : Launch} (hl : l.stackTraces = false) {z0 z1 z2 : Int} {m : xM} {dX : Nat} (hd9 : dX ≤ 12) (h : xMetT l yX10_frame cX10_frame 5 (some .int) dX lay_X [.inr (.inr (some 0)), .inl z0, .inl z1, .inl z2] m (xEx 2)) (dC : Nat → ClassId) (dI : Nat → Nat → Nat) (dA : Nat → ClassId) (ad : Nat → Nat) (o : Nat) (g : Nat → Int64) (sz : Nat) : wMet l yL_frame (Cond.codeWith yL_frame cL_frame 6 (some .int) [(0, 12, 15, 18)]) 13 1 6 [.ref (ad 0), .int (Int32.ofInt z0), .int (Int32.ofInt z1), .int (Int32.ofInt z2), .ref o] (some (.int 1)) dC dI dA ad ((o, .inl (dA 1, 1, .inr (.inl g))) :: xwld ad dA m 0 lay_X) ((o, .inl (dA 1, 1, .inr (.inl g))) :: xwld ad dA m 0 lay_X) sz := by
  refine wMet_of hl (by decide +kernel) (by show 5 ≤ 6; decide) (fun Γ C hsa hda Z hl9 hR => ?_)
  subst hl9; subst hda
  refine y_aloadw C 4 dL_frame_0 rfl ?_
  refine y_iconst (v := 0) C dL_frame_2 (by decide) ?_
  refine y_aload C 0 dL_frame_3 rfl rfl ?_
  refine y_iload C 1 dL_frame_4 rfl rfl ?_
  refine y_iload C 2 dL_frame_5 rfl rfl ?_
  refine y_iload C 3 dL_frame_6 rfl rfl ?_
  refine y_catch (wa := [_]) (st := [.int 0, .ref o]) (av := [.inl z0, .inl z1, .inl z2]) (b := 0) (layY := lay_X) (m := m) (nm := xE2) C Z ad dL_frame_7 (xin_29 _ (List.mem_of_getElem? (i := 4) rfl)) xy_X10_frame xi_X10_frame xs_X10_frame (by omega) (by decide) rfl ⟨_, _, rfl⟩ rfl (Nat.le_of_ble_eq_true rfl) h (by omega) (by omega) (fun i => by rw [hsa]) rfl [] ⟨0, 12, 15, 18⟩ [] rfl (fun z hz => absurd hz List.not_mem_nil) rfl (by decide) (xin_24 _ (List.mem_of_getElem? (i := 10) rfl)) (List.mem_of_getElem? (i := 1) rfl) (fun q9 => ?_)
  refine y_astore C dL_frame_15 (by omega) rfl ?_
  refine y_iconst (v := 1) C dL_frame_17 (by decide) ?_
  exact w_ret hR dL_frame_18 (by omega) (by omega)
theorem dL_received_0 : decode cL_received 0 = .ok (.aload_n 3, 1) := by decide +kernel
theorem dL_received_1 : decode cL_received 1 = .ok (.iconst 0, 1) := by decide +kernel
theorem dL_received_2 : decode cL_received 2 = .ok (.aload_n 0, 1) := by decide +kernel
theorem dL_received_3 : decode cL_received 3 = .ok (.iload_n 1, 1) := by decide +kernel
theorem dL_received_4 : decode cL_received 4 = .ok (.iload_n 2, 1) := by decide +kernel
theorem dL_received_5 : decode cL_received 5 = .ok (.invokevirtual 34, 3) := by decide +kernel
theorem dL_received_8 : decode cL_received 8 = .ok (.i2l, 1) := by decide +kernel
theorem dL_received_9 : decode cL_received 9 = .ok (.lastore, 1) := by decide +kernel
theorem dL_received_10 : decode cL_received 10 = .ok (.goto 7, 3) := by decide +kernel
theorem dL_received_13 : decode cL_received 13 = .ok (.astore 4, 2) := by decide +kernel
theorem dL_received_15 : decode cL_received 15 = .ok (.iconst 1, 1) := by decide +kernel
theorem dL_received_16 : decode cL_received 16 = .ok (.ireturn, 1) := by decide +kernel
theorem dL_received_17 : decode cL_received 17 = .ok (.iconst 0, 1) := by decide +kernel
theorem dL_received_18 : decode cL_received 18 = .ok (.ireturn, 1) := by decide +kernel
theorem xy_X10_received : xY yX10_received cX10_received 4 (some .int) 2 := ⟨(xin_30 _ (List.mem_of_getElem? (i := 4) rfl)), (xin_1 _ (List.mem_of_getElem? (i := 2) rfl)), by decide +kernel, by decide +kernel, by decide +kernel⟩
theorem xi_X10_received : Cond.instanceMethod yX10_received ∈ wsL_law := (xin_30 _ (List.mem_of_getElem? (i := 2) rfl))
theorem xs_X10_received : Cond.selects yX10_received.cls yX10_received yX10_received ∈ wsL_law := (xin_30 _ (List.mem_of_getElem? (i := 3) rfl))
set_option maxHeartbeats 4000000 in
theorem r_L_received {l : Launch} (hl : l.stackTraces = false) {z0 z1 r : Int} {m m9 : xM} {dX : Nat} (hd9 : dX ≤ 12) (h : xMet l yX10_received cX10_received 4 (some .int) dX lay_X [.inr (.inr (some 0)), .inl z0, .inl z1] m (some (.inl r)) m9) (dC : Nat → ClassId) (dI : Nat → Nat → Nat) (dA : Nat → ClassId) (ad : Nat → Nat) (o : Nat) (g : Nat → Int64) (sz : Nat) : wMet l yL_received (Cond.codeWith yL_received cL_received 5 (some .int) [(0, 10, 13, 18)]) 13 1 6 [.ref (ad 0), .int (Int32.ofInt z0), .int (Int32.ofInt z1), .ref o] (some (.int 0)) dC dI dA ad ((o, .inl (dA 1, 1, .inr (.inl g))) :: xwld ad dA m 0 lay_X) ((o, .inl (dA 1, 1, .inr (.inl (fun j => if j = 0 then (Int32.ofInt r).toInt64 else g j)))) :: xwld ad dA m9 0 lay_X) sz := by
  refine wMet_of hl (by decide +kernel) (by show 4 ≤ 5; decide) (fun Γ C hsa hda Z hl9 hR => ?_)
  subst hl9; subst hda
  refine y_aload C 3 dL_received_0 rfl rfl ?_
  refine y_iconst (v := 0) C dL_received_1 (by decide) ?_
  refine y_aload C 0 dL_received_2 rfl rfl ?_
  refine y_iload C 1 dL_received_3 rfl rfl ?_
  refine y_iload C 2 dL_received_4 rfl rfl ?_
  refine y_callX (wa := [_]) (st := [.int 0, .ref o]) (av := [.inl z0, .inl z1]) (b := 0) (layY := lay_X) (m := m) C ad dL_received_5 (xin_30 _ (List.mem_of_getElem? (i := 1) rfl)) xy_X10_received xi_X10_received xs_X10_received (by omega) (by decide) rfl ⟨_, _, rfl⟩ rfl (Nat.le_of_ble_eq_true rfl) h (by omega) (by omega) (fun i => by rw [hsa]) rfl ?_
  refine y_i2l C dL_received_8 rfl ?_
  refine y_lastore0 C dL_received_9 ?_
  refine y_goto C 17 dL_received_10 (by decide) ?_
  refine y_iconst (v := 0) C dL_received_17 (by decide) ?_
  exact w_ret hR dL_received_18 (by omega) (by omega)
set_option maxHeartbeats 4000000 in
theorem s2_L_received {l : Launch} (hl : l.stackTraces = false) {z0 z1 : Int} {m : xM} {dX : Nat} (hd9 : dX ≤ 12) (h : xMetT l yX10_received cX10_received 4 (some .int) dX lay_X [.inr (.inr (some 0)), .inl z0, .inl z1] m (xEx 2)) (dC : Nat → ClassId) (dI : Nat → Nat → Nat) (dA : Nat → ClassId) (ad : Nat → Nat) (o : Nat) (g : Nat → Int64) (sz : Nat) : wMet l yL_received (Cond.codeWith yL_received cL_received 5 (some .int) [(0, 10, 13, 18)]) 13 1 6 [.ref (ad 0), .int (Int32.ofInt z0), .int (Int32.ofInt z1), .ref o] (some (.int 1)) dC dI dA ad ((o, .inl (dA 1, 1, .inr (.inl g))) :: xwld ad dA m 0 lay_X) ((o, .inl (dA 1, 1, .inr (.inl g))) :: xwld ad dA m 0 lay_X) sz := by
  refine wMet_of hl (by decide +kernel) (by show 4 ≤ 5; decide) (fun Γ C hsa hda Z hl9 hR => ?_)
  subst hl9; subst hda
  refine y_aload C 3 dL_received_0 rfl rfl ?_
  refine y_iconst (v := 0) C dL_received_1 (by decide) ?_
  refine y_aload C 0 dL_received_2 rfl rfl ?_
  refine y_iload C 1 dL_received_3 rfl rfl ?_
  refine y_iload C 2 dL_received_4 rfl rfl ?_
  refine y_catch (wa := [_]) (st := [.int 0, .ref o]) (av := [.inl z0, .inl z1]) (b := 0) (layY := lay_X) (m := m) (nm := xE2) C Z ad dL_received_5 (xin_30 _ (List.mem_of_getElem? (i := 1) rfl)) xy_X10_received xi_X10_received xs_X10_received (by omega) (by decide) rfl ⟨_, _, rfl⟩ rfl (Nat.le_of_ble_eq_true rfl) h (by omega) (by omega) (fun i => by rw [hsa]) rfl [] ⟨0, 10, 13, 18⟩ [] rfl (fun z hz => absurd hz List.not_mem_nil) rfl (by decide) (xin_24 _ (List.mem_of_getElem? (i := 10) rfl)) (List.mem_of_getElem? (i := 1) rfl) (fun q9 => ?_)
  refine y_astore C dL_received_13 (by omega) rfl ?_
  refine y_iconst (v := 1) C dL_received_15 (by decide) ?_
  exact w_ret hR dL_received_16 (by omega) (by omega)
theorem dL_word_0 : decode cL_word 0 = .ok (.aload 4, 2) := by decide +kernel
theorem dL_word_2 : decode cL_word 2 = .ok (.iconst 0, 1) := by decide +kernel
theorem dL_word_3 : decode cL_word 3 = .ok (.aload_n 0, 1) := by decide +kernel
theorem dL_word_4 : decode cL_word 4 = .ok (.iload_n 1, 1) := by decide +kernel
theorem dL_word_5 : decode cL_word 5 = .ok (.iload_n 2, 1) := by decide +kernel
theorem dL_word_6 : decode cL_word 6 = .ok (.iload_n 3, 1) := by decide +kernel
theorem dL_word_7 : decode cL_word 7 = .ok (.invokevirtual 37, 3) := by decide +kernel
theorem dL_word_10 : decode cL_word 10 = .ok (.i2l, 1) := by decide +kernel
theorem dL_word_11 : decode cL_word 11 = .ok (.lastore, 1) := by decide +kernel
theorem dL_word_12 : decode cL_word 12 = .ok (.goto 7, 3) := by decide +kernel
theorem dL_word_15 : decode cL_word 15 = .ok (.astore 5, 2) := by decide +kernel
theorem dL_word_17 : decode cL_word 17 = .ok (.iconst 1, 1) := by decide +kernel
theorem dL_word_18 : decode cL_word 18 = .ok (.ireturn, 1) := by decide +kernel
theorem dL_word_19 : decode cL_word 19 = .ok (.iconst 0, 1) := by decide +kernel
theorem dL_word_20 : decode cL_word 20 = .ok (.ireturn, 1) := by decide +kernel
theorem xy_X10_word : xY yX10_word cX10_word 6 (some .int) 3 := ⟨(xin_30 _ (List.mem_of_getElem? (i := 22) rfl)), (xin_1 _ (List.mem_of_getElem? (i := 2) rfl)), by decide +kernel, by decide +kernel, by decide +kernel⟩
theorem xi_X10_word : Cond.instanceMethod yX10_word ∈ wsL_law := (xin_30 _ (List.mem_of_getElem? (i := 20) rfl))
theorem xs_X10_word : Cond.selects yX10_word.cls yX10_word yX10_word ∈ wsL_law := (xin_30 _ (List.mem_of_getElem? (i := 21) rfl))
set_option maxHeartbeats 4000000 in
theorem r_L_word {l : Launch} (hl : l.stackTraces = false) {z0 z1 z2 r : Int} {m m9 : xM} {dX : Nat} (hd9 : dX ≤ 12) (h : xMet l yX10_word cX10_word 6 (some .int) dX lay_X [.inr (.inr (some 0)), .inl z0, .inl z1, .inl z2] m (some (.inl r)) m9) (dC : Nat → ClassId) (dI : Nat → Nat → Nat) (dA : Nat → ClassId) (ad : Nat → Nat) (o : Nat) (g : Nat → Int64) (sz : Nat) : wMet l yL_word (Cond.codeWith yL_word cL_word 6 (some .int) [(0, 12, 15, 18)]) 13 1 6 [.ref (ad 0), .int (Int32.ofInt z0), .int (Int32.ofInt z1), .int (Int32.ofInt z2), .ref o] (some (.int 0)) dC dI dA ad ((o, .inl (dA 1, 1, .inr (.inl g))) :: xwld ad dA m 0 lay_X) ((o, .inl (dA 1, 1, .inr (.inl (fun j => if j = 0 then (Int32.ofInt r).toInt64 else g j)))) :: xwld ad dA m9 0 lay_X) sz := by
  refine wMet_of hl (by decide +kernel) (by show 5 ≤ 6; decide) (fun Γ C hsa hda Z hl9 hR => ?_)
  subst hl9; subst hda
  refine y_aloadw C 4 dL_word_0 rfl ?_
  refine y_iconst (v := 0) C dL_word_2 (by decide) ?_
  refine y_aload C 0 dL_word_3 rfl rfl ?_
  refine y_iload C 1 dL_word_4 rfl rfl ?_
  refine y_iload C 2 dL_word_5 rfl rfl ?_
  refine y_iload C 3 dL_word_6 rfl rfl ?_
  refine y_callX (wa := [_]) (st := [.int 0, .ref o]) (av := [.inl z0, .inl z1, .inl z2]) (b := 0) (layY := lay_X) (m := m) C ad dL_word_7 (xin_30 _ (List.mem_of_getElem? (i := 19) rfl)) xy_X10_word xi_X10_word xs_X10_word (by omega) (by decide) rfl ⟨_, _, rfl⟩ rfl (Nat.le_of_ble_eq_true rfl) h (by omega) (by omega) (fun i => by rw [hsa]) rfl ?_
  refine y_i2l C dL_word_10 rfl ?_
  refine y_lastore0 C dL_word_11 ?_
  refine y_goto C 19 dL_word_12 (by decide) ?_
  refine y_iconst (v := 0) C dL_word_19 (by decide) ?_
  exact w_ret hR dL_word_20 (by omega) (by omega)
set_option maxHeartbeats 4000000 in
theorem s2_L_word {l : Launch} (hl : l.stackTraces = false) {z0 z1 z2 : Int} {m : xM} {dX : Nat} (hd9 : dX ≤ 12) (h : xMetT l yX10_word cX10_word 6 (some .int) dX lay_X [.inr (.inr (some 0)), .inl z0, .inl z1, .inl z2] m (xEx 2)) (dC : Nat → ClassId) (dI : Nat → Nat → Nat) (dA : Nat → ClassId) (ad : Nat → Nat) (o : Nat) (g : Nat → Int64) (sz : Nat) : wMet l yL_word (Cond.codeWith yL_word cL_word 6 (some .int) [(0, 12, 15, 18)]) 13 1 6 [.ref (ad 0), .int (Int32.ofInt z0), .int (Int32.ofInt z1), .int (Int32.ofInt z2), .ref o] (some (.int 1)) dC dI dA ad ((o, .inl (dA 1, 1, .inr (.inl g))) :: xwld ad dA m 0 lay_X) ((o, .inl (dA 1, 1, .inr (.inl g))) :: xwld ad dA m 0 lay_X) sz := by
  refine wMet_of hl (by decide +kernel) (by show 5 ≤ 6; decide) (fun Γ C hsa hda Z hl9 hR => ?_)
  subst hl9; subst hda
  refine y_aloadw C 4 dL_word_0 rfl ?_
  refine y_iconst (v := 0) C dL_word_2 (by decide) ?_
  refine y_aload C 0 dL_word_3 rfl rfl ?_
  refine y_iload C 1 dL_word_4 rfl rfl ?_
  refine y_iload C 2 dL_word_5 rfl rfl ?_
  refine y_iload C 3 dL_word_6 rfl rfl ?_
  refine y_catch (wa := [_]) (st := [.int 0, .ref o]) (av := [.inl z0, .inl z1, .inl z2]) (b := 0) (layY := lay_X) (m := m) (nm := xE2) C Z ad dL_word_7 (xin_30 _ (List.mem_of_getElem? (i := 19) rfl)) xy_X10_word xi_X10_word xs_X10_word (by omega) (by decide) rfl ⟨_, _, rfl⟩ rfl (Nat.le_of_ble_eq_true rfl) h (by omega) (by omega) (fun i => by rw [hsa]) rfl [] ⟨0, 12, 15, 18⟩ [] rfl (fun z hz => absurd hz List.not_mem_nil) rfl (by decide) (xin_24 _ (List.mem_of_getElem? (i := 10) rfl)) (List.mem_of_getElem? (i := 1) rfl) (fun q9 => ?_)
  refine y_astore C dL_word_15 (by omega) rfl ?_
  refine y_iconst (v := 1) C dL_word_17 (by decide) ?_
  exact w_ret hR dL_word_18 (by omega) (by omega)
theorem dL_event_0 : decode cL_event 0 = .ok (.aload_n 3, 1) := by decide +kernel
theorem dL_event_1 : decode cL_event 1 = .ok (.iconst 0, 1) := by decide +kernel
theorem dL_event_2 : decode cL_event 2 = .ok (.aload_n 0, 1) := by decide +kernel
theorem dL_event_3 : decode cL_event 3 = .ok (.iload_n 1, 1) := by decide +kernel
theorem dL_event_4 : decode cL_event 4 = .ok (.iload_n 2, 1) := by decide +kernel
theorem dL_event_5 : decode cL_event 5 = .ok (.invokevirtual 41, 3) := by decide +kernel
theorem dL_event_8 : decode cL_event 8 = .ok (.i2l, 1) := by decide +kernel
theorem dL_event_9 : decode cL_event 9 = .ok (.lastore, 1) := by decide +kernel
theorem dL_event_10 : decode cL_event 10 = .ok (.goto 7, 3) := by decide +kernel
theorem dL_event_13 : decode cL_event 13 = .ok (.astore 4, 2) := by decide +kernel
theorem dL_event_15 : decode cL_event 15 = .ok (.iconst 1, 1) := by decide +kernel
theorem dL_event_16 : decode cL_event 16 = .ok (.ireturn, 1) := by decide +kernel
theorem dL_event_17 : decode cL_event 17 = .ok (.iconst 0, 1) := by decide +kernel
theorem dL_event_18 : decode cL_event 18 = .ok (.ireturn, 1) := by decide +kernel
theorem xy_X10_event : xY yX10_event cX10_event 3 (some .int) 2 := ⟨(xin_31 _ (List.mem_of_getElem? (i := 16) rfl)), (xin_1 _ (List.mem_of_getElem? (i := 2) rfl)), by decide +kernel, by decide +kernel, by decide +kernel⟩
theorem xi_X10_event : Cond.instanceMethod yX10_event ∈ wsL_law := (xin_31 _ (List.mem_of_getElem? (i := 14) rfl))
theorem xs_X10_event : Cond.selects yX10_event.cls yX10_event yX10_event ∈ wsL_law := (xin_31 _ (List.mem_of_getElem? (i := 15) rfl))
set_option maxHeartbeats 4000000 in
theorem r_L_event {l : Launch} (hl : l.stackTraces = false) {z0 z1 r : Int} {m m9 : xM} {dX : Nat} (hd9 : dX ≤ 12) (h : xMet l yX10_event cX10_event 3 (some .int) dX lay_X [.inr (.inr (some 0)), .inl z0, .inl z1] m (some (.inl r)) m9) (dC : Nat → ClassId) (dI : Nat → Nat → Nat) (dA : Nat → ClassId) (ad : Nat → Nat) (o : Nat) (g : Nat → Int64) (sz : Nat) : wMet l yL_event (Cond.codeWith yL_event cL_event 5 (some .int) [(0, 10, 13, 18)]) 13 1 6 [.ref (ad 0), .int (Int32.ofInt z0), .int (Int32.ofInt z1), .ref o] (some (.int 0)) dC dI dA ad ((o, .inl (dA 1, 1, .inr (.inl g))) :: xwld ad dA m 0 lay_X) ((o, .inl (dA 1, 1, .inr (.inl (fun j => if j = 0 then (Int32.ofInt r).toInt64 else g j)))) :: xwld ad dA m9 0 lay_X) sz := by
  refine wMet_of hl (by decide +kernel) (by show 4 ≤ 5; decide) (fun Γ C hsa hda Z hl9 hR => ?_)
  subst hl9; subst hda
  refine y_aload C 3 dL_event_0 rfl rfl ?_
  refine y_iconst (v := 0) C dL_event_1 (by decide) ?_
  refine y_aload C 0 dL_event_2 rfl rfl ?_
  refine y_iload C 1 dL_event_3 rfl rfl ?_
  refine y_iload C 2 dL_event_4 rfl rfl ?_
  refine y_callX (wa := [_]) (st := [.int 0, .ref o]) (av := [.inl z0, .inl z1]) (b := 0) (layY := lay_X) (m := m) C ad dL_event_5 (xin_31 _ (List.mem_of_getElem? (i := 13) rfl)) xy_X10_event xi_X10_event xs_X10_event (by omega) (by decide) rfl ⟨_, _, rfl⟩ rfl (Nat.le_of_ble_eq_true rfl) h (by omega) (by omega) (fun i => by rw [hsa]) rfl ?_
  refine y_i2l C dL_event_8 rfl ?_
  refine y_lastore0 C dL_event_9 ?_
  refine y_goto C 17 dL_event_10 (by decide) ?_
  refine y_iconst (v := 0) C dL_event_17 (by decide) ?_
  exact w_ret hR dL_event_18 (by omega) (by omega)
set_option maxHeartbeats 4000000 in
theorem s2_L_event {l : Launch} (hl : l.stackTraces = false) {z0 z1 : Int} {m : xM} {dX : Nat} (hd9 : dX ≤ 12) (h : xMetT l yX10_event cX10_event 3 (some .int) dX lay_X [.inr (.inr (some 0)), .inl z0, .inl z1] m (xEx 2)) (dC : Nat → ClassId) (dI : Nat → Nat → Nat) (dA : Nat → ClassId) (ad : Nat → Nat) (o : Nat) (g : Nat → Int64) (sz : Nat) : wMet l yL_event (Cond.codeWith yL_event cL_event 5 (some .int) [(0, 10, 13, 18)]) 13 1 6 [.ref (ad 0), .int (Int32.ofInt z0), .int (Int32.ofInt z1), .ref o] (some (.int 1)) dC dI dA ad ((o, .inl (dA 1, 1, .inr (.inl g))) :: xwld ad dA m 0 lay_X) ((o, .inl (dA 1, 1, .inr (.inl g))) :: xwld ad dA m 0 lay_X) sz := by
  refine wMet_of hl (by decide +kernel) (by show 4 ≤ 5; decide) (fun Γ C hsa hda Z hl9 hR => ?_)
  subst hl9; subst hda
  refine y_aload C 3 dL_event_0 rfl rfl ?_
  refine y_iconst (v := 0) C dL_event_1 (by decide) ?_
  refine y_aload C 0 dL_event_2 rfl rfl ?_
  refine y_iload C 1 dL_event_3 rfl rfl ?_
  refine y_iload C 2 dL_event_4 rfl rfl ?_
  refine y_catch (wa := [_]) (st := [.int 0, .ref o]) (av := [.inl z0, .inl z1]) (b := 0) (layY := lay_X) (m := m) (nm := xE2) C Z ad dL_event_5 (xin_31 _ (List.mem_of_getElem? (i := 13) rfl)) xy_X10_event xi_X10_event xs_X10_event (by omega) (by decide) rfl ⟨_, _, rfl⟩ rfl (Nat.le_of_ble_eq_true rfl) h (by omega) (by omega) (fun i => by rw [hsa]) rfl [] ⟨0, 10, 13, 18⟩ [] rfl (fun z hz => absurd hz List.not_mem_nil) rfl (by decide) (xin_24 _ (List.mem_of_getElem? (i := 10) rfl)) (List.mem_of_getElem? (i := 1) rfl) (fun q9 => ?_)
  refine y_astore C dL_event_13 (by omega) rfl ?_
  refine y_iconst (v := 1) C dL_event_15 (by decide) ?_
  exact w_ret hR dL_event_16 (by omega) (by omega)
theorem dL_rateFor_0 : decode cL_rateFor 0 = .ok (.aload_n 2, 1) := by decide +kernel
theorem dL_rateFor_1 : decode cL_rateFor 1 = .ok (.iconst 0, 1) := by decide +kernel
theorem dL_rateFor_2 : decode cL_rateFor 2 = .ok (.aload_n 0, 1) := by decide +kernel
theorem dL_rateFor_3 : decode cL_rateFor 3 = .ok (.iload_n 1, 1) := by decide +kernel
theorem dL_rateFor_4 : decode cL_rateFor 4 = .ok (.invokevirtual 44, 3) := by decide +kernel
theorem dL_rateFor_7 : decode cL_rateFor 7 = .ok (.i2l, 1) := by decide +kernel
theorem dL_rateFor_8 : decode cL_rateFor 8 = .ok (.lastore, 1) := by decide +kernel
theorem dL_rateFor_9 : decode cL_rateFor 9 = .ok (.goto 6, 3) := by decide +kernel
theorem dL_rateFor_12 : decode cL_rateFor 12 = .ok (.astore_n 3, 1) := by decide +kernel
theorem dL_rateFor_13 : decode cL_rateFor 13 = .ok (.iconst 1, 1) := by decide +kernel
theorem dL_rateFor_14 : decode cL_rateFor 14 = .ok (.ireturn, 1) := by decide +kernel
theorem dL_rateFor_15 : decode cL_rateFor 15 = .ok (.iconst 0, 1) := by decide +kernel
theorem dL_rateFor_16 : decode cL_rateFor 16 = .ok (.ireturn, 1) := by decide +kernel
theorem xy_X10_rateFor : xY yX10_rateFor cX10_rateFor 2 (some .int) 1 := ⟨(xin_32 _ (List.mem_of_getElem? (i := 9) rfl)), (xin_1 _ (List.mem_of_getElem? (i := 2) rfl)), by decide +kernel, by decide +kernel, by decide +kernel⟩
theorem xi_X10_rateFor : Cond.instanceMethod yX10_rateFor ∈ wsL_law := (xin_32 _ (List.mem_of_getElem? (i := 7) rfl))
theorem xs_X10_rateFor : Cond.selects yX10_rateFor.cls yX10_rateFor yX10_rateFor ∈ wsL_law := (xin_32 _ (List.mem_of_getElem? (i := 8) rfl))
set_option maxHeartbeats 4000000 in
theorem r_L_rateFor {l : Launch} (hl : l.stackTraces = false) {z0 r : Int} {m m9 : xM} {dX : Nat} (hd9 : dX ≤ 12) (h : xMet l yX10_rateFor cX10_rateFor 2 (some .int) dX lay_X [.inr (.inr (some 0)), .inl z0] m (some (.inl r)) m9) (dC : Nat → ClassId) (dI : Nat → Nat → Nat) (dA : Nat → ClassId) (ad : Nat → Nat) (o : Nat) (g : Nat → Int64) (sz : Nat) : wMet l yL_rateFor (Cond.codeWith yL_rateFor cL_rateFor 4 (some .int) [(0, 9, 12, 13)]) 13 1 6 [.ref (ad 0), .int (Int32.ofInt z0), .ref o] (some (.int 0)) dC dI dA ad ((o, .inl (dA 1, 1, .inr (.inl g))) :: xwld ad dA m 0 lay_X) ((o, .inl (dA 1, 1, .inr (.inl (fun j => if j = 0 then (Int32.ofInt r).toInt64 else g j)))) :: xwld ad dA m9 0 lay_X) sz := by
  refine wMet_of hl (by decide +kernel) (by show 3 ≤ 4; decide) (fun Γ C hsa hda Z hl9 hR => ?_)
  subst hl9; subst hda
  refine y_aload C 2 dL_rateFor_0 rfl rfl ?_
  refine y_iconst (v := 0) C dL_rateFor_1 (by decide) ?_
  refine y_aload C 0 dL_rateFor_2 rfl rfl ?_
  refine y_iload C 1 dL_rateFor_3 rfl rfl ?_
  refine y_callX (wa := [_]) (st := [.int 0, .ref o]) (av := [.inl z0]) (b := 0) (layY := lay_X) (m := m) C ad dL_rateFor_4 (xin_32 _ (List.mem_of_getElem? (i := 6) rfl)) xy_X10_rateFor xi_X10_rateFor xs_X10_rateFor (by omega) (by decide) rfl ⟨_, _, rfl⟩ rfl (Nat.le_of_ble_eq_true rfl) h (by omega) (by omega) (fun i => by rw [hsa]) rfl ?_
  refine y_i2l C dL_rateFor_7 rfl ?_
  refine y_lastore0 C dL_rateFor_8 ?_
  refine y_goto C 15 dL_rateFor_9 (by decide) ?_
  refine y_iconst (v := 0) C dL_rateFor_15 (by decide) ?_
  exact w_ret hR dL_rateFor_16 (by omega) (by omega)
set_option maxHeartbeats 4000000 in
theorem s1_L_rateFor {l : Launch} (hl : l.stackTraces = false) {z0 : Int} {m : xM} {dX : Nat} (hd9 : dX ≤ 12) (h : xMetT l yX10_rateFor cX10_rateFor 2 (some .int) dX lay_X [.inr (.inr (some 0)), .inl z0] m (xEx 1)) (dC : Nat → ClassId) (dI : Nat → Nat → Nat) (dA : Nat → ClassId) (ad : Nat → Nat) (o : Nat) (g : Nat → Int64) (sz : Nat) : wMet l yL_rateFor (Cond.codeWith yL_rateFor cL_rateFor 4 (some .int) [(0, 9, 12, 13)]) 13 1 6 [.ref (ad 0), .int (Int32.ofInt z0), .ref o] (some (.int 1)) dC dI dA ad ((o, .inl (dA 1, 1, .inr (.inl g))) :: xwld ad dA m 0 lay_X) ((o, .inl (dA 1, 1, .inr (.inl g))) :: xwld ad dA m 0 lay_X) sz := by
  refine wMet_of hl (by decide +kernel) (by show 3 ≤ 4; decide) (fun Γ C hsa hda Z hl9 hR => ?_)
  subst hl9; subst hda
  refine y_aload C 2 dL_rateFor_0 rfl rfl ?_
  refine y_iconst (v := 0) C dL_rateFor_1 (by decide) ?_
  refine y_aload C 0 dL_rateFor_2 rfl rfl ?_
  refine y_iload C 1 dL_rateFor_3 rfl rfl ?_
  refine y_catch (wa := [_]) (st := [.int 0, .ref o]) (av := [.inl z0]) (b := 0) (layY := lay_X) (m := m) (nm := xE1) C Z ad dL_rateFor_4 (xin_32 _ (List.mem_of_getElem? (i := 6) rfl)) xy_X10_rateFor xi_X10_rateFor xs_X10_rateFor (by omega) (by decide) rfl ⟨_, _, rfl⟩ rfl (Nat.le_of_ble_eq_true rfl) h (by omega) (by omega) (fun i => by rw [hsa]) rfl [] ⟨0, 9, 12, 13⟩ [] rfl (fun z hz => absurd hz List.not_mem_nil) rfl (by decide) (xin_10 _ (List.mem_of_getElem? (i := 14) rfl)) (List.mem_of_getElem? (i := 0) rfl) (fun q9 => ?_)
  refine y_astoren C dL_rateFor_12 rfl (by omega) rfl ?_
  refine y_iconst (v := 1) C dL_rateFor_13 (by decide) ?_
  exact w_ret hR dL_rateFor_14 (by omega) (by omega)
theorem dL_nextCost_0 : decode cL_nextCost 0 = .ok (.aload_n 2, 1) := by decide +kernel
theorem dL_nextCost_1 : decode cL_nextCost 1 = .ok (.iconst 0, 1) := by decide +kernel
theorem dL_nextCost_2 : decode cL_nextCost 2 = .ok (.aload_n 0, 1) := by decide +kernel
theorem dL_nextCost_3 : decode cL_nextCost 3 = .ok (.iload_n 1, 1) := by decide +kernel
theorem dL_nextCost_4 : decode cL_nextCost 4 = .ok (.invokevirtual 47, 3) := by decide +kernel
theorem dL_nextCost_7 : decode cL_nextCost 7 = .ok (.i2l, 1) := by decide +kernel
theorem dL_nextCost_8 : decode cL_nextCost 8 = .ok (.lastore, 1) := by decide +kernel
theorem dL_nextCost_9 : decode cL_nextCost 9 = .ok (.goto 6, 3) := by decide +kernel
theorem dL_nextCost_12 : decode cL_nextCost 12 = .ok (.astore_n 3, 1) := by decide +kernel
theorem dL_nextCost_13 : decode cL_nextCost 13 = .ok (.iconst 1, 1) := by decide +kernel
theorem dL_nextCost_14 : decode cL_nextCost 14 = .ok (.ireturn, 1) := by decide +kernel
theorem dL_nextCost_15 : decode cL_nextCost 15 = .ok (.iconst 0, 1) := by decide +kernel
theorem dL_nextCost_16 : decode cL_nextCost 16 = .ok (.ireturn, 1) := by decide +kernel
theorem xy_X10_nextCost : xY yX10_nextCost cX10_nextCost 3 (some .int) 1 := ⟨(xin_33 _ (List.mem_of_getElem? (i := 8) rfl)), (xin_1 _ (List.mem_of_getElem? (i := 2) rfl)), by decide +kernel, by decide +kernel, by decide +kernel⟩
theorem xi_X10_nextCost : Cond.instanceMethod yX10_nextCost ∈ wsL_law := (xin_33 _ (List.mem_of_getElem? (i := 6) rfl))
theorem xs_X10_nextCost : Cond.selects yX10_nextCost.cls yX10_nextCost yX10_nextCost ∈ wsL_law := (xin_33 _ (List.mem_of_getElem? (i := 7) rfl))
set_option maxHeartbeats 4000000 in
theorem r_L_nextCost {l : Launch} (hl : l.stackTraces = false) {z0 r : Int} {m m9 : xM} {dX : Nat} (hd9 : dX ≤ 12) (h : xMet l yX10_nextCost cX10_nextCost 3 (some .int) dX lay_X [.inr (.inr (some 0)), .inl z0] m (some (.inl r)) m9) (dC : Nat → ClassId) (dI : Nat → Nat → Nat) (dA : Nat → ClassId) (ad : Nat → Nat) (o : Nat) (g : Nat → Int64) (sz : Nat) : wMet l yL_nextCost (Cond.codeWith yL_nextCost cL_nextCost 4 (some .int) [(0, 9, 12, 18)]) 13 1 6 [.ref (ad 0), .int (Int32.ofInt z0), .ref o] (some (.int 0)) dC dI dA ad ((o, .inl (dA 1, 1, .inr (.inl g))) :: xwld ad dA m 0 lay_X) ((o, .inl (dA 1, 1, .inr (.inl (fun j => if j = 0 then (Int32.ofInt r).toInt64 else g j)))) :: xwld ad dA m9 0 lay_X) sz := by
  refine wMet_of hl (by decide +kernel) (by show 3 ≤ 4; decide) (fun Γ C hsa hda Z hl9 hR => ?_)
  subst hl9; subst hda
  refine y_aload C 2 dL_nextCost_0 rfl rfl ?_
  refine y_iconst (v := 0) C dL_nextCost_1 (by decide) ?_
  refine y_aload C 0 dL_nextCost_2 rfl rfl ?_
  refine y_iload C 1 dL_nextCost_3 rfl rfl ?_
  refine y_callX (wa := [_]) (st := [.int 0, .ref o]) (av := [.inl z0]) (b := 0) (layY := lay_X) (m := m) C ad dL_nextCost_4 (xin_33 _ (List.mem_of_getElem? (i := 5) rfl)) xy_X10_nextCost xi_X10_nextCost xs_X10_nextCost (by omega) (by decide) rfl ⟨_, _, rfl⟩ rfl (Nat.le_of_ble_eq_true rfl) h (by omega) (by omega) (fun i => by rw [hsa]) rfl ?_
  refine y_i2l C dL_nextCost_7 rfl ?_
  refine y_lastore0 C dL_nextCost_8 ?_
  refine y_goto C 15 dL_nextCost_9 (by decide) ?_
  refine y_iconst (v := 0) C dL_nextCost_15 (by decide) ?_
  exact w_ret hR dL_nextCost_16 (by omega) (by omega)
set_option maxHeartbeats 4000000 in
theorem s2_L_nextCost {l : Launch} (hl : l.stackTraces = false) {z0 : Int} {m : xM} {dX : Nat} (hd9 : dX ≤ 12) (h : xMetT l yX10_nextCost cX10_nextCost 3 (some .int) dX lay_X [.inr (.inr (some 0)), .inl z0] m (xEx 2)) (dC : Nat → ClassId) (dI : Nat → Nat → Nat) (dA : Nat → ClassId) (ad : Nat → Nat) (o : Nat) (g : Nat → Int64) (sz : Nat) : wMet l yL_nextCost (Cond.codeWith yL_nextCost cL_nextCost 4 (some .int) [(0, 9, 12, 18)]) 13 1 6 [.ref (ad 0), .int (Int32.ofInt z0), .ref o] (some (.int 1)) dC dI dA ad ((o, .inl (dA 1, 1, .inr (.inl g))) :: xwld ad dA m 0 lay_X) ((o, .inl (dA 1, 1, .inr (.inl g))) :: xwld ad dA m 0 lay_X) sz := by
  refine wMet_of hl (by decide +kernel) (by show 3 ≤ 4; decide) (fun Γ C hsa hda Z hl9 hR => ?_)
  subst hl9; subst hda
  refine y_aload C 2 dL_nextCost_0 rfl rfl ?_
  refine y_iconst (v := 0) C dL_nextCost_1 (by decide) ?_
  refine y_aload C 0 dL_nextCost_2 rfl rfl ?_
  refine y_iload C 1 dL_nextCost_3 rfl rfl ?_
  refine y_catch (wa := [_]) (st := [.int 0, .ref o]) (av := [.inl z0]) (b := 0) (layY := lay_X) (m := m) (nm := xE2) C Z ad dL_nextCost_4 (xin_33 _ (List.mem_of_getElem? (i := 5) rfl)) xy_X10_nextCost xi_X10_nextCost xs_X10_nextCost (by omega) (by decide) rfl ⟨_, _, rfl⟩ rfl (Nat.le_of_ble_eq_true rfl) h (by omega) (by omega) (fun i => by rw [hsa]) rfl [] ⟨0, 9, 12, 18⟩ [] rfl (fun z hz => absurd hz List.not_mem_nil) rfl (by decide) (xin_24 _ (List.mem_of_getElem? (i := 10) rfl)) (List.mem_of_getElem? (i := 1) rfl) (fun q9 => ?_)
  refine y_astoren C dL_nextCost_12 rfl (by omega) rfl ?_
  refine y_iconst (v := 1) C dL_nextCost_13 (by decide) ?_
  exact w_ret hR dL_nextCost_14 (by omega) (by omega)
theorem dL_receivedBehind_0 : decode cL_receivedBehind 0 = .ok (.aload_n 3, 1) := by decide +kernel
theorem dL_receivedBehind_1 : decode cL_receivedBehind 1 = .ok (.iconst 0, 1) := by decide +kernel
theorem dL_receivedBehind_2 : decode cL_receivedBehind 2 = .ok (.aload_n 0, 1) := by decide +kernel
theorem dL_receivedBehind_3 : decode cL_receivedBehind 3 = .ok (.iload_n 1, 1) := by decide +kernel
theorem dL_receivedBehind_4 : decode cL_receivedBehind 4 = .ok (.iload_n 2, 1) := by decide +kernel
theorem dL_receivedBehind_5 : decode cL_receivedBehind 5 = .ok (.invokevirtual 50, 3) := by decide +kernel
theorem dL_receivedBehind_8 : decode cL_receivedBehind 8 = .ok (.i2l, 1) := by decide +kernel
theorem dL_receivedBehind_9 : decode cL_receivedBehind 9 = .ok (.lastore, 1) := by decide +kernel
theorem dL_receivedBehind_10 : decode cL_receivedBehind 10 = .ok (.goto 11, 3) := by decide +kernel
theorem dL_receivedBehind_13 : decode cL_receivedBehind 13 = .ok (.astore 4, 2) := by decide +kernel
theorem dL_receivedBehind_15 : decode cL_receivedBehind 15 = .ok (.iconst 1, 1) := by decide +kernel
theorem dL_receivedBehind_16 : decode cL_receivedBehind 16 = .ok (.ireturn, 1) := by decide +kernel
theorem dL_receivedBehind_17 : decode cL_receivedBehind 17 = .ok (.astore 4, 2) := by decide +kernel
theorem dL_receivedBehind_19 : decode cL_receivedBehind 19 = .ok (.iconst 2, 1) := by decide +kernel
theorem dL_receivedBehind_20 : decode cL_receivedBehind 20 = .ok (.ireturn, 1) := by decide +kernel
theorem dL_receivedBehind_21 : decode cL_receivedBehind 21 = .ok (.iconst 0, 1) := by decide +kernel
theorem dL_receivedBehind_22 : decode cL_receivedBehind 22 = .ok (.ireturn, 1) := by decide +kernel
theorem xy_X10_receivedBehind : xY yX10_receivedBehind cX10_receivedBehind 3 (some .int) 2 := ⟨(xin_49 _ (List.mem_of_getElem? (i := 9) rfl)), (xin_1 _ (List.mem_of_getElem? (i := 2) rfl)), by decide +kernel, by decide +kernel, by decide +kernel⟩
theorem xi_X10_receivedBehind : Cond.instanceMethod yX10_receivedBehind ∈ wsL_law := (xin_49 _ (List.mem_of_getElem? (i := 7) rfl))
theorem xs_X10_receivedBehind : Cond.selects yX10_receivedBehind.cls yX10_receivedBehind yX10_receivedBehind ∈ wsL_law := (xin_49 _ (List.mem_of_getElem? (i := 8) rfl))
set_option maxHeartbeats 4000000 in
theorem r_L_receivedBehind {l : Launch} (hl : l.stackTraces = false) {z0 z1 r : Int} {m m9 : xM} {dX : Nat} (hd9 : dX ≤ 12) (h : xMet l yX10_receivedBehind cX10_receivedBehind 3 (some .int) dX lay_X [.inr (.inr (some 0)), .inl z0, .inl z1] m (some (.inl r)) m9) (dC : Nat → ClassId) (dI : Nat → Nat → Nat) (dA : Nat → ClassId) (ad : Nat → Nat) (o : Nat) (g : Nat → Int64) (sz : Nat) : wMet l yL_receivedBehind (Cond.codeWith yL_receivedBehind cL_receivedBehind 5 (some .int) [(0, 10, 13, 18), (0, 10, 17, 13)]) 13 1 6 [.ref (ad 0), .int (Int32.ofInt z0), .int (Int32.ofInt z1), .ref o] (some (.int 0)) dC dI dA ad ((o, .inl (dA 1, 1, .inr (.inl g))) :: xwld ad dA m 0 lay_X) ((o, .inl (dA 1, 1, .inr (.inl (fun j => if j = 0 then (Int32.ofInt r).toInt64 else g j)))) :: xwld ad dA m9 0 lay_X) sz := by
  refine wMet_of hl (by decide +kernel) (by show 4 ≤ 5; decide) (fun Γ C hsa hda Z hl9 hR => ?_)
  subst hl9; subst hda
  refine y_aload C 3 dL_receivedBehind_0 rfl rfl ?_
  refine y_iconst (v := 0) C dL_receivedBehind_1 (by decide) ?_
  refine y_aload C 0 dL_receivedBehind_2 rfl rfl ?_
  refine y_iload C 1 dL_receivedBehind_3 rfl rfl ?_
  refine y_iload C 2 dL_receivedBehind_4 rfl rfl ?_
  refine y_callX (wa := [_]) (st := [.int 0, .ref o]) (av := [.inl z0, .inl z1]) (b := 0) (layY := lay_X) (m := m) C ad dL_receivedBehind_5 (xin_49 _ (List.mem_of_getElem? (i := 6) rfl)) xy_X10_receivedBehind xi_X10_receivedBehind xs_X10_receivedBehind (by omega) (by decide) rfl ⟨_, _, rfl⟩ rfl (Nat.le_of_ble_eq_true rfl) h (by omega) (by omega) (fun i => by rw [hsa]) rfl ?_
  refine y_i2l C dL_receivedBehind_8 rfl ?_
  refine y_lastore0 C dL_receivedBehind_9 ?_
  refine y_goto C 21 dL_receivedBehind_10 (by decide) ?_
  refine y_iconst (v := 0) C dL_receivedBehind_21 (by decide) ?_
  exact w_ret hR dL_receivedBehind_22 (by omega) (by omega)
set_option maxHeartbeats 4000000 in
theorem s2_L_receivedBehind {l : Launch} (hl : l.stackTraces = false) {z0 z1 : Int} {m : xM} {dX : Nat} (hd9 : dX ≤ 12) (h : xMetT l yX10_receivedBehind cX10_receivedBehind 3 (some .int) dX lay_X [.inr (.inr (some 0)), .inl z0, .inl z1] m (xEx 2)) (dC : Nat → ClassId) (dI : Nat → Nat → Nat) (dA : Nat → ClassId) (ad : Nat → Nat) (o : Nat) (g : Nat → Int64) (sz : Nat) : wMet l yL_receivedBehind (Cond.codeWith yL_receivedBehind cL_receivedBehind 5 (some .int) [(0, 10, 13, 18), (0, 10, 17, 13)]) 13 1 6 [.ref (ad 0), .int (Int32.ofInt z0), .int (Int32.ofInt z1), .ref o] (some (.int 1)) dC dI dA ad ((o, .inl (dA 1, 1, .inr (.inl g))) :: xwld ad dA m 0 lay_X) ((o, .inl (dA 1, 1, .inr (.inl g))) :: xwld ad dA m 0 lay_X) sz := by
  refine wMet_of hl (by decide +kernel) (by show 4 ≤ 5; decide) (fun Γ C hsa hda Z hl9 hR => ?_)
  subst hl9; subst hda
  refine y_aload C 3 dL_receivedBehind_0 rfl rfl ?_
  refine y_iconst (v := 0) C dL_receivedBehind_1 (by decide) ?_
  refine y_aload C 0 dL_receivedBehind_2 rfl rfl ?_
  refine y_iload C 1 dL_receivedBehind_3 rfl rfl ?_
  refine y_iload C 2 dL_receivedBehind_4 rfl rfl ?_
  refine y_catch (wa := [_]) (st := [.int 0, .ref o]) (av := [.inl z0, .inl z1]) (b := 0) (layY := lay_X) (m := m) (nm := xE2) C Z ad dL_receivedBehind_5 (xin_49 _ (List.mem_of_getElem? (i := 6) rfl)) xy_X10_receivedBehind xi_X10_receivedBehind xs_X10_receivedBehind (by omega) (by decide) rfl ⟨_, _, rfl⟩ rfl (Nat.le_of_ble_eq_true rfl) h (by omega) (by omega) (fun i => by rw [hsa]) rfl [] ⟨0, 10, 13, 18⟩ [⟨0, 10, 17, 13⟩] rfl (fun z hz => absurd hz List.not_mem_nil) rfl (by decide) (xin_24 _ (List.mem_of_getElem? (i := 10) rfl)) (List.mem_of_getElem? (i := 1) rfl) (fun q9 => ?_)
  refine y_astore C dL_receivedBehind_13 (by omega) rfl ?_
  refine y_iconst (v := 1) C dL_receivedBehind_15 (by decide) ?_
  exact w_ret hR dL_receivedBehind_16 (by omega) (by omega)
set_option maxHeartbeats 4000000 in
theorem s1_L_receivedBehind {l : Launch} (hl : l.stackTraces = false) {z0 z1 : Int} {m : xM} {dX : Nat} (hd9 : dX ≤ 12) (h : xMetT l yX10_receivedBehind cX10_receivedBehind 3 (some .int) dX lay_X [.inr (.inr (some 0)), .inl z0, .inl z1] m (xEx 1)) (dC : Nat → ClassId) (dI : Nat → Nat → Nat) (dA : Nat → ClassId) (ad : Nat → Nat) (o : Nat) (g : Nat → Int64) (sz : Nat) : wMet l yL_receivedBehind (Cond.codeWith yL_receivedBehind cL_receivedBehind 5 (some .int) [(0, 10, 13, 18), (0, 10, 17, 13)]) 13 1 6 [.ref (ad 0), .int (Int32.ofInt z0), .int (Int32.ofInt z1), .ref o] (some (.int 2)) dC dI dA ad ((o, .inl (dA 1, 1, .inr (.inl g))) :: xwld ad dA m 0 lay_X) ((o, .inl (dA 1, 1, .inr (.inl g))) :: xwld ad dA m 0 lay_X) sz := by
  refine wMet_of hl (by decide +kernel) (by show 4 ≤ 5; decide) (fun Γ C hsa hda Z hl9 hR => ?_)
  subst hl9; subst hda
  refine y_aload C 3 dL_receivedBehind_0 rfl rfl ?_
  refine y_iconst (v := 0) C dL_receivedBehind_1 (by decide) ?_
  refine y_aload C 0 dL_receivedBehind_2 rfl rfl ?_
  refine y_iload C 1 dL_receivedBehind_3 rfl rfl ?_
  refine y_iload C 2 dL_receivedBehind_4 rfl rfl ?_
  refine y_catch (wa := [_]) (st := [.int 0, .ref o]) (av := [.inl z0, .inl z1]) (b := 0) (layY := lay_X) (m := m) (nm := xE1) C Z ad dL_receivedBehind_5 (xin_49 _ (List.mem_of_getElem? (i := 6) rfl)) xy_X10_receivedBehind xi_X10_receivedBehind xs_X10_receivedBehind (by omega) (by decide) rfl ⟨_, _, rfl⟩ rfl (Nat.le_of_ble_eq_true rfl) h (by omega) (by omega) (fun i => by rw [hsa]) rfl [⟨0, 10, 13, 18⟩] ⟨0, 10, 17, 13⟩ [] rfl (fun z hz => by rw [List.mem_singleton.mp hz]; exact Or.inr ⟨by decide, rfl, (xin_24 _ (List.mem_of_getElem? (i := 10) rfl))⟩) rfl (by decide) (xin_10 _ (List.mem_of_getElem? (i := 14) rfl)) (List.mem_of_getElem? (i := 0) rfl) (fun q9 => ?_)
  refine y_astore C dL_receivedBehind_17 (by omega) rfl ?_
  refine y_iconst (v := 2) C dL_receivedBehind_19 (by decide) ?_
  exact w_ret hR dL_receivedBehind_20 (by omega) (by omega)
theorem dL_pass_0 : decode cL_pass 0 = .ok (.aload_n 2, 1) := by decide +kernel
theorem dL_pass_1 : decode cL_pass 1 = .ok (.iconst 0, 1) := by decide +kernel
theorem dL_pass_2 : decode cL_pass 2 = .ok (.aload_n 0, 1) := by decide +kernel
theorem dL_pass_3 : decode cL_pass 3 = .ok (.iload_n 1, 1) := by decide +kernel
theorem dL_pass_4 : decode cL_pass 4 = .ok (.invokevirtual 53, 3) := by decide +kernel
theorem dL_pass_7 : decode cL_pass 7 = .ok (.i2l, 1) := by decide +kernel
theorem dL_pass_8 : decode cL_pass 8 = .ok (.lastore, 1) := by decide +kernel
theorem dL_pass_9 : decode cL_pass 9 = .ok (.goto 6, 3) := by decide +kernel
theorem dL_pass_12 : decode cL_pass 12 = .ok (.astore_n 3, 1) := by decide +kernel
theorem dL_pass_13 : decode cL_pass 13 = .ok (.iconst 1, 1) := by decide +kernel
theorem dL_pass_14 : decode cL_pass 14 = .ok (.ireturn, 1) := by decide +kernel
theorem dL_pass_15 : decode cL_pass 15 = .ok (.iconst 0, 1) := by decide +kernel
theorem dL_pass_16 : decode cL_pass 16 = .ok (.ireturn, 1) := by decide +kernel
theorem xy_X10_pass : xY yX10_pass cX10_pass 3 (some .int) 1 := ⟨(xin_51 _ (List.mem_of_getElem? (i := 0) rfl)), (xin_1 _ (List.mem_of_getElem? (i := 2) rfl)), by decide +kernel, by decide +kernel, by decide +kernel⟩
theorem xi_X10_pass : Cond.instanceMethod yX10_pass ∈ wsL_law := (xin_50 _ (List.mem_of_getElem? (i := 22) rfl))
theorem xs_X10_pass : Cond.selects yX10_pass.cls yX10_pass yX10_pass ∈ wsL_law := (xin_50 _ (List.mem_of_getElem? (i := 23) rfl))
set_option maxHeartbeats 4000000 in
theorem r_L_pass {l : Launch} (hl : l.stackTraces = false) {z0 r : Int} {m m9 : xM} {dX : Nat} (hd9 : dX ≤ 12) (h : xMet l yX10_pass cX10_pass 3 (some .int) dX lay_X [.inr (.inr (some 0)), .inl z0] m (some (.inl r)) m9) (dC : Nat → ClassId) (dI : Nat → Nat → Nat) (dA : Nat → ClassId) (ad : Nat → Nat) (o : Nat) (g : Nat → Int64) (sz : Nat) : wMet l yL_pass (Cond.codeWith yL_pass cL_pass 4 (some .int) [(0, 9, 12, 13)]) 13 1 6 [.ref (ad 0), .int (Int32.ofInt z0), .ref o] (some (.int 0)) dC dI dA ad ((o, .inl (dA 1, 1, .inr (.inl g))) :: xwld ad dA m 0 lay_X) ((o, .inl (dA 1, 1, .inr (.inl (fun j => if j = 0 then (Int32.ofInt r).toInt64 else g j)))) :: xwld ad dA m9 0 lay_X) sz := by
  refine wMet_of hl (by decide +kernel) (by show 3 ≤ 4; decide) (fun Γ C hsa hda Z hl9 hR => ?_)
  subst hl9; subst hda
  refine y_aload C 2 dL_pass_0 rfl rfl ?_
  refine y_iconst (v := 0) C dL_pass_1 (by decide) ?_
  refine y_aload C 0 dL_pass_2 rfl rfl ?_
  refine y_iload C 1 dL_pass_3 rfl rfl ?_
  refine y_callX (wa := [_]) (st := [.int 0, .ref o]) (av := [.inl z0]) (b := 0) (layY := lay_X) (m := m) C ad dL_pass_4 (xin_50 _ (List.mem_of_getElem? (i := 21) rfl)) xy_X10_pass xi_X10_pass xs_X10_pass (by omega) (by decide) rfl ⟨_, _, rfl⟩ rfl (Nat.le_of_ble_eq_true rfl) h (by omega) (by omega) (fun i => by rw [hsa]) rfl ?_
  refine y_i2l C dL_pass_7 rfl ?_
  refine y_lastore0 C dL_pass_8 ?_
  refine y_goto C 15 dL_pass_9 (by decide) ?_
  refine y_iconst (v := 0) C dL_pass_15 (by decide) ?_
  exact w_ret hR dL_pass_16 (by omega) (by omega)
set_option maxHeartbeats 4000000 in
theorem s1_L_pass {l : Launch} (hl : l.stackTraces = false) {z0 : Int} {m : xM} {dX : Nat} (hd9 : dX ≤ 12) (h : xMetT l yX10_pass cX10_pass 3 (some .int) dX lay_X [.inr (.inr (some 0)), .inl z0] m (xEx 1)) (dC : Nat → ClassId) (dI : Nat → Nat → Nat) (dA : Nat → ClassId) (ad : Nat → Nat) (o : Nat) (g : Nat → Int64) (sz : Nat) : wMet l yL_pass (Cond.codeWith yL_pass cL_pass 4 (some .int) [(0, 9, 12, 13)]) 13 1 6 [.ref (ad 0), .int (Int32.ofInt z0), .ref o] (some (.int 1)) dC dI dA ad ((o, .inl (dA 1, 1, .inr (.inl g))) :: xwld ad dA m 0 lay_X) ((o, .inl (dA 1, 1, .inr (.inl g))) :: xwld ad dA m 0 lay_X) sz := by
  refine wMet_of hl (by decide +kernel) (by show 3 ≤ 4; decide) (fun Γ C hsa hda Z hl9 hR => ?_)
  subst hl9; subst hda
  refine y_aload C 2 dL_pass_0 rfl rfl ?_
  refine y_iconst (v := 0) C dL_pass_1 (by decide) ?_
  refine y_aload C 0 dL_pass_2 rfl rfl ?_
  refine y_iload C 1 dL_pass_3 rfl rfl ?_
  refine y_catch (wa := [_]) (st := [.int 0, .ref o]) (av := [.inl z0]) (b := 0) (layY := lay_X) (m := m) (nm := xE1) C Z ad dL_pass_4 (xin_50 _ (List.mem_of_getElem? (i := 21) rfl)) xy_X10_pass xi_X10_pass xs_X10_pass (by omega) (by decide) rfl ⟨_, _, rfl⟩ rfl (Nat.le_of_ble_eq_true rfl) h (by omega) (by omega) (fun i => by rw [hsa]) rfl [] ⟨0, 9, 12, 13⟩ [] rfl (fun z hz => absurd hz List.not_mem_nil) rfl (by decide) (xin_10 _ (List.mem_of_getElem? (i := 14) rfl)) (List.mem_of_getElem? (i := 0) rfl) (fun q9 => ?_)
  refine y_astoren C dL_pass_12 rfl (by omega) rfl ?_
  refine y_iconst (v := 1) C dL_pass_13 (by decide) ?_
  exact w_ret hR dL_pass_14 (by omega) (by omega)
theorem dL_escape_0 : decode cL_escape 0 = .ok (.aload_n 2, 1) := by decide +kernel
theorem dL_escape_1 : decode cL_escape 1 = .ok (.iconst 0, 1) := by decide +kernel
theorem dL_escape_2 : decode cL_escape 2 = .ok (.aload_n 0, 1) := by decide +kernel
theorem dL_escape_3 : decode cL_escape 3 = .ok (.iload_n 1, 1) := by decide +kernel
theorem dL_escape_4 : decode cL_escape 4 = .ok (.invokevirtual 56, 3) := by decide +kernel
theorem dL_escape_7 : decode cL_escape 7 = .ok (.i2l, 1) := by decide +kernel
theorem dL_escape_8 : decode cL_escape 8 = .ok (.lastore, 1) := by decide +kernel
theorem dL_escape_9 : decode cL_escape 9 = .ok (.goto 6, 3) := by decide +kernel
theorem dL_escape_12 : decode cL_escape 12 = .ok (.astore_n 3, 1) := by decide +kernel
theorem dL_escape_13 : decode cL_escape 13 = .ok (.iconst 1, 1) := by decide +kernel
theorem dL_escape_14 : decode cL_escape 14 = .ok (.ireturn, 1) := by decide +kernel
theorem dL_escape_15 : decode cL_escape 15 = .ok (.iconst 0, 1) := by decide +kernel
theorem dL_escape_16 : decode cL_escape 16 = .ok (.ireturn, 1) := by decide +kernel
theorem xy_X10_escape : xY yX10_escape cX10_escape 2 (some .int) 1 := ⟨(xin_53 _ (List.mem_of_getElem? (i := 14) rfl)), (xin_1 _ (List.mem_of_getElem? (i := 2) rfl)), by decide +kernel, by decide +kernel, by decide +kernel⟩
theorem xi_X10_escape : Cond.instanceMethod yX10_escape ∈ wsL_law := (xin_53 _ (List.mem_of_getElem? (i := 12) rfl))
theorem xs_X10_escape : Cond.selects yX10_escape.cls yX10_escape yX10_escape ∈ wsL_law := (xin_53 _ (List.mem_of_getElem? (i := 13) rfl))
set_option maxHeartbeats 4000000 in
theorem r_L_escape {l : Launch} (hl : l.stackTraces = false) {z0 r : Int} {m m9 : xM} {dX : Nat} (hd9 : dX ≤ 12) (h : xMet l yX10_escape cX10_escape 2 (some .int) dX lay_X [.inr (.inr (some 0)), .inl z0] m (some (.inl r)) m9) (dC : Nat → ClassId) (dI : Nat → Nat → Nat) (dA : Nat → ClassId) (ad : Nat → Nat) (o : Nat) (g : Nat → Int64) (sz : Nat) : wMet l yL_escape (Cond.codeWith yL_escape cL_escape 4 (some .int) [(0, 9, 12, 18)]) 13 1 6 [.ref (ad 0), .int (Int32.ofInt z0), .ref o] (some (.int 0)) dC dI dA ad ((o, .inl (dA 1, 1, .inr (.inl g))) :: xwld ad dA m 0 lay_X) ((o, .inl (dA 1, 1, .inr (.inl (fun j => if j = 0 then (Int32.ofInt r).toInt64 else g j)))) :: xwld ad dA m9 0 lay_X) sz := by
  refine wMet_of hl (by decide +kernel) (by show 3 ≤ 4; decide) (fun Γ C hsa hda Z hl9 hR => ?_)
  subst hl9; subst hda
  refine y_aload C 2 dL_escape_0 rfl rfl ?_
  refine y_iconst (v := 0) C dL_escape_1 (by decide) ?_
  refine y_aload C 0 dL_escape_2 rfl rfl ?_
  refine y_iload C 1 dL_escape_3 rfl rfl ?_
  refine y_callX (wa := [_]) (st := [.int 0, .ref o]) (av := [.inl z0]) (b := 0) (layY := lay_X) (m := m) C ad dL_escape_4 (xin_53 _ (List.mem_of_getElem? (i := 11) rfl)) xy_X10_escape xi_X10_escape xs_X10_escape (by omega) (by decide) rfl ⟨_, _, rfl⟩ rfl (Nat.le_of_ble_eq_true rfl) h (by omega) (by omega) (fun i => by rw [hsa]) rfl ?_
  refine y_i2l C dL_escape_7 rfl ?_
  refine y_lastore0 C dL_escape_8 ?_
  refine y_goto C 15 dL_escape_9 (by decide) ?_
  refine y_iconst (v := 0) C dL_escape_15 (by decide) ?_
  exact w_ret hR dL_escape_16 (by omega) (by omega)
set_option maxHeartbeats 4000000 in
theorem s2_L_escape {l : Launch} (hl : l.stackTraces = false) {z0 : Int} {m : xM} {dX : Nat} (hd9 : dX ≤ 12) (h : xMetT l yX10_escape cX10_escape 2 (some .int) dX lay_X [.inr (.inr (some 0)), .inl z0] m (xEx 2)) (dC : Nat → ClassId) (dI : Nat → Nat → Nat) (dA : Nat → ClassId) (ad : Nat → Nat) (o : Nat) (g : Nat → Int64) (sz : Nat) : wMet l yL_escape (Cond.codeWith yL_escape cL_escape 4 (some .int) [(0, 9, 12, 18)]) 13 1 6 [.ref (ad 0), .int (Int32.ofInt z0), .ref o] (some (.int 1)) dC dI dA ad ((o, .inl (dA 1, 1, .inr (.inl g))) :: xwld ad dA m 0 lay_X) ((o, .inl (dA 1, 1, .inr (.inl g))) :: xwld ad dA m 0 lay_X) sz := by
  refine wMet_of hl (by decide +kernel) (by show 3 ≤ 4; decide) (fun Γ C hsa hda Z hl9 hR => ?_)
  subst hl9; subst hda
  refine y_aload C 2 dL_escape_0 rfl rfl ?_
  refine y_iconst (v := 0) C dL_escape_1 (by decide) ?_
  refine y_aload C 0 dL_escape_2 rfl rfl ?_
  refine y_iload C 1 dL_escape_3 rfl rfl ?_
  refine y_catch (wa := [_]) (st := [.int 0, .ref o]) (av := [.inl z0]) (b := 0) (layY := lay_X) (m := m) (nm := xE2) C Z ad dL_escape_4 (xin_53 _ (List.mem_of_getElem? (i := 11) rfl)) xy_X10_escape xi_X10_escape xs_X10_escape (by omega) (by decide) rfl ⟨_, _, rfl⟩ rfl (Nat.le_of_ble_eq_true rfl) h (by omega) (by omega) (fun i => by rw [hsa]) rfl [] ⟨0, 9, 12, 18⟩ [] rfl (fun z hz => absurd hz List.not_mem_nil) rfl (by decide) (xin_24 _ (List.mem_of_getElem? (i := 10) rfl)) (List.mem_of_getElem? (i := 1) rfl) (fun q9 => ?_)
  refine y_astoren C dL_escape_12 rfl (by omega) rfl ?_
  refine y_iconst (v := 1) C dL_escape_13 (by decide) ?_
  exact w_ret hR dL_escape_14 (by omega) (by omega)
theorem dL_resume_0 : decode cL_resume 0 = .ok (.aload_n 2, 1) := by decide +kernel
theorem dL_resume_1 : decode cL_resume 1 = .ok (.iconst 0, 1) := by decide +kernel
theorem dL_resume_2 : decode cL_resume 2 = .ok (.aload_n 0, 1) := by decide +kernel
theorem dL_resume_3 : decode cL_resume 3 = .ok (.iload_n 1, 1) := by decide +kernel
theorem dL_resume_4 : decode cL_resume 4 = .ok (.invokevirtual 59, 3) := by decide +kernel
theorem dL_resume_7 : decode cL_resume 7 = .ok (.i2l, 1) := by decide +kernel
theorem dL_resume_8 : decode cL_resume 8 = .ok (.lastore, 1) := by decide +kernel
theorem dL_resume_9 : decode cL_resume 9 = .ok (.goto 6, 3) := by decide +kernel
theorem dL_resume_12 : decode cL_resume 12 = .ok (.astore_n 3, 1) := by decide +kernel
theorem dL_resume_13 : decode cL_resume 13 = .ok (.iconst 1, 1) := by decide +kernel
theorem dL_resume_14 : decode cL_resume 14 = .ok (.ireturn, 1) := by decide +kernel
theorem dL_resume_15 : decode cL_resume 15 = .ok (.iconst 0, 1) := by decide +kernel
theorem dL_resume_16 : decode cL_resume 16 = .ok (.ireturn, 1) := by decide +kernel
theorem xy_X10_resume : xY yX10_resume cX10_resume 2 (some .int) 1 := ⟨(xin_54 _ (List.mem_of_getElem? (i := 9) rfl)), (xin_1 _ (List.mem_of_getElem? (i := 2) rfl)), by decide +kernel, by decide +kernel, by decide +kernel⟩
theorem xi_X10_resume : Cond.instanceMethod yX10_resume ∈ wsL_law := (xin_54 _ (List.mem_of_getElem? (i := 7) rfl))
theorem xs_X10_resume : Cond.selects yX10_resume.cls yX10_resume yX10_resume ∈ wsL_law := (xin_54 _ (List.mem_of_getElem? (i := 8) rfl))
set_option maxHeartbeats 4000000 in
theorem r_L_resume {l : Launch} (hl : l.stackTraces = false) {z0 r : Int} {m m9 : xM} {dX : Nat} (hd9 : dX ≤ 12) (h : xMet l yX10_resume cX10_resume 2 (some .int) dX lay_X [.inr (.inr (some 0)), .inl z0] m (some (.inl r)) m9) (dC : Nat → ClassId) (dI : Nat → Nat → Nat) (dA : Nat → ClassId) (ad : Nat → Nat) (o : Nat) (g : Nat → Int64) (sz : Nat) : wMet l yL_resume (Cond.codeWith yL_resume cL_resume 4 (some .int) [(0, 9, 12, 18)]) 13 1 6 [.ref (ad 0), .int (Int32.ofInt z0), .ref o] (some (.int 0)) dC dI dA ad ((o, .inl (dA 1, 1, .inr (.inl g))) :: xwld ad dA m 0 lay_X) ((o, .inl (dA 1, 1, .inr (.inl (fun j => if j = 0 then (Int32.ofInt r).toInt64 else g j)))) :: xwld ad dA m9 0 lay_X) sz := by
  refine wMet_of hl (by decide +kernel) (by show 3 ≤ 4; decide) (fun Γ C hsa hda Z hl9 hR => ?_)
  subst hl9; subst hda
  refine y_aload C 2 dL_resume_0 rfl rfl ?_
  refine y_iconst (v := 0) C dL_resume_1 (by decide) ?_
  refine y_aload C 0 dL_resume_2 rfl rfl ?_
  refine y_iload C 1 dL_resume_3 rfl rfl ?_
  refine y_callX (wa := [_]) (st := [.int 0, .ref o]) (av := [.inl z0]) (b := 0) (layY := lay_X) (m := m) C ad dL_resume_4 (xin_54 _ (List.mem_of_getElem? (i := 6) rfl)) xy_X10_resume xi_X10_resume xs_X10_resume (by omega) (by decide) rfl ⟨_, _, rfl⟩ rfl (Nat.le_of_ble_eq_true rfl) h (by omega) (by omega) (fun i => by rw [hsa]) rfl ?_
  refine y_i2l C dL_resume_7 rfl ?_
  refine y_lastore0 C dL_resume_8 ?_
  refine y_goto C 15 dL_resume_9 (by decide) ?_
  refine y_iconst (v := 0) C dL_resume_15 (by decide) ?_
  exact w_ret hR dL_resume_16 (by omega) (by omega)
set_option maxHeartbeats 4000000 in
theorem s2_L_resume {l : Launch} (hl : l.stackTraces = false) {z0 : Int} {m : xM} {dX : Nat} (hd9 : dX ≤ 12) (h : xMetT l yX10_resume cX10_resume 2 (some .int) dX lay_X [.inr (.inr (some 0)), .inl z0] m (xEx 2)) (dC : Nat → ClassId) (dI : Nat → Nat → Nat) (dA : Nat → ClassId) (ad : Nat → Nat) (o : Nat) (g : Nat → Int64) (sz : Nat) : wMet l yL_resume (Cond.codeWith yL_resume cL_resume 4 (some .int) [(0, 9, 12, 18)]) 13 1 6 [.ref (ad 0), .int (Int32.ofInt z0), .ref o] (some (.int 1)) dC dI dA ad ((o, .inl (dA 1, 1, .inr (.inl g))) :: xwld ad dA m 0 lay_X) ((o, .inl (dA 1, 1, .inr (.inl g))) :: xwld ad dA m 0 lay_X) sz := by
  refine wMet_of hl (by decide +kernel) (by show 3 ≤ 4; decide) (fun Γ C hsa hda Z hl9 hR => ?_)
  subst hl9; subst hda
  refine y_aload C 2 dL_resume_0 rfl rfl ?_
  refine y_iconst (v := 0) C dL_resume_1 (by decide) ?_
  refine y_aload C 0 dL_resume_2 rfl rfl ?_
  refine y_iload C 1 dL_resume_3 rfl rfl ?_
  refine y_catch (wa := [_]) (st := [.int 0, .ref o]) (av := [.inl z0]) (b := 0) (layY := lay_X) (m := m) (nm := xE2) C Z ad dL_resume_4 (xin_54 _ (List.mem_of_getElem? (i := 6) rfl)) xy_X10_resume xi_X10_resume xs_X10_resume (by omega) (by decide) rfl ⟨_, _, rfl⟩ rfl (Nat.le_of_ble_eq_true rfl) h (by omega) (by omega) (fun i => by rw [hsa]) rfl [] ⟨0, 9, 12, 18⟩ [] rfl (fun z hz => absurd hz List.not_mem_nil) rfl (by decide) (xin_24 _ (List.mem_of_getElem? (i := 10) rfl)) (List.mem_of_getElem? (i := 1) rfl) (fun q9 => ?_)
  refine y_astoren C dL_resume_12 rfl (by omega) rfl ?_
  refine y_iconst (v := 1) C dL_resume_13 (by decide) ?_
  exact w_ret hR dL_resume_14 (by omega) (by omega)
theorem dL_send_0 : decode cL_send 0 = .ok (.aload_n 3, 1) := by decide +kernel
theorem dL_send_1 : decode cL_send 1 = .ok (.iconst 0, 1) := by decide +kernel
theorem dL_send_2 : decode cL_send 2 = .ok (.aload_n 0, 1) := by decide +kernel
theorem dL_send_3 : decode cL_send 3 = .ok (.iload_n 1, 1) := by decide +kernel
theorem dL_send_4 : decode cL_send 4 = .ok (.iload_n 2, 1) := by decide +kernel
theorem dL_send_5 : decode cL_send 5 = .ok (.invokevirtual 62, 3) := by decide +kernel
theorem dL_send_8 : decode cL_send 8 = .ok (.i2l, 1) := by decide +kernel
theorem dL_send_9 : decode cL_send 9 = .ok (.lastore, 1) := by decide +kernel
theorem dL_send_10 : decode cL_send 10 = .ok (.goto 11, 3) := by decide +kernel
theorem dL_send_13 : decode cL_send 13 = .ok (.astore 4, 2) := by decide +kernel
theorem dL_send_15 : decode cL_send 15 = .ok (.iconst 1, 1) := by decide +kernel
theorem dL_send_16 : decode cL_send 16 = .ok (.ireturn, 1) := by decide +kernel
theorem dL_send_17 : decode cL_send 17 = .ok (.astore 4, 2) := by decide +kernel
theorem dL_send_19 : decode cL_send 19 = .ok (.iconst 2, 1) := by decide +kernel
theorem dL_send_20 : decode cL_send 20 = .ok (.ireturn, 1) := by decide +kernel
theorem dL_send_21 : decode cL_send 21 = .ok (.iconst 0, 1) := by decide +kernel
theorem dL_send_22 : decode cL_send 22 = .ok (.ireturn, 1) := by decide +kernel
theorem xy_X10_send : xY yX10_send cX10_send 4 (some .int) 2 := ⟨(xin_54 _ (List.mem_of_getElem? (i := 20) rfl)), (xin_1 _ (List.mem_of_getElem? (i := 2) rfl)), by decide +kernel, by decide +kernel, by decide +kernel⟩
theorem xi_X10_send : Cond.instanceMethod yX10_send ∈ wsL_law := (xin_54 _ (List.mem_of_getElem? (i := 18) rfl))
theorem xs_X10_send : Cond.selects yX10_send.cls yX10_send yX10_send ∈ wsL_law := (xin_54 _ (List.mem_of_getElem? (i := 19) rfl))
set_option maxHeartbeats 4000000 in
theorem r_L_send {l : Launch} (hl : l.stackTraces = false) {z0 z1 r : Int} {m m9 : xM} {dX : Nat} (hd9 : dX ≤ 12) (h : xMet l yX10_send cX10_send 4 (some .int) dX lay_X [.inr (.inr (some 0)), .inl z0, .inl z1] m (some (.inl r)) m9) (dC : Nat → ClassId) (dI : Nat → Nat → Nat) (dA : Nat → ClassId) (ad : Nat → Nat) (o : Nat) (g : Nat → Int64) (sz : Nat) : wMet l yL_send (Cond.codeWith yL_send cL_send 5 (some .int) [(0, 10, 13, 18), (0, 10, 17, 13)]) 13 1 6 [.ref (ad 0), .int (Int32.ofInt z0), .int (Int32.ofInt z1), .ref o] (some (.int 0)) dC dI dA ad ((o, .inl (dA 1, 1, .inr (.inl g))) :: xwld ad dA m 0 lay_X) ((o, .inl (dA 1, 1, .inr (.inl (fun j => if j = 0 then (Int32.ofInt r).toInt64 else g j)))) :: xwld ad dA m9 0 lay_X) sz := by
  refine wMet_of hl (by decide +kernel) (by show 4 ≤ 5; decide) (fun Γ C hsa hda Z hl9 hR => ?_)
  subst hl9; subst hda
  refine y_aload C 3 dL_send_0 rfl rfl ?_
  refine y_iconst (v := 0) C dL_send_1 (by decide) ?_
  refine y_aload C 0 dL_send_2 rfl rfl ?_
  refine y_iload C 1 dL_send_3 rfl rfl ?_
  refine y_iload C 2 dL_send_4 rfl rfl ?_
  refine y_callX (wa := [_]) (st := [.int 0, .ref o]) (av := [.inl z0, .inl z1]) (b := 0) (layY := lay_X) (m := m) C ad dL_send_5 (xin_54 _ (List.mem_of_getElem? (i := 17) rfl)) xy_X10_send xi_X10_send xs_X10_send (by omega) (by decide) rfl ⟨_, _, rfl⟩ rfl (Nat.le_of_ble_eq_true rfl) h (by omega) (by omega) (fun i => by rw [hsa]) rfl ?_
  refine y_i2l C dL_send_8 rfl ?_
  refine y_lastore0 C dL_send_9 ?_
  refine y_goto C 21 dL_send_10 (by decide) ?_
  refine y_iconst (v := 0) C dL_send_21 (by decide) ?_
  exact w_ret hR dL_send_22 (by omega) (by omega)
set_option maxHeartbeats 4000000 in
theorem s2_L_send {l : Launch} (hl : l.stackTraces = false) {z0 z1 : Int} {m : xM} {dX : Nat} (hd9 : dX ≤ 12) (h : xMetT l yX10_send cX10_send 4 (some .int) dX lay_X [.inr (.inr (some 0)), .inl z0, .inl z1] m (xEx 2)) (dC : Nat → ClassId) (dI : Nat → Nat → Nat) (dA : Nat → ClassId) (ad : Nat → Nat) (o : Nat) (g : Nat → Int64) (sz : Nat) : wMet l yL_send (Cond.codeWith yL_send cL_send 5 (some .int) [(0, 10, 13, 18), (0, 10, 17, 13)]) 13 1 6 [.ref (ad 0), .int (Int32.ofInt z0), .int (Int32.ofInt z1), .ref o] (some (.int 1)) dC dI dA ad ((o, .inl (dA 1, 1, .inr (.inl g))) :: xwld ad dA m 0 lay_X) ((o, .inl (dA 1, 1, .inr (.inl g))) :: xwld ad dA m 0 lay_X) sz := by
  refine wMet_of hl (by decide +kernel) (by show 4 ≤ 5; decide) (fun Γ C hsa hda Z hl9 hR => ?_)
  subst hl9; subst hda
  refine y_aload C 3 dL_send_0 rfl rfl ?_
  refine y_iconst (v := 0) C dL_send_1 (by decide) ?_
  refine y_aload C 0 dL_send_2 rfl rfl ?_
  refine y_iload C 1 dL_send_3 rfl rfl ?_
  refine y_iload C 2 dL_send_4 rfl rfl ?_
  refine y_catch (wa := [_]) (st := [.int 0, .ref o]) (av := [.inl z0, .inl z1]) (b := 0) (layY := lay_X) (m := m) (nm := xE2) C Z ad dL_send_5 (xin_54 _ (List.mem_of_getElem? (i := 17) rfl)) xy_X10_send xi_X10_send xs_X10_send (by omega) (by decide) rfl ⟨_, _, rfl⟩ rfl (Nat.le_of_ble_eq_true rfl) h (by omega) (by omega) (fun i => by rw [hsa]) rfl [] ⟨0, 10, 13, 18⟩ [⟨0, 10, 17, 13⟩] rfl (fun z hz => absurd hz List.not_mem_nil) rfl (by decide) (xin_24 _ (List.mem_of_getElem? (i := 10) rfl)) (List.mem_of_getElem? (i := 1) rfl) (fun q9 => ?_)
  refine y_astore C dL_send_13 (by omega) rfl ?_
  refine y_iconst (v := 1) C dL_send_15 (by decide) ?_
  exact w_ret hR dL_send_16 (by omega) (by omega)
set_option maxHeartbeats 4000000 in
theorem s1_L_send {l : Launch} (hl : l.stackTraces = false) {z0 z1 : Int} {m : xM} {dX : Nat} (hd9 : dX ≤ 12) (h : xMetT l yX10_send cX10_send 4 (some .int) dX lay_X [.inr (.inr (some 0)), .inl z0, .inl z1] m (xEx 1)) (dC : Nat → ClassId) (dI : Nat → Nat → Nat) (dA : Nat → ClassId) (ad : Nat → Nat) (o : Nat) (g : Nat → Int64) (sz : Nat) : wMet l yL_send (Cond.codeWith yL_send cL_send 5 (some .int) [(0, 10, 13, 18), (0, 10, 17, 13)]) 13 1 6 [.ref (ad 0), .int (Int32.ofInt z0), .int (Int32.ofInt z1), .ref o] (some (.int 2)) dC dI dA ad ((o, .inl (dA 1, 1, .inr (.inl g))) :: xwld ad dA m 0 lay_X) ((o, .inl (dA 1, 1, .inr (.inl g))) :: xwld ad dA m 0 lay_X) sz := by
  refine wMet_of hl (by decide +kernel) (by show 4 ≤ 5; decide) (fun Γ C hsa hda Z hl9 hR => ?_)
  subst hl9; subst hda
  refine y_aload C 3 dL_send_0 rfl rfl ?_
  refine y_iconst (v := 0) C dL_send_1 (by decide) ?_
  refine y_aload C 0 dL_send_2 rfl rfl ?_
  refine y_iload C 1 dL_send_3 rfl rfl ?_
  refine y_iload C 2 dL_send_4 rfl rfl ?_
  refine y_catch (wa := [_]) (st := [.int 0, .ref o]) (av := [.inl z0, .inl z1]) (b := 0) (layY := lay_X) (m := m) (nm := xE1) C Z ad dL_send_5 (xin_54 _ (List.mem_of_getElem? (i := 17) rfl)) xy_X10_send xi_X10_send xs_X10_send (by omega) (by decide) rfl ⟨_, _, rfl⟩ rfl (Nat.le_of_ble_eq_true rfl) h (by omega) (by omega) (fun i => by rw [hsa]) rfl [⟨0, 10, 13, 18⟩] ⟨0, 10, 17, 13⟩ [] rfl (fun z hz => by rw [List.mem_singleton.mp hz]; exact Or.inr ⟨by decide, rfl, (xin_24 _ (List.mem_of_getElem? (i := 10) rfl))⟩) rfl (by decide) (xin_10 _ (List.mem_of_getElem? (i := 14) rfl)) (List.mem_of_getElem? (i := 0) rfl) (fun q9 => ?_)
  refine y_astore C dL_send_17 (by omega) rfl ?_
  refine y_iconst (v := 2) C dL_send_19 (by decide) ?_
  exact w_ret hR dL_send_20 (by omega) (by omega)
theorem dL_setQuality_0 : decode cL_setQuality 0 = .ok (.aload_n 2, 1) := by decide +kernel
theorem dL_setQuality_1 : decode cL_setQuality 1 = .ok (.iconst 0, 1) := by decide +kernel
theorem dL_setQuality_2 : decode cL_setQuality 2 = .ok (.aload_n 0, 1) := by decide +kernel
theorem dL_setQuality_3 : decode cL_setQuality 3 = .ok (.iload_n 1, 1) := by decide +kernel
theorem dL_setQuality_4 : decode cL_setQuality 4 = .ok (.invokevirtual 65, 3) := by decide +kernel
theorem dL_setQuality_7 : decode cL_setQuality 7 = .ok (.i2l, 1) := by decide +kernel
theorem dL_setQuality_8 : decode cL_setQuality 8 = .ok (.lastore, 1) := by decide +kernel
theorem dL_setQuality_9 : decode cL_setQuality 9 = .ok (.goto 6, 3) := by decide +kernel
theorem dL_setQuality_12 : decode cL_setQuality 12 = .ok (.astore_n 3, 1) := by decide +kernel
theorem dL_setQuality_13 : decode cL_setQuality 13 = .ok (.iconst 1, 1) := by decide +kernel
theorem dL_setQuality_14 : decode cL_setQuality 14 = .ok (.ireturn, 1) := by decide +kernel
theorem dL_setQuality_15 : decode cL_setQuality 15 = .ok (.iconst 0, 1) := by decide +kernel
theorem dL_setQuality_16 : decode cL_setQuality 16 = .ok (.ireturn, 1) := by decide +kernel
theorem xy_X10_setQuality : xY yX10_setQuality cX10_setQuality 3 (some .int) 1 := ⟨(xin_55 _ (List.mem_of_getElem? (i := 11) rfl)), (xin_1 _ (List.mem_of_getElem? (i := 2) rfl)), by decide +kernel, by decide +kernel, by decide +kernel⟩
theorem xi_X10_setQuality : Cond.instanceMethod yX10_setQuality ∈ wsL_law := (xin_55 _ (List.mem_of_getElem? (i := 9) rfl))
theorem xs_X10_setQuality : Cond.selects yX10_setQuality.cls yX10_setQuality yX10_setQuality ∈ wsL_law := (xin_55 _ (List.mem_of_getElem? (i := 10) rfl))
set_option maxHeartbeats 4000000 in
theorem r_L_setQuality {l : Launch} (hl : l.stackTraces = false) {z0 r : Int} {m m9 : xM} {dX : Nat} (hd9 : dX ≤ 12) (h : xMet l yX10_setQuality cX10_setQuality 3 (some .int) dX lay_X [.inr (.inr (some 0)), .inl z0] m (some (.inl r)) m9) (dC : Nat → ClassId) (dI : Nat → Nat → Nat) (dA : Nat → ClassId) (ad : Nat → Nat) (o : Nat) (g : Nat → Int64) (sz : Nat) : wMet l yL_setQuality (Cond.codeWith yL_setQuality cL_setQuality 4 (some .int) [(0, 9, 12, 13)]) 13 1 6 [.ref (ad 0), .int (Int32.ofInt z0), .ref o] (some (.int 0)) dC dI dA ad ((o, .inl (dA 1, 1, .inr (.inl g))) :: xwld ad dA m 0 lay_X) ((o, .inl (dA 1, 1, .inr (.inl (fun j => if j = 0 then (Int32.ofInt r).toInt64 else g j)))) :: xwld ad dA m9 0 lay_X) sz := by
  refine wMet_of hl (by decide +kernel) (by show 3 ≤ 4; decide) (fun Γ C hsa hda Z hl9 hR => ?_)
  subst hl9; subst hda
  refine y_aload C 2 dL_setQuality_0 rfl rfl ?_
  refine y_iconst (v := 0) C dL_setQuality_1 (by decide) ?_
  refine y_aload C 0 dL_setQuality_2 rfl rfl ?_
  refine y_iload C 1 dL_setQuality_3 rfl rfl ?_
  refine y_callX (wa := [_]) (st := [.int 0, .ref o]) (av := [.inl z0]) (b := 0) (layY := lay_X) (m := m) C ad dL_setQuality_4 (xin_55 _ (List.mem_of_getElem? (i := 8) rfl)) xy_X10_setQuality xi_X10_setQuality xs_X10_setQuality (by omega) (by decide) rfl ⟨_, _, rfl⟩ rfl (Nat.le_of_ble_eq_true rfl) h (by omega) (by omega) (fun i => by rw [hsa]) rfl ?_
  refine y_i2l C dL_setQuality_7 rfl ?_
  refine y_lastore0 C dL_setQuality_8 ?_
  refine y_goto C 15 dL_setQuality_9 (by decide) ?_
  refine y_iconst (v := 0) C dL_setQuality_15 (by decide) ?_
  exact w_ret hR dL_setQuality_16 (by omega) (by omega)
set_option maxHeartbeats 4000000 in
theorem s1_L_setQuality {l : Launch} (hl : l.stackTraces = false) {z0 : Int} {m : xM} {dX : Nat} (hd9 : dX ≤ 12) (h : xMetT l yX10_setQuality cX10_setQuality 3 (some .int) dX lay_X [.inr (.inr (some 0)), .inl z0] m (xEx 1)) (dC : Nat → ClassId) (dI : Nat → Nat → Nat) (dA : Nat → ClassId) (ad : Nat → Nat) (o : Nat) (g : Nat → Int64) (sz : Nat) : wMet l yL_setQuality (Cond.codeWith yL_setQuality cL_setQuality 4 (some .int) [(0, 9, 12, 13)]) 13 1 6 [.ref (ad 0), .int (Int32.ofInt z0), .ref o] (some (.int 1)) dC dI dA ad ((o, .inl (dA 1, 1, .inr (.inl g))) :: xwld ad dA m 0 lay_X) ((o, .inl (dA 1, 1, .inr (.inl g))) :: xwld ad dA m 0 lay_X) sz := by
  refine wMet_of hl (by decide +kernel) (by show 3 ≤ 4; decide) (fun Γ C hsa hda Z hl9 hR => ?_)
  subst hl9; subst hda
  refine y_aload C 2 dL_setQuality_0 rfl rfl ?_
  refine y_iconst (v := 0) C dL_setQuality_1 (by decide) ?_
  refine y_aload C 0 dL_setQuality_2 rfl rfl ?_
  refine y_iload C 1 dL_setQuality_3 rfl rfl ?_
  refine y_catch (wa := [_]) (st := [.int 0, .ref o]) (av := [.inl z0]) (b := 0) (layY := lay_X) (m := m) (nm := xE1) C Z ad dL_setQuality_4 (xin_55 _ (List.mem_of_getElem? (i := 8) rfl)) xy_X10_setQuality xi_X10_setQuality xs_X10_setQuality (by omega) (by decide) rfl ⟨_, _, rfl⟩ rfl (Nat.le_of_ble_eq_true rfl) h (by omega) (by omega) (fun i => by rw [hsa]) rfl [] ⟨0, 9, 12, 13⟩ [] rfl (fun z hz => absurd hz List.not_mem_nil) rfl (by decide) (xin_10 _ (List.mem_of_getElem? (i := 14) rfl)) (List.mem_of_getElem? (i := 0) rfl) (fun q9 => ?_)
  refine y_astoren C dL_setQuality_12 rfl (by omega) rfl ?_
  refine y_iconst (v := 1) C dL_setQuality_13 (by decide) ?_
  exact w_ret hR dL_setQuality_14 (by omega) (by omega)
theorem dL_query_0 : decode cL_query 0 = .ok (.aload_n 2, 1) := by decide +kernel
theorem dL_query_1 : decode cL_query 1 = .ok (.iconst 0, 1) := by decide +kernel
theorem dL_query_2 : decode cL_query 2 = .ok (.aload_n 0, 1) := by decide +kernel
theorem dL_query_3 : decode cL_query 3 = .ok (.iload_n 1, 1) := by decide +kernel
theorem dL_query_4 : decode cL_query 4 = .ok (.invokevirtual 68, 3) := by decide +kernel
theorem dL_query_7 : decode cL_query 7 = .ok (.i2l, 1) := by decide +kernel
theorem dL_query_8 : decode cL_query 8 = .ok (.lastore, 1) := by decide +kernel
theorem dL_query_9 : decode cL_query 9 = .ok (.goto 6, 3) := by decide +kernel
theorem dL_query_12 : decode cL_query 12 = .ok (.astore_n 3, 1) := by decide +kernel
theorem dL_query_13 : decode cL_query 13 = .ok (.iconst 1, 1) := by decide +kernel
theorem dL_query_14 : decode cL_query 14 = .ok (.ireturn, 1) := by decide +kernel
theorem dL_query_15 : decode cL_query 15 = .ok (.iconst 0, 1) := by decide +kernel
theorem dL_query_16 : decode cL_query 16 = .ok (.ireturn, 1) := by decide +kernel
theorem xy_X10_query : xY yX10_query cX10_query 3 (some .int) 1 := ⟨(xin_66 _ (List.mem_of_getElem? (i := 11) rfl)), (xin_1 _ (List.mem_of_getElem? (i := 2) rfl)), by decide +kernel, by decide +kernel, by decide +kernel⟩
theorem xi_X10_query : Cond.instanceMethod yX10_query ∈ wsL_law := (xin_66 _ (List.mem_of_getElem? (i := 9) rfl))
theorem xs_X10_query : Cond.selects yX10_query.cls yX10_query yX10_query ∈ wsL_law := (xin_66 _ (List.mem_of_getElem? (i := 10) rfl))
set_option maxHeartbeats 4000000 in
theorem r_L_query {l : Launch} (hl : l.stackTraces = false) {z0 r : Int} {m m9 : xM} {dX : Nat} (hd9 : dX ≤ 12) (h : xMet l yX10_query cX10_query 3 (some .int) dX lay_X [.inr (.inr (some 0)), .inl z0] m (some (.inl r)) m9) (dC : Nat → ClassId) (dI : Nat → Nat → Nat) (dA : Nat → ClassId) (ad : Nat → Nat) (o : Nat) (g : Nat → Int64) (sz : Nat) : wMet l yL_query (Cond.codeWith yL_query cL_query 4 (some .int) [(0, 9, 12, 13)]) 13 1 6 [.ref (ad 0), .int (Int32.ofInt z0), .ref o] (some (.int 0)) dC dI dA ad ((o, .inl (dA 1, 1, .inr (.inl g))) :: xwld ad dA m 0 lay_X) ((o, .inl (dA 1, 1, .inr (.inl (fun j => if j = 0 then (Int32.ofInt r).toInt64 else g j)))) :: xwld ad dA m9 0 lay_X) sz := by
  refine wMet_of hl (by decide +kernel) (by show 3 ≤ 4; decide) (fun Γ C hsa hda Z hl9 hR => ?_)
  subst hl9; subst hda
  refine y_aload C 2 dL_query_0 rfl rfl ?_
  refine y_iconst (v := 0) C dL_query_1 (by decide) ?_
  refine y_aload C 0 dL_query_2 rfl rfl ?_
  refine y_iload C 1 dL_query_3 rfl rfl ?_
  refine y_callX (wa := [_]) (st := [.int 0, .ref o]) (av := [.inl z0]) (b := 0) (layY := lay_X) (m := m) C ad dL_query_4 (xin_66 _ (List.mem_of_getElem? (i := 8) rfl)) xy_X10_query xi_X10_query xs_X10_query (by omega) (by decide) rfl ⟨_, _, rfl⟩ rfl (Nat.le_of_ble_eq_true rfl) h (by omega) (by omega) (fun i => by rw [hsa]) rfl ?_
  refine y_i2l C dL_query_7 rfl ?_
  refine y_lastore0 C dL_query_8 ?_
  refine y_goto C 15 dL_query_9 (by decide) ?_
  refine y_iconst (v := 0) C dL_query_15 (by decide) ?_
  exact w_ret hR dL_query_16 (by omega) (by omega)
set_option maxHeartbeats 4000000 in
theorem s1_L_query {l : Launch} (hl : l.stackTraces = false) {z0 : Int} {m : xM} {dX : Nat} (hd9 : dX ≤ 12) (h : xMetT l yX10_query cX10_query 3 (some .int) dX lay_X [.inr (.inr (some 0)), .inl z0] m (xEx 1)) (dC : Nat → ClassId) (dI : Nat → Nat → Nat) (dA : Nat → ClassId) (ad : Nat → Nat) (o : Nat) (g : Nat → Int64) (sz : Nat) : wMet l yL_query (Cond.codeWith yL_query cL_query 4 (some .int) [(0, 9, 12, 13)]) 13 1 6 [.ref (ad 0), .int (Int32.ofInt z0), .ref o] (some (.int 1)) dC dI dA ad ((o, .inl (dA 1, 1, .inr (.inl g))) :: xwld ad dA m 0 lay_X) ((o, .inl (dA 1, 1, .inr (.inl g))) :: xwld ad dA m 0 lay_X) sz := by
  refine wMet_of hl (by decide +kernel) (by show 3 ≤ 4; decide) (fun Γ C hsa hda Z hl9 hR => ?_)
  subst hl9; subst hda
  refine y_aload C 2 dL_query_0 rfl rfl ?_
  refine y_iconst (v := 0) C dL_query_1 (by decide) ?_
  refine y_aload C 0 dL_query_2 rfl rfl ?_
  refine y_iload C 1 dL_query_3 rfl rfl ?_
  refine y_catch (wa := [_]) (st := [.int 0, .ref o]) (av := [.inl z0]) (b := 0) (layY := lay_X) (m := m) (nm := xE1) C Z ad dL_query_4 (xin_66 _ (List.mem_of_getElem? (i := 8) rfl)) xy_X10_query xi_X10_query xs_X10_query (by omega) (by decide) rfl ⟨_, _, rfl⟩ rfl (Nat.le_of_ble_eq_true rfl) h (by omega) (by omega) (fun i => by rw [hsa]) rfl [] ⟨0, 9, 12, 13⟩ [] rfl (fun z hz => absurd hz List.not_mem_nil) rfl (by decide) (xin_10 _ (List.mem_of_getElem? (i := 14) rfl)) (List.mem_of_getElem? (i := 0) rfl) (fun q9 => ?_)
  refine y_astoren C dL_query_12 rfl (by omega) rfl ?_
  refine y_iconst (v := 1) C dL_query_13 (by decide) ?_
  exact w_ret hR dL_query_14 (by omega) (by omega)

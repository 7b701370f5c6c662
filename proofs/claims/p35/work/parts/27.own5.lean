/-! ===== yX11_training ===== -/
theorem fF_X11_90 : xF RX11 90 12 5 .int false := ⟨RX11, TX11, 31, tyX11, rfl, by decide, (xin_36 _ (List.mem_of_getElem? (i := 6) rfl)), rfl, inlX11, tyX11_ok, nmX11, rfl, rfl⟩
theorem fF_X11_87 : xF RX11 87 12 4 .int false := ⟨RX11, TX11, 31, tyX11, rfl, by decide, (xin_36 _ (List.mem_of_getElem? (i := 5) rfl)), rfl, inlX11, tyX11_ok, nmX11, rfl, rfl⟩
theorem fF_X11_20 : xF RX11 20 12 14 (.array .int) false := ⟨RX11, TX11, 31, tyX11, rfl, by decide, (xin_33 _ (List.mem_of_getElem? (i := 12) rfl)), rfl, inlX11, tyX11_ok, nmX11, rfl, rfl⟩
theorem xy_X11_online : xY yX11_online cX11_online 8 none 0 := ⟨(xin_37 _ (List.mem_of_getElem? (i := 4) rfl)), (xin_33 _ (List.mem_of_getElem? (i := 5) rfl)), by decide, by decide, by decide +kernel⟩
theorem xi_X11_online : Cond.instanceMethod yX11_online ∈ wsL_law := (xin_37 _ (List.mem_of_getElem? (i := 2) rfl))
theorem xs_X11_online : Cond.selects yX11_online.cls yX11_online yX11_online ∈ wsL_law := (xin_37 _ (List.mem_of_getElem? (i := 3) rfl))
theorem fF_X11_93 : xF RX11 93 12 6 .int false := ⟨RX11, TX11, 31, tyX11, rfl, by decide, (xin_36 _ (List.mem_of_getElem? (i := 7) rfl)), rfl, inlX11, tyX11_ok, nmX11, rfl, rfl⟩
theorem dX11_training_0 : decode cX11_training 0 = .ok (.aload_n 0, 1) := by decide +kernel
theorem dX11_training_1 : decode cX11_training 1 = .ok (.getfield 7, 3) := by decide +kernel
theorem dX11_training_4 : decode cX11_training 4 = .ok (.ifCond .ne 41, 3) := by decide +kernel
theorem dX11_training_7 : decode cX11_training 7 = .ok (.aload_n 0, 1) := by decide +kernel
theorem dX11_training_8 : decode cX11_training 8 = .ok (.aload_n 0, 1) := by decide +kernel
theorem dX11_training_9 : decode cX11_training 9 = .ok (.getfield 20, 3) := by decide +kernel
theorem dX11_training_12 : decode cX11_training 12 = .ok (.aload_n 0, 1) := by decide +kernel
theorem dX11_training_13 : decode cX11_training 13 = .ok (.getfield 87, 3) := by decide +kernel
theorem dX11_training_16 : decode cX11_training 16 = .ok (.iaload, 1) := by decide +kernel
theorem dX11_training_17 : decode cX11_training 17 = .ok (.putfield 90, 3) := by decide +kernel
theorem dX11_training_20 : decode cX11_training 20 = .ok (.aload_n 0, 1) := by decide +kernel
theorem dX11_training_21 : decode cX11_training 21 = .ok (.dup, 1) := by decide +kernel
theorem dX11_training_22 : decode cX11_training 22 = .ok (.getfield 93, 3) := by decide +kernel
theorem dX11_training_25 : decode cX11_training 25 = .ok (.iconst 1, 1) := by decide +kernel
theorem dX11_training_26 : decode cX11_training 26 = .ok (.iadd, 1) := by decide +kernel
theorem dX11_training_27 : decode cX11_training 27 = .ok (.dup_x1, 1) := by decide +kernel
theorem dX11_training_28 : decode cX11_training 28 = .ok (.putfield 93, 3) := by decide +kernel
theorem dX11_training_31 : decode cX11_training 31 = .ok (.aload_n 0, 1) := by decide +kernel
theorem dX11_training_32 : decode cX11_training 32 = .ok (.getfield 26, 3) := by decide +kernel
theorem dX11_training_35 : decode cX11_training 35 = .ok (.iconst 0, 1) := by decide +kernel
theorem dX11_training_36 : decode cX11_training 36 = .ok (.iaload, 1) := by decide +kernel
theorem dX11_training_37 : decode cX11_training 37 = .ok (.if_icmp .le 7, 3) := by decide +kernel
theorem dX11_training_40 : decode cX11_training 40 = .ok (.aload_n 0, 1) := by decide +kernel
theorem dX11_training_41 : decode cX11_training 41 = .ok (.invokevirtual 155, 3) := by decide +kernel
theorem dX11_training_44 : decode cX11_training 44 = .ok (.return_, 1) := by decide +kernel
theorem dX11_training_45 : decode cX11_training 45 = .ok (.aload_n 0, 1) := by decide +kernel
theorem dX11_training_46 : decode cX11_training 46 = .ok (.dup, 1) := by decide +kernel
theorem dX11_training_47 : decode cX11_training 47 = .ok (.getfield 90, 3) := by decide +kernel
theorem dX11_training_50 : decode cX11_training 50 = .ok (.iconst 1, 1) := by decide +kernel
theorem dX11_training_51 : decode cX11_training 51 = .ok (.isub, 1) := by decide +kernel
theorem dX11_training_52 : decode cX11_training 52 = .ok (.dup_x1, 1) := by decide +kernel
theorem dX11_training_53 : decode cX11_training 53 = .ok (.putfield 90, 3) := by decide +kernel
theorem dX11_training_56 : decode cX11_training 56 = .ok (.ifCond .le 4, 3) := by decide +kernel
theorem dX11_training_59 : decode cX11_training 59 = .ok (.return_, 1) := by decide +kernel
theorem dX11_training_60 : decode cX11_training 60 = .ok (.aload_n 0, 1) := by decide +kernel
theorem dX11_training_61 : decode cX11_training 61 = .ok (.getfield 87, 3) := by decide +kernel
theorem dX11_training_64 : decode cX11_training 64 = .ok (.iconst 3, 1) := by decide +kernel
theorem dX11_training_65 : decode cX11_training 65 = .ok (.if_icmp .ne 8, 3) := by decide +kernel
theorem dX11_training_68 : decode cX11_training 68 = .ok (.aload_n 0, 1) := by decide +kernel
theorem dX11_training_69 : decode cX11_training 69 = .ok (.invokevirtual 178, 3) := by decide +kernel
theorem dX11_training_72 : decode cX11_training 72 = .ok (.return_, 1) := by decide +kernel
theorem dX11_training_73 : decode cX11_training 73 = .ok (.aload_n 0, 1) := by decide +kernel
theorem dX11_training_74 : decode cX11_training 74 = .ok (.aload_n 0, 1) := by decide +kernel
theorem dX11_training_75 : decode cX11_training 75 = .ok (.getfield 20, 3) := by decide +kernel
theorem dX11_training_78 : decode cX11_training 78 = .ok (.aload_n 0, 1) := by decide +kernel
theorem dX11_training_79 : decode cX11_training 79 = .ok (.dup, 1) := by decide +kernel
theorem dX11_training_80 : decode cX11_training 80 = .ok (.getfield 87, 3) := by decide +kernel
theorem dX11_training_83 : decode cX11_training 83 = .ok (.iconst 1, 1) := by decide +kernel
theorem dX11_training_84 : decode cX11_training 84 = .ok (.iadd, 1) := by decide +kernel
theorem dX11_training_85 : decode cX11_training 85 = .ok (.dup_x1, 1) := by decide +kernel
theorem dX11_training_86 : decode cX11_training 86 = .ok (.putfield 87, 3) := by decide +kernel
theorem dX11_training_89 : decode cX11_training 89 = .ok (.iaload, 1) := by decide +kernel
theorem dX11_training_90 : decode cX11_training 90 = .ok (.putfield 90, 3) := by decide +kernel
theorem dX11_training_93 : decode cX11_training 93 = .ok (.return_, 1) := by decide +kernel
def f_O_training (o : Nat) (hp : gH) : Option (gH) :=
     (Option.bind (gfI hp o 2) fun q0 =>
      (if xw q0 = 0 then (Option.bind (gfK hp o 14) fun q11 =>
      (Option.bind (gfI hp o 4) fun q12 =>
      (Option.bind (gaN 0 hp q11 q12) fun q13 =>
      (Option.bind (gpt hp o 5 (.inl q13)) fun q14 =>
      (Option.bind (gfI q14 o 6) fun q15 =>
      (Option.bind (gpt q14 o 6 (.inl (q15 + 1))) fun q16 =>
      (Option.bind (gfK q16 o 16) fun q17 =>
      (Option.bind (gaN 0 q16 q17 0) fun q18 =>
      (if xw q18 < xw (q15 + 1) then (Option.bind (f_O_hang o q16) fun q19 =>
      (if gob q16 o = true then some q19
      else none))
      else some q16)))))))))
      else (Option.bind (gfI hp o 5) fun q1 =>
      (Option.bind (gpt hp o 5 (.inl (q1 - 1))) fun q2 =>
      (if 0 < xw (q1 - 1) then some q2
      else (Option.bind (gfI q2 o 4) fun q3 =>
      (if xw q3 = xw 3 then (Option.bind (f_O_online o q2) fun q9 =>
      (if gob q2 o = true then some q9
      else none))
      else (Option.bind (gfK q2 o 14) fun q4 =>
      (Option.bind (gfI q2 o 4) fun q5 =>
      (Option.bind (gpt q2 o 4 (.inl (q5 + 1))) fun q6 =>
      (Option.bind (gaN 0 q6 q4 (q5 + 1)) fun q7 =>
      (Option.bind (gpt q6 o 5 (.inl q7)) fun q8 =>
      some q8))))))))))))
set_option maxRecDepth 1000000 in
set_option maxHeartbeats 4000000 in
theorem t_O_training {P : gG → Prop} {d : Nat} {m : xM} {h9 : gH} (hd9 : 4 ≤ d) (C : ∀ Γ, P Γ → gX Γ lay_X RX11 cX11_training 1 d h9) (o : Nat) (hR : ∀ Γ, P Γ → gRv Γ lay_X cX11_training m h9) (hp : gH) (h : f_O_training o hp = some h9) : gJ P lay_X 1 0 [(0, .inr (.inr (some o)))] [] m hp h9 := by
  unfold f_O_training at h
  refine g_aload_n C dX11_training_0 rfl ?_
  obtain ⟨q0, hq0, h⟩ := x_bind h
  refine g_getI C dX11_training_1 fF_X11_7 hq0 ?_
  refine g_if_ne C 45 dX11_training_4 (by decide) h (fun h => ?_) (fun h => ?_)
  · refine g_aload_n C dX11_training_45 rfl ?_
    refine g_dup C dX11_training_46 rfl ?_
    obtain ⟨q1, hq1, h⟩ := x_bind h
    refine g_getI C dX11_training_47 fF_X11_90 hq1 ?_
    refine g_iconst C dX11_training_50 ?_
    refine g_isub C dX11_training_51 ?_
    refine g_dup_x1 C dX11_training_52 rfl rfl ?_
    obtain ⟨q2, hq2, h⟩ := x_bind h
    refine g_putI C dX11_training_53 fF_X11_90 hq2 ?_
    refine g_if_le C 60 dX11_training_56 (by decide) h (fun h => ?_) (fun h => ?_)
    · refine g_aload_n C dX11_training_60 rfl ?_
      obtain ⟨q3, hq3, h⟩ := x_bind h
      refine g_getI C dX11_training_61 fF_X11_87 hq3 ?_
      refine g_iconst C dX11_training_64 ?_
      refine g_icmp_ne C 73 dX11_training_65 (by decide) h (fun h => ?_) (fun h => ?_)
      · refine g_aload_n C dX11_training_73 rfl ?_
        refine g_aload_n C dX11_training_74 rfl ?_
        obtain ⟨q4, hq4, h⟩ := x_bind h
        refine g_getK C dX11_training_75 fF_X11_20 hq4 ?_
        refine g_aload_n C dX11_training_78 rfl ?_
        refine g_dup C dX11_training_79 rfl ?_
        obtain ⟨q5, hq5, h⟩ := x_bind h
        refine g_getI C dX11_training_80 fF_X11_87 hq5 ?_
        refine g_iconst C dX11_training_83 ?_
        refine g_iadd C dX11_training_84 ?_
        refine g_dup_x1 C dX11_training_85 rfl rfl ?_
        obtain ⟨q6, hq6, h⟩ := x_bind h
        refine g_putI C dX11_training_86 fF_X11_87 hq6 ?_
        obtain ⟨q7, hq7, h⟩ := x_bind h
        refine g_iaload C dX11_training_89 hq7 ?_
        obtain ⟨q8, hq8, h⟩ := x_bind h
        refine g_putI C dX11_training_90 fF_X11_90 hq8 ?_
        exact g_return hR dX11_training_93 (by cases h; exact ⟨rfl, rfl⟩)
      · refine g_aload_n C dX11_training_68 rfl ?_
        obtain ⟨q9, hq9, h⟩ := x_bind h
        obtain ⟨fo11, h⟩ := x_some1 h
        obtain ⟨_, hfo11⟩ := gob_some fo11
        refine g_callV C dX11_training_69 (xin_37 _ (List.mem_of_getElem? (i := 1) rfl)) xy_X11_online xi_X11_online xs_X11_online hfo11 ⟨_, _, rfl⟩ (by omega) (by decide) (av := []) rfl (Nat.le_of_ble_eq_true rfl) (le_O_online hq9) (c_O_online _ hq9) rfl ?_
        exact g_return hR dX11_training_72 (by cases h; exact ⟨rfl, rfl⟩)
    · exact g_return hR dX11_training_59 (by cases h; exact ⟨rfl, rfl⟩)
  · refine g_aload_n C dX11_training_7 rfl ?_
    refine g_aload_n C dX11_training_8 rfl ?_
    obtain ⟨q11, hq11, h⟩ := x_bind h
    refine g_getK C dX11_training_9 fF_X11_20 hq11 ?_
    refine g_aload_n C dX11_training_12 rfl ?_
    obtain ⟨q12, hq12, h⟩ := x_bind h
    refine g_getI C dX11_training_13 fF_X11_87 hq12 ?_
    obtain ⟨q13, hq13, h⟩ := x_bind h
    refine g_iaload C dX11_training_16 hq13 ?_
    obtain ⟨q14, hq14, h⟩ := x_bind h
    refine g_putI C dX11_training_17 fF_X11_90 hq14 ?_
    refine g_aload_n C dX11_training_20 rfl ?_
    refine g_dup C dX11_training_21 rfl ?_
    obtain ⟨q15, hq15, h⟩ := x_bind h
    refine g_getI C dX11_training_22 fF_X11_93 hq15 ?_
    refine g_iconst C dX11_training_25 ?_
    refine g_iadd C dX11_training_26 ?_
    refine g_dup_x1 C dX11_training_27 rfl rfl ?_
    obtain ⟨q16, hq16, h⟩ := x_bind h
    refine g_putI C dX11_training_28 fF_X11_93 hq16 ?_
    refine g_aload_n C dX11_training_31 rfl ?_
    obtain ⟨q17, hq17, h⟩ := x_bind h
    refine g_getK C dX11_training_32 fF_X11_26 hq17 ?_
    refine g_iconst C dX11_training_35 ?_
    obtain ⟨q18, hq18, h⟩ := x_bind h
    refine g_iaload C dX11_training_36 hq18 ?_
    refine g_icmp_le C 44 dX11_training_37 (by decide) h (fun h => ?_) (fun h => ?_)
    · exact g_return hR dX11_training_44 (by cases h; exact ⟨rfl, rfl⟩)
    · refine g_aload_n C dX11_training_40 rfl ?_
      obtain ⟨q19, hq19, h⟩ := x_bind h
      obtain ⟨fo21, h⟩ := x_some1 h
      obtain ⟨_, hfo21⟩ := gob_some fo21
      refine g_callV C dX11_training_41 (xin_36 _ (List.mem_of_getElem? (i := 14) rfl)) xy_X11_hang xi_X11_hang xs_X11_hang hfo21 ⟨_, _, rfl⟩ (by omega) (by decide) (av := []) rfl (Nat.le_of_ble_eq_true rfl) (le_O_hang hq19) (c_O_hang _ hq19) rfl ?_
      exact g_return hR dX11_training_44 (by cases h; exact ⟨rfl, rfl⟩)
theorem c_O_training {o : Nat} (m : xM) {hp h9 : gH} (h : f_O_training o hp = some h9) (l : Launch) : gMet l yX11_training cX11_training 1 none 4 lay_X [.inr (.inr (some o))] m hp none m h9 :=
  gMet_v (by decide +kernel) (Nat.le_of_ble_eq_true rfl) (fun P C hR => t_O_training (Nat.le_refl _) C _ hR hp h)
theorem le_O_training {o : Nat} {hp h9 : gH} (h : f_O_training o hp = some h9) : gle hp h9 :=
  (t_O_training (P := fun _ => False) (m := fun _ _ => 0) (Nat.le_refl _) (fun _ q => q.elim) _ (fun _ q => q.elim) hp h).1
/-! ===== yX11_live ===== -/
theorem xy_X11_arrivals : xY yX11_arrivals cX11_arrivals 4 none 0 := ⟨(xin_37 _ (List.mem_of_getElem? (i := 21) rfl)), (xin_33 _ (List.mem_of_getElem? (i := 5) rfl)), by decide, by decide, by decide +kernel⟩
theorem xi_X11_arrivals : Cond.instanceMethod yX11_arrivals ∈ wsL_law := (xin_37 _ (List.mem_of_getElem? (i := 19) rfl))
theorem xs_X11_arrivals : Cond.selects yX11_arrivals.cls yX11_arrivals yX11_arrivals ∈ wsL_law := (xin_37 _ (List.mem_of_getElem? (i := 20) rfl))
theorem xy_X11_timer : xY yX11_timer cX11_timer 8 none 1 := ⟨(xin_38 _ (List.mem_of_getElem? (i := 15) rfl)), (xin_33 _ (List.mem_of_getElem? (i := 5) rfl)), by decide, by decide, by decide +kernel⟩
theorem xi_X11_timer : Cond.instanceMethod yX11_timer ∈ wsL_law := (xin_38 _ (List.mem_of_getElem? (i := 13) rfl))
theorem xs_X11_timer : Cond.selects yX11_timer.cls yX11_timer yX11_timer ∈ wsL_law := (xin_38 _ (List.mem_of_getElem? (i := 14) rfl))
theorem xy_X11_send : xY yX11_send cX11_send 11 none 1 := ⟨(xin_38 _ (List.mem_of_getElem? (i := 19) rfl)), (xin_33 _ (List.mem_of_getElem? (i := 5) rfl)), by decide, by decide, by decide +kernel⟩
theorem xi_X11_send : Cond.instanceMethod yX11_send ∈ wsL_law := (xin_38 _ (List.mem_of_getElem? (i := 17) rfl))
theorem xs_X11_send : Cond.selects yX11_send.cls yX11_send yX11_send ∈ wsL_law := (xin_38 _ (List.mem_of_getElem? (i := 18) rfl))
theorem fF_X11_96 : xF RX11 96 12 7 .int false := ⟨RX11, TX11, 31, tyX11, rfl, by decide, (xin_36 _ (List.mem_of_getElem? (i := 8) rfl)), rfl, inlX11, tyX11_ok, nmX11, rfl, rfl⟩
theorem dX11_live_0 : decode cX11_live 0 = .ok (.aload_n 0, 1) := by decide +kernel
theorem dX11_live_1 : decode cX11_live 1 = .ok (.getfield 7, 3) := by decide +kernel
theorem dX11_live_4 : decode cX11_live 4 = .ok (.ifCond .ne 49, 3) := by decide +kernel
theorem dX11_live_7 : decode cX11_live 7 = .ok (.aload_n 0, 1) := by decide +kernel
theorem dX11_live_8 : decode cX11_live 8 = .ok (.iconst 3, 1) := by decide +kernel
theorem dX11_live_9 : decode cX11_live 9 = .ok (.putfield 81, 3) := by decide +kernel
theorem dX11_live_12 : decode cX11_live 12 = .ok (.aload_n 0, 1) := by decide +kernel
theorem dX11_live_13 : decode cX11_live 13 = .ok (.iconst 1, 1) := by decide +kernel
theorem dX11_live_14 : decode cX11_live 14 = .ok (.putfield 96, 3) := by decide +kernel
theorem dX11_live_17 : decode cX11_live 17 = .ok (.aload_n 0, 1) := by decide +kernel
theorem dX11_live_18 : decode cX11_live 18 = .ok (.iconst 0, 1) := by decide +kernel
theorem dX11_live_19 : decode cX11_live 19 = .ok (.putfield 108, 3) := by decide +kernel
theorem dX11_live_22 : decode cX11_live 22 = .ok (.aload_n 0, 1) := by decide +kernel
theorem dX11_live_23 : decode cX11_live 23 = .ok (.getfield 29, 3) := by decide +kernel
theorem dX11_live_26 : decode cX11_live 26 = .ok (.bipush 6, 2) := by decide +kernel
theorem dX11_live_28 : decode cX11_live 28 = .ok (.dup2, 1) := by decide +kernel
theorem dX11_live_29 : decode cX11_live 29 = .ok (.iaload, 1) := by decide +kernel
theorem dX11_live_30 : decode cX11_live 30 = .ok (.iconst 1, 1) := by decide +kernel
theorem dX11_live_31 : decode cX11_live 31 = .ok (.iadd, 1) := by decide +kernel
theorem dX11_live_32 : decode cX11_live 32 = .ok (.iastore, 1) := by decide +kernel
theorem dX11_live_33 : decode cX11_live 33 = .ok (.aload_n 0, 1) := by decide +kernel
theorem dX11_live_34 : decode cX11_live 34 = .ok (.iconst 4, 1) := by decide +kernel
theorem dX11_live_35 : decode cX11_live 35 = .ok (.iconst (-1), 1) := by decide +kernel
theorem dX11_live_36 : decode cX11_live 36 = .ok (.invokevirtual 144, 3) := by decide +kernel
theorem dX11_live_39 : decode cX11_live 39 = .ok (.aload_n 0, 1) := by decide +kernel
theorem dX11_live_40 : decode cX11_live 40 = .ok (.getfield 26, 3) := by decide +kernel
theorem dX11_live_43 : decode cX11_live 43 = .ok (.iconst 1, 1) := by decide +kernel
theorem dX11_live_44 : decode cX11_live 44 = .ok (.iaload, 1) := by decide +kernel
theorem dX11_live_45 : decode cX11_live 45 = .ok (.ifCond .ne 7, 3) := by decide +kernel
theorem dX11_live_48 : decode cX11_live 48 = .ok (.aload_n 0, 1) := by decide +kernel
theorem dX11_live_49 : decode cX11_live 49 = .ok (.invokevirtual 155, 3) := by decide +kernel
theorem dX11_live_52 : decode cX11_live 52 = .ok (.return_, 1) := by decide +kernel
theorem dX11_live_53 : decode cX11_live 53 = .ok (.aload_n 0, 1) := by decide +kernel
theorem dX11_live_54 : decode cX11_live 54 = .ok (.invokevirtual 181, 3) := by decide +kernel
theorem dX11_live_57 : decode cX11_live 57 = .ok (.aload_n 0, 1) := by decide +kernel
theorem dX11_live_58 : decode cX11_live 58 = .ok (.iconst 0, 1) := by decide +kernel
theorem dX11_live_59 : decode cX11_live 59 = .ok (.invokevirtual 184, 3) := by decide +kernel
theorem dX11_live_62 : decode cX11_live 62 = .ok (.aload_n 0, 1) := by decide +kernel
theorem dX11_live_63 : decode cX11_live 63 = .ok (.getfield 81, 3) := by decide +kernel
theorem dX11_live_66 : decode cX11_live 66 = .ok (.iconst 2, 1) := by decide +kernel
theorem dX11_live_67 : decode cX11_live 67 = .ok (.if_icmp .ne 8, 3) := by decide +kernel
theorem dX11_live_70 : decode cX11_live 70 = .ok (.aload_n 0, 1) := by decide +kernel
theorem dX11_live_71 : decode cX11_live 71 = .ok (.iconst 1, 1) := by decide +kernel
theorem dX11_live_72 : decode cX11_live 72 = .ok (.invokevirtual 184, 3) := by decide +kernel
theorem dX11_live_75 : decode cX11_live 75 = .ok (.aload_n 0, 1) := by decide +kernel
theorem dX11_live_76 : decode cX11_live 76 = .ok (.getfield 81, 3) := by decide +kernel
theorem dX11_live_79 : decode cX11_live 79 = .ok (.iconst 2, 1) := by decide +kernel
theorem dX11_live_80 : decode cX11_live 80 = .ok (.if_icmp .eq 4, 3) := by decide +kernel
theorem dX11_live_83 : decode cX11_live 83 = .ok (.return_, 1) := by decide +kernel
theorem dX11_live_84 : decode cX11_live 84 = .ok (.aload_n 0, 1) := by decide +kernel
theorem dX11_live_85 : decode cX11_live 85 = .ok (.getfield 102, 3) := by decide +kernel
theorem dX11_live_88 : decode cX11_live 88 = .ok (.aload_n 0, 1) := by decide +kernel
theorem dX11_live_89 : decode cX11_live 89 = .ok (.getfield 26, 3) := by decide +kernel
theorem dX11_live_92 : decode cX11_live 92 = .ok (.bipush 6, 2) := by decide +kernel
theorem dX11_live_94 : decode cX11_live 94 = .ok (.iaload, 1) := by decide +kernel
theorem dX11_live_95 : decode cX11_live 95 = .ok (.if_icmp .lt 66, 3) := by decide +kernel
theorem dX11_live_98 : decode cX11_live 98 = .ok (.aload_n 0, 1) := by decide +kernel
theorem dX11_live_99 : decode cX11_live 99 = .ok (.getfield 84, 3) := by decide +kernel
theorem dX11_live_102 : decode cX11_live 102 = .ok (.iconst 1, 1) := by decide +kernel
theorem dX11_live_103 : decode cX11_live 103 = .ok (.iadd, 1) := by decide +kernel
theorem dX11_live_104 : decode cX11_live 104 = .ok (.aload_n 0, 1) := by decide +kernel
theorem dX11_live_105 : decode cX11_live 105 = .ok (.getfield 17, 3) := by decide +kernel
theorem dX11_live_108 : decode cX11_live 108 = .ok (.arraylength, 1) := by decide +kernel
theorem dX11_live_109 : decode cX11_live 109 = .ok (.if_icmp .ge 52, 3) := by decide +kernel
theorem dX11_live_112 : decode cX11_live 112 = .ok (.aload_n 0, 1) := by decide +kernel
theorem dX11_live_113 : decode cX11_live 113 = .ok (.getfield 17, 3) := by decide +kernel
theorem dX11_live_116 : decode cX11_live 116 = .ok (.aload_n 0, 1) := by decide +kernel
theorem dX11_live_117 : decode cX11_live 117 = .ok (.getfield 84, 3) := by decide +kernel
theorem dX11_live_120 : decode cX11_live 120 = .ok (.iconst 1, 1) := by decide +kernel
theorem dX11_live_121 : decode cX11_live 121 = .ok (.iadd, 1) := by decide +kernel
theorem dX11_live_122 : decode cX11_live 122 = .ok (.iaload, 1) := by decide +kernel
theorem dX11_live_123 : decode cX11_live 123 = .ok (.aload_n 0, 1) := by decide +kernel
theorem dX11_live_124 : decode cX11_live 124 = .ok (.getfield 7, 3) := by decide +kernel
theorem dX11_live_127 : decode cX11_live 127 = .ok (.if_icmp .gt 34, 3) := by decide +kernel
theorem dX11_live_130 : decode cX11_live 130 = .ok (.aload_n 0, 1) := by decide +kernel
theorem dX11_live_131 : decode cX11_live 131 = .ok (.dup, 1) := by decide +kernel
theorem dX11_live_132 : decode cX11_live 132 = .ok (.getfield 84, 3) := by decide +kernel
theorem dX11_live_135 : decode cX11_live 135 = .ok (.iconst 1, 1) := by decide +kernel
theorem dX11_live_136 : decode cX11_live 136 = .ok (.iadd, 1) := by decide +kernel
theorem dX11_live_137 : decode cX11_live 137 = .ok (.putfield 84, 3) := by decide +kernel
theorem dX11_live_140 : decode cX11_live 140 = .ok (.aload_n 0, 1) := by decide +kernel
theorem dX11_live_141 : decode cX11_live 141 = .ok (.iconst 0, 1) := by decide +kernel
theorem dX11_live_142 : decode cX11_live 142 = .ok (.putfield 102, 3) := by decide +kernel
theorem dX11_live_145 : decode cX11_live 145 = .ok (.aload_n 0, 1) := by decide +kernel
theorem dX11_live_146 : decode cX11_live 146 = .ok (.getfield 29, 3) := by decide +kernel
theorem dX11_live_149 : decode cX11_live 149 = .ok (.iconst 5, 1) := by decide +kernel
theorem dX11_live_150 : decode cX11_live 150 = .ok (.dup2, 1) := by decide +kernel
theorem dX11_live_151 : decode cX11_live 151 = .ok (.iaload, 1) := by decide +kernel
theorem dX11_live_152 : decode cX11_live 152 = .ok (.iconst 1, 1) := by decide +kernel
theorem dX11_live_153 : decode cX11_live 153 = .ok (.iadd, 1) := by decide +kernel
theorem dX11_live_154 : decode cX11_live 154 = .ok (.iastore, 1) := by decide +kernel
theorem dX11_live_155 : decode cX11_live 155 = .ok (.aload_n 0, 1) := by decide +kernel
theorem dX11_live_156 : decode cX11_live 156 = .ok (.iconst 3, 1) := by decide +kernel
theorem dX11_live_157 : decode cX11_live 157 = .ok (.iconst (-1), 1) := by decide +kernel
theorem dX11_live_158 : decode cX11_live 158 = .ok (.invokevirtual 144, 3) := by decide +kernel
theorem dX11_live_161 : decode cX11_live 161 = .ok (.aload_n 0, 1) := by decide +kernel
theorem dX11_live_162 : decode cX11_live 162 = .ok (.iconst 0, 1) := by decide +kernel
theorem dX11_live_163 : decode cX11_live 163 = .ok (.invokevirtual 188, 3) := by decide +kernel
theorem dX11_live_166 : decode cX11_live 166 = .ok (.aload_n 0, 1) := by decide +kernel
theorem dX11_live_167 : decode cX11_live 167 = .ok (.iconst 1, 1) := by decide +kernel
theorem dX11_live_168 : decode cX11_live 168 = .ok (.invokevirtual 188, 3) := by decide +kernel
theorem dX11_live_171 : decode cX11_live 171 = .ok (.return_, 1) := by decide +kernel
def f_O_live_161 (o : Nat) (hp : gH) : Option (gH) :=
     (Option.bind (f_O_send o 0 hp) fun q10 =>
      (if gob hp o = true then (Option.bind (f_O_send o 1 q10) fun q12 =>
      (if gob q10 o = true then some q12
      else none))
      else none))
set_option maxRecDepth 1000000 in
set_option maxHeartbeats 4000000 in
theorem t_O_live_161 {P : gG → Prop} {d : Nat} {m : xM} {h9 : gH} (hd9 : 6 ≤ d) (C : ∀ Γ, P Γ → gX Γ lay_X RX11 cX11_live 1 d h9) (o : Nat) (hR : ∀ Γ, P Γ → gRv Γ lay_X cX11_live m h9) (hp : gH) (h : f_O_live_161 o hp = some h9) : gJ P lay_X 1 161 [(0, .inr (.inr (some o)))] [] m hp h9 := by
  unfold f_O_live_161 at h
  refine g_aload_n C dX11_live_161 rfl ?_
  refine g_iconst C dX11_live_162 ?_
  obtain ⟨q10, hq10, h⟩ := x_bind h
  obtain ⟨fo12, h⟩ := x_some1 h
  obtain ⟨_, hfo12⟩ := gob_some fo12
  refine g_callV C dX11_live_163 (xin_38 _ (List.mem_of_getElem? (i := 16) rfl)) xy_X11_send xi_X11_send xs_X11_send hfo12 ⟨_, _, rfl⟩ (by omega) (by decide) (av := [.inl 0]) rfl (Nat.le_of_ble_eq_true rfl) (le_O_send hq10) (c_O_send _ hq10) rfl ?_
  refine g_aload_n C dX11_live_166 rfl ?_
  refine g_iconst C dX11_live_167 ?_
  obtain ⟨q12, hq12, h⟩ := x_bind h
  obtain ⟨fo14, h⟩ := x_some1 h
  obtain ⟨_, hfo14⟩ := gob_some fo14
  refine g_callV C dX11_live_168 (xin_38 _ (List.mem_of_getElem? (i := 16) rfl)) xy_X11_send xi_X11_send xs_X11_send hfo14 ⟨_, _, rfl⟩ (by omega) (by decide) (av := [.inl 1]) rfl (Nat.le_of_ble_eq_true rfl) (le_O_send hq12) (c_O_send _ hq12) rfl ?_
  exact g_return hR dX11_live_171 (by cases h; exact ⟨rfl, rfl⟩)
def f_O_live_75 (o : Nat) (hp : gH) : Option (gH) :=
     (Option.bind (gfI hp o 1) fun q6 =>
      (if xw q6 = xw 2 then (Option.bind (gfI hp o 9) fun q7 =>
      (Option.bind (gfK hp o 16) fun q8 =>
      (Option.bind (gaN 0 hp q8 6) fun q9 =>
      (if xw q7 < xw q9 then f_O_live_161 o hp
      else (Option.bind (gfI hp o 3) fun q14 =>
      (Option.bind (gfK hp o 13) fun q15 =>
      (Option.bind (glc hp q15) fun q16 =>
      (if xw (q14 + 1) < xw q16 then (Option.bind (gfK hp o 13) fun q17 =>
      (Option.bind (gfI hp o 3) fun q18 =>
      (Option.bind (gaN 0 hp q17 (q18 + 1)) fun q19 =>
      (Option.bind (gfI hp o 2) fun q20 =>
      (if xw q20 < xw q19 then f_O_live_161 o hp
      else (Option.bind (gfI hp o 3) fun q21 =>
      (Option.bind (gpt hp o 3 (.inl (q21 + 1))) fun q22 =>
      (Option.bind (gpt q22 o 9 (.inl 0)) fun q23 =>
      (Option.bind (gfK q23 o 17) fun q24 =>
      (Option.bind (gaN 0 q23 q24 5) fun q25 =>
      (Option.bind (gsN 0 q23 q24 5 (q25 + 1)) fun q26 =>
      (Option.bind (f_O_tell o 3 (-1) q26) fun q27 =>
      (if gob q26 o = true then f_O_live_161 o q27
      else none)))))))))))))
      else f_O_live_161 o hp))))))))
      else some hp))
set_option maxRecDepth 1000000 in
set_option maxHeartbeats 4000000 in
theorem t_O_live_75 {P : gG → Prop} {d : Nat} {m : xM} {h9 : gH} (hd9 : 6 ≤ d) (C : ∀ Γ, P Γ → gX Γ lay_X RX11 cX11_live 1 d h9) (o : Nat) (hR : ∀ Γ, P Γ → gRv Γ lay_X cX11_live m h9) (hp : gH) (h : f_O_live_75 o hp = some h9) : gJ P lay_X 1 75 [(0, .inr (.inr (some o)))] [] m hp h9 := by
  unfold f_O_live_75 at h
  refine g_aload_n C dX11_live_75 rfl ?_
  obtain ⟨q6, hq6, h⟩ := x_bind h
  refine g_getI C dX11_live_76 fF_X11_81 hq6 ?_
  refine g_iconst C dX11_live_79 ?_
  refine g_icmp_eq C 84 dX11_live_80 (by decide) h (fun h => ?_) (fun h => ?_)
  · refine g_aload_n C dX11_live_84 rfl ?_
    obtain ⟨q7, hq7, h⟩ := x_bind h
    refine g_getI C dX11_live_85 fF_X11_102 hq7 ?_
    refine g_aload_n C dX11_live_88 rfl ?_
    obtain ⟨q8, hq8, h⟩ := x_bind h
    refine g_getK C dX11_live_89 fF_X11_26 hq8 ?_
    refine g_bipush C dX11_live_92 (by decide) ?_
    obtain ⟨q9, hq9, h⟩ := x_bind h
    refine g_iaload C dX11_live_94 hq9 ?_
    refine g_icmp_lt C 161 dX11_live_95 (by decide) h (fun h => ?_) (fun h => ?_)
    · refine g_loc [(0, .inr (.inr (some o)))] ⟨rfl, trivial⟩ ?_
      exact t_O_live_161 hd9 C _ hR _ h
    · refine g_aload_n C dX11_live_98 rfl ?_
      obtain ⟨q14, hq14, h⟩ := x_bind h
      refine g_getI C dX11_live_99 fF_X11_84 hq14 ?_
      refine g_iconst C dX11_live_102 ?_
      refine g_iadd C dX11_live_103 ?_
      refine g_aload_n C dX11_live_104 rfl ?_
      obtain ⟨q15, hq15, h⟩ := x_bind h
      refine g_getK C dX11_live_105 fF_X11_17 hq15 ?_
      obtain ⟨q16, hq16, h⟩ := x_bind h
      refine g_lenC C dX11_live_108 hq16 ?_
      refine g_icmp_ge C 161 dX11_live_109 (by decide) h (fun h => ?_) (fun h => ?_)
      · refine g_loc [(0, .inr (.inr (some o)))] ⟨rfl, trivial⟩ ?_
        exact t_O_live_161 hd9 C _ hR _ h
      · refine g_aload_n C dX11_live_112 rfl ?_
        obtain ⟨q17, hq17, h⟩ := x_bind h
        refine g_getK C dX11_live_113 fF_X11_17 hq17 ?_
        refine g_aload_n C dX11_live_116 rfl ?_
        obtain ⟨q18, hq18, h⟩ := x_bind h
        refine g_getI C dX11_live_117 fF_X11_84 hq18 ?_
        refine g_iconst C dX11_live_120 ?_
        refine g_iadd C dX11_live_121 ?_
        obtain ⟨q19, hq19, h⟩ := x_bind h
        refine g_iaload C dX11_live_122 hq19 ?_
        refine g_aload_n C dX11_live_123 rfl ?_
        obtain ⟨q20, hq20, h⟩ := x_bind h
        refine g_getI C dX11_live_124 fF_X11_7 hq20 ?_
        refine g_icmp_gt C 161 dX11_live_127 (by decide) h (fun h => ?_) (fun h => ?_)
        · refine g_loc [(0, .inr (.inr (some o)))] ⟨rfl, trivial⟩ ?_
          exact t_O_live_161 hd9 C _ hR _ h
        · refine g_aload_n C dX11_live_130 rfl ?_
          refine g_dup C dX11_live_131 rfl ?_
          obtain ⟨q21, hq21, h⟩ := x_bind h
          refine g_getI C dX11_live_132 fF_X11_84 hq21 ?_
          refine g_iconst C dX11_live_135 ?_
          refine g_iadd C dX11_live_136 ?_
          obtain ⟨q22, hq22, h⟩ := x_bind h
          refine g_putI C dX11_live_137 fF_X11_84 hq22 ?_
          refine g_aload_n C dX11_live_140 rfl ?_
          refine g_iconst C dX11_live_141 ?_
          obtain ⟨q23, hq23, h⟩ := x_bind h
          refine g_putI C dX11_live_142 fF_X11_102 hq23 ?_
          refine g_aload_n C dX11_live_145 rfl ?_
          obtain ⟨q24, hq24, h⟩ := x_bind h
          refine g_getK C dX11_live_146 fF_X11_29 hq24 ?_
          refine g_iconst C dX11_live_149 ?_
          refine g_dup2 C dX11_live_150 rfl rfl ?_
          obtain ⟨q25, hq25, h⟩ := x_bind h
          refine g_iaload C dX11_live_151 hq25 ?_
          refine g_iconst C dX11_live_152 ?_
          refine g_iadd C dX11_live_153 ?_
          obtain ⟨q26, hq26, h⟩ := x_bind h
          refine g_iastore C dX11_live_154 hq26 ?_
          refine g_aload_n C dX11_live_155 rfl ?_
          refine g_iconst C dX11_live_156 ?_
          refine g_iconst C dX11_live_157 ?_
          obtain ⟨q27, hq27, h⟩ := x_bind h
          obtain ⟨fo29, h⟩ := x_some1 h
          obtain ⟨_, hfo29⟩ := gob_some fo29
          refine g_callV C dX11_live_158 (xin_36 _ (List.mem_of_getElem? (i := 19) rfl)) xy_X11_tell xi_X11_tell xs_X11_tell hfo29 ⟨_, _, rfl⟩ (by omega) (by decide) (av := [.inl 3, .inl (-1)]) rfl (Nat.le_of_ble_eq_true rfl) (le_O_tell hq27) (c_O_tell _ hq27) rfl ?_
          refine g_loc [(0, .inr (.inr (some o)))] ⟨rfl, trivial⟩ ?_
          exact t_O_live_161 hd9 C _ hR _ h
  · exact g_return hR dX11_live_83 (by cases h; exact ⟨rfl, rfl⟩)
def f_O_live (o : Nat) (hp : gH) : Option (gH) :=
     (Option.bind (gfI hp o 2) fun q0 =>
      (if xw q0 = 0 then (Option.bind (gpt hp o 1 (.inl 3)) fun q31 =>
      (Option.bind (gpt q31 o 7 (.inl 1)) fun q32 =>
      (Option.bind (gpt q32 o 11 (.inl 0)) fun q33 =>
      (Option.bind (gfK q33 o 17) fun q34 =>
      (Option.bind (gaN 0 q33 q34 6) fun q35 =>
      (Option.bind (gsN 0 q33 q34 6 (q35 + 1)) fun q36 =>
      (Option.bind (f_O_tell o 4 (-1) q36) fun q37 =>
      (if gob q36 o = true then (Option.bind (gfK q37 o 16) fun q39 =>
      (Option.bind (gaN 0 q37 q39 1) fun q40 =>
      (if xw q40 = 0 then (Option.bind (f_O_hang o q37) fun q41 =>
      (if gob q37 o = true then some q41
      else none))
      else some q37)))
      else none))))))))
      else (Option.bind (f_O_arrivals o hp) fun q1 =>
      (if gob hp o = true then (Option.bind (f_O_timer o 0 q1) fun q3 =>
      (if gob q1 o = true then (Option.bind (gfI q3 o 1) fun q5 =>
      (if xw q5 = xw 2 then (Option.bind (f_O_timer o 1 q3) fun q29 =>
      (if gob q3 o = true then f_O_live_75 o q29
      else none))
      else f_O_live_75 o q3))
      else none))
      else none))))
set_option maxRecDepth 1000000 in
set_option maxHeartbeats 4000000 in
theorem t_O_live {P : gG → Prop} {d : Nat} {m : xM} {h9 : gH} (hd9 : 6 ≤ d) (C : ∀ Γ, P Γ → gX Γ lay_X RX11 cX11_live 1 d h9) (o : Nat) (hR : ∀ Γ, P Γ → gRv Γ lay_X cX11_live m h9) (hp : gH) (h : f_O_live o hp = some h9) : gJ P lay_X 1 0 [(0, .inr (.inr (some o)))] [] m hp h9 := by
  unfold f_O_live at h
  refine g_aload_n C dX11_live_0 rfl ?_
  obtain ⟨q0, hq0, h⟩ := x_bind h
  refine g_getI C dX11_live_1 fF_X11_7 hq0 ?_
  refine g_if_ne C 53 dX11_live_4 (by decide) h (fun h => ?_) (fun h => ?_)
  · refine g_aload_n C dX11_live_53 rfl ?_
    obtain ⟨q1, hq1, h⟩ := x_bind h
    obtain ⟨fo3, h⟩ := x_some1 h
    obtain ⟨_, hfo3⟩ := gob_some fo3
    refine g_callV C dX11_live_54 (xin_37 _ (List.mem_of_getElem? (i := 18) rfl)) xy_X11_arrivals xi_X11_arrivals xs_X11_arrivals hfo3 ⟨_, _, rfl⟩ (by omega) (by decide) (av := []) rfl (Nat.le_of_ble_eq_true rfl) (le_O_arrivals hq1) (c_O_arrivals _ hq1) rfl ?_
    refine g_aload_n C dX11_live_57 rfl ?_
    refine g_iconst C dX11_live_58 ?_
    obtain ⟨q3, hq3, h⟩ := x_bind h
    obtain ⟨fo5, h⟩ := x_some1 h
    obtain ⟨_, hfo5⟩ := gob_some fo5
    refine g_callV C dX11_live_59 (xin_38 _ (List.mem_of_getElem? (i := 12) rfl)) xy_X11_timer xi_X11_timer xs_X11_timer hfo5 ⟨_, _, rfl⟩ (by omega) (by decide) (av := [.inl 0]) rfl (Nat.le_of_ble_eq_true rfl) (le_O_timer hq3) (c_O_timer _ hq3) rfl ?_
    refine g_aload_n C dX11_live_62 rfl ?_
    obtain ⟨q5, hq5, h⟩ := x_bind h
    refine g_getI C dX11_live_63 fF_X11_81 hq5 ?_
    refine g_iconst C dX11_live_66 ?_
    refine g_icmp_ne C 75 dX11_live_67 (by decide) h (fun h => ?_) (fun h => ?_)
    · refine g_loc [(0, .inr (.inr (some o)))] ⟨rfl, trivial⟩ ?_
      exact t_O_live_75 hd9 C _ hR _ h
    · refine g_aload_n C dX11_live_70 rfl ?_
      refine g_iconst C dX11_live_71 ?_
      obtain ⟨q29, hq29, h⟩ := x_bind h
      obtain ⟨fo31, h⟩ := x_some1 h
      obtain ⟨_, hfo31⟩ := gob_some fo31
      refine g_callV C dX11_live_72 (xin_38 _ (List.mem_of_getElem? (i := 12) rfl)) xy_X11_timer xi_X11_timer xs_X11_timer hfo31 ⟨_, _, rfl⟩ (by omega) (by decide) (av := [.inl 1]) rfl (Nat.le_of_ble_eq_true rfl) (le_O_timer hq29) (c_O_timer _ hq29) rfl ?_
      refine g_loc [(0, .inr (.inr (some o)))] ⟨rfl, trivial⟩ ?_
      exact t_O_live_75 hd9 C _ hR _ h
  · refine g_aload_n C dX11_live_7 rfl ?_
    refine g_iconst C dX11_live_8 ?_
    obtain ⟨q31, hq31, h⟩ := x_bind h
    refine g_putI C dX11_live_9 fF_X11_81 hq31 ?_
    refine g_aload_n C dX11_live_12 rfl ?_
    refine g_iconst C dX11_live_13 ?_
    obtain ⟨q32, hq32, h⟩ := x_bind h
    refine g_putI C dX11_live_14 fF_X11_96 hq32 ?_
    refine g_aload_n C dX11_live_17 rfl ?_
    refine g_iconst C dX11_live_18 ?_
    obtain ⟨q33, hq33, h⟩ := x_bind h
    refine g_putI C dX11_live_19 fF_X11_108 hq33 ?_
    refine g_aload_n C dX11_live_22 rfl ?_
    obtain ⟨q34, hq34, h⟩ := x_bind h
    refine g_getK C dX11_live_23 fF_X11_29 hq34 ?_
    refine g_bipush C dX11_live_26 (by decide) ?_
    refine g_dup2 C dX11_live_28 rfl rfl ?_
    obtain ⟨q35, hq35, h⟩ := x_bind h
    refine g_iaload C dX11_live_29 hq35 ?_
    refine g_iconst C dX11_live_30 ?_
    refine g_iadd C dX11_live_31 ?_
    obtain ⟨q36, hq36, h⟩ := x_bind h
    refine g_iastore C dX11_live_32 hq36 ?_
    refine g_aload_n C dX11_live_33 rfl ?_
    refine g_iconst C dX11_live_34 ?_
    refine g_iconst C dX11_live_35 ?_
    obtain ⟨q37, hq37, h⟩ := x_bind h
    obtain ⟨fo39, h⟩ := x_some1 h
    obtain ⟨_, hfo39⟩ := gob_some fo39
    refine g_callV C dX11_live_36 (xin_36 _ (List.mem_of_getElem? (i := 19) rfl)) xy_X11_tell xi_X11_tell xs_X11_tell hfo39 ⟨_, _, rfl⟩ (by omega) (by decide) (av := [.inl 4, .inl (-1)]) rfl (Nat.le_of_ble_eq_true rfl) (le_O_tell hq37) (c_O_tell _ hq37) rfl ?_
    refine g_aload_n C dX11_live_39 rfl ?_
    obtain ⟨q39, hq39, h⟩ := x_bind h
    refine g_getK C dX11_live_40 fF_X11_26 hq39 ?_
    refine g_iconst C dX11_live_43 ?_
    obtain ⟨q40, hq40, h⟩ := x_bind h
    refine g_iaload C dX11_live_44 hq40 ?_
    refine g_if_ne C 52 dX11_live_45 (by decide) h (fun h => ?_) (fun h => ?_)
    · exact g_return hR dX11_live_52 (by cases h; exact ⟨rfl, rfl⟩)
    · refine g_aload_n C dX11_live_48 rfl ?_
      obtain ⟨q41, hq41, h⟩ := x_bind h
      obtain ⟨fo43, h⟩ := x_some1 h
      obtain ⟨_, hfo43⟩ := gob_some fo43
      refine g_callV C dX11_live_49 (xin_36 _ (List.mem_of_getElem? (i := 14) rfl)) xy_X11_hang xi_X11_hang xs_X11_hang hfo43 ⟨_, _, rfl⟩ (by omega) (by decide) (av := []) rfl (Nat.le_of_ble_eq_true rfl) (le_O_hang hq41) (c_O_hang _ hq41) rfl ?_
      exact g_return hR dX11_live_52 (by cases h; exact ⟨rfl, rfl⟩)
theorem c_O_live {o : Nat} (m : xM) {hp h9 : gH} (h : f_O_live o hp = some h9) (l : Launch) : gMet l yX11_live cX11_live 1 none 6 lay_X [.inr (.inr (some o))] m hp none m h9 :=
  gMet_v (by decide +kernel) (Nat.le_of_ble_eq_true rfl) (fun P C hR => t_O_live (Nat.le_refl _) C _ hR hp h)
theorem le_O_live {o : Nat} {hp h9 : gH} (h : f_O_live o hp = some h9) : gle hp h9 :=
  (t_O_live (P := fun _ => False) (m := fun _ _ => 0) (Nat.le_refl _) (fun _ q => q.elim) _ (fun _ q => q.elim) hp h).1
/-! ===== yX11_tick ===== -/
theorem xy_X11_live : xY yX11_live cX11_live 1 none 0 := ⟨(xin_37 _ (List.mem_of_getElem? (i := 17) rfl)), (xin_33 _ (List.mem_of_getElem? (i := 5) rfl)), by decide, by decide, by decide +kernel⟩
theorem xi_X11_live : Cond.instanceMethod yX11_live ∈ wsL_law := (xin_37 _ (List.mem_of_getElem? (i := 15) rfl))
theorem xs_X11_live : Cond.selects yX11_live.cls yX11_live yX11_live ∈ wsL_law := (xin_37 _ (List.mem_of_getElem? (i := 16) rfl))
theorem xy_X11_training : xY yX11_training cX11_training 1 none 0 := ⟨(xin_36 _ (List.mem_of_getElem? (i := 13) rfl)), (xin_33 _ (List.mem_of_getElem? (i := 5) rfl)), by decide, by decide, by decide +kernel⟩
theorem xi_X11_training : Cond.instanceMethod yX11_training ∈ wsL_law := (xin_36 _ (List.mem_of_getElem? (i := 11) rfl))
theorem xs_X11_training : Cond.selects yX11_training.cls yX11_training yX11_training ∈ wsL_law := (xin_36 _ (List.mem_of_getElem? (i := 12) rfl))
theorem dX11_tick_0 : decode cX11_tick 0 = .ok (.aload_n 0, 1) := by decide +kernel
theorem dX11_tick_1 : decode cX11_tick 1 = .ok (.getfield 81, 3) := by decide +kernel
theorem dX11_tick_4 : decode cX11_tick 4 = .ok (.iconst 1, 1) := by decide +kernel
theorem dX11_tick_5 : decode cX11_tick 5 = .ok (.if_icmp .ne 10, 3) := by decide +kernel
theorem dX11_tick_8 : decode cX11_tick 8 = .ok (.aload_n 0, 1) := by decide +kernel
theorem dX11_tick_9 : decode cX11_tick 9 = .ok (.invokevirtual 172, 3) := by decide +kernel
theorem dX11_tick_12 : decode cX11_tick 12 = .ok (.goto 85, 3) := by decide +kernel
theorem dX11_tick_15 : decode cX11_tick 15 = .ok (.aload_n 0, 1) := by decide +kernel
theorem dX11_tick_16 : decode cX11_tick 16 = .ok (.getfield 81, 3) := by decide +kernel
theorem dX11_tick_19 : decode cX11_tick 19 = .ok (.iconst 3, 1) := by decide +kernel
theorem dX11_tick_20 : decode cX11_tick 20 = .ok (.if_icmp .ne 65, 3) := by decide +kernel
theorem dX11_tick_23 : decode cX11_tick 23 = .ok (.aload_n 0, 1) := by decide +kernel
theorem dX11_tick_24 : decode cX11_tick 24 = .ok (.getfield 7, 3) := by decide +kernel
theorem dX11_tick_27 : decode cX11_tick 27 = .ok (.ifCond .le 31, 3) := by decide +kernel
theorem dX11_tick_30 : decode cX11_tick 30 = .ok (.aload_n 0, 1) := by decide +kernel
theorem dX11_tick_31 : decode cX11_tick 31 = .ok (.iconst 1, 1) := by decide +kernel
theorem dX11_tick_32 : decode cX11_tick 32 = .ok (.putfield 81, 3) := by decide +kernel
theorem dX11_tick_35 : decode cX11_tick 35 = .ok (.aload_n 0, 1) := by decide +kernel
theorem dX11_tick_36 : decode cX11_tick 36 = .ok (.iconst 2, 1) := by decide +kernel
theorem dX11_tick_37 : decode cX11_tick 37 = .ok (.putfield 87, 3) := by decide +kernel
theorem dX11_tick_40 : decode cX11_tick 40 = .ok (.aload_n 0, 1) := by decide +kernel
theorem dX11_tick_41 : decode cX11_tick 41 = .ok (.aload_n 0, 1) := by decide +kernel
theorem dX11_tick_42 : decode cX11_tick 42 = .ok (.getfield 20, 3) := by decide +kernel
theorem dX11_tick_45 : decode cX11_tick 45 = .ok (.iconst 2, 1) := by decide +kernel
theorem dX11_tick_46 : decode cX11_tick 46 = .ok (.iaload, 1) := by decide +kernel
theorem dX11_tick_47 : decode cX11_tick 47 = .ok (.putfield 90, 3) := by decide +kernel
theorem dX11_tick_50 : decode cX11_tick 50 = .ok (.aload_n 0, 1) := by decide +kernel
theorem dX11_tick_51 : decode cX11_tick 51 = .ok (.iconst 0, 1) := by decide +kernel
theorem dX11_tick_52 : decode cX11_tick 52 = .ok (.putfield 93, 3) := by decide +kernel
theorem dX11_tick_55 : decode cX11_tick 55 = .ok (.goto 42, 3) := by decide +kernel
theorem dX11_tick_58 : decode cX11_tick 58 = .ok (.aload_n 0, 1) := by decide +kernel
theorem dX11_tick_59 : decode cX11_tick 59 = .ok (.dup, 1) := by decide +kernel
theorem dX11_tick_60 : decode cX11_tick 60 = .ok (.getfield 96, 3) := by decide +kernel
theorem dX11_tick_63 : decode cX11_tick 63 = .ok (.iconst 1, 1) := by decide +kernel
theorem dX11_tick_64 : decode cX11_tick 64 = .ok (.iadd, 1) := by decide +kernel
theorem dX11_tick_65 : decode cX11_tick 65 = .ok (.dup_x1, 1) := by decide +kernel
theorem dX11_tick_66 : decode cX11_tick 66 = .ok (.putfield 96, 3) := by decide +kernel
theorem dX11_tick_69 : decode cX11_tick 69 = .ok (.aload_n 0, 1) := by decide +kernel
theorem dX11_tick_70 : decode cX11_tick 70 = .ok (.getfield 26, 3) := by decide +kernel
theorem dX11_tick_73 : decode cX11_tick 73 = .ok (.iconst 1, 1) := by decide +kernel
theorem dX11_tick_74 : decode cX11_tick 74 = .ok (.iaload, 1) := by decide +kernel
theorem dX11_tick_75 : decode cX11_tick 75 = .ok (.if_icmp .le 22, 3) := by decide +kernel
theorem dX11_tick_78 : decode cX11_tick 78 = .ok (.aload_n 0, 1) := by decide +kernel
theorem dX11_tick_79 : decode cX11_tick 79 = .ok (.invokevirtual 155, 3) := by decide +kernel
theorem dX11_tick_82 : decode cX11_tick 82 = .ok (.goto 15, 3) := by decide +kernel
theorem dX11_tick_85 : decode cX11_tick 85 = .ok (.aload_n 0, 1) := by decide +kernel
theorem dX11_tick_86 : decode cX11_tick 86 = .ok (.getfield 81, 3) := by decide +kernel
theorem dX11_tick_89 : decode cX11_tick 89 = .ok (.iconst 2, 1) := by decide +kernel
theorem dX11_tick_90 : decode cX11_tick 90 = .ok (.if_icmp .ne 7, 3) := by decide +kernel
theorem dX11_tick_93 : decode cX11_tick 93 = .ok (.aload_n 0, 1) := by decide +kernel
theorem dX11_tick_94 : decode cX11_tick 94 = .ok (.invokevirtual 175, 3) := by decide +kernel
theorem dX11_tick_97 : decode cX11_tick 97 = .ok (.aload_n 0, 1) := by decide +kernel
theorem dX11_tick_98 : decode cX11_tick 98 = .ok (.dup, 1) := by decide +kernel
theorem dX11_tick_99 : decode cX11_tick 99 = .ok (.getfield 78, 3) := by decide +kernel
theorem dX11_tick_102 : decode cX11_tick 102 = .ok (.iconst 1, 1) := by decide +kernel
theorem dX11_tick_103 : decode cX11_tick 103 = .ok (.iadd, 1) := by decide +kernel
theorem dX11_tick_104 : decode cX11_tick 104 = .ok (.putfield 78, 3) := by decide +kernel
theorem dX11_tick_107 : decode cX11_tick 107 = .ok (.return_, 1) := by decide +kernel
def f_O_tick_97 (o : Nat) (hp : gH) : Option (gH) :=
     (Option.bind (gfI hp o 0) fun q3 =>
      (Option.bind (gpt hp o 0 (.inl (q3 + 1))) fun q4 =>
      some q4))
set_option maxRecDepth 1000000 in
set_option maxHeartbeats 4000000 in
theorem t_O_tick_97 {P : gG → Prop} {d : Nat} {m : xM} {h9 : gH} (hd9 : 7 ≤ d) (C : ∀ Γ, P Γ → gX Γ lay_X RX11 cX11_tick 1 d h9) (o : Nat) (hR : ∀ Γ, P Γ → gRv Γ lay_X cX11_tick m h9) (hp : gH) (h : f_O_tick_97 o hp = some h9) : gJ P lay_X 1 97 [(0, .inr (.inr (some o)))] [] m hp h9 := by
  unfold f_O_tick_97 at h
  refine g_aload_n C dX11_tick_97 rfl ?_
  refine g_dup C dX11_tick_98 rfl ?_
  obtain ⟨q3, hq3, h⟩ := x_bind h
  refine g_getI C dX11_tick_99 fF_X11_78 hq3 ?_
  refine g_iconst C dX11_tick_102 ?_
  refine g_iadd C dX11_tick_103 ?_
  obtain ⟨q4, hq4, h⟩ := x_bind h
  refine g_putI C dX11_tick_104 fF_X11_78 hq4 ?_
  exact g_return hR dX11_tick_107 (by cases h; exact ⟨rfl, rfl⟩)
def f_O_tick (o : Nat) (hp : gH) : Option (gH) :=
     (Option.bind (gfI hp o 1) fun q0 =>
      (if xw q0 = xw 1 then (Option.bind (f_O_training o hp) fun q20 =>
      (if gob hp o = true then f_O_tick_97 o q20
      else none))
      else (Option.bind (gfI hp o 1) fun q1 =>
      (if xw q1 = xw 3 then (Option.bind (gfI hp o 2) fun q7 =>
      (if 0 < xw q7 then (Option.bind (gpt hp o 1 (.inl 1)) fun q14 =>
      (Option.bind (gpt q14 o 4 (.inl 2)) fun q15 =>
      (Option.bind (gfK q15 o 14) fun q16 =>
      (Option.bind (gaN 0 q15 q16 2) fun q17 =>
      (Option.bind (gpt q15 o 5 (.inl q17)) fun q18 =>
      (Option.bind (gpt q18 o 6 (.inl 0)) fun q19 =>
      f_O_tick_97 o q19))))))
      else (Option.bind (gfI hp o 7) fun q8 =>
      (Option.bind (gpt hp o 7 (.inl (q8 + 1))) fun q9 =>
      (Option.bind (gfK q9 o 16) fun q10 =>
      (Option.bind (gaN 0 q9 q10 1) fun q11 =>
      (if xw q11 < xw (q8 + 1) then (Option.bind (f_O_hang o q9) fun q12 =>
      (if gob q9 o = true then f_O_tick_97 o q12
      else none))
      else f_O_tick_97 o q9)))))))
      else (Option.bind (gfI hp o 1) fun q2 =>
      (if xw q2 = xw 2 then (Option.bind (f_O_live o hp) fun q5 =>
      (if gob hp o = true then f_O_tick_97 o q5
      else none))
      else f_O_tick_97 o hp))))))
set_option maxRecDepth 1000000 in
set_option maxHeartbeats 4000000 in
theorem t_O_tick {P : gG → Prop} {d : Nat} {m : xM} {h9 : gH} (hd9 : 7 ≤ d) (C : ∀ Γ, P Γ → gX Γ lay_X RX11 cX11_tick 1 d h9) (o : Nat) (hR : ∀ Γ, P Γ → gRv Γ lay_X cX11_tick m h9) (hp : gH) (h : f_O_tick o hp = some h9) : gJ P lay_X 1 0 [(0, .inr (.inr (some o)))] [] m hp h9 := by
  unfold f_O_tick at h
  refine g_aload_n C dX11_tick_0 rfl ?_
  obtain ⟨q0, hq0, h⟩ := x_bind h
  refine g_getI C dX11_tick_1 fF_X11_81 hq0 ?_
  refine g_iconst C dX11_tick_4 ?_
  refine g_icmp_ne C 15 dX11_tick_5 (by decide) h (fun h => ?_) (fun h => ?_)
  · refine g_aload_n C dX11_tick_15 rfl ?_
    obtain ⟨q1, hq1, h⟩ := x_bind h
    refine g_getI C dX11_tick_16 fF_X11_81 hq1 ?_
    refine g_iconst C dX11_tick_19 ?_
    refine g_icmp_ne C 85 dX11_tick_20 (by decide) h (fun h => ?_) (fun h => ?_)
    · refine g_aload_n C dX11_tick_85 rfl ?_
      obtain ⟨q2, hq2, h⟩ := x_bind h
      refine g_getI C dX11_tick_86 fF_X11_81 hq2 ?_
      refine g_iconst C dX11_tick_89 ?_
      refine g_icmp_ne C 97 dX11_tick_90 (by decide) h (fun h => ?_) (fun h => ?_)
      · refine g_loc [(0, .inr (.inr (some o)))] ⟨rfl, trivial⟩ ?_
        exact t_O_tick_97 hd9 C _ hR _ h
      · refine g_aload_n C dX11_tick_93 rfl ?_
        obtain ⟨q5, hq5, h⟩ := x_bind h
        obtain ⟨fo7, h⟩ := x_some1 h
        obtain ⟨_, hfo7⟩ := gob_some fo7
        refine g_callV C dX11_tick_94 (xin_37 _ (List.mem_of_getElem? (i := 14) rfl)) xy_X11_live xi_X11_live xs_X11_live hfo7 ⟨_, _, rfl⟩ (by omega) (by decide) (av := []) rfl (Nat.le_of_ble_eq_true rfl) (le_O_live hq5) (c_O_live _ hq5) rfl ?_
        refine g_loc [(0, .inr (.inr (some o)))] ⟨rfl, trivial⟩ ?_
        exact t_O_tick_97 hd9 C _ hR _ h
    · refine g_aload_n C dX11_tick_23 rfl ?_
      obtain ⟨q7, hq7, h⟩ := x_bind h
      refine g_getI C dX11_tick_24 fF_X11_7 hq7 ?_
      refine g_if_le C 58 dX11_tick_27 (by decide) h (fun h => ?_) (fun h => ?_)
      · refine g_aload_n C dX11_tick_58 rfl ?_
        refine g_dup C dX11_tick_59 rfl ?_
        obtain ⟨q8, hq8, h⟩ := x_bind h
        refine g_getI C dX11_tick_60 fF_X11_96 hq8 ?_
        refine g_iconst C dX11_tick_63 ?_
        refine g_iadd C dX11_tick_64 ?_
        refine g_dup_x1 C dX11_tick_65 rfl rfl ?_
        obtain ⟨q9, hq9, h⟩ := x_bind h
        refine g_putI C dX11_tick_66 fF_X11_96 hq9 ?_
        refine g_aload_n C dX11_tick_69 rfl ?_
        obtain ⟨q10, hq10, h⟩ := x_bind h
        refine g_getK C dX11_tick_70 fF_X11_26 hq10 ?_
        refine g_iconst C dX11_tick_73 ?_
        obtain ⟨q11, hq11, h⟩ := x_bind h
        refine g_iaload C dX11_tick_74 hq11 ?_
        refine g_icmp_le C 97 dX11_tick_75 (by decide) h (fun h => ?_) (fun h => ?_)
        · refine g_loc [(0, .inr (.inr (some o)))] ⟨rfl, trivial⟩ ?_
          exact t_O_tick_97 hd9 C _ hR _ h
        · refine g_aload_n C dX11_tick_78 rfl ?_
          obtain ⟨q12, hq12, h⟩ := x_bind h
          obtain ⟨fo14, h⟩ := x_some1 h
          obtain ⟨_, hfo14⟩ := gob_some fo14
          refine g_callV C dX11_tick_79 (xin_36 _ (List.mem_of_getElem? (i := 14) rfl)) xy_X11_hang xi_X11_hang xs_X11_hang hfo14 ⟨_, _, rfl⟩ (by omega) (by decide) (av := []) rfl (Nat.le_of_ble_eq_true rfl) (le_O_hang hq12) (c_O_hang _ hq12) rfl ?_
          refine g_goto C 97 dX11_tick_82 (by decide) ?_
          refine g_loc [(0, .inr (.inr (some o)))] ⟨rfl, trivial⟩ ?_
          exact t_O_tick_97 hd9 C _ hR _ h
      · refine g_aload_n C dX11_tick_30 rfl ?_
        refine g_iconst C dX11_tick_31 ?_
        obtain ⟨q14, hq14, h⟩ := x_bind h
        refine g_putI C dX11_tick_32 fF_X11_81 hq14 ?_
        refine g_aload_n C dX11_tick_35 rfl ?_
        refine g_iconst C dX11_tick_36 ?_
        obtain ⟨q15, hq15, h⟩ := x_bind h
        refine g_putI C dX11_tick_37 fF_X11_87 hq15 ?_
        refine g_aload_n C dX11_tick_40 rfl ?_
        refine g_aload_n C dX11_tick_41 rfl ?_
        obtain ⟨q16, hq16, h⟩ := x_bind h
        refine g_getK C dX11_tick_42 fF_X11_20 hq16 ?_
        refine g_iconst C dX11_tick_45 ?_
        obtain ⟨q17, hq17, h⟩ := x_bind h
        refine g_iaload C dX11_tick_46 hq17 ?_
        obtain ⟨q18, hq18, h⟩ := x_bind h
        refine g_putI C dX11_tick_47 fF_X11_90 hq18 ?_
        refine g_aload_n C dX11_tick_50 rfl ?_
        refine g_iconst C dX11_tick_51 ?_
        obtain ⟨q19, hq19, h⟩ := x_bind h
        refine g_putI C dX11_tick_52 fF_X11_93 hq19 ?_
        refine g_goto C 97 dX11_tick_55 (by decide) ?_
        refine g_loc [(0, .inr (.inr (some o)))] ⟨rfl, trivial⟩ ?_
        exact t_O_tick_97 hd9 C _ hR _ h
  · refine g_aload_n C dX11_tick_8 rfl ?_
    obtain ⟨q20, hq20, h⟩ := x_bind h
    obtain ⟨fo22, h⟩ := x_some1 h
    obtain ⟨_, hfo22⟩ := gob_some fo22
    refine g_callV C dX11_tick_9 (xin_36 _ (List.mem_of_getElem? (i := 10) rfl)) xy_X11_training xi_X11_training xs_X11_training hfo22 ⟨_, _, rfl⟩ (by omega) (by decide) (av := []) rfl (Nat.le_of_ble_eq_true rfl) (le_O_training hq20) (c_O_training _ hq20) rfl ?_
    refine g_goto C 97 dX11_tick_12 (by decide) ?_
    refine g_loc [(0, .inr (.inr (some o)))] ⟨rfl, trivial⟩ ?_
    exact t_O_tick_97 hd9 C _ hR _ h
theorem c_O_tick {o : Nat} (m : xM) {hp h9 : gH} (h : f_O_tick o hp = some h9) (l : Launch) : gMet l yX11_tick cX11_tick 1 none 7 lay_X [.inr (.inr (some o))] m hp none m h9 :=
  gMet_v (by decide +kernel) (Nat.le_of_ble_eq_true rfl) (fun P C hR => t_O_tick (Nat.le_refl _) C _ hR hp h)
theorem le_O_tick {o : Nat} {hp h9 : gH} (h : f_O_tick o hp = some h9) : gle hp h9 :=
  (t_O_tick (P := fun _ => False) (m := fun _ _ => 0) (Nat.le_refl _) (fun _ q => q.elim) _ (fun _ q => q.elim) hp h).1
/-! ===== yX11_losing ===== -/
theorem dX11_losing_0 : decode cX11_losing 0 = .ok (.iconst 0, 1) := by decide +kernel
theorem dX11_losing_1 : decode cX11_losing 1 = .ok (.istore_n 1, 1) := by decide +kernel
theorem dX11_losing_2 : decode cX11_losing 2 = .ok (.iconst 0, 1) := by decide +kernel
theorem dX11_losing_3 : decode cX11_losing 3 = .ok (.istore_n 2, 1) := by decide +kernel
theorem dX11_losing_4 : decode cX11_losing 4 = .ok (.iload_n 2, 1) := by decide +kernel
theorem dX11_losing_5 : decode cX11_losing 5 = .ok (.iconst 2, 1) := by decide +kernel
theorem dX11_losing_6 : decode cX11_losing 6 = .ok (.if_icmp .ge 79, 3) := by decide +kernel
theorem dX11_losing_9 : decode cX11_losing 9 = .ok (.iload_n 1, 1) := by decide +kernel
theorem dX11_losing_10 : decode cX11_losing 10 = .ok (.aload_n 0, 1) := by decide +kernel
theorem dX11_losing_11 : decode cX11_losing 11 = .ok (.getfield 34, 3) := by decide +kernel
theorem dX11_losing_14 : decode cX11_losing 14 = .ok (.iload_n 2, 1) := by decide +kernel
theorem dX11_losing_15 : decode cX11_losing 15 = .ok (.aaload, 1) := by decide +kernel
theorem dX11_losing_16 : decode cX11_losing 16 = .ok (.arraylength, 1) := by decide +kernel
theorem dX11_losing_17 : decode cX11_losing 17 = .ok (.iadd, 1) := by decide +kernel
theorem dX11_losing_18 : decode cX11_losing 18 = .ok (.istore_n 1, 1) := by decide +kernel
theorem dX11_losing_19 : decode cX11_losing 19 = .ok (.aload_n 0, 1) := by decide +kernel
theorem dX11_losing_20 : decode cX11_losing 20 = .ok (.getfield 67, 3) := by decide +kernel
theorem dX11_losing_23 : decode cX11_losing 23 = .ok (.iload_n 2, 1) := by decide +kernel
theorem dX11_losing_24 : decode cX11_losing 24 = .ok (.aaload, 1) := by decide +kernel
theorem dX11_losing_25 : decode cX11_losing 25 = .ok (.astore_n 3, 1) := by decide +kernel
theorem dX11_losing_26 : decode cX11_losing 26 = .ok (.aload_n 3, 1) := by decide +kernel
theorem dX11_losing_27 : decode cX11_losing 27 = .ok (.arraylength, 1) := by decide +kernel
theorem dX11_losing_28 : decode cX11_losing 28 = .ok (.istore 4, 2) := by decide +kernel
theorem dX11_losing_30 : decode cX11_losing 30 = .ok (.iconst 0, 1) := by decide +kernel
theorem dX11_losing_31 : decode cX11_losing 31 = .ok (.istore 5, 2) := by decide +kernel
theorem dX11_losing_33 : decode cX11_losing 33 = .ok (.iload 5, 2) := by decide +kernel
theorem dX11_losing_35 : decode cX11_losing 35 = .ok (.iload 4, 2) := by decide +kernel
theorem dX11_losing_37 : decode cX11_losing 37 = .ok (.if_icmp .ge 42, 3) := by decide +kernel
theorem dX11_losing_40 : decode cX11_losing 40 = .ok (.aload_n 3, 1) := by decide +kernel
theorem dX11_losing_41 : decode cX11_losing 41 = .ok (.iload 5, 2) := by decide +kernel
theorem dX11_losing_43 : decode cX11_losing 43 = .ok (.aaload, 1) := by decide +kernel
theorem dX11_losing_44 : decode cX11_losing 44 = .ok (.astore 6, 2) := by decide +kernel
theorem dX11_losing_46 : decode cX11_losing 46 = .ok (.iload_n 1, 1) := by decide +kernel
theorem dX11_losing_47 : decode cX11_losing 47 = .ok (.aload 6, 2) := by decide +kernel
theorem dX11_losing_49 : decode cX11_losing 49 = .ok (.iconst 0, 1) := by decide +kernel
theorem dX11_losing_50 : decode cX11_losing 50 = .ok (.iaload, 1) := by decide +kernel
theorem dX11_losing_51 : decode cX11_losing 51 = .ok (.aload_n 0, 1) := by decide +kernel
theorem dX11_losing_52 : decode cX11_losing 52 = .ok (.getfield 49, 3) := by decide +kernel
theorem dX11_losing_55 : decode cX11_losing 55 = .ok (.iconst 1, 1) := by decide +kernel
theorem dX11_losing_56 : decode cX11_losing 56 = .ok (.iload_n 2, 1) := by decide +kernel
theorem dX11_losing_57 : decode cX11_losing 57 = .ok (.isub, 1) := by decide +kernel
theorem dX11_losing_58 : decode cX11_losing 58 = .ok (.iaload, 1) := by decide +kernel
theorem dX11_losing_59 : decode cX11_losing 59 = .ok (.if_icmp .lt 11, 3) := by decide +kernel
theorem dX11_losing_62 : decode cX11_losing 62 = .ok (.aload 6, 2) := by decide +kernel
theorem dX11_losing_64 : decode cX11_losing 64 = .ok (.arraylength, 1) := by decide +kernel
theorem dX11_losing_65 : decode cX11_losing 65 = .ok (.iconst 3, 1) := by decide +kernel
theorem dX11_losing_66 : decode cX11_losing 66 = .ok (.isub, 1) := by decide +kernel
theorem dX11_losing_67 : decode cX11_losing 67 = .ok (.goto 4, 3) := by decide +kernel
theorem dX11_losing_70 : decode cX11_losing 70 = .ok (.iconst 0, 1) := by decide +kernel
theorem dX11_losing_71 : decode cX11_losing 71 = .ok (.iadd, 1) := by decide +kernel
theorem dX11_losing_72 : decode cX11_losing 72 = .ok (.istore_n 1, 1) := by decide +kernel
theorem dX11_losing_73 : decode cX11_losing 73 = .ok (.iinc 5 1, 3) := by decide +kernel
theorem dX11_losing_76 : decode cX11_losing 76 = .ok (.goto (-43), 3) := by decide +kernel
theorem dX11_losing_79 : decode cX11_losing 79 = .ok (.iinc 2 1, 3) := by decide +kernel
theorem dX11_losing_82 : decode cX11_losing 82 = .ok (.goto (-78), 3) := by decide +kernel
theorem dX11_losing_85 : decode cX11_losing 85 = .ok (.iload_n 1, 1) := by decide +kernel
theorem dX11_losing_86 : decode cX11_losing 86 = .ok (.ireturn, 1) := by decide +kernel
def f_O_losing_79 (o : Nat) (hp : gH) (k4 : Int → Int → Option (Int)) (x1 : Int) (x2 : Int) : Option (Int) :=
     k4 x1 (x2 + 1)
set_option maxRecDepth 1000000 in
set_option maxHeartbeats 4000000 in
theorem t_O_losing_79 {P : gG → Prop} {d : Nat} {m : xM} {hp : gH} {r : Int} (hd9 : 1 ≤ d) (C : ∀ Γ, P Γ → gX Γ lay_X RX11 cX11_losing 7 d hp) (o : Nat) (hR : ∀ Γ, P Γ → gRi Γ lay_X cX11_losing r m hp) {k4 : Int → Int → Option (Int)} (hk4 : ∀ (x1 : Int) (x2 : Int), k4 x1 x2 = some r → gJ P lay_X 7 4 [(0, .inr (.inr (some o))), (1, .inl x1), (2, .inl x2)] [] m hp hp) (x1 : Int) (x2 : Int) (h : f_O_losing_79 o hp k4 x1 x2 = some r) : gJ P lay_X 7 79 [(0, .inr (.inr (some o))), (1, .inl x1), (2, .inl x2)] [] m hp hp := by
  unfold f_O_losing_79 at h
  refine g_iinc C dX11_losing_79 (by decide) rfl ?_
  refine g_goto C 4 dX11_losing_82 (by decide) ?_
  refine g_loc [(0, .inr (.inr (some o))), (1, .inl x1), (2, .inl (x2 + 1))] ⟨rfl, rfl, rfl, trivial⟩ ?_
  exact hk4 _ _ h
def f_O_losing_71 (o : Nat) (hp : gH) (k4 : Int → Int → Option (Int)) (k33 : Int → Int → Nat → Int → Int → Option (Int)) (x2 : Int) (x3 : Nat) (x4 : Int) (x5 : Int) (s0 : Int) (s1 : Int) : Option (Int) :=
     k33 (s1 + s0) x2 x3 x4 (x5 + 1)
set_option maxRecDepth 1000000 in
set_option maxHeartbeats 4000000 in
theorem t_O_losing_71 {P : gG → Prop} {d : Nat} {m : xM} {hp : gH} {r : Int} (hd9 : 1 ≤ d) (C : ∀ Γ, P Γ → gX Γ lay_X RX11 cX11_losing 7 d hp) (o : Nat) (hR : ∀ Γ, P Γ → gRi Γ lay_X cX11_losing r m hp) {k4 : Int → Int → Option (Int)} (hk4 : ∀ (x1 : Int) (x2 : Int), k4 x1 x2 = some r → gJ P lay_X 7 4 [(0, .inr (.inr (some o))), (1, .inl x1), (2, .inl x2)] [] m hp hp) {k33 : Int → Int → Nat → Int → Int → Option (Int)} (hk33 : ∀ (x1 : Int) (x2 : Int) (x3 : Nat) (x4 : Int) (x5 : Int), k33 x1 x2 x3 x4 x5 = some r → gJ P lay_X 7 33 [(0, .inr (.inr (some o))), (1, .inl x1), (2, .inl x2), (3, .inr (.inr (some x3))), (4, .inl x4), (5, .inl x5)] [] m hp hp) (x2 : Int) (x3 : Nat) (x4 : Int) (x5 : Int) (s0 : Int) (s1 : Int) (h : f_O_losing_71 o hp k4 k33 x2 x3 x4 x5 s0 s1 = some r) : gJ P lay_X 7 71 [(0, .inr (.inr (some o))), (2, .inl x2), (3, .inr (.inr (some x3))), (4, .inl x4), (5, .inl x5)] [.inl s0, .inl s1] m hp hp := by
  unfold f_O_losing_71 at h
  refine g_iadd C dX11_losing_71 ?_
  refine g_istore_n C dX11_losing_72 (by decide) ?_
  refine g_iinc C dX11_losing_73 (by decide) rfl ?_
  refine g_goto C 33 dX11_losing_76 (by decide) ?_
  refine g_loc [(0, .inr (.inr (some o))), (1, .inl (s1 + s0)), (2, .inl x2), (3, .inr (.inr (some x3))), (4, .inl x4), (5, .inl (x5 + 1))] ⟨rfl, rfl, rfl, rfl, rfl, rfl, trivial⟩ ?_
  exact hk33 _ _ _ _ _ h
def f_O_losing_33 (o : Nat) (hp : gH) (k4 : Int → Int → Option (Int)) : Nat → Int → Int → Nat → Int → Int → Option (Int)
  | 0, _, _, _, _, _ => none
  | n + 1, x1, x2, x3, x4, x5 =>
     (if xw x5 < xw x4 then (Option.bind (gaK 4 hp x3 x5) fun q6 =>
      (Option.bind (gaN 0 hp q6 0) fun q7 =>
      (Option.bind (gfK hp o 23) fun q8 =>
      (Option.bind (gaN 0 hp q8 (1 - x2)) fun q9 =>
      (if xw q7 < xw q9 then f_O_losing_71 o hp k4 (f_O_losing_33 o hp k4 n) x2 x3 x4 x5 0 x1
      else (Option.bind (glc hp q6) fun q10 =>
      f_O_losing_71 o hp k4 (f_O_losing_33 o hp k4 n) x2 x3 x4 x5 (q10 - 3) x1))))))
      else f_O_losing_79 o hp k4 x1 x2)
set_option maxRecDepth 1000000 in
set_option maxHeartbeats 4000000 in
theorem t_O_losing_33 {P : gG → Prop} {d : Nat} {m : xM} {hp : gH} {r : Int} (hd9 : 1 ≤ d) (C : ∀ Γ, P Γ → gX Γ lay_X RX11 cX11_losing 7 d hp) (o : Nat) (hR : ∀ Γ, P Γ → gRi Γ lay_X cX11_losing r m hp) {k4 : Int → Int → Option (Int)} (hk4 : ∀ (x1 : Int) (x2 : Int), k4 x1 x2 = some r → gJ P lay_X 7 4 [(0, .inr (.inr (some o))), (1, .inl x1), (2, .inl x2)] [] m hp hp) : ∀ (n : Nat) (x1 : Int) (x2 : Int) (x3 : Nat) (x4 : Int) (x5 : Int), f_O_losing_33 o hp k4 n x1 x2 x3 x4 x5 = some r → gJ P lay_X 7 33 [(0, .inr (.inr (some o))), (1, .inl x1), (2, .inl x2), (3, .inr (.inr (some x3))), (4, .inl x4), (5, .inl x5)] [] m hp hp := by
  intro n
  induction n with
  | zero => intro _ _ _ _ _ h; cases h
  | succ n ih =>
    intro x1 x2 x3 x4 x5 h
    rw [f_O_losing_33] at h
    refine g_iload C dX11_losing_33 rfl ?_
    refine g_iload C dX11_losing_35 rfl ?_
    refine g_icmp_ge C 79 dX11_losing_37 (by decide) h (fun h => ?_) (fun h => ?_)
    · refine g_loc [(0, .inr (.inr (some o))), (1, .inl x1), (2, .inl x2)] ⟨rfl, rfl, rfl, trivial⟩ ?_
      exact t_O_losing_79 hd9 C _ hR hk4 _ _ h
    · refine g_aload_n C dX11_losing_40 rfl ?_
      refine g_iload C dX11_losing_41 rfl ?_
      obtain ⟨q6, hq6, h⟩ := x_bind h
      refine g_aaloadK4 C dX11_losing_43 hq6 ?_
      refine g_astore C dX11_losing_44 (by decide) ?_
      refine g_iload_n C dX11_losing_46 rfl ?_
      refine g_aload C dX11_losing_47 rfl ?_
      refine g_iconst C dX11_losing_49 ?_
      obtain ⟨q7, hq7, h⟩ := x_bind h
      refine g_iaload C dX11_losing_50 hq7 ?_
      refine g_aload_n C dX11_losing_51 rfl ?_
      obtain ⟨q8, hq8, h⟩ := x_bind h
      refine g_getK C dX11_losing_52 fF_X11_49 hq8 ?_
      refine g_iconst C dX11_losing_55 ?_
      refine g_iload_n C dX11_losing_56 rfl ?_
      refine g_isub C dX11_losing_57 ?_
      obtain ⟨q9, hq9, h⟩ := x_bind h
      refine g_iaload C dX11_losing_58 hq9 ?_
      refine g_icmp_lt C 70 dX11_losing_59 (by decide) h (fun h => ?_) (fun h => ?_)
      · refine g_iconst C dX11_losing_70 ?_
        refine g_loc [(0, .inr (.inr (some o))), (2, .inl x2), (3, .inr (.inr (some x3))), (4, .inl x4), (5, .inl x5)] ⟨rfl, rfl, rfl, rfl, rfl, trivial⟩ ?_
        exact t_O_losing_71 hd9 C _ hR hk4 ih _ _ _ _ _ _ h
      · refine g_aload C dX11_losing_62 rfl ?_
        obtain ⟨q10, hq10, h⟩ := x_bind h
        refine g_lenC C dX11_losing_64 hq10 ?_
        refine g_iconst C dX11_losing_65 ?_
        refine g_isub C dX11_losing_66 ?_
        refine g_goto C 71 dX11_losing_67 (by decide) ?_
        refine g_loc [(0, .inr (.inr (some o))), (2, .inl x2), (3, .inr (.inr (some x3))), (4, .inl x4), (5, .inl x5)] ⟨rfl, rfl, rfl, rfl, rfl, trivial⟩ ?_
        exact t_O_losing_71 hd9 C _ hR hk4 ih _ _ _ _ _ _ h
def f_O_losing_4 (o : Nat) (hp : gH) : Nat → Int → Int → Option (Int)
  | 0, _, _ => none
  | n + 1, x1, x2 =>
     (if xw x2 < xw 2 then (Option.bind (gfK hp o 18) fun q0 =>
      (Option.bind (gaK 4 hp q0 x2) fun q1 =>
      (Option.bind (glc hp q1) fun q2 =>
      (Option.bind (gfK hp o 28) fun q3 =>
      (Option.bind (gaK 5 hp q3 x2) fun q4 =>
      (Option.bind (glc hp q4) fun q5 =>
      f_O_losing_33 o hp (f_O_losing_4 o hp n) fu (x1 + q2) x2 q4 q5 0))))))
      else some x1)
set_option maxRecDepth 1000000 in
set_option maxHeartbeats 4000000 in
theorem t_O_losing_4 {P : gG → Prop} {d : Nat} {m : xM} {hp : gH} {r : Int} (hd9 : 1 ≤ d) (C : ∀ Γ, P Γ → gX Γ lay_X RX11 cX11_losing 7 d hp) (o : Nat) (hR : ∀ Γ, P Γ → gRi Γ lay_X cX11_losing r m hp) : ∀ (n : Nat) (x1 : Int) (x2 : Int), f_O_losing_4 o hp n x1 x2 = some r → gJ P lay_X 7 4 [(0, .inr (.inr (some o))), (1, .inl x1), (2, .inl x2)] [] m hp hp := by
  intro n
  induction n with
  | zero => intro _ _ h; cases h
  | succ n ih =>
    intro x1 x2 h
    rw [f_O_losing_4] at h
    refine g_iload_n C dX11_losing_4 rfl ?_
    refine g_iconst C dX11_losing_5 ?_
    refine g_icmp_ge C 85 dX11_losing_6 (by decide) h (fun h => ?_) (fun h => ?_)
    · refine g_iload_n C dX11_losing_85 rfl ?_
      exact g_ireturn hR dX11_losing_86 (by cases h; exact ⟨rfl, rfl, rfl⟩)
    · refine g_iload_n C dX11_losing_9 rfl ?_
      refine g_aload_n C dX11_losing_10 rfl ?_
      obtain ⟨q0, hq0, h⟩ := x_bind h
      refine g_getK C dX11_losing_11 fF_X11_34 hq0 ?_
      refine g_iload_n C dX11_losing_14 rfl ?_
      obtain ⟨q1, hq1, h⟩ := x_bind h
      refine g_aaloadK4 C dX11_losing_15 hq1 ?_
      obtain ⟨q2, hq2, h⟩ := x_bind h
      refine g_lenC C dX11_losing_16 hq2 ?_
      refine g_iadd C dX11_losing_17 ?_
      refine g_istore_n C dX11_losing_18 (by decide) ?_
      refine g_aload_n C dX11_losing_19 rfl ?_
      obtain ⟨q3, hq3, h⟩ := x_bind h
      refine g_getK C dX11_losing_20 fF_X11_67 hq3 ?_
      refine g_iload_n C dX11_losing_23 rfl ?_
      obtain ⟨q4, hq4, h⟩ := x_bind h
      refine g_aaloadK5 C dX11_losing_24 hq4 ?_
      refine g_astore_n C dX11_losing_25 (by decide) ?_
      refine g_aload_n C dX11_losing_26 rfl ?_
      obtain ⟨q5, hq5, h⟩ := x_bind h
      refine g_lenC C dX11_losing_27 hq5 ?_
      refine g_istore C dX11_losing_28 (by decide) ?_
      refine g_iconst C dX11_losing_30 ?_
      refine g_istore C dX11_losing_31 (by decide) ?_
      refine g_loc [(0, .inr (.inr (some o))), (1, .inl (x1 + q2)), (2, .inl x2), (3, .inr (.inr (some q4))), (4, .inl q5), (5, .inl 0)] ⟨rfl, rfl, rfl, rfl, rfl, rfl, trivial⟩ ?_
      exact t_O_losing_33 hd9 C _ hR ih fu _ _ _ _ _ h
def f_O_losing (o : Nat) (hp : gH) : Option (Int) :=
     f_O_losing_4 o hp fu 0 0
set_option maxRecDepth 1000000 in
set_option maxHeartbeats 4000000 in
theorem t_O_losing {P : gG → Prop} {d : Nat} {m : xM} {hp : gH} {r : Int} (hd9 : 1 ≤ d) (C : ∀ Γ, P Γ → gX Γ lay_X RX11 cX11_losing 7 d hp) (o : Nat) (hR : ∀ Γ, P Γ → gRi Γ lay_X cX11_losing r m hp) (h : f_O_losing o hp = some r) : gJ P lay_X 7 0 [(0, .inr (.inr (some o)))] [] m hp hp := by
  unfold f_O_losing at h
  refine g_iconst C dX11_losing_0 ?_
  refine g_istore_n C dX11_losing_1 (by decide) ?_
  refine g_iconst C dX11_losing_2 ?_
  refine g_istore_n C dX11_losing_3 (by decide) ?_
  refine g_loc [(0, .inr (.inr (some o))), (1, .inl 0), (2, .inl 0)] ⟨rfl, rfl, rfl, trivial⟩ ?_
  exact t_O_losing_4 hd9 C _ hR fu _ _ h
theorem c_O_losing {o : Nat} (m : xM) {r : Int} {hp : gH} (h : f_O_losing o hp = some r) (l : Launch) : gMet l yX11_losing cX11_losing 7 (some .int) 1 lay_X [.inr (.inr (some o))] m hp (some (.inl r)) m hp :=
  gMet_i (by decide +kernel) (Nat.le_of_ble_eq_true rfl) (fun P C hR => t_O_losing (Nat.le_refl _) C _ hR h)

/-- a call seen through the first places of a view alone -/
theorem xwld_cg {ad : Nat → Nat} {dA : Nat → ClassId} {m m' : xM} : ∀ {lay : List xS} {b : Nat}, (∀ k, k < lay.length → m (b + k) = m' (b + k)) → xwld ad dA m b lay = xwld ad dA m' b lay
  | [], _, _ => rfl
  | s :: t, b, h => by
    show (ad b, xent ad dA (m b) s) :: xwld ad dA m (b + 1) t = (ad b, xent ad dA (m' b) s) :: xwld ad dA m' (b + 1) t
    rw [show m b = m' b from h 0 (Nat.succ_pos _), xwld_cg (m := m) (m' := m') (lay := t) (b := b + 1) (fun k hk => by rw [show b + 1 + k = b + (k + 1) by omega]; exact h (k + 1) (Nat.succ_lt_succ hk))]
theorem xMet.cg {l : Launch} {y : MethodName} {cc : ByteArray} {maxL d : Nat} {ret : Option FieldType} {lay : List xS} {av : List xV} {m m' mY : xM} {rv : Option xV} (hM : xMet l y cc maxL ret d lay av m rv mY) (h : ∀ k, k < lay.length → m k = m' k) : xMet l y cc maxL ret d lay av m' rv mY := by
  intro dC dI dA ad sz
  have e : xPre dC dI dA ad lay m' sz = xPre dC dI dA ad lay m sz := by
    funext U
    unfold xPre
    rw [xwld_cg (m := m') (m' := m) (b := 0) (fun k hk => by rw [Nat.zero_add]; exact (h k hk).symm)]
  rw [e]
  exact hM dC dI dA ad sz
theorem xT_tk {T T0 : List Nat} {n : Nat} (h : T.take n = T0) {k : Nat} (hk : k < n) : xT T0 k = xT T k := by
  unfold xT
  by_cases h1 : k < 1000
  · rw [if_pos h1, if_pos h1, ← h, List.getD_eq_getElem?_getD, List.getD_eq_getElem?_getD, List.getElem?_take_of_lt hk]
  · rw [if_neg h1, if_neg h1]
theorem xmg_tk {T T0 : List Nat} {n : Nat} (h : T.take n = T0) (m mY : xM) : xmg T n m mY = xmg T0 n m mY := by
  have e : T0.take n = T.take n := by rw [← h, List.take_take, Nat.min_self]
  funext i
  unfold xmg
  rw [e]
theorem x_some1 {α : Type} {c : Prop} [Decidable c] {b : Option α} {r : α} (h : (if c then b else none) = some r) : c ∧ b = some r := x_some (a := r) h
section XCALLZ
variable {Γ : xG} {lay layY : List xS} {own : String} {cc cY : ByteArray} {nL d pc idx maxL dY n b ci : Nat} {L : List (Nat × xV)} {st : List xV} {m mY : xM} {y : MethodName} {ret : Option FieldType} {rv : Option xV} {T : List Nat} {av : List xV} {fs : List (Option Nat)}
theorem x_callV0 (C : xC Γ lay own cc nL d) (hd : decode cc pc = .ok (.invokevirtual idx, 3)) (hl : Cond.methodLink own idx y ∈ wsL_law) (hY : xY y cY maxL ret n) (hin : Cond.instanceMethod y ∈ wsL_law) (hse : Cond.selects y.cls y y ∈ wsL_law) (T : List Nat) (hT : xview lay layY T) {T0 : List Nat} (h0 : T.take layY.length = T0) (hdd : dY + 1 ≤ d) (hmax : maxL ≤ 11)
    (hb : layY[b]? = some (.inl (ci, fs))) (hci : ∃ TT N, vwCl[ci]? = some (y.cls, TT, N)) (hn : av.length = n) (hst : (st.map xcat).sum ≤ 8)
    (hM : xMet Γ.1.2.1 y cY maxL ret dY layY (.inr (.inr (some b)) :: av) (xvw T0 m) rv mY) {stk : List xV} (hs : stk = (av.map (xren T)).reverse ++ .inr (.inr (some (xT T b))) :: st)
    (k : xW Γ lay nL (pc + 3) L ((rv.map (xren T)).toList ++ st) (xmg T0 layY.length m mY)) : xW Γ lay nL pc L stk m :=
  x_callV C hd hl hY hin hse T hT hdd hmax hb hci hn hst (hM.cg (fun k hk => by show m (xT T0 k) = m (xT T k); rw [xT_tk h0 hk])) hs (by rw [xmg_tk h0]; exact k)
end XCALLZ
theorem fF_X3_12 : xF RX3 12 4 1 (.object "ModemLink$End") true := ⟨RX3, TX3, 17, tyX3, rfl, by decide, (xin_3 _ (List.mem_of_getElem? (i := 22) rfl)), rfl, inlX3, tyX3_ok, nmX3, rfl, rfl⟩
theorem fF_X3_18 : xF RX3 18 4 2 (.object "ModemLink$End") true := ⟨RX3, TX3, 17, tyX3, rfl, by decide, (xin_3 _ (List.mem_of_getElem? (i := 23) rfl)), rfl, inlX3, tyX3_ok, nmX3, rfl, rfl⟩
theorem dX3_endOf_0 : decode cX3_endOf 0 = .ok (.iload_n 1, 1) := by decide +kernel
theorem dX3_endOf_1 : decode cX3_endOf 1 = .ok (.ifCond .ne 10, 3) := by decide +kernel
theorem dX3_endOf_4 : decode cX3_endOf 4 = .ok (.aload_n 0, 1) := by decide +kernel
theorem dX3_endOf_5 : decode cX3_endOf 5 = .ok (.getfield 12, 3) := by decide +kernel
theorem dX3_endOf_8 : decode cX3_endOf 8 = .ok (.goto 7, 3) := by decide +kernel
theorem dX3_endOf_11 : decode cX3_endOf 11 = .ok (.aload_n 0, 1) := by decide +kernel
theorem dX3_endOf_12 : decode cX3_endOf 12 = .ok (.getfield 18, 3) := by decide +kernel
theorem dX3_endOf_15 : decode cX3_endOf 15 = .ok (.areturn, 1) := by decide +kernel
theorem c_endOf0 (l : Launch) (e : Int) (m : xM) (h : xw e = 0) : xMet l yX3_endOf cX3_endOf 2 (some (.object "ModemLink$End")) 1 lay_eo [.inr (.inr (some 0)), .inl e] m (some (.inr (.inr (some 2)))) m :=
  xMet_a (by decide +kernel) (Nat.le_of_ble_eq_true rfl) (fun Γ C hR _ => by
    refine x_iload_n C dX3_endOf_0 rfl ?_
    refine x_if_neN C 11 dX3_endOf_1 (by decide) h ?_
    refine x_aload_n C dX3_endOf_4 rfl ?_
    refine x_getR C dX3_endOf_5 fF_X3_12 rfl rfl ?_
    refine x_goto C 15 dX3_endOf_8 (by decide) ?_
    exact x_areturn hR dX3_endOf_15)
theorem c_endOf1 (l : Launch) (e : Int) (m : xM) (h : ¬ xw e = 0) : xMet l yX3_endOf cX3_endOf 2 (some (.object "ModemLink$End")) 1 lay_eo [.inr (.inr (some 0)), .inl e] m (some (.inr (.inr (some 3)))) m :=
  xMet_a (by decide +kernel) (Nat.le_of_ble_eq_true rfl) (fun Γ C hR _ => by
    refine x_iload_n C dX3_endOf_0 rfl ?_
    refine x_if_neT C 11 dX3_endOf_1 (by decide) h ?_
    refine x_aload_n C dX3_endOf_11 rfl ?_
    refine x_getR C dX3_endOf_12 fF_X3_18 rfl rfl ?_
    exact x_areturn hR dX3_endOf_15)
/-! ===== the line ===== -/
/-! ===== yX3_copyFrom ===== -/
theorem xy_X1_copyFrom : xY yX1_copyFrom cX1_copyFrom 2 none 1 := ⟨(xin_18 _ (List.mem_of_getElem? (i := 12) rfl)), (xin_3 _ (List.mem_of_getElem? (i := 21) rfl)), by decide, by decide, by decide +kernel⟩
theorem xi_X1_copyFrom : Cond.instanceMethod yX1_copyFrom ∈ wsL_law := (xin_18 _ (List.mem_of_getElem? (i := 10) rfl))
theorem xs_X1_copyFrom : Cond.selects yX1_copyFrom.cls yX1_copyFrom yX1_copyFrom ∈ wsL_law := (xin_18 _ (List.mem_of_getElem? (i := 11) rfl))
theorem xv_10 : xview lay_LL lay_E2 [1, 2, 3, 4, 5, 6, 7, 8, 9, 10, 11, 34, 35, 36, 37, 38, 39, 40, 41, 42, 43, 44] := xview_of (by decide +kernel)
theorem xv_11 : xview lay_LL lay_E2 [12, 13, 14, 15, 16, 17, 18, 19, 20, 21, 22, 45, 46, 47, 48, 49, 50, 51, 52, 53, 54, 55] := xview_of (by decide +kernel)
theorem fF_X3_24 : xF RX3 24 4 3 (.object "ModemLink$Wire") true := ⟨RX3, TX3, 17, tyX3, rfl, by decide, (xin_4 _ (List.mem_of_getElem? (i := 3) rfl)), rfl, inlX3, tyX3_ok, nmX3, rfl, rfl⟩
theorem xy_X9_copyFrom : xY yX9_copyFrom cX9_copyFrom 2 none 1 := ⟨(xin_19 _ (List.mem_of_getElem? (i := 9) rfl)), (xin_4 _ (List.mem_of_getElem? (i := 2) rfl)), by decide, by decide, by decide +kernel⟩
theorem xi_X9_copyFrom : Cond.instanceMethod yX9_copyFrom ∈ wsL_law := (xin_19 _ (List.mem_of_getElem? (i := 7) rfl))
theorem xs_X9_copyFrom : Cond.selects yX9_copyFrom.cls yX9_copyFrom yX9_copyFrom ∈ wsL_law := (xin_19 _ (List.mem_of_getElem? (i := 8) rfl))
theorem xv_12 : xview lay_LL lay_Wi2 [23, 24, 25, 26, 27, 56, 57, 58, 59, 60] := xview_of (by decide +kernel)
theorem fF_X3_31 : xF RX3 31 4 4 (.object "ModemLink$Log") true := ⟨RX3, TX3, 17, tyX3, rfl, by decide, (xin_4 _ (List.mem_of_getElem? (i := 7) rfl)), rfl, inlX3, tyX3_ok, nmX3, rfl, rfl⟩
theorem xy_X4_copyFrom : xY yX4_copyFrom cX4_copyFrom 2 none 1 := ⟨(xin_19 _ (List.mem_of_getElem? (i := 16) rfl)), (xin_4 _ (List.mem_of_getElem? (i := 6) rfl)), by decide, by decide, by decide +kernel⟩
theorem xi_X4_copyFrom : Cond.instanceMethod yX4_copyFrom ∈ wsL_law := (xin_19 _ (List.mem_of_getElem? (i := 14) rfl))
theorem xs_X4_copyFrom : Cond.selects yX4_copyFrom.cls yX4_copyFrom yX4_copyFrom ∈ wsL_law := (xin_19 _ (List.mem_of_getElem? (i := 15) rfl))
theorem xv_13 : xview lay_LL lay_G2 [28, 29, 61, 62] := xview_of (by decide +kernel)
theorem fF_X3_35 : xF RX3 35 4 5 (.array .int) true := ⟨RX3, TX3, 17, tyX3, rfl, by decide, (xin_4 _ (List.mem_of_getElem? (i := 8) rfl)), rfl, inlX3, tyX3_ok, nmX3, rfl, rfl⟩
theorem fF_X3_61 : xF RX3 61 4 7 .int false := ⟨RX3, TX3, 17, tyX3, rfl, by decide, (xin_7 _ (List.mem_of_getElem? (i := 18) rfl)), rfl, inlX3, tyX3_ok, nmX3, rfl, rfl⟩
theorem fF_X3_64 : xF RX3 64 4 8 .int false := ⟨RX3, TX3, 17, tyX3, rfl, by decide, (xin_7 _ (List.mem_of_getElem? (i := 19) rfl)), rfl, inlX3, tyX3_ok, nmX3, rfl, rfl⟩
theorem fF_X3_72 : xF RX3 72 4 9 .int false := ⟨RX3, TX3, 17, tyX3, rfl, by decide, (xin_7 _ (List.mem_of_getElem? (i := 21) rfl)), rfl, inlX3, tyX3_ok, nmX3, rfl, rfl⟩
theorem fF_X3_73 : xF RX3 73 4 10 .int false := ⟨RX3, TX3, 17, tyX3, rfl, by decide, (xin_7 _ (List.mem_of_getElem? (i := 22) rfl)), rfl, inlX3, tyX3_ok, nmX3, rfl, rfl⟩
theorem fF_X3_98 : xF RX3 98 4 11 .int false := ⟨RX3, TX3, 17, tyX3, rfl, by decide, (xin_18 _ (List.mem_of_getElem? (i := 5) rfl)), rfl, inlX3, tyX3_ok, nmX3, rfl, rfl⟩
theorem fF_X3_101 : xF RX3 101 4 12 .int false := ⟨RX3, TX3, 17, tyX3, rfl, by decide, (xin_18 _ (List.mem_of_getElem? (i := 6) rfl)), rfl, inlX3, tyX3_ok, nmX3, rfl, rfl⟩
theorem fF_X3_104 : xF RX3 104 4 13 .int false := ⟨RX3, TX3, 17, tyX3, rfl, by decide, (xin_18 _ (List.mem_of_getElem? (i := 7) rfl)), rfl, inlX3, tyX3_ok, nmX3, rfl, rfl⟩
theorem fF_X3_107 : xF RX3 107 4 14 .int false := ⟨RX3, TX3, 17, tyX3, rfl, by decide, (xin_18 _ (List.mem_of_getElem? (i := 8) rfl)), rfl, inlX3, tyX3_ok, nmX3, rfl, rfl⟩
theorem fF_X3_76 : xF RX3 76 4 15 .int false := ⟨RX3, TX3, 17, tyX3, rfl, by decide, (xin_7 _ (List.mem_of_getElem? (i := 23) rfl)), rfl, inlX3, tyX3_ok, nmX3, rfl, rfl⟩
theorem fF_X3_79 : xF RX3 79 4 16 .int false := ⟨RX3, TX3, 17, tyX3, rfl, by decide, (xin_8 _ (List.mem_of_getElem? (i := 0) rfl)), rfl, inlX3, tyX3_ok, nmX3, rfl, rfl⟩
theorem dX3_copyFrom_0 : decode cX3_copyFrom 0 = .ok (.aload_n 0, 1) := by decide +kernel
theorem dX3_copyFrom_1 : decode cX3_copyFrom 1 = .ok (.getfield 12, 3) := by decide +kernel
theorem dX3_copyFrom_4 : decode cX3_copyFrom 4 = .ok (.aload_n 1, 1) := by decide +kernel
theorem dX3_copyFrom_5 : decode cX3_copyFrom 5 = .ok (.getfield 12, 3) := by decide +kernel
theorem dX3_copyFrom_8 : decode cX3_copyFrom 8 = .ok (.invokevirtual 82, 3) := by decide +kernel
theorem dX3_copyFrom_11 : decode cX3_copyFrom 11 = .ok (.aload_n 0, 1) := by decide +kernel
theorem dX3_copyFrom_12 : decode cX3_copyFrom 12 = .ok (.getfield 18, 3) := by decide +kernel
theorem dX3_copyFrom_15 : decode cX3_copyFrom 15 = .ok (.aload_n 1, 1) := by decide +kernel
theorem dX3_copyFrom_16 : decode cX3_copyFrom 16 = .ok (.getfield 18, 3) := by decide +kernel
theorem dX3_copyFrom_19 : decode cX3_copyFrom 19 = .ok (.invokevirtual 82, 3) := by decide +kernel
theorem dX3_copyFrom_22 : decode cX3_copyFrom 22 = .ok (.aload_n 0, 1) := by decide +kernel
theorem dX3_copyFrom_23 : decode cX3_copyFrom 23 = .ok (.getfield 24, 3) := by decide +kernel
theorem dX3_copyFrom_26 : decode cX3_copyFrom 26 = .ok (.aload_n 1, 1) := by decide +kernel
theorem dX3_copyFrom_27 : decode cX3_copyFrom 27 = .ok (.getfield 24, 3) := by decide +kernel
theorem dX3_copyFrom_30 : decode cX3_copyFrom 30 = .ok (.invokevirtual 86, 3) := by decide +kernel
theorem dX3_copyFrom_33 : decode cX3_copyFrom 33 = .ok (.aload_n 0, 1) := by decide +kernel
theorem dX3_copyFrom_34 : decode cX3_copyFrom 34 = .ok (.getfield 31, 3) := by decide +kernel
theorem dX3_copyFrom_37 : decode cX3_copyFrom 37 = .ok (.aload_n 1, 1) := by decide +kernel
theorem dX3_copyFrom_38 : decode cX3_copyFrom 38 = .ok (.getfield 31, 3) := by decide +kernel
theorem dX3_copyFrom_41 : decode cX3_copyFrom 41 = .ok (.invokevirtual 89, 3) := by decide +kernel
theorem dX3_copyFrom_44 : decode cX3_copyFrom 44 = .ok (.aload_n 1, 1) := by decide +kernel
theorem dX3_copyFrom_45 : decode cX3_copyFrom 45 = .ok (.getfield 35, 3) := by decide +kernel
theorem dX3_copyFrom_48 : decode cX3_copyFrom 48 = .ok (.iconst 0, 1) := by decide +kernel
theorem dX3_copyFrom_49 : decode cX3_copyFrom 49 = .ok (.aload_n 0, 1) := by decide +kernel
theorem dX3_copyFrom_50 : decode cX3_copyFrom 50 = .ok (.getfield 35, 3) := by decide +kernel
theorem dX3_copyFrom_53 : decode cX3_copyFrom 53 = .ok (.iconst 0, 1) := by decide +kernel
theorem dX3_copyFrom_54 : decode cX3_copyFrom 54 = .ok (.bipush 11, 2) := by decide +kernel
theorem dX3_copyFrom_56 : decode cX3_copyFrom 56 = .ok (.invokestatic 92, 3) := by decide +kernel
theorem dX3_copyFrom_59 : decode cX3_copyFrom 59 = .ok (.aload_n 0, 1) := by decide +kernel
theorem dX3_copyFrom_60 : decode cX3_copyFrom 60 = .ok (.aload_n 1, 1) := by decide +kernel
theorem dX3_copyFrom_61 : decode cX3_copyFrom 61 = .ok (.getfield 61, 3) := by decide +kernel
theorem dX3_copyFrom_64 : decode cX3_copyFrom 64 = .ok (.putfield 61, 3) := by decide +kernel
theorem dX3_copyFrom_67 : decode cX3_copyFrom 67 = .ok (.aload_n 0, 1) := by decide +kernel
theorem dX3_copyFrom_68 : decode cX3_copyFrom 68 = .ok (.aload_n 1, 1) := by decide +kernel
theorem dX3_copyFrom_69 : decode cX3_copyFrom 69 = .ok (.getfield 64, 3) := by decide +kernel
theorem dX3_copyFrom_72 : decode cX3_copyFrom 72 = .ok (.putfield 64, 3) := by decide +kernel
theorem dX3_copyFrom_75 : decode cX3_copyFrom 75 = .ok (.aload_n 0, 1) := by decide +kernel
theorem dX3_copyFrom_76 : decode cX3_copyFrom 76 = .ok (.aload_n 1, 1) := by decide +kernel
theorem dX3_copyFrom_77 : decode cX3_copyFrom 77 = .ok (.getfield 72, 3) := by decide +kernel
theorem dX3_copyFrom_80 : decode cX3_copyFrom 80 = .ok (.putfield 72, 3) := by decide +kernel
theorem dX3_copyFrom_83 : decode cX3_copyFrom 83 = .ok (.aload_n 0, 1) := by decide +kernel
theorem dX3_copyFrom_84 : decode cX3_copyFrom 84 = .ok (.aload_n 1, 1) := by decide +kernel
theorem dX3_copyFrom_85 : decode cX3_copyFrom 85 = .ok (.getfield 73, 3) := by decide +kernel
theorem dX3_copyFrom_88 : decode cX3_copyFrom 88 = .ok (.putfield 73, 3) := by decide +kernel
theorem dX3_copyFrom_91 : decode cX3_copyFrom 91 = .ok (.aload_n 0, 1) := by decide +kernel
theorem dX3_copyFrom_92 : decode cX3_copyFrom 92 = .ok (.aload_n 1, 1) := by decide +kernel
theorem dX3_copyFrom_93 : decode cX3_copyFrom 93 = .ok (.getfield 98, 3) := by decide +kernel
theorem dX3_copyFrom_96 : decode cX3_copyFrom 96 = .ok (.putfield 98, 3) := by decide +kernel
theorem dX3_copyFrom_99 : decode cX3_copyFrom 99 = .ok (.aload_n 0, 1) := by decide +kernel
theorem dX3_copyFrom_100 : decode cX3_copyFrom 100 = .ok (.aload_n 1, 1) := by decide +kernel
theorem dX3_copyFrom_101 : decode cX3_copyFrom 101 = .ok (.getfield 101, 3) := by decide +kernel
theorem dX3_copyFrom_104 : decode cX3_copyFrom 104 = .ok (.putfield 101, 3) := by decide +kernel
theorem dX3_copyFrom_107 : decode cX3_copyFrom 107 = .ok (.aload_n 0, 1) := by decide +kernel
theorem dX3_copyFrom_108 : decode cX3_copyFrom 108 = .ok (.aload_n 1, 1) := by decide +kernel
theorem dX3_copyFrom_109 : decode cX3_copyFrom 109 = .ok (.getfield 104, 3) := by decide +kernel
theorem dX3_copyFrom_112 : decode cX3_copyFrom 112 = .ok (.putfield 104, 3) := by decide +kernel
theorem dX3_copyFrom_115 : decode cX3_copyFrom 115 = .ok (.aload_n 0, 1) := by decide +kernel
theorem dX3_copyFrom_116 : decode cX3_copyFrom 116 = .ok (.aload_n 1, 1) := by decide +kernel
theorem dX3_copyFrom_117 : decode cX3_copyFrom 117 = .ok (.getfield 107, 3) := by decide +kernel
theorem dX3_copyFrom_120 : decode cX3_copyFrom 120 = .ok (.putfield 107, 3) := by decide +kernel
theorem dX3_copyFrom_123 : decode cX3_copyFrom 123 = .ok (.aload_n 0, 1) := by decide +kernel
theorem dX3_copyFrom_124 : decode cX3_copyFrom 124 = .ok (.aload_n 1, 1) := by decide +kernel
theorem dX3_copyFrom_125 : decode cX3_copyFrom 125 = .ok (.getfield 76, 3) := by decide +kernel
theorem dX3_copyFrom_128 : decode cX3_copyFrom 128 = .ok (.putfield 76, 3) := by decide +kernel
theorem dX3_copyFrom_131 : decode cX3_copyFrom 131 = .ok (.aload_n 0, 1) := by decide +kernel
theorem dX3_copyFrom_132 : decode cX3_copyFrom 132 = .ok (.aload_n 1, 1) := by decide +kernel
theorem dX3_copyFrom_133 : decode cX3_copyFrom 133 = .ok (.getfield 79, 3) := by decide +kernel
theorem dX3_copyFrom_136 : decode cX3_copyFrom 136 = .ok (.putfield 79, 3) := by decide +kernel
theorem dX3_copyFrom_139 : decode cX3_copyFrom 139 = .ok (.return_, 1) := by decide +kernel
def f_L_cp_123 (m : xM) : Option (xM) :=
     some (xu (xu m 0 15 (m 33 15)) 0 16 (m 33 16))
set_option maxRecDepth 1000000 in
set_option maxHeartbeats 4000000 in
theorem t_L_cp_123 {Γ : xG} {d : Nat} (hd9 : 3 ≤ d) (C : xC Γ lay_LL RX3 cX3_copyFrom 2 d) {m9 : xM} (hR : xRv Γ lay_LL cX3_copyFrom m9) (m : xM) (h : f_L_cp_123 m = some m9) : xW Γ lay_LL 2 123 [(0, .inr (.inr (some 0))), (1, .inr (.inr (some 33)))] [] m := by
  unfold f_L_cp_123 at h
  refine x_aload_n C dX3_copyFrom_123 rfl ?_
  refine x_aload_n C dX3_copyFrom_124 rfl ?_
  refine x_getI C dX3_copyFrom_125 fF_X3_76 rfl rfl ?_
  refine x_putI C dX3_copyFrom_128 fF_X3_76 rfl rfl ?_
  refine x_aload_n C dX3_copyFrom_131 rfl ?_
  refine x_aload_n C dX3_copyFrom_132 rfl ?_
  refine x_getI C dX3_copyFrom_133 fF_X3_79 rfl rfl ?_
  refine x_putI C dX3_copyFrom_136 fF_X3_79 rfl rfl ?_
  exact x_returnV hR dX3_copyFrom_139 h
def f_L_cp_99 (m : xM) : Option (xM) :=
     f_L_cp_123 (xu (xu (xu m 0 12 (m 33 12)) 0 13 (m 33 13)) 0 14 (m 33 14))
set_option maxRecDepth 1000000 in
set_option maxHeartbeats 4000000 in
theorem t_L_cp_99 {Γ : xG} {d : Nat} (hd9 : 3 ≤ d) (C : xC Γ lay_LL RX3 cX3_copyFrom 2 d) {m9 : xM} (hR : xRv Γ lay_LL cX3_copyFrom m9) (m : xM) (h : f_L_cp_99 m = some m9) : xW Γ lay_LL 2 99 [(0, .inr (.inr (some 0))), (1, .inr (.inr (some 33)))] [] m := by
  unfold f_L_cp_99 at h
  refine x_aload_n C dX3_copyFrom_99 rfl ?_
  refine x_aload_n C dX3_copyFrom_100 rfl ?_
  refine x_getI C dX3_copyFrom_101 fF_X3_101 rfl rfl ?_
  refine x_putI C dX3_copyFrom_104 fF_X3_101 rfl rfl ?_
  refine x_aload_n C dX3_copyFrom_107 rfl ?_
  refine x_aload_n C dX3_copyFrom_108 rfl ?_
  refine x_getI C dX3_copyFrom_109 fF_X3_104 rfl rfl ?_
  refine x_putI C dX3_copyFrom_112 fF_X3_104 rfl rfl ?_
  refine x_aload_n C dX3_copyFrom_115 rfl ?_
  refine x_aload_n C dX3_copyFrom_116 rfl ?_
  refine x_getI C dX3_copyFrom_117 fF_X3_107 rfl rfl ?_
  refine x_putI C dX3_copyFrom_120 fF_X3_107 rfl rfl ?_
  refine x_loc [(0, .inr (.inr (some 0))), (1, .inr (.inr (some 33)))] ⟨rfl, rfl, trivial⟩ ?_
  exact t_L_cp_123 hd9 C hR _ h
def f_L_cp_67 (m : xM) : Option (xM) :=
     f_L_cp_99 (xu (xu (xu (xu m 0 8 (m 33 8)) 0 9 (m 33 9)) 0 10 (m 33 10)) 0 11 (m 33 11))
set_option maxRecDepth 1000000 in
set_option maxHeartbeats 4000000 in
theorem t_L_cp_67 {Γ : xG} {d : Nat} (hd9 : 3 ≤ d) (C : xC Γ lay_LL RX3 cX3_copyFrom 2 d) {m9 : xM} (hR : xRv Γ lay_LL cX3_copyFrom m9) (m : xM) (h : f_L_cp_67 m = some m9) : xW Γ lay_LL 2 67 [(0, .inr (.inr (some 0))), (1, .inr (.inr (some 33)))] [] m := by
  unfold f_L_cp_67 at h
  refine x_aload_n C dX3_copyFrom_67 rfl ?_
  refine x_aload_n C dX3_copyFrom_68 rfl ?_
  refine x_getI C dX3_copyFrom_69 fF_X3_64 rfl rfl ?_
  refine x_putI C dX3_copyFrom_72 fF_X3_64 rfl rfl ?_
  refine x_aload_n C dX3_copyFrom_75 rfl ?_
  refine x_aload_n C dX3_copyFrom_76 rfl ?_
  refine x_getI C dX3_copyFrom_77 fF_X3_72 rfl rfl ?_
  refine x_putI C dX3_copyFrom_80 fF_X3_72 rfl rfl ?_
  refine x_aload_n C dX3_copyFrom_83 rfl ?_
  refine x_aload_n C dX3_copyFrom_84 rfl ?_
  refine x_getI C dX3_copyFrom_85 fF_X3_73 rfl rfl ?_
  refine x_putI C dX3_copyFrom_88 fF_X3_73 rfl rfl ?_
  refine x_aload_n C dX3_copyFrom_91 rfl ?_
  refine x_aload_n C dX3_copyFrom_92 rfl ?_
  refine x_getI C dX3_copyFrom_93 fF_X3_98 rfl rfl ?_
  refine x_putI C dX3_copyFrom_96 fF_X3_98 rfl rfl ?_
  refine x_loc [(0, .inr (.inr (some 0))), (1, .inr (.inr (some 33)))] ⟨rfl, rfl, trivial⟩ ?_
  exact t_L_cp_99 hd9 C hR _ h
def f_L_cp_44 (m : xM) : Option (xM) :=
     (if xcb 0 0 11 11 11 then f_L_cp_67 (xu (xcp m 63 30 (0) (0) (11)) 0 7 ((xcp m 63 30 (0) (0) (11)) 33 7))
      else none)
set_option maxRecDepth 1000000 in
set_option maxHeartbeats 4000000 in
theorem t_L_cp_44 {Γ : xG} {d : Nat} (hd9 : 3 ≤ d) (C : xC Γ lay_LL RX3 cX3_copyFrom 2 d) {m9 : xM} (hR : xRv Γ lay_LL cX3_copyFrom m9) (m : xM) (h : f_L_cp_44 m = some m9) : xW Γ lay_LL 2 44 [(0, .inr (.inr (some 0))), (1, .inr (.inr (some 33)))] [] m := by
  unfold f_L_cp_44 at h
  refine x_aload_n C dX3_copyFrom_44 rfl ?_
  refine x_getR C dX3_copyFrom_45 fF_X3_35 rfl rfl ?_
  refine x_iconst C dX3_copyFrom_48 ?_
  refine x_aload_n C dX3_copyFrom_49 rfl ?_
  refine x_getR C dX3_copyFrom_50 fF_X3_35 rfl rfl ?_
  refine x_iconst C dX3_copyFrom_53 ?_
  refine x_bipush C dX3_copyFrom_54 (by decide) ?_
  refine x_copy C dX3_copyFrom_56 (xin_18 _ (List.mem_of_getElem? (i := 4) rfl)) gm_copy_n gm_copy_s gm_copy_i (by omega) (Nat.le_of_ble_eq_true rfl) rfl rfl h (fun h => ?_)
  refine x_aload_n C dX3_copyFrom_59 rfl ?_
  refine x_aload_n C dX3_copyFrom_60 rfl ?_
  refine x_getI C dX3_copyFrom_61 fF_X3_61 rfl rfl ?_
  refine x_putI C dX3_copyFrom_64 fF_X3_61 rfl rfl ?_
  refine x_loc [(0, .inr (.inr (some 0))), (1, .inr (.inr (some 33)))] ⟨rfl, rfl, trivial⟩ ?_
  exact t_L_cp_67 hd9 C hR _ h
def f_L_cp_22 (m : xM) : Option (xM) :=
     (Option.bind (f_W_cp (xvw [23, 24, 25, 26, 27, 56, 57, 58, 59, 60] m)) fun q2 =>
      (Option.bind (f_G_cp (xvw [28, 29, 61, 62] (xmg [23, 24, 25, 26, 27, 56, 57, 58, 59, 60] 10 m q2))) fun q3 =>
      f_L_cp_44 (xmg [28, 29, 61, 62] 4 (xmg [23, 24, 25, 26, 27, 56, 57, 58, 59, 60] 10 m q2) q3)))
set_option maxRecDepth 1000000 in
set_option maxHeartbeats 4000000 in
theorem t_L_cp_22 {Γ : xG} {d : Nat} (hd9 : 3 ≤ d) (C : xC Γ lay_LL RX3 cX3_copyFrom 2 d) {m9 : xM} (hR : xRv Γ lay_LL cX3_copyFrom m9) (m : xM) (h : f_L_cp_22 m = some m9) : xW Γ lay_LL 2 22 [(0, .inr (.inr (some 0))), (1, .inr (.inr (some 33)))] [] m := by
  unfold f_L_cp_22 at h
  refine x_aload_n C dX3_copyFrom_22 rfl ?_
  refine x_getR C dX3_copyFrom_23 fF_X3_24 rfl rfl ?_
  refine x_aload_n C dX3_copyFrom_26 rfl ?_
  refine x_getR C dX3_copyFrom_27 fF_X3_24 rfl rfl ?_
  obtain ⟨q2, hq2, h⟩ := x_bind h
  refine x_callV C dX3_copyFrom_30 (xin_19 _ (List.mem_of_getElem? (i := 6) rfl)) xy_X9_copyFrom (xi_X9_copyFrom) (xs_X9_copyFrom) [23, 24, 25, 26, 27, 56, 57, 58, 59, 60] xv_12 (by omega) (by decide) (b := 0) rfl ⟨_, _, rfl⟩ (av := [.inr (.inr (some 5))]) rfl (Nat.le_of_ble_eq_true rfl) (c_W_cp _ _ _ hq2) rfl ?_
  refine x_aload_n C dX3_copyFrom_33 rfl ?_
  refine x_getR C dX3_copyFrom_34 fF_X3_31 rfl rfl ?_
  refine x_aload_n C dX3_copyFrom_37 rfl ?_
  refine x_getR C dX3_copyFrom_38 fF_X3_31 rfl rfl ?_
  obtain ⟨q3, hq3, h⟩ := x_bind h
  refine x_callV C dX3_copyFrom_41 (xin_19 _ (List.mem_of_getElem? (i := 13) rfl)) xy_X4_copyFrom (xi_X4_copyFrom) (xs_X4_copyFrom) [28, 29, 61, 62] xv_13 (by omega) (by decide) (b := 0) rfl ⟨_, _, rfl⟩ (av := [.inr (.inr (some 2))]) rfl (Nat.le_of_ble_eq_true rfl) (c_G_cp _ _ _ hq3) rfl ?_
  refine x_loc [(0, .inr (.inr (some 0))), (1, .inr (.inr (some 33)))] ⟨rfl, rfl, trivial⟩ ?_
  exact t_L_cp_44 hd9 C hR _ h
def f_L_cp_11 (m : xM) : Option (xM) :=
     (Option.bind (f_E_cp (xvw [12, 13, 14, 15, 16, 17, 18, 19, 20, 21, 22, 45, 46, 47, 48, 49, 50, 51, 52, 53, 54, 55] m)) fun q1 =>
      f_L_cp_22 (xmg [12, 13, 14, 15, 16, 17, 18, 19, 20, 21, 22, 45, 46, 47, 48, 49, 50, 51, 52, 53, 54, 55] 22 m q1))
set_option maxRecDepth 1000000 in
set_option maxHeartbeats 4000000 in
theorem t_L_cp_11 {Γ : xG} {d : Nat} (hd9 : 3 ≤ d) (C : xC Γ lay_LL RX3 cX3_copyFrom 2 d) {m9 : xM} (hR : xRv Γ lay_LL cX3_copyFrom m9) (m : xM) (h : f_L_cp_11 m = some m9) : xW Γ lay_LL 2 11 [(0, .inr (.inr (some 0))), (1, .inr (.inr (some 33)))] [] m := by
  unfold f_L_cp_11 at h
  refine x_aload_n C dX3_copyFrom_11 rfl ?_
  refine x_getR C dX3_copyFrom_12 fF_X3_18 rfl rfl ?_
  refine x_aload_n C dX3_copyFrom_15 rfl ?_
  refine x_getR C dX3_copyFrom_16 fF_X3_18 rfl rfl ?_
  obtain ⟨q1, hq1, h⟩ := x_bind h
  refine x_callV C dX3_copyFrom_19 (xin_18 _ (List.mem_of_getElem? (i := 9) rfl)) xy_X1_copyFrom (xi_X1_copyFrom) (xs_X1_copyFrom) [12, 13, 14, 15, 16, 17, 18, 19, 20, 21, 22, 45, 46, 47, 48, 49, 50, 51, 52, 53, 54, 55] xv_11 (by omega) (by decide) (b := 0) rfl ⟨_, _, rfl⟩ (av := [.inr (.inr (some 11))]) rfl (Nat.le_of_ble_eq_true rfl) (c_E_cp _ _ _ hq1) rfl ?_
  refine x_loc [(0, .inr (.inr (some 0))), (1, .inr (.inr (some 33)))] ⟨rfl, rfl, trivial⟩ ?_
  exact t_L_cp_22 hd9 C hR _ h
def f_L_cp (m : xM) : Option (xM) :=
     (Option.bind (f_E_cp (xvw [1, 2, 3, 4, 5, 6, 7, 8, 9, 10, 11, 34, 35, 36, 37, 38, 39, 40, 41, 42, 43, 44] m)) fun q0 =>
      f_L_cp_11 (xmg [1, 2, 3, 4, 5, 6, 7, 8, 9, 10, 11, 34, 35, 36, 37, 38, 39, 40, 41, 42, 43, 44] 22 m q0))
set_option maxRecDepth 1000000 in
set_option maxHeartbeats 4000000 in
theorem t_L_cp {Γ : xG} {d : Nat} (hd9 : 3 ≤ d) (C : xC Γ lay_LL RX3 cX3_copyFrom 2 d) {m9 : xM} (hR : xRv Γ lay_LL cX3_copyFrom m9) (m : xM) (h : f_L_cp m = some m9) : xW Γ lay_LL 2 0 [(0, .inr (.inr (some 0))), (1, .inr (.inr (some 33)))] [] m := by
  unfold f_L_cp at h
  refine x_aload_n C dX3_copyFrom_0 rfl ?_
  refine x_getR C dX3_copyFrom_1 fF_X3_12 rfl rfl ?_
  refine x_aload_n C dX3_copyFrom_4 rfl ?_
  refine x_getR C dX3_copyFrom_5 fF_X3_12 rfl rfl ?_
  obtain ⟨q0, hq0, h⟩ := x_bind h
  refine x_callV C dX3_copyFrom_8 (xin_18 _ (List.mem_of_getElem? (i := 9) rfl)) xy_X1_copyFrom (xi_X1_copyFrom) (xs_X1_copyFrom) [1, 2, 3, 4, 5, 6, 7, 8, 9, 10, 11, 34, 35, 36, 37, 38, 39, 40, 41, 42, 43, 44] xv_10 (by omega) (by decide) (b := 0) rfl ⟨_, _, rfl⟩ (av := [.inr (.inr (some 11))]) rfl (Nat.le_of_ble_eq_true rfl) (c_E_cp _ _ _ hq0) rfl ?_
  refine x_loc [(0, .inr (.inr (some 0))), (1, .inr (.inr (some 33)))] ⟨rfl, rfl, trivial⟩ ?_
  exact t_L_cp_11 hd9 C hR _ h
theorem c_L_cp (l : Launch) (m m9 : xM) (h : f_L_cp m = some m9) : xMet l yX3_copyFrom cX3_copyFrom 2 none 3 lay_LL [.inr (.inr (some 0)), .inr (.inr (some 33))] m none m9 :=
  xMet_v (by decide +kernel) (Nat.le_of_ble_eq_true rfl) (fun Γ C hR hl9 => t_L_cp (Nat.le_refl _) C hR m h)
/-! ===== yX3_begin ===== -/
theorem xy_X1_begin : xY yX1_begin cX1_begin 1 none 0 := ⟨(xin_8 _ (List.mem_of_getElem? (i := 4) rfl)), (xin_3 _ (List.mem_of_getElem? (i := 21) rfl)), by decide, by decide, by decide +kernel⟩
theorem xi_X1_begin : Cond.instanceMethod yX1_begin ∈ wsL_law := (xin_8 _ (List.mem_of_getElem? (i := 2) rfl))
theorem xs_X1_begin : Cond.selects yX1_begin.cls yX1_begin yX1_begin ∈ wsL_law := (xin_8 _ (List.mem_of_getElem? (i := 3) rfl))
theorem xv_14 : xview lay_L0 lay_E [1, 2, 3, 4, 5, 6, 7, 8, 9, 10, 11] := xview_of (by decide +kernel)
theorem xv_15 : xview lay_L0 lay_E [12, 13, 14, 15, 16, 17, 18, 19, 20, 21, 22] := xview_of (by decide +kernel)
theorem fF_X3_53 : xF RX3 53 10 5 .int false := ⟨RX9, TX9, 6, tyX9, rfl, by decide, (xin_7 _ (List.mem_of_getElem? (i := 15) rfl)), rfl, inlX9, tyX9_ok, nmX9, rfl, rfl⟩
theorem fF_X3_57 : xF RX3 57 5 1 .int false := ⟨RX4, TX4, 3, tyX4, rfl, by decide, (xin_7 _ (List.mem_of_getElem? (i := 16) rfl)), rfl, inlX4, tyX4_ok, nmX4, rfl, rfl⟩
theorem fF_X3_60 : xF RX3 60 5 2 .int false := ⟨RX4, TX4, 3, tyX4, rfl, by decide, (xin_7 _ (List.mem_of_getElem? (i := 17) rfl)), rfl, inlX4, tyX4_ok, nmX4, rfl, rfl⟩
theorem fF_X3_46 : xF RX3 46 4 0 (.object "ModemLink$Setup") true := ⟨RX3, TX3, 17, tyX3, rfl, by decide, (xin_4 _ (List.mem_of_getElem? (i := 13) rfl)), rfl, inlX3, tyX3_ok, nmX3, rfl, rfl⟩
theorem fF_X3_67 : xF RX3 67 7 6 .int false := ⟨RX6, TX6, 14, tyX6, rfl, by decide, (xin_7 _ (List.mem_of_getElem? (i := 20) rfl)), rfl, inlX6, tyX6_ok, nmX6, rfl, rfl⟩
theorem dX3_begin_0 : decode cX3_begin 0 = .ok (.aload_n 0, 1) := by decide +kernel
theorem dX3_begin_1 : decode cX3_begin 1 = .ok (.getfield 12, 3) := by decide +kernel
theorem dX3_begin_4 : decode cX3_begin 4 = .ok (.invokevirtual 50, 3) := by decide +kernel
theorem dX3_begin_7 : decode cX3_begin 7 = .ok (.aload_n 0, 1) := by decide +kernel
theorem dX3_begin_8 : decode cX3_begin 8 = .ok (.getfield 18, 3) := by decide +kernel
theorem dX3_begin_11 : decode cX3_begin 11 = .ok (.invokevirtual 50, 3) := by decide +kernel
theorem dX3_begin_14 : decode cX3_begin 14 = .ok (.aload_n 0, 1) := by decide +kernel
theorem dX3_begin_15 : decode cX3_begin 15 = .ok (.getfield 24, 3) := by decide +kernel
theorem dX3_begin_18 : decode cX3_begin 18 = .ok (.iconst 0, 1) := by decide +kernel
theorem dX3_begin_19 : decode cX3_begin 19 = .ok (.putfield 53, 3) := by decide +kernel
theorem dX3_begin_22 : decode cX3_begin 22 = .ok (.aload_n 0, 1) := by decide +kernel
theorem dX3_begin_23 : decode cX3_begin 23 = .ok (.getfield 31, 3) := by decide +kernel
theorem dX3_begin_26 : decode cX3_begin 26 = .ok (.iconst 0, 1) := by decide +kernel
theorem dX3_begin_27 : decode cX3_begin 27 = .ok (.putfield 57, 3) := by decide +kernel
theorem dX3_begin_30 : decode cX3_begin 30 = .ok (.aload_n 0, 1) := by decide +kernel
theorem dX3_begin_31 : decode cX3_begin 31 = .ok (.getfield 31, 3) := by decide +kernel
theorem dX3_begin_34 : decode cX3_begin 34 = .ok (.iconst 0, 1) := by decide +kernel
theorem dX3_begin_35 : decode cX3_begin 35 = .ok (.putfield 60, 3) := by decide +kernel
theorem dX3_begin_38 : decode cX3_begin 38 = .ok (.iconst 0, 1) := by decide +kernel
theorem dX3_begin_39 : decode cX3_begin 39 = .ok (.istore_n 1, 1) := by decide +kernel
theorem dX3_begin_40 : decode cX3_begin 40 = .ok (.iload_n 1, 1) := by decide +kernel
theorem dX3_begin_41 : decode cX3_begin 41 = .ok (.aload_n 0, 1) := by decide +kernel
theorem dX3_begin_42 : decode cX3_begin 42 = .ok (.getfield 35, 3) := by decide +kernel
theorem dX3_begin_45 : decode cX3_begin 45 = .ok (.arraylength, 1) := by decide +kernel
theorem dX3_begin_46 : decode cX3_begin 46 = .ok (.if_icmp .ge 16, 3) := by decide +kernel
theorem dX3_begin_49 : decode cX3_begin 49 = .ok (.aload_n 0, 1) := by decide +kernel
theorem dX3_begin_50 : decode cX3_begin 50 = .ok (.getfield 35, 3) := by decide +kernel
theorem dX3_begin_53 : decode cX3_begin 53 = .ok (.iload_n 1, 1) := by decide +kernel
theorem dX3_begin_54 : decode cX3_begin 54 = .ok (.iconst 0, 1) := by decide +kernel
theorem dX3_begin_55 : decode cX3_begin 55 = .ok (.iastore, 1) := by decide +kernel
theorem dX3_begin_56 : decode cX3_begin 56 = .ok (.iinc 1 1, 3) := by decide +kernel
theorem dX3_begin_59 : decode cX3_begin 59 = .ok (.goto (-19), 3) := by decide +kernel
theorem dX3_begin_62 : decode cX3_begin 62 = .ok (.aload_n 0, 1) := by decide +kernel
theorem dX3_begin_63 : decode cX3_begin 63 = .ok (.iconst 0, 1) := by decide +kernel
theorem dX3_begin_64 : decode cX3_begin 64 = .ok (.putfield 61, 3) := by decide +kernel
theorem dX3_begin_67 : decode cX3_begin 67 = .ok (.aload_n 0, 1) := by decide +kernel
theorem dX3_begin_68 : decode cX3_begin 68 = .ok (.iconst 0, 1) := by decide +kernel
theorem dX3_begin_69 : decode cX3_begin 69 = .ok (.putfield 64, 3) := by decide +kernel
theorem dX3_begin_72 : decode cX3_begin 72 = .ok (.aload_n 0, 1) := by decide +kernel
theorem dX3_begin_73 : decode cX3_begin 73 = .ok (.aload_n 0, 1) := by decide +kernel
theorem dX3_begin_74 : decode cX3_begin 74 = .ok (.getfield 46, 3) := by decide +kernel
theorem dX3_begin_77 : decode cX3_begin 77 = .ok (.getfield 67, 3) := by decide +kernel
theorem dX3_begin_80 : decode cX3_begin 80 = .ok (.putfield 72, 3) := by decide +kernel
theorem dX3_begin_83 : decode cX3_begin 83 = .ok (.aload_n 0, 1) := by decide +kernel
theorem dX3_begin_84 : decode cX3_begin 84 = .ok (.iconst 0, 1) := by decide +kernel
theorem dX3_begin_85 : decode cX3_begin 85 = .ok (.putfield 73, 3) := by decide +kernel
theorem dX3_begin_88 : decode cX3_begin 88 = .ok (.aload_n 0, 1) := by decide +kernel
theorem dX3_begin_89 : decode cX3_begin 89 = .ok (.iconst 0, 1) := by decide +kernel
theorem dX3_begin_90 : decode cX3_begin 90 = .ok (.putfield 76, 3) := by decide +kernel
theorem dX3_begin_93 : decode cX3_begin 93 = .ok (.aload_n 0, 1) := by decide +kernel
theorem dX3_begin_94 : decode cX3_begin 94 = .ok (.iconst 0, 1) := by decide +kernel
theorem dX3_begin_95 : decode cX3_begin 95 = .ok (.putfield 79, 3) := by decide +kernel
theorem dX3_begin_98 : decode cX3_begin 98 = .ok (.return_, 1) := by decide +kernel
def f_L_begin_93 (m : xM) : Option (xM) :=
     some (xu m 0 16 0)
set_option maxRecDepth 1000000 in
set_option maxHeartbeats 4000000 in
theorem t_L_begin_93 {Γ : xG} {d : Nat} (hd9 : 3 ≤ d) (C : xC Γ lay_L0 RX3 cX3_begin 2 d) {m9 : xM} (hR : xRv Γ lay_L0 cX3_begin m9) (m : xM) (h : f_L_begin_93 m = some m9) : xW Γ lay_L0 2 93 [(0, .inr (.inr (some 0)))] [] m := by
  unfold f_L_begin_93 at h
  refine x_aload_n C dX3_begin_93 rfl ?_
  refine x_iconst C dX3_begin_94 ?_
  refine x_putI C dX3_begin_95 fF_X3_79 rfl rfl ?_
  exact x_returnV hR dX3_begin_98 h
def f_L_begin_62 (m : xM) : Option (xM) :=
     f_L_begin_93 (xu (xu (xu (xu (xu m 0 7 0) 0 8 0) 0 9 (m 33 6)) 0 10 0) 0 15 0)
set_option maxRecDepth 1000000 in
set_option maxHeartbeats 4000000 in
theorem t_L_begin_62 {Γ : xG} {d : Nat} (hd9 : 3 ≤ d) (C : xC Γ lay_L0 RX3 cX3_begin 2 d) {m9 : xM} (hR : xRv Γ lay_L0 cX3_begin m9) (m : xM) (h : f_L_begin_62 m = some m9) : xW Γ lay_L0 2 62 [(0, .inr (.inr (some 0)))] [] m := by
  unfold f_L_begin_62 at h
  refine x_aload_n C dX3_begin_62 rfl ?_
  refine x_iconst C dX3_begin_63 ?_
  refine x_putI C dX3_begin_64 fF_X3_61 rfl rfl ?_
  refine x_aload_n C dX3_begin_67 rfl ?_
  refine x_iconst C dX3_begin_68 ?_
  refine x_putI C dX3_begin_69 fF_X3_64 rfl rfl ?_
  refine x_aload_n C dX3_begin_72 rfl ?_
  refine x_aload_n C dX3_begin_73 rfl ?_
  refine x_getR C dX3_begin_74 fF_X3_46 rfl rfl ?_
  refine x_getI C dX3_begin_77 fF_X3_67 rfl rfl ?_
  refine x_putI C dX3_begin_80 fF_X3_72 rfl rfl ?_
  refine x_aload_n C dX3_begin_83 rfl ?_
  refine x_iconst C dX3_begin_84 ?_
  refine x_putI C dX3_begin_85 fF_X3_73 rfl rfl ?_
  refine x_aload_n C dX3_begin_88 rfl ?_
  refine x_iconst C dX3_begin_89 ?_
  refine x_putI C dX3_begin_90 fF_X3_76 rfl rfl ?_
  refine x_loc [(0, .inr (.inr (some 0)))] ⟨rfl, trivial⟩ ?_
  exact t_L_begin_93 hd9 C hR _ h
def f_L_begin_40 : Nat → Int → xM → Option (xM)
  | 0, _, _ => none
  | n + 1, x1, m =>
     (if xw x1 < xw 11 then (if xib x1 11 then f_L_begin_40 n (x1 + 1) (xu m 30 (xix x1) 0)
      else none)
      else f_L_begin_62 m)
set_option maxRecDepth 1000000 in
set_option maxHeartbeats 4000000 in
theorem t_L_begin_40 {Γ : xG} {d : Nat} (hd9 : 3 ≤ d) (C : xC Γ lay_L0 RX3 cX3_begin 2 d) {m9 : xM} (hR : xRv Γ lay_L0 cX3_begin m9) : ∀ (n : Nat) (x1 : Int) (m : xM), f_L_begin_40 n x1 m = some m9 → xW Γ lay_L0 2 40 [(0, .inr (.inr (some 0))), (1, .inl x1)] [] m := by
  intro n
  induction n with
  | zero => intro _ _ h; cases h
  | succ n ih =>
    intro x1 m h
    rw [f_L_begin_40] at h
    refine x_iload_n C dX3_begin_40 rfl ?_
    refine x_aload_n C dX3_begin_41 rfl ?_
    refine x_getR C dX3_begin_42 fF_X3_35 rfl rfl ?_
    refine x_len C dX3_begin_45 rfl ?_
    refine x_icmp_ge C 62 dX3_begin_46 (by decide) h (fun h => ?_) (fun h => ?_)
    · refine x_loc [(0, .inr (.inr (some 0)))] ⟨rfl, trivial⟩ ?_
      exact t_L_begin_62 hd9 C hR _ h
    · refine x_aload_n C dX3_begin_49 rfl ?_
      refine x_getR C dX3_begin_50 fF_X3_35 rfl rfl ?_
      refine x_iload_n C dX3_begin_53 rfl ?_
      refine x_iconst C dX3_begin_54 ?_
      refine x_iastore C dX3_begin_55 rfl h (fun h => ?_)
      refine x_iinc C dX3_begin_56 (by decide) rfl ?_
      refine x_goto C 40 dX3_begin_59 (by decide) ?_
      refine x_loc [(0, .inr (.inr (some 0))), (1, .inl (x1 + 1))] ⟨rfl, rfl, trivial⟩ ?_
      exact ih _ _ h
def f_L_begin_14 (m : xM) : Option (xM) :=
     f_L_begin_40 fu 0 (xu (xu (xu m 23 5 0) 28 1 0) 28 2 0)
set_option maxRecDepth 1000000 in
set_option maxHeartbeats 4000000 in
theorem t_L_begin_14 {Γ : xG} {d : Nat} (hd9 : 3 ≤ d) (C : xC Γ lay_L0 RX3 cX3_begin 2 d) {m9 : xM} (hR : xRv Γ lay_L0 cX3_begin m9) (m : xM) (h : f_L_begin_14 m = some m9) : xW Γ lay_L0 2 14 [(0, .inr (.inr (some 0)))] [] m := by
  unfold f_L_begin_14 at h
  refine x_aload_n C dX3_begin_14 rfl ?_
  refine x_getR C dX3_begin_15 fF_X3_24 rfl rfl ?_
  refine x_iconst C dX3_begin_18 ?_
  refine x_putI C dX3_begin_19 fF_X3_53 rfl rfl ?_
  refine x_aload_n C dX3_begin_22 rfl ?_
  refine x_getR C dX3_begin_23 fF_X3_31 rfl rfl ?_
  refine x_iconst C dX3_begin_26 ?_
  refine x_putI C dX3_begin_27 fF_X3_57 rfl rfl ?_
  refine x_aload_n C dX3_begin_30 rfl ?_
  refine x_getR C dX3_begin_31 fF_X3_31 rfl rfl ?_
  refine x_iconst C dX3_begin_34 ?_
  refine x_putI C dX3_begin_35 fF_X3_60 rfl rfl ?_
  refine x_iconst C dX3_begin_38 ?_
  refine x_istore_n C dX3_begin_39 (by decide) ?_
  refine x_loc [(0, .inr (.inr (some 0))), (1, .inl 0)] ⟨rfl, rfl, trivial⟩ ?_
  exact t_L_begin_40 hd9 C hR fu _ _ h
def f_L_begin (m : xM) : Option (xM) :=
     (Option.bind (f_E_begin (xvw [1, 2, 3, 4, 5, 6, 7, 8, 9, 10, 11] m)) fun q0 =>
      (Option.bind (f_E_begin (xvw [12, 13, 14, 15, 16, 17, 18, 19, 20, 21, 22] (xmg [1, 2, 3, 4, 5, 6, 7, 8, 9, 10, 11] 11 m q0))) fun q1 =>
      f_L_begin_14 (xmg [12, 13, 14, 15, 16, 17, 18, 19, 20, 21, 22] 11 (xmg [1, 2, 3, 4, 5, 6, 7, 8, 9, 10, 11] 11 m q0) q1)))
set_option maxRecDepth 1000000 in
set_option maxHeartbeats 4000000 in
theorem t_L_begin {Γ : xG} {d : Nat} (hd9 : 3 ≤ d) (C : xC Γ lay_L0 RX3 cX3_begin 2 d) {m9 : xM} (hR : xRv Γ lay_L0 cX3_begin m9) (m : xM) (h : f_L_begin m = some m9) : xW Γ lay_L0 2 0 [(0, .inr (.inr (some 0)))] [] m := by
  unfold f_L_begin at h
  refine x_aload_n C dX3_begin_0 rfl ?_
  refine x_getR C dX3_begin_1 fF_X3_12 rfl rfl ?_
  obtain ⟨q0, hq0, h⟩ := x_bind h
  refine x_callV C dX3_begin_4 (xin_8 _ (List.mem_of_getElem? (i := 1) rfl)) xy_X1_begin (xi_X1_begin) (xs_X1_begin) [1, 2, 3, 4, 5, 6, 7, 8, 9, 10, 11] xv_14 (by omega) (by decide) (b := 0) rfl ⟨_, _, rfl⟩ (av := []) rfl (Nat.le_of_ble_eq_true rfl) (c_E_begin _ _ _ hq0) rfl ?_
  refine x_aload_n C dX3_begin_7 rfl ?_
  refine x_getR C dX3_begin_8 fF_X3_18 rfl rfl ?_
  obtain ⟨q1, hq1, h⟩ := x_bind h
  refine x_callV C dX3_begin_11 (xin_8 _ (List.mem_of_getElem? (i := 1) rfl)) xy_X1_begin (xi_X1_begin) (xs_X1_begin) [12, 13, 14, 15, 16, 17, 18, 19, 20, 21, 22] xv_15 (by omega) (by decide) (b := 0) rfl ⟨_, _, rfl⟩ (av := []) rfl (Nat.le_of_ble_eq_true rfl) (c_E_begin _ _ _ hq1) rfl ?_
  refine x_loc [(0, .inr (.inr (some 0)))] ⟨rfl, trivial⟩ ?_
  exact t_L_begin_14 hd9 C hR _ h
theorem c_L_begin (l : Launch) (m m9 : xM) (h : f_L_begin m = some m9) : xMet l yX3_begin cX3_begin 2 none 3 lay_L0 [.inr (.inr (some 0))] m none m9 :=
  xMet_v (by decide +kernel) (Nat.le_of_ble_eq_true rfl) (fun Γ C hR hl9 => t_L_begin (Nat.le_refl _) C hR m h)
/-! ===== yX3_note ===== -/
theorem xy_X4_add : xY yX4_add cX4_add 7 none 4 := ⟨(xin_22 _ (List.mem_of_getElem? (i := 10) rfl)), (xin_4 _ (List.mem_of_getElem? (i := 6) rfl)), by decide, by decide, by decide +kernel⟩
theorem xi_X4_add : Cond.instanceMethod yX4_add ∈ wsL_law := (xin_22 _ (List.mem_of_getElem? (i := 8) rfl))
theorem xs_X4_add : Cond.selects yX4_add.cls yX4_add yX4_add ∈ wsL_law := (xin_22 _ (List.mem_of_getElem? (i := 9) rfl))
theorem xv_16 : xview lay_L0 lay_G [28, 29] := xview_of (by decide +kernel)
theorem dX3_note_0 : decode cX3_note 0 = .ok (.aload_n 0, 1) := by decide +kernel
theorem dX3_note_1 : decode cX3_note 1 = .ok (.getfield 31, 3) := by decide +kernel
theorem dX3_note_4 : decode cX3_note 4 = .ok (.aload_n 0, 1) := by decide +kernel
theorem dX3_note_5 : decode cX3_note 5 = .ok (.getfield 61, 3) := by decide +kernel
theorem dX3_note_8 : decode cX3_note 8 = .ok (.iload_n 1, 1) := by decide +kernel
theorem dX3_note_9 : decode cX3_note 9 = .ok (.iload_n 2, 1) := by decide +kernel
theorem dX3_note_10 : decode cX3_note 10 = .ok (.aload_n 0, 1) := by decide +kernel
theorem dX3_note_11 : decode cX3_note 11 = .ok (.getfield 64, 3) := by decide +kernel
theorem dX3_note_14 : decode cX3_note 14 = .ok (.iconst 2, 1) := by decide +kernel
theorem dX3_note_15 : decode cX3_note 15 = .ok (.if_icmp .ne 10, 3) := by decide +kernel
theorem dX3_note_18 : decode cX3_note 18 = .ok (.aload_n 0, 1) := by decide +kernel
theorem dX3_note_19 : decode cX3_note 19 = .ok (.getfield 73, 3) := by decide +kernel
theorem dX3_note_22 : decode cX3_note 22 = .ok (.goto 4, 3) := by decide +kernel
theorem dX3_note_25 : decode cX3_note 25 = .ok (.iconst (-1), 1) := by decide +kernel
theorem dX3_note_26 : decode cX3_note 26 = .ok (.invokevirtual 195, 3) := by decide +kernel
theorem dX3_note_29 : decode cX3_note 29 = .ok (.return_, 1) := by decide +kernel
def f_L_note_26 (k : Int) (z : Int) (s0 : Int) (s1 : Int) (s2 : Int) (s3 : Int) (m : xM) : Option (xM) :=
     (Option.bind (f_G_add s3 s2 s1 s0 (xvw [28, 29] m)) fun q0 =>
      some (xmg [28, 29] 2 m q0))
set_option maxRecDepth 1000000 in
set_option maxHeartbeats 4000000 in
theorem t_L_note_26 {Γ : xG} {d : Nat} (hd9 : 2 ≤ d) (C : xC Γ lay_L0 RX3 cX3_note 3 d) (k : Int) (z : Int) {m9 : xM} (hR : xRv Γ lay_L0 cX3_note m9) (s0 : Int) (s1 : Int) (s2 : Int) (s3 : Int) (m : xM) (h : f_L_note_26 k z s0 s1 s2 s3 m = some m9) : xW Γ lay_L0 3 26 [] [.inl s0, .inl s1, .inl s2, .inl s3, .inr (.inr (some 28))] m := by
  unfold f_L_note_26 at h
  obtain ⟨q0, hq0, h⟩ := x_bind h
  refine x_callV C dX3_note_26 (xin_22 _ (List.mem_of_getElem? (i := 7) rfl)) xy_X4_add (xi_X4_add) (xs_X4_add) [28, 29] xv_16 (by omega) (by decide) (b := 0) rfl ⟨_, _, rfl⟩ (av := [.inl s3, .inl s2, .inl s1, .inl s0]) rfl (Nat.le_of_ble_eq_true rfl) (c_G_add _ _ _ _ _ _ _ hq0) rfl ?_
  exact x_returnV hR dX3_note_29 h
def f_L_note (k : Int) (z : Int) (m : xM) : Option (xM) :=
     (if xw (m 0 8) = xw 2 then f_L_note_26 k z (m 0 10) z k (m 0 7) m
      else f_L_note_26 k z (-1) z k (m 0 7) m)
set_option maxRecDepth 1000000 in
set_option maxHeartbeats 4000000 in
theorem t_L_note {Γ : xG} {d : Nat} (hd9 : 2 ≤ d) (C : xC Γ lay_L0 RX3 cX3_note 3 d) (k : Int) (z : Int) {m9 : xM} (hR : xRv Γ lay_L0 cX3_note m9) (m : xM) (h : f_L_note k z m = some m9) : xW Γ lay_L0 3 0 [(0, .inr (.inr (some 0))), (1, .inl k), (2, .inl z)] [] m := by
  unfold f_L_note at h
  refine x_aload_n C dX3_note_0 rfl ?_
  refine x_getR C dX3_note_1 fF_X3_31 rfl rfl ?_
  refine x_aload_n C dX3_note_4 rfl ?_
  refine x_getI C dX3_note_5 fF_X3_61 rfl rfl ?_
  refine x_iload_n C dX3_note_8 rfl ?_
  refine x_iload_n C dX3_note_9 rfl ?_
  refine x_aload_n C dX3_note_10 rfl ?_
  refine x_getI C dX3_note_11 fF_X3_64 rfl rfl ?_
  refine x_iconst C dX3_note_14 ?_
  refine x_icmp_ne C 25 dX3_note_15 (by decide) h (fun h => ?_) (fun h => ?_)
  · refine x_iconst C dX3_note_25 ?_
    refine x_loc [] trivial ?_
    exact t_L_note_26 hd9 C _ _ hR _ _ _ _ _ h
  · refine x_aload_n C dX3_note_18 rfl ?_
    refine x_getI C dX3_note_19 fF_X3_73 rfl rfl ?_
    refine x_goto C 26 dX3_note_22 (by decide) ?_
    refine x_loc [] trivial ?_
    exact t_L_note_26 hd9 C _ _ hR _ _ _ _ _ h
theorem c_L_note (l : Launch) (k : Int) (z : Int) (m m9 : xM) (h : f_L_note k z m = some m9) : xMet l yX3_note cX3_note 3 none 2 lay_L0 [.inr (.inr (some 0)), .inl k, .inl z] m none m9 :=
  xMet_v (by decide +kernel) (Nat.le_of_ble_eq_true rfl) (fun Γ C hR hl9 => t_L_note (Nat.le_refl _) C k z hR m h)
/-! ===== yX3_note ===== -/
theorem xv_17 : xview lay_L1 lay_G [28, 29] := xview_of (by decide +kernel)
set_option maxRecDepth 1000000 in
set_option maxHeartbeats 4000000 in
theorem t_L_note_26_1 {Γ : xG} {d : Nat} (hd9 : 2 ≤ d) (C : xC Γ lay_L1 RX3 cX3_note 3 d) (k : Int) (z : Int) {m9 : xM} (hR : xRv Γ lay_L1 cX3_note m9) (s0 : Int) (s1 : Int) (s2 : Int) (s3 : Int) (m : xM) (h : f_L_note_26 k z s0 s1 s2 s3 m = some m9) : xW Γ lay_L1 3 26 [] [.inl s0, .inl s1, .inl s2, .inl s3, .inr (.inr (some 28))] m := by
  unfold f_L_note_26 at h
  obtain ⟨q0, hq0, h⟩ := x_bind h
  refine x_callV C dX3_note_26 (xin_22 _ (List.mem_of_getElem? (i := 7) rfl)) xy_X4_add (xi_X4_add) (xs_X4_add) [28, 29] xv_17 (by omega) (by decide) (b := 0) rfl ⟨_, _, rfl⟩ (av := [.inl s3, .inl s2, .inl s1, .inl s0]) rfl (Nat.le_of_ble_eq_true rfl) (c_G_add _ _ _ _ _ _ _ hq0) rfl ?_
  exact x_returnV hR dX3_note_29 h
set_option maxRecDepth 1000000 in
set_option maxHeartbeats 4000000 in
theorem t_L_note_1 {Γ : xG} {d : Nat} (hd9 : 2 ≤ d) (C : xC Γ lay_L1 RX3 cX3_note 3 d) (k : Int) (z : Int) {m9 : xM} (hR : xRv Γ lay_L1 cX3_note m9) (m : xM) (h : f_L_note k z m = some m9) : xW Γ lay_L1 3 0 [(0, .inr (.inr (some 0))), (1, .inl k), (2, .inl z)] [] m := by
  unfold f_L_note at h
  refine x_aload_n C dX3_note_0 rfl ?_
  refine x_getR C dX3_note_1 fF_X3_31 rfl rfl ?_
  refine x_aload_n C dX3_note_4 rfl ?_
  refine x_getI C dX3_note_5 fF_X3_61 rfl rfl ?_
  refine x_iload_n C dX3_note_8 rfl ?_
  refine x_iload_n C dX3_note_9 rfl ?_
  refine x_aload_n C dX3_note_10 rfl ?_
  refine x_getI C dX3_note_11 fF_X3_64 rfl rfl ?_
  refine x_iconst C dX3_note_14 ?_
  refine x_icmp_ne C 25 dX3_note_15 (by decide) h (fun h => ?_) (fun h => ?_)
  · refine x_iconst C dX3_note_25 ?_
    refine x_loc [] trivial ?_
    exact t_L_note_26_1 hd9 C _ _ hR _ _ _ _ _ h
  · refine x_aload_n C dX3_note_18 rfl ?_
    refine x_getI C dX3_note_19 fF_X3_73 rfl rfl ?_
    refine x_goto C 26 dX3_note_22 (by decide) ?_
    refine x_loc [] trivial ?_
    exact t_L_note_26_1 hd9 C _ _ hR _ _ _ _ _ h
theorem c_L_note_1 (l : Launch) (k : Int) (z : Int) (m m9 : xM) (h : f_L_note k z m = some m9) : xMet l yX3_note cX3_note 3 none 2 lay_L1 [.inr (.inr (some 0)), .inl k, .inl z] m none m9 :=
  xMet_v (by decide +kernel) (Nat.le_of_ble_eq_true rfl) (fun Γ C hR hl9 => t_L_note_1 (Nat.le_refl _) C k z hR m h)
/-! ===== yX3_cut ===== -/
theorem xy_X1_loseAll : xY yX1_loseAll cX1_loseAll 1 none 0 := ⟨(xin_21 _ (List.mem_of_getElem? (i := 22) rfl)), (xin_3 _ (List.mem_of_getElem? (i := 21) rfl)), by decide, by decide, by decide +kernel⟩
theorem xi_X1_loseAll : Cond.instanceMethod yX1_loseAll ∈ wsL_law := (xin_21 _ (List.mem_of_getElem? (i := 20) rfl))
theorem xs_X1_loseAll : Cond.selects yX1_loseAll.cls yX1_loseAll yX1_loseAll ∈ wsL_law := (xin_21 _ (List.mem_of_getElem? (i := 21) rfl))
theorem xy_X3_note : xY yX3_note cX3_note 3 none 2 := ⟨(xin_22 _ (List.mem_of_getElem? (i := 6) rfl)), (xin_1 _ (List.mem_of_getElem? (i := 18) rfl)), by decide, by decide, by decide +kernel⟩
theorem xi_X3_note : Cond.instanceMethod yX3_note ∈ wsL_law := (xin_22 _ (List.mem_of_getElem? (i := 4) rfl))
theorem xs_X3_note : Cond.selects yX3_note.cls yX3_note yX3_note ∈ wsL_law := (xin_22 _ (List.mem_of_getElem? (i := 5) rfl))
theorem dX3_cut_0 : decode cX3_cut 0 = .ok (.aload_n 0, 1) := by decide +kernel
theorem dX3_cut_1 : decode cX3_cut 1 = .ok (.iconst 0, 1) := by decide +kernel
theorem dX3_cut_2 : decode cX3_cut 2 = .ok (.putfield 64, 3) := by decide +kernel
theorem dX3_cut_5 : decode cX3_cut 5 = .ok (.aload_n 0, 1) := by decide +kernel
theorem dX3_cut_6 : decode cX3_cut 6 = .ok (.getfield 12, 3) := by decide +kernel
theorem dX3_cut_9 : decode cX3_cut 9 = .ok (.invokevirtual 189, 3) := by decide +kernel
theorem dX3_cut_12 : decode cX3_cut 12 = .ok (.aload_n 0, 1) := by decide +kernel
theorem dX3_cut_13 : decode cX3_cut 13 = .ok (.getfield 18, 3) := by decide +kernel
theorem dX3_cut_16 : decode cX3_cut 16 = .ok (.invokevirtual 189, 3) := by decide +kernel
theorem dX3_cut_19 : decode cX3_cut 19 = .ok (.aload_n 0, 1) := by decide +kernel
theorem dX3_cut_20 : decode cX3_cut 20 = .ok (.getfield 24, 3) := by decide +kernel
theorem dX3_cut_23 : decode cX3_cut 23 = .ok (.iconst 0, 1) := by decide +kernel
theorem dX3_cut_24 : decode cX3_cut 24 = .ok (.putfield 53, 3) := by decide +kernel
theorem dX3_cut_27 : decode cX3_cut 27 = .ok (.aload_n 0, 1) := by decide +kernel
theorem dX3_cut_28 : decode cX3_cut 28 = .ok (.getfield 35, 3) := by decide +kernel
theorem dX3_cut_31 : decode cX3_cut 31 = .ok (.bipush 7, 2) := by decide +kernel
theorem dX3_cut_33 : decode cX3_cut 33 = .ok (.dup2, 1) := by decide +kernel
theorem dX3_cut_34 : decode cX3_cut 34 = .ok (.iaload, 1) := by decide +kernel
theorem dX3_cut_35 : decode cX3_cut 35 = .ok (.iconst 1, 1) := by decide +kernel
theorem dX3_cut_36 : decode cX3_cut 36 = .ok (.iadd, 1) := by decide +kernel
theorem dX3_cut_37 : decode cX3_cut 37 = .ok (.iastore, 1) := by decide +kernel
theorem dX3_cut_38 : decode cX3_cut 38 = .ok (.aload_n 0, 1) := by decide +kernel
theorem dX3_cut_39 : decode cX3_cut 39 = .ok (.iconst 5, 1) := by decide +kernel
theorem dX3_cut_40 : decode cX3_cut 40 = .ok (.iconst (-1), 1) := by decide +kernel
theorem dX3_cut_41 : decode cX3_cut 41 = .ok (.invokevirtual 179, 3) := by decide +kernel
theorem dX3_cut_44 : decode cX3_cut 44 = .ok (.return_, 1) := by decide +kernel
def f_L_cut_19 (m : xM) : Option (xM) :=
     (if xib 7 11 then (if xib 7 11 then (Option.bind (f_L_note 5 (-1) (xu (xu m 23 5 0) 30 7 ((m 30 7) + 1))) fun q2 =>
      some q2)
      else none)
      else none)
set_option maxRecDepth 1000000 in
set_option maxHeartbeats 4000000 in
theorem t_L_cut_19 {Γ : xG} {d : Nat} (hd9 : 3 ≤ d) (C : xC Γ lay_L0 RX3 cX3_cut 1 d) {m9 : xM} (hR : xRv Γ lay_L0 cX3_cut m9) (m : xM) (h : f_L_cut_19 m = some m9) : xW Γ lay_L0 1 19 [(0, .inr (.inr (some 0)))] [] m := by
  unfold f_L_cut_19 at h
  refine x_aload_n C dX3_cut_19 rfl ?_
  refine x_getR C dX3_cut_20 fF_X3_24 rfl rfl ?_
  refine x_iconst C dX3_cut_23 ?_
  refine x_putI C dX3_cut_24 fF_X3_53 rfl rfl ?_
  refine x_aload_n C dX3_cut_27 rfl ?_
  refine x_getR C dX3_cut_28 fF_X3_35 rfl rfl ?_
  refine x_bipush C dX3_cut_31 (by decide) ?_
  refine x_dup2 C dX3_cut_33 rfl rfl ?_
  refine x_iaload C dX3_cut_34 rfl h (fun h => ?_)
  refine x_iconst C dX3_cut_35 ?_
  refine x_iadd C dX3_cut_36 ?_
  refine x_iastore C dX3_cut_37 rfl h (fun h => ?_)
  refine x_aload_n C dX3_cut_38 rfl ?_
  refine x_iconst C dX3_cut_39 ?_
  refine x_iconst C dX3_cut_40 ?_
  obtain ⟨q2, hq2, h⟩ := x_bind h
  refine x_callVI C dX3_cut_41 (xin_22 _ (List.mem_of_getElem? (i := 3) rfl)) xy_X3_note (xi_X3_note) (xs_X3_note) (by omega) (by decide) (b := 0) rfl ⟨_, _, rfl⟩ (av := [.inl 5, .inl (-1)]) rfl (Nat.le_of_ble_eq_true rfl) (c_L_note _ _ _ _ _ hq2) rfl ?_
  exact x_returnV hR dX3_cut_44 h
def f_L_cut (m : xM) : Option (xM) :=
     (Option.bind (f_E_lose (xvw [1, 2, 3, 4, 5, 6, 7, 8, 9, 10, 11] (xu m 0 8 0))) fun q0 =>
      (Option.bind (f_E_lose (xvw [12, 13, 14, 15, 16, 17, 18, 19, 20, 21, 22] (xmg [1, 2, 3, 4, 5, 6, 7, 8, 9, 10, 11] 11 (xu m 0 8 0) q0))) fun q1 =>
      f_L_cut_19 (xmg [12, 13, 14, 15, 16, 17, 18, 19, 20, 21, 22] 11 (xmg [1, 2, 3, 4, 5, 6, 7, 8, 9, 10, 11] 11 (xu m 0 8 0) q0) q1)))
set_option maxRecDepth 1000000 in
set_option maxHeartbeats 4000000 in
theorem t_L_cut {Γ : xG} {d : Nat} (hd9 : 3 ≤ d) (C : xC Γ lay_L0 RX3 cX3_cut 1 d) {m9 : xM} (hR : xRv Γ lay_L0 cX3_cut m9) (m : xM) (h : f_L_cut m = some m9) : xW Γ lay_L0 1 0 [(0, .inr (.inr (some 0)))] [] m := by
  unfold f_L_cut at h
  refine x_aload_n C dX3_cut_0 rfl ?_
  refine x_iconst C dX3_cut_1 ?_
  refine x_putI C dX3_cut_2 fF_X3_64 rfl rfl ?_
  refine x_aload_n C dX3_cut_5 rfl ?_
  refine x_getR C dX3_cut_6 fF_X3_12 rfl rfl ?_
  obtain ⟨q0, hq0, h⟩ := x_bind h
  refine x_callV C dX3_cut_9 (xin_21 _ (List.mem_of_getElem? (i := 19) rfl)) xy_X1_loseAll (xi_X1_loseAll) (xs_X1_loseAll) [1, 2, 3, 4, 5, 6, 7, 8, 9, 10, 11] xv_14 (by omega) (by decide) (b := 0) rfl ⟨_, _, rfl⟩ (av := []) rfl (Nat.le_of_ble_eq_true rfl) (c_E_lose _ _ _ hq0) rfl ?_
  refine x_aload_n C dX3_cut_12 rfl ?_
  refine x_getR C dX3_cut_13 fF_X3_18 rfl rfl ?_
  obtain ⟨q1, hq1, h⟩ := x_bind h
  refine x_callV C dX3_cut_16 (xin_21 _ (List.mem_of_getElem? (i := 19) rfl)) xy_X1_loseAll (xi_X1_loseAll) (xs_X1_loseAll) [12, 13, 14, 15, 16, 17, 18, 19, 20, 21, 22] xv_15 (by omega) (by decide) (b := 0) rfl ⟨_, _, rfl⟩ (av := []) rfl (Nat.le_of_ble_eq_true rfl) (c_E_lose _ _ _ hq1) rfl ?_
  refine x_loc [(0, .inr (.inr (some 0)))] ⟨rfl, trivial⟩ ?_
  exact t_L_cut_19 hd9 C hR _ h
theorem c_L_cut (l : Launch) (m m9 : xM) (h : f_L_cut m = some m9) : xMet l yX3_cut cX3_cut 1 none 3 lay_L0 [.inr (.inr (some 0))] m none m9 :=
  xMet_v (by decide +kernel) (Nat.le_of_ble_eq_true rfl) (fun Γ C hR hl9 => t_L_cut (Nat.le_refl _) C hR m h)
/-! ===== yX3_beginStep ===== -/
theorem xy_X6_stepTicks : xY yX6_stepTicks cX6_stepTicks 2 (some .int) 1 := ⟨(xin_20 _ (List.mem_of_getElem? (i := 14) rfl)), (xin_1 _ (List.mem_of_getElem? (i := 13) rfl)), by decide, by decide, by decide +kernel⟩
theorem xi_X6_stepTicks : Cond.instanceMethod yX6_stepTicks ∈ wsL_law := (xin_20 _ (List.mem_of_getElem? (i := 12) rfl))
theorem xs_X6_stepTicks : Cond.selects yX6_stepTicks.cls yX6_stepTicks yX6_stepTicks ∈ wsL_law := (xin_20 _ (List.mem_of_getElem? (i := 13) rfl))
theorem xv_18 : xview lay_L0 lay_S [33, 34, 35, 36, 37] := xview_of (by decide +kernel)
theorem dX3_beginStep_0 : decode cX3_beginStep 0 = .ok (.aload_n 0, 1) := by decide +kernel
theorem dX3_beginStep_1 : decode cX3_beginStep 1 = .ok (.iload_n 1, 1) := by decide +kernel
theorem dX3_beginStep_2 : decode cX3_beginStep 2 = .ok (.putfield 98, 3) := by decide +kernel
theorem dX3_beginStep_5 : decode cX3_beginStep 5 = .ok (.aload_n 0, 1) := by decide +kernel
theorem dX3_beginStep_6 : decode cX3_beginStep 6 = .ok (.aload_n 0, 1) := by decide +kernel
theorem dX3_beginStep_7 : decode cX3_beginStep 7 = .ok (.getfield 46, 3) := by decide +kernel
theorem dX3_beginStep_10 : decode cX3_beginStep 10 = .ok (.iload_n 1, 1) := by decide +kernel
theorem dX3_beginStep_11 : decode cX3_beginStep 11 = .ok (.invokevirtual 161, 3) := by decide +kernel
theorem dX3_beginStep_14 : decode cX3_beginStep 14 = .ok (.putfield 101, 3) := by decide +kernel
theorem dX3_beginStep_17 : decode cX3_beginStep 17 = .ok (.return_, 1) := by decide +kernel
def f_L_beginStep (z : Int) (m : xM) : Option (xM) :=
     (Option.bind (f_S_step z (xvw [33, 34, 35, 36, 37] (xu m 0 11 z))) fun q0 =>
      some (xu (xu m 0 11 z) 0 12 q0))
set_option maxRecDepth 1000000 in
set_option maxHeartbeats 4000000 in
theorem t_L_beginStep {Γ : xG} {d : Nat} (hd9 : 2 ≤ d) (C : xC Γ lay_L0 RX3 cX3_beginStep 2 d) (z : Int) {m9 : xM} (hR : xRv Γ lay_L0 cX3_beginStep m9) (m : xM) (h : f_L_beginStep z m = some m9) : xW Γ lay_L0 2 0 [(0, .inr (.inr (some 0))), (1, .inl z)] [] m := by
  unfold f_L_beginStep at h
  refine x_aload_n C dX3_beginStep_0 rfl ?_
  refine x_iload_n C dX3_beginStep_1 rfl ?_
  refine x_putI C dX3_beginStep_2 fF_X3_98 rfl rfl ?_
  refine x_aload_n C dX3_beginStep_5 rfl ?_
  refine x_aload_n C dX3_beginStep_6 rfl ?_
  refine x_getR C dX3_beginStep_7 fF_X3_46 rfl rfl ?_
  refine x_iload_n C dX3_beginStep_10 rfl ?_
  obtain ⟨q0, hq0, h⟩ := x_bind h
  refine x_callVp C dX3_beginStep_11 (xin_20 _ (List.mem_of_getElem? (i := 11) rfl)) xy_X6_stepTicks (xi_X6_stepTicks) (xs_X6_stepTicks) [33, 34, 35, 36, 37] xv_18 (by omega) (by decide) (b := 0) rfl ⟨_, _, rfl⟩ (av := [.inl z]) rfl (Nat.le_of_ble_eq_true rfl) (c_S_step _ _ _ _ hq0) rfl ?_
  refine x_putI C dX3_beginStep_14 fF_X3_101 rfl rfl ?_
  exact x_returnV hR dX3_beginStep_17 h
theorem c_L_beginStep (l : Launch) (z : Int) (m m9 : xM) (h : f_L_beginStep z m = some m9) : xMet l yX3_beginStep cX3_beginStep 2 none 2 lay_L0 [.inr (.inr (some 0)), .inl z] m none m9 :=
  xMet_v (by decide +kernel) (Nat.le_of_ble_eq_true rfl) (fun Γ C hR hl9 => t_L_beginStep (Nat.le_refl _) C z hR m h)
/-! ===== yX3_beginTraining ===== -/
theorem xy_X3_beginStep : xY yX3_beginStep cX3_beginStep 2 none 1 := ⟨(xin_20 _ (List.mem_of_getElem? (i := 10) rfl)), (xin_1 _ (List.mem_of_getElem? (i := 18) rfl)), by decide, by decide, by decide +kernel⟩
theorem xi_X3_beginStep : Cond.instanceMethod yX3_beginStep ∈ wsL_law := (xin_20 _ (List.mem_of_getElem? (i := 8) rfl))
theorem xs_X3_beginStep : Cond.selects yX3_beginStep.cls yX3_beginStep yX3_beginStep ∈ wsL_law := (xin_20 _ (List.mem_of_getElem? (i := 9) rfl))
theorem dX3_beginTraining_0 : decode cX3_beginTraining 0 = .ok (.aload_n 0, 1) := by decide +kernel
theorem dX3_beginTraining_1 : decode cX3_beginTraining 1 = .ok (.iconst 1, 1) := by decide +kernel
theorem dX3_beginTraining_2 : decode cX3_beginTraining 2 = .ok (.putfield 64, 3) := by decide +kernel
theorem dX3_beginTraining_5 : decode cX3_beginTraining 5 = .ok (.aload_n 0, 1) := by decide +kernel
theorem dX3_beginTraining_6 : decode cX3_beginTraining 6 = .ok (.iconst 0, 1) := by decide +kernel
theorem dX3_beginTraining_7 : decode cX3_beginTraining 7 = .ok (.putfield 104, 3) := by decide +kernel
theorem dX3_beginTraining_10 : decode cX3_beginTraining 10 = .ok (.aload_n 0, 1) := by decide +kernel
theorem dX3_beginTraining_11 : decode cX3_beginTraining 11 = .ok (.iload_n 1, 1) := by decide +kernel
theorem dX3_beginTraining_12 : decode cX3_beginTraining 12 = .ok (.invokevirtual 158, 3) := by decide +kernel
theorem dX3_beginTraining_15 : decode cX3_beginTraining 15 = .ok (.return_, 1) := by decide +kernel
def f_L_beginTraining (z : Int) (m : xM) : Option (xM) :=
     (Option.bind (f_L_beginStep z (xu (xu m 0 8 1) 0 13 0)) fun q0 =>
      some q0)
set_option maxRecDepth 1000000 in
set_option maxHeartbeats 4000000 in
theorem t_L_beginTraining {Γ : xG} {d : Nat} (hd9 : 3 ≤ d) (C : xC Γ lay_L0 RX3 cX3_beginTraining 2 d) (z : Int) {m9 : xM} (hR : xRv Γ lay_L0 cX3_beginTraining m9) (m : xM) (h : f_L_beginTraining z m = some m9) : xW Γ lay_L0 2 0 [(0, .inr (.inr (some 0))), (1, .inl z)] [] m := by
  unfold f_L_beginTraining at h
  refine x_aload_n C dX3_beginTraining_0 rfl ?_
  refine x_iconst C dX3_beginTraining_1 ?_
  refine x_putI C dX3_beginTraining_2 fF_X3_64 rfl rfl ?_
  refine x_aload_n C dX3_beginTraining_5 rfl ?_
  refine x_iconst C dX3_beginTraining_6 ?_
  refine x_putI C dX3_beginTraining_7 fF_X3_104 rfl rfl ?_
  refine x_aload_n C dX3_beginTraining_10 rfl ?_
  refine x_iload_n C dX3_beginTraining_11 rfl ?_
  obtain ⟨q0, hq0, h⟩ := x_bind h
  refine x_callVI C dX3_beginTraining_12 (xin_20 _ (List.mem_of_getElem? (i := 7) rfl)) xy_X3_beginStep (xi_X3_beginStep) (xs_X3_beginStep) (by omega) (by decide) (b := 0) rfl ⟨_, _, rfl⟩ (av := [.inl z]) rfl (Nat.le_of_ble_eq_true rfl) (c_L_beginStep _ _ _ _ hq0) rfl ?_
  exact x_returnV hR dX3_beginTraining_15 h
theorem c_L_beginTraining (l : Launch) (z : Int) (m m9 : xM) (h : f_L_beginTraining z m = some m9) : xMet l yX3_beginTraining cX3_beginTraining 2 none 3 lay_L0 [.inr (.inr (some 0)), .inl z] m none m9 :=
  xMet_v (by decide +kernel) (Nat.le_of_ble_eq_true rfl) (fun Γ C hR hl9 => t_L_beginTraining (Nat.le_refl _) C z hR m h)
/-! ===== yX3_comeOnline ===== -/
theorem xy_X6_greatestRate : xY yX6_greatestRate cX6_greatestRate 4 (some .int) 1 := ⟨(xin_22 _ (List.mem_of_getElem? (i := 18) rfl)), (xin_1 _ (List.mem_of_getElem? (i := 13) rfl)), by decide, by decide, by decide +kernel⟩
theorem xi_X6_greatestRate : Cond.instanceMethod yX6_greatestRate ∈ wsL_law := (xin_22 _ (List.mem_of_getElem? (i := 16) rfl))
theorem xs_X6_greatestRate : Cond.selects yX6_greatestRate.cls yX6_greatestRate yX6_greatestRate ∈ wsL_law := (xin_22 _ (List.mem_of_getElem? (i := 17) rfl))
theorem fF_X3_152 : xF RX3 152 2 7 .int false := ⟨RX1, TX1, 11, tyX1, rfl, by decide, (xin_20 _ (List.mem_of_getElem? (i := 1) rfl)), rfl, inlX1, tyX1_ok, nmX1, rfl, rfl⟩
theorem xy_X1_comeOnline : xY yX1_comeOnline cX1_comeOnline 2 none 1 := ⟨(xin_22 _ (List.mem_of_getElem? (i := 22) rfl)), (xin_3 _ (List.mem_of_getElem? (i := 21) rfl)), by decide, by decide, by decide +kernel⟩
theorem xi_X1_comeOnline : Cond.instanceMethod yX1_comeOnline ∈ wsL_law := (xin_22 _ (List.mem_of_getElem? (i := 20) rfl))
theorem xs_X1_comeOnline : Cond.selects yX1_comeOnline.cls yX1_comeOnline yX1_comeOnline ∈ wsL_law := (xin_22 _ (List.mem_of_getElem? (i := 21) rfl))
theorem xy_X3_cut : xY yX3_cut cX3_cut 1 none 0 := ⟨(xin_21 _ (List.mem_of_getElem? (i := 18) rfl)), (xin_1 _ (List.mem_of_getElem? (i := 18) rfl)), by decide, by decide, by decide +kernel⟩
theorem xi_X3_cut : Cond.instanceMethod yX3_cut ∈ wsL_law := (xin_21 _ (List.mem_of_getElem? (i := 16) rfl))
theorem xs_X3_cut : Cond.selects yX3_cut.cls yX3_cut yX3_cut ∈ wsL_law := (xin_21 _ (List.mem_of_getElem? (i := 17) rfl))
theorem dX3_comeOnline_0 : decode cX3_comeOnline 0 = .ok (.aload_n 0, 1) := by decide +kernel
theorem dX3_comeOnline_1 : decode cX3_comeOnline 1 = .ok (.getfield 46, 3) := by decide +kernel
theorem dX3_comeOnline_4 : decode cX3_comeOnline 4 = .ok (.aload_n 0, 1) := by decide +kernel
theorem dX3_comeOnline_5 : decode cX3_comeOnline 5 = .ok (.getfield 72, 3) := by decide +kernel
theorem dX3_comeOnline_8 : decode cX3_comeOnline 8 = .ok (.invokevirtual 174, 3) := by decide +kernel
theorem dX3_comeOnline_11 : decode cX3_comeOnline 11 = .ok (.istore_n 1, 1) := by decide +kernel
theorem dX3_comeOnline_12 : decode cX3_comeOnline 12 = .ok (.iload_n 1, 1) := by decide +kernel
theorem dX3_comeOnline_13 : decode cX3_comeOnline 13 = .ok (.iconst (-1), 1) := by decide +kernel
theorem dX3_comeOnline_14 : decode cX3_comeOnline 14 = .ok (.if_icmp .ne 8, 3) := by decide +kernel
theorem dX3_comeOnline_17 : decode cX3_comeOnline 17 = .ok (.aload_n 0, 1) := by decide +kernel
theorem dX3_comeOnline_18 : decode cX3_comeOnline 18 = .ok (.invokevirtual 168, 3) := by decide +kernel
theorem dX3_comeOnline_21 : decode cX3_comeOnline 21 = .ok (.return_, 1) := by decide +kernel
theorem dX3_comeOnline_22 : decode cX3_comeOnline 22 = .ok (.aload_n 0, 1) := by decide +kernel
theorem dX3_comeOnline_23 : decode cX3_comeOnline 23 = .ok (.iconst 2, 1) := by decide +kernel
theorem dX3_comeOnline_24 : decode cX3_comeOnline 24 = .ok (.putfield 64, 3) := by decide +kernel
theorem dX3_comeOnline_27 : decode cX3_comeOnline 27 = .ok (.aload_n 0, 1) := by decide +kernel
theorem dX3_comeOnline_28 : decode cX3_comeOnline 28 = .ok (.iload_n 1, 1) := by decide +kernel
theorem dX3_comeOnline_29 : decode cX3_comeOnline 29 = .ok (.putfield 73, 3) := by decide +kernel
theorem dX3_comeOnline_32 : decode cX3_comeOnline 32 = .ok (.aload_n 0, 1) := by decide +kernel
theorem dX3_comeOnline_33 : decode cX3_comeOnline 33 = .ok (.iconst 0, 1) := by decide +kernel
theorem dX3_comeOnline_34 : decode cX3_comeOnline 34 = .ok (.putfield 76, 3) := by decide +kernel
theorem dX3_comeOnline_37 : decode cX3_comeOnline 37 = .ok (.aload_n 0, 1) := by decide +kernel
theorem dX3_comeOnline_38 : decode cX3_comeOnline 38 = .ok (.iconst 0, 1) := by decide +kernel
theorem dX3_comeOnline_39 : decode cX3_comeOnline 39 = .ok (.putfield 79, 3) := by decide +kernel
theorem dX3_comeOnline_42 : decode cX3_comeOnline 42 = .ok (.aload_n 0, 1) := by decide +kernel
theorem dX3_comeOnline_43 : decode cX3_comeOnline 43 = .ok (.getfield 12, 3) := by decide +kernel
theorem dX3_comeOnline_46 : decode cX3_comeOnline 46 = .ok (.aload_n 0, 1) := by decide +kernel
theorem dX3_comeOnline_47 : decode cX3_comeOnline 47 = .ok (.getfield 18, 3) := by decide +kernel
theorem dX3_comeOnline_50 : decode cX3_comeOnline 50 = .ok (.getfield 152, 3) := by decide +kernel
theorem dX3_comeOnline_53 : decode cX3_comeOnline 53 = .ok (.invokevirtual 177, 3) := by decide +kernel
theorem dX3_comeOnline_56 : decode cX3_comeOnline 56 = .ok (.aload_n 0, 1) := by decide +kernel
theorem dX3_comeOnline_57 : decode cX3_comeOnline 57 = .ok (.getfield 18, 3) := by decide +kernel
theorem dX3_comeOnline_60 : decode cX3_comeOnline 60 = .ok (.aload_n 0, 1) := by decide +kernel
theorem dX3_comeOnline_61 : decode cX3_comeOnline 61 = .ok (.getfield 12, 3) := by decide +kernel
theorem dX3_comeOnline_64 : decode cX3_comeOnline 64 = .ok (.getfield 152, 3) := by decide +kernel
theorem dX3_comeOnline_67 : decode cX3_comeOnline 67 = .ok (.invokevirtual 177, 3) := by decide +kernel
theorem dX3_comeOnline_70 : decode cX3_comeOnline 70 = .ok (.aload_n 0, 1) := by decide +kernel
theorem dX3_comeOnline_71 : decode cX3_comeOnline 71 = .ok (.getfield 35, 3) := by decide +kernel
theorem dX3_comeOnline_74 : decode cX3_comeOnline 74 = .ok (.bipush 8, 2) := by decide +kernel
theorem dX3_comeOnline_76 : decode cX3_comeOnline 76 = .ok (.dup2, 1) := by decide +kernel
theorem dX3_comeOnline_77 : decode cX3_comeOnline 77 = .ok (.iaload, 1) := by decide +kernel
theorem dX3_comeOnline_78 : decode cX3_comeOnline 78 = .ok (.iconst 1, 1) := by decide +kernel
theorem dX3_comeOnline_79 : decode cX3_comeOnline 79 = .ok (.iadd, 1) := by decide +kernel
theorem dX3_comeOnline_80 : decode cX3_comeOnline 80 = .ok (.iastore, 1) := by decide +kernel
theorem dX3_comeOnline_81 : decode cX3_comeOnline 81 = .ok (.aload_n 0, 1) := by decide +kernel
theorem dX3_comeOnline_82 : decode cX3_comeOnline 82 = .ok (.iconst 1, 1) := by decide +kernel
theorem dX3_comeOnline_83 : decode cX3_comeOnline 83 = .ok (.iconst (-1), 1) := by decide +kernel
theorem dX3_comeOnline_84 : decode cX3_comeOnline 84 = .ok (.invokevirtual 179, 3) := by decide +kernel
theorem dX3_comeOnline_87 : decode cX3_comeOnline 87 = .ok (.return_, 1) := by decide +kernel
def f_L_comeOnline_81 (m : xM) : Option (xM) :=
     (Option.bind (f_L_note 1 (-1) m) fun q3 =>
      some q3)
set_option maxRecDepth 1000000 in
set_option maxHeartbeats 4000000 in
theorem t_L_comeOnline_81 {Γ : xG} {d : Nat} (hd9 : 4 ≤ d) (C : xC Γ lay_L0 RX3 cX3_comeOnline 2 d) {m9 : xM} (hR : xRv Γ lay_L0 cX3_comeOnline m9) (m : xM) (h : f_L_comeOnline_81 m = some m9) : xW Γ lay_L0 2 81 [(0, .inr (.inr (some 0)))] [] m := by
  unfold f_L_comeOnline_81 at h
  refine x_aload_n C dX3_comeOnline_81 rfl ?_
  refine x_iconst C dX3_comeOnline_82 ?_
  refine x_iconst C dX3_comeOnline_83 ?_
  obtain ⟨q3, hq3, h⟩ := x_bind h
  refine x_callVI C dX3_comeOnline_84 (xin_22 _ (List.mem_of_getElem? (i := 3) rfl)) xy_X3_note (xi_X3_note) (xs_X3_note) (by omega) (by decide) (b := 0) rfl ⟨_, _, rfl⟩ (av := [.inl 1, .inl (-1)]) rfl (Nat.le_of_ble_eq_true rfl) (c_L_note _ _ _ _ _ hq3) rfl ?_
  exact x_returnV hR dX3_comeOnline_87 h
def f_L_comeOnline_56 (m : xM) : Option (xM) :=
     (Option.bind (f_E_online (m 1 7) (xvw [12, 13, 14, 15, 16, 17, 18, 19, 20, 21, 22] m)) fun q2 =>
      (if xib 8 11 then (if xib 8 11 then f_L_comeOnline_81 (xu (xmg [12, 13, 14, 15, 16, 17, 18, 19, 20, 21, 22] 11 m q2) 30 8 (((xmg [12, 13, 14, 15, 16, 17, 18, 19, 20, 21, 22] 11 m q2) 30 8) + 1))
      else none)
      else none))
set_option maxRecDepth 1000000 in
set_option maxHeartbeats 4000000 in
theorem t_L_comeOnline_56 {Γ : xG} {d : Nat} (hd9 : 4 ≤ d) (C : xC Γ lay_L0 RX3 cX3_comeOnline 2 d) {m9 : xM} (hR : xRv Γ lay_L0 cX3_comeOnline m9) (m : xM) (h : f_L_comeOnline_56 m = some m9) : xW Γ lay_L0 2 56 [(0, .inr (.inr (some 0)))] [] m := by
  unfold f_L_comeOnline_56 at h
  refine x_aload_n C dX3_comeOnline_56 rfl ?_
  refine x_getR C dX3_comeOnline_57 fF_X3_18 rfl rfl ?_
  refine x_aload_n C dX3_comeOnline_60 rfl ?_
  refine x_getR C dX3_comeOnline_61 fF_X3_12 rfl rfl ?_
  refine x_getI C dX3_comeOnline_64 fF_X3_152 rfl rfl ?_
  obtain ⟨q2, hq2, h⟩ := x_bind h
  refine x_callV C dX3_comeOnline_67 (xin_22 _ (List.mem_of_getElem? (i := 19) rfl)) xy_X1_comeOnline (xi_X1_comeOnline) (xs_X1_comeOnline) [12, 13, 14, 15, 16, 17, 18, 19, 20, 21, 22] xv_15 (by omega) (by decide) (b := 0) rfl ⟨_, _, rfl⟩ (av := [.inl (m 1 7)]) rfl (Nat.le_of_ble_eq_true rfl) (c_E_online _ _ _ _ hq2) rfl ?_
  refine x_aload_n C dX3_comeOnline_70 rfl ?_
  refine x_getR C dX3_comeOnline_71 fF_X3_35 rfl rfl ?_
  refine x_bipush C dX3_comeOnline_74 (by decide) ?_
  refine x_dup2 C dX3_comeOnline_76 rfl rfl ?_
  refine x_iaload C dX3_comeOnline_77 rfl h (fun h => ?_)
  refine x_iconst C dX3_comeOnline_78 ?_
  refine x_iadd C dX3_comeOnline_79 ?_
  refine x_iastore C dX3_comeOnline_80 rfl h (fun h => ?_)
  refine x_loc [(0, .inr (.inr (some 0)))] ⟨rfl, trivial⟩ ?_
  exact t_L_comeOnline_81 hd9 C hR _ h
def f_L_comeOnline (m : xM) : Option (xM) :=
     (Option.bind (f_S_greatest (m 0 9) (xvw [33, 34, 35, 36, 37] m)) fun q0 =>
      (if xw q0 = xw (-1) then (Option.bind (f_L_cut m) fun q4 =>
      some q4)
      else (Option.bind (f_E_online (m 12 7) (xvw [1, 2, 3, 4, 5, 6, 7, 8, 9, 10, 11] (xu (xu (xu (xu m 0 8 2) 0 10 q0) 0 15 0) 0 16 0))) fun q1 =>
      f_L_comeOnline_56 (xmg [1, 2, 3, 4, 5, 6, 7, 8, 9, 10, 11] 11 (xu (xu (xu (xu m 0 8 2) 0 10 q0) 0 15 0) 0 16 0) q1))))
set_option maxRecDepth 1000000 in
set_option maxHeartbeats 4000000 in
theorem t_L_comeOnline {Γ : xG} {d : Nat} (hd9 : 4 ≤ d) (C : xC Γ lay_L0 RX3 cX3_comeOnline 2 d) {m9 : xM} (hR : xRv Γ lay_L0 cX3_comeOnline m9) (m : xM) (h : f_L_comeOnline m = some m9) : xW Γ lay_L0 2 0 [(0, .inr (.inr (some 0)))] [] m := by
  unfold f_L_comeOnline at h
  refine x_aload_n C dX3_comeOnline_0 rfl ?_
  refine x_getR C dX3_comeOnline_1 fF_X3_46 rfl rfl ?_
  refine x_aload_n C dX3_comeOnline_4 rfl ?_
  refine x_getI C dX3_comeOnline_5 fF_X3_72 rfl rfl ?_
  obtain ⟨q0, hq0, h⟩ := x_bind h
  refine x_callVp C dX3_comeOnline_8 (xin_22 _ (List.mem_of_getElem? (i := 15) rfl)) xy_X6_greatestRate (xi_X6_greatestRate) (xs_X6_greatestRate) [33, 34, 35, 36, 37] xv_18 (by omega) (by decide) (b := 0) rfl ⟨_, _, rfl⟩ (av := [.inl (m 0 9)]) rfl (Nat.le_of_ble_eq_true rfl) (c_S_greatest _ _ _ _ hq0) rfl ?_
  refine x_istore_n C dX3_comeOnline_11 (by decide) ?_
  refine x_iload_n C dX3_comeOnline_12 rfl ?_
  refine x_iconst C dX3_comeOnline_13 ?_
  refine x_icmp_ne C 22 dX3_comeOnline_14 (by decide) h (fun h => ?_) (fun h => ?_)
  · refine x_aload_n C dX3_comeOnline_22 rfl ?_
    refine x_iconst C dX3_comeOnline_23 ?_
    refine x_putI C dX3_comeOnline_24 fF_X3_64 rfl rfl ?_
    refine x_aload_n C dX3_comeOnline_27 rfl ?_
    refine x_iload_n C dX3_comeOnline_28 rfl ?_
    refine x_putI C dX3_comeOnline_29 fF_X3_73 rfl rfl ?_
    refine x_aload_n C dX3_comeOnline_32 rfl ?_
    refine x_iconst C dX3_comeOnline_33 ?_
    refine x_putI C dX3_comeOnline_34 fF_X3_76 rfl rfl ?_
    refine x_aload_n C dX3_comeOnline_37 rfl ?_
    refine x_iconst C dX3_comeOnline_38 ?_
    refine x_putI C dX3_comeOnline_39 fF_X3_79 rfl rfl ?_
    refine x_aload_n C dX3_comeOnline_42 rfl ?_
    refine x_getR C dX3_comeOnline_43 fF_X3_12 rfl rfl ?_
    refine x_aload_n C dX3_comeOnline_46 rfl ?_
    refine x_getR C dX3_comeOnline_47 fF_X3_18 rfl rfl ?_
    refine x_getI C dX3_comeOnline_50 fF_X3_152 rfl rfl ?_
    obtain ⟨q1, hq1, h⟩ := x_bind h
    refine x_callV C dX3_comeOnline_53 (xin_22 _ (List.mem_of_getElem? (i := 19) rfl)) xy_X1_comeOnline (xi_X1_comeOnline) (xs_X1_comeOnline) [1, 2, 3, 4, 5, 6, 7, 8, 9, 10, 11] xv_14 (by omega) (by decide) (b := 0) rfl ⟨_, _, rfl⟩ (av := [.inl (m 12 7)]) rfl (Nat.le_of_ble_eq_true rfl) (c_E_online _ _ _ _ hq1) rfl ?_
    refine x_loc [(0, .inr (.inr (some 0)))] ⟨rfl, trivial⟩ ?_
    exact t_L_comeOnline_56 hd9 C hR _ h
  · refine x_aload_n C dX3_comeOnline_17 rfl ?_
    obtain ⟨q4, hq4, h⟩ := x_bind h
    refine x_callVI C dX3_comeOnline_18 (xin_21 _ (List.mem_of_getElem? (i := 15) rfl)) xy_X3_cut (xi_X3_cut) (xs_X3_cut) (by omega) (by decide) (b := 0) rfl ⟨_, _, rfl⟩ (av := []) rfl (Nat.le_of_ble_eq_true rfl) (c_L_cut _ _ _ hq4) rfl ?_
    exact x_returnV hR dX3_comeOnline_21 h
theorem c_L_comeOnline (l : Launch) (m m9 : xM) (h : f_L_comeOnline m = some m9) : xMet l yX3_comeOnline cX3_comeOnline 2 none 4 lay_L0 [.inr (.inr (some 0))] m none m9 :=
  xMet_v (by decide +kernel) (Nat.le_of_ble_eq_true rfl) (fun Γ C hR hl9 => t_L_comeOnline (Nat.le_refl _) C hR m h)
/-! ===== yX3_train ===== -/
theorem xy_X3_comeOnline : xY yX3_comeOnline cX3_comeOnline 2 none 0 := ⟨(xin_22 _ (List.mem_of_getElem? (i := 14) rfl)), (xin_1 _ (List.mem_of_getElem? (i := 18) rfl)), by decide, by decide, by decide +kernel⟩
theorem xi_X3_comeOnline : Cond.instanceMethod yX3_comeOnline ∈ wsL_law := (xin_22 _ (List.mem_of_getElem? (i := 12) rfl))
theorem xs_X3_comeOnline : Cond.selects yX3_comeOnline.cls yX3_comeOnline yX3_comeOnline ∈ wsL_law := (xin_22 _ (List.mem_of_getElem? (i := 13) rfl))
theorem fF_X3_165 : xF RX3 165 7 7 .int false := ⟨RX6, TX6, 14, tyX6, rfl, by decide, (xin_21 _ (List.mem_of_getElem? (i := 14) rfl)), rfl, inlX6, tyX6_ok, nmX6, rfl, rfl⟩
theorem dX3_train_0 : decode cX3_train 0 = .ok (.aload_n 0, 1) := by decide +kernel
theorem dX3_train_1 : decode cX3_train 1 = .ok (.getfield 72, 3) := by decide +kernel
theorem dX3_train_4 : decode cX3_train 4 = .ok (.ifCond .ne 40, 3) := by decide +kernel
theorem dX3_train_7 : decode cX3_train 7 = .ok (.aload_n 0, 1) := by decide +kernel
theorem dX3_train_8 : decode cX3_train 8 = .ok (.aload_n 0, 1) := by decide +kernel
theorem dX3_train_9 : decode cX3_train 9 = .ok (.getfield 98, 3) := by decide +kernel
theorem dX3_train_12 : decode cX3_train 12 = .ok (.invokevirtual 158, 3) := by decide +kernel
theorem dX3_train_15 : decode cX3_train 15 = .ok (.aload_n 0, 1) := by decide +kernel
theorem dX3_train_16 : decode cX3_train 16 = .ok (.dup, 1) := by decide +kernel
theorem dX3_train_17 : decode cX3_train 17 = .ok (.getfield 104, 3) := by decide +kernel
theorem dX3_train_20 : decode cX3_train 20 = .ok (.iconst 1, 1) := by decide +kernel
theorem dX3_train_21 : decode cX3_train 21 = .ok (.iadd, 1) := by decide +kernel
theorem dX3_train_22 : decode cX3_train 22 = .ok (.putfield 104, 3) := by decide +kernel
theorem dX3_train_25 : decode cX3_train 25 = .ok (.aload_n 0, 1) := by decide +kernel
theorem dX3_train_26 : decode cX3_train 26 = .ok (.getfield 104, 3) := by decide +kernel
theorem dX3_train_29 : decode cX3_train 29 = .ok (.aload_n 0, 1) := by decide +kernel
theorem dX3_train_30 : decode cX3_train 30 = .ok (.getfield 46, 3) := by decide +kernel
theorem dX3_train_33 : decode cX3_train 33 = .ok (.getfield 165, 3) := by decide +kernel
theorem dX3_train_36 : decode cX3_train 36 = .ok (.if_icmp .le 7, 3) := by decide +kernel
theorem dX3_train_39 : decode cX3_train 39 = .ok (.aload_n 0, 1) := by decide +kernel
theorem dX3_train_40 : decode cX3_train 40 = .ok (.invokevirtual 168, 3) := by decide +kernel
theorem dX3_train_43 : decode cX3_train 43 = .ok (.return_, 1) := by decide +kernel
theorem dX3_train_44 : decode cX3_train 44 = .ok (.aload_n 0, 1) := by decide +kernel
theorem dX3_train_45 : decode cX3_train 45 = .ok (.dup, 1) := by decide +kernel
theorem dX3_train_46 : decode cX3_train 46 = .ok (.getfield 101, 3) := by decide +kernel
theorem dX3_train_49 : decode cX3_train 49 = .ok (.iconst 1, 1) := by decide +kernel
theorem dX3_train_50 : decode cX3_train 50 = .ok (.isub, 1) := by decide +kernel
theorem dX3_train_51 : decode cX3_train 51 = .ok (.putfield 101, 3) := by decide +kernel
theorem dX3_train_54 : decode cX3_train 54 = .ok (.aload_n 0, 1) := by decide +kernel
theorem dX3_train_55 : decode cX3_train 55 = .ok (.getfield 101, 3) := by decide +kernel
theorem dX3_train_58 : decode cX3_train 58 = .ok (.ifCond .le 4, 3) := by decide +kernel
theorem dX3_train_61 : decode cX3_train 61 = .ok (.return_, 1) := by decide +kernel
theorem dX3_train_62 : decode cX3_train 62 = .ok (.aload_n 0, 1) := by decide +kernel
theorem dX3_train_63 : decode cX3_train 63 = .ok (.getfield 98, 3) := by decide +kernel
theorem dX3_train_66 : decode cX3_train 66 = .ok (.iconst 1, 1) := by decide +kernel
theorem dX3_train_67 : decode cX3_train 67 = .ok (.iadd, 1) := by decide +kernel
theorem dX3_train_68 : decode cX3_train 68 = .ok (.iconst 4, 1) := by decide +kernel
theorem dX3_train_69 : decode cX3_train 69 = .ok (.if_icmp .ge 16, 3) := by decide +kernel
theorem dX3_train_72 : decode cX3_train 72 = .ok (.aload_n 0, 1) := by decide +kernel
theorem dX3_train_73 : decode cX3_train 73 = .ok (.aload_n 0, 1) := by decide +kernel
theorem dX3_train_74 : decode cX3_train 74 = .ok (.getfield 98, 3) := by decide +kernel
theorem dX3_train_77 : decode cX3_train 77 = .ok (.iconst 1, 1) := by decide +kernel
theorem dX3_train_78 : decode cX3_train 78 = .ok (.iadd, 1) := by decide +kernel
theorem dX3_train_79 : decode cX3_train 79 = .ok (.invokevirtual 158, 3) := by decide +kernel
theorem dX3_train_82 : decode cX3_train 82 = .ok (.goto 7, 3) := by decide +kernel
theorem dX3_train_85 : decode cX3_train 85 = .ok (.aload_n 0, 1) := by decide +kernel
theorem dX3_train_86 : decode cX3_train 86 = .ok (.invokevirtual 171, 3) := by decide +kernel
theorem dX3_train_89 : decode cX3_train 89 = .ok (.return_, 1) := by decide +kernel
def f_L_train (m : xM) : Option (xM) :=
     (if xw (m 0 9) = 0 then (Option.bind (f_L_beginStep (m 0 11) m) fun q2 =>
      (if xw (q2 33 7) < xw ((q2 0 13) + 1) then (Option.bind (f_L_cut (xu q2 0 13 ((q2 0 13) + 1))) fun q3 =>
      some q3)
      else some (xu q2 0 13 ((q2 0 13) + 1))))
      else (if 0 < xw ((m 0 12) - 1) then some (xu m 0 12 ((m 0 12) - 1))
      else (if xw ((m 0 11) + 1) < xw 4 then (Option.bind (f_L_beginStep ((m 0 11) + 1) (xu m 0 12 ((m 0 12) - 1))) fun q1 =>
      some q1)
      else (Option.bind (f_L_comeOnline (xu m 0 12 ((m 0 12) - 1))) fun q0 =>
      some q0))))
set_option maxRecDepth 1000000 in
set_option maxHeartbeats 4000000 in
theorem t_L_train {Γ : xG} {d : Nat} (hd9 : 5 ≤ d) (C : xC Γ lay_L0 RX3 cX3_train 1 d) {m9 : xM} (hR : xRv Γ lay_L0 cX3_train m9) (m : xM) (h : f_L_train m = some m9) : xW Γ lay_L0 1 0 [(0, .inr (.inr (some 0)))] [] m := by
  unfold f_L_train at h
  refine x_aload_n C dX3_train_0 rfl ?_
  refine x_getI C dX3_train_1 fF_X3_72 rfl rfl ?_
  refine x_if_ne C 44 dX3_train_4 (by decide) h (fun h => ?_) (fun h => ?_)
  · refine x_aload_n C dX3_train_44 rfl ?_
    refine x_dup C dX3_train_45 rfl ?_
    refine x_getI C dX3_train_46 fF_X3_101 rfl rfl ?_
    refine x_iconst C dX3_train_49 ?_
    refine x_isub C dX3_train_50 ?_
    refine x_putI C dX3_train_51 fF_X3_101 rfl rfl ?_
    refine x_aload_n C dX3_train_54 rfl ?_
    refine x_getI C dX3_train_55 fF_X3_101 rfl rfl ?_
    refine x_if_le C 62 dX3_train_58 (by decide) h (fun h => ?_) (fun h => ?_)
    · refine x_aload_n C dX3_train_62 rfl ?_
      refine x_getI C dX3_train_63 fF_X3_98 rfl rfl ?_
      refine x_iconst C dX3_train_66 ?_
      refine x_iadd C dX3_train_67 ?_
      refine x_iconst C dX3_train_68 ?_
      refine x_icmp_ge C 85 dX3_train_69 (by decide) h (fun h => ?_) (fun h => ?_)
      · refine x_aload_n C dX3_train_85 rfl ?_
        obtain ⟨q0, hq0, h⟩ := x_bind h
        refine x_callVI C dX3_train_86 (xin_22 _ (List.mem_of_getElem? (i := 11) rfl)) xy_X3_comeOnline (xi_X3_comeOnline) (xs_X3_comeOnline) (by omega) (by decide) (b := 0) rfl ⟨_, _, rfl⟩ (av := []) rfl (Nat.le_of_ble_eq_true rfl) (c_L_comeOnline _ _ _ hq0) rfl ?_
        exact x_returnV hR dX3_train_89 h
      · refine x_aload_n C dX3_train_72 rfl ?_
        refine x_aload_n C dX3_train_73 rfl ?_
        refine x_getI C dX3_train_74 fF_X3_98 rfl rfl ?_
        refine x_iconst C dX3_train_77 ?_
        refine x_iadd C dX3_train_78 ?_
        obtain ⟨q1, hq1, h⟩ := x_bind h
        refine x_callVI C dX3_train_79 (xin_20 _ (List.mem_of_getElem? (i := 7) rfl)) xy_X3_beginStep (xi_X3_beginStep) (xs_X3_beginStep) (by omega) (by decide) (b := 0) rfl ⟨_, _, rfl⟩ (av := [.inl ((m 0 11) + 1)]) rfl (Nat.le_of_ble_eq_true rfl) (c_L_beginStep _ _ _ _ hq1) rfl ?_
        refine x_goto C 89 dX3_train_82 (by decide) ?_
        exact x_returnV hR dX3_train_89 h
    · exact x_returnV hR dX3_train_61 h
  · refine x_aload_n C dX3_train_7 rfl ?_
    refine x_aload_n C dX3_train_8 rfl ?_
    refine x_getI C dX3_train_9 fF_X3_98 rfl rfl ?_
    obtain ⟨q2, hq2, h⟩ := x_bind h
    refine x_callVI C dX3_train_12 (xin_20 _ (List.mem_of_getElem? (i := 7) rfl)) xy_X3_beginStep (xi_X3_beginStep) (xs_X3_beginStep) (by omega) (by decide) (b := 0) rfl ⟨_, _, rfl⟩ (av := [.inl (m 0 11)]) rfl (Nat.le_of_ble_eq_true rfl) (c_L_beginStep _ _ _ _ hq2) rfl ?_
    refine x_aload_n C dX3_train_15 rfl ?_
    refine x_dup C dX3_train_16 rfl ?_
    refine x_getI C dX3_train_17 fF_X3_104 rfl rfl ?_
    refine x_iconst C dX3_train_20 ?_
    refine x_iadd C dX3_train_21 ?_
    refine x_putI C dX3_train_22 fF_X3_104 rfl rfl ?_
    refine x_aload_n C dX3_train_25 rfl ?_
    refine x_getI C dX3_train_26 fF_X3_104 rfl rfl ?_
    refine x_aload_n C dX3_train_29 rfl ?_
    refine x_getR C dX3_train_30 fF_X3_46 rfl rfl ?_
    refine x_getI C dX3_train_33 fF_X3_165 rfl rfl ?_
    refine x_icmp_le C 43 dX3_train_36 (by decide) h (fun h => ?_) (fun h => ?_)
    · exact x_returnV hR dX3_train_43 h
    · refine x_aload_n C dX3_train_39 rfl ?_
      obtain ⟨q3, hq3, h⟩ := x_bind h
      refine x_callVI C dX3_train_40 (xin_21 _ (List.mem_of_getElem? (i := 15) rfl)) xy_X3_cut (xi_X3_cut) (xs_X3_cut) (by omega) (by decide) (b := 0) rfl ⟨_, _, rfl⟩ (av := []) rfl (Nat.le_of_ble_eq_true rfl) (c_L_cut _ _ _ hq3) rfl ?_
      exact x_returnV hR dX3_train_43 h
theorem c_L_train (l : Launch) (m m9 : xM) (h : f_L_train m = some m9) : xMet l yX3_train cX3_train 1 none 5 lay_L0 [.inr (.inr (some 0))] m none m9 :=
  xMet_v (by decide +kernel) (Nat.le_of_ble_eq_true rfl) (fun Γ C hR hl9 => t_L_train (Nat.le_refl _) C hR m h)
/-! ===== yX3_cutAfterHold ===== -/
theorem fF_X3_186 : xF RX3 186 7 8 .int false := ⟨RX6, TX6, 14, tyX6, rfl, by decide, (xin_23 _ (List.mem_of_getElem? (i := 16) rfl)), rfl, inlX6, tyX6_ok, nmX6, rfl, rfl⟩
theorem dX3_cutAfterHold_0 : decode cX3_cutAfterHold 0 = .ok (.aload_n 0, 1) := by decide +kernel
theorem dX3_cutAfterHold_1 : decode cX3_cutAfterHold 1 = .ok (.getfield 107, 3) := by decide +kernel
theorem dX3_cutAfterHold_4 : decode cX3_cutAfterHold 4 = .ok (.aload_n 0, 1) := by decide +kernel
theorem dX3_cutAfterHold_5 : decode cX3_cutAfterHold 5 = .ok (.getfield 46, 3) := by decide +kernel
theorem dX3_cutAfterHold_8 : decode cX3_cutAfterHold 8 = .ok (.getfield 186, 3) := by decide +kernel
theorem dX3_cutAfterHold_11 : decode cX3_cutAfterHold 11 = .ok (.if_icmp .le 7, 3) := by decide +kernel
theorem dX3_cutAfterHold_14 : decode cX3_cutAfterHold 14 = .ok (.aload_n 0, 1) := by decide +kernel
theorem dX3_cutAfterHold_15 : decode cX3_cutAfterHold 15 = .ok (.invokevirtual 168, 3) := by decide +kernel
theorem dX3_cutAfterHold_18 : decode cX3_cutAfterHold 18 = .ok (.return_, 1) := by decide +kernel
def f_L_hold (m : xM) : Option (xM) :=
     (if xw (m 33 8) < xw (m 0 14) then (Option.bind (f_L_cut m) fun q0 =>
      some q0)
      else some m)
set_option maxRecDepth 1000000 in
set_option maxHeartbeats 4000000 in
theorem t_L_hold {Γ : xG} {d : Nat} (hd9 : 4 ≤ d) (C : xC Γ lay_L0 RX3 cX3_cutAfterHold 1 d) {m9 : xM} (hR : xRv Γ lay_L0 cX3_cutAfterHold m9) (m : xM) (h : f_L_hold m = some m9) : xW Γ lay_L0 1 0 [(0, .inr (.inr (some 0)))] [] m := by
  unfold f_L_hold at h
  refine x_aload_n C dX3_cutAfterHold_0 rfl ?_
  refine x_getI C dX3_cutAfterHold_1 fF_X3_107 rfl rfl ?_
  refine x_aload_n C dX3_cutAfterHold_4 rfl ?_
  refine x_getR C dX3_cutAfterHold_5 fF_X3_46 rfl rfl ?_
  refine x_getI C dX3_cutAfterHold_8 fF_X3_186 rfl rfl ?_
  refine x_icmp_le C 18 dX3_cutAfterHold_11 (by decide) h (fun h => ?_) (fun h => ?_)
  · exact x_returnV hR dX3_cutAfterHold_18 h
  · refine x_aload_n C dX3_cutAfterHold_14 rfl ?_
    obtain ⟨q0, hq0, h⟩ := x_bind h
    refine x_callVI C dX3_cutAfterHold_15 (xin_21 _ (List.mem_of_getElem? (i := 15) rfl)) xy_X3_cut (xi_X3_cut) (xs_X3_cut) (by omega) (by decide) (b := 0) rfl ⟨_, _, rfl⟩ (av := []) rfl (Nat.le_of_ble_eq_true rfl) (c_L_cut _ _ _ hq0) rfl ?_
    exact x_returnV hR dX3_cutAfterHold_18 h
theorem c_L_hold (l : Launch) (m m9 : xM) (h : f_L_hold m = some m9) : xMet l yX3_cutAfterHold cX3_cutAfterHold 1 none 4 lay_L0 [.inr (.inr (some 0))] m none m9 :=
  xMet_v (by decide +kernel) (Nat.le_of_ble_eq_true rfl) (fun Γ C hR hl9 => t_L_hold (Nat.le_refl _) C hR m h)
/-! ===== yX3_waitForCarrier ===== -/
theorem xy_X3_cutAfterHold : xY yX3_cutAfterHold cX3_cutAfterHold 1 none 0 := ⟨(xin_23 _ (List.mem_of_getElem? (i := 15) rfl)), (xin_1 _ (List.mem_of_getElem? (i := 18) rfl)), by decide, by decide, by decide +kernel⟩
theorem xi_X3_cutAfterHold : Cond.instanceMethod yX3_cutAfterHold ∈ wsL_law := (xin_23 _ (List.mem_of_getElem? (i := 13) rfl))
theorem xs_X3_cutAfterHold : Cond.selects yX3_cutAfterHold.cls yX3_cutAfterHold yX3_cutAfterHold ∈ wsL_law := (xin_23 _ (List.mem_of_getElem? (i := 14) rfl))
theorem xy_X3_beginTraining : xY yX3_beginTraining cX3_beginTraining 2 none 1 := ⟨(xin_20 _ (List.mem_of_getElem? (i := 6) rfl)), (xin_1 _ (List.mem_of_getElem? (i := 18) rfl)), by decide, by decide, by decide +kernel⟩
theorem xi_X3_beginTraining : Cond.instanceMethod yX3_beginTraining ∈ wsL_law := (xin_20 _ (List.mem_of_getElem? (i := 4) rfl))
theorem xs_X3_beginTraining : Cond.selects yX3_beginTraining.cls yX3_beginTraining yX3_beginTraining ∈ wsL_law := (xin_20 _ (List.mem_of_getElem? (i := 5) rfl))
theorem dX3_waitForCarrier_0 : decode cX3_waitForCarrier 0 = .ok (.aload_n 0, 1) := by decide +kernel
theorem dX3_waitForCarrier_1 : decode cX3_waitForCarrier 1 = .ok (.getfield 72, 3) := by decide +kernel
theorem dX3_waitForCarrier_4 : decode cX3_waitForCarrier 4 = .ok (.ifCond .eq 9, 3) := by decide +kernel
theorem dX3_waitForCarrier_7 : decode cX3_waitForCarrier 7 = .ok (.aload_n 0, 1) := by decide +kernel
theorem dX3_waitForCarrier_8 : decode cX3_waitForCarrier 8 = .ok (.iconst 2, 1) := by decide +kernel
theorem dX3_waitForCarrier_9 : decode cX3_waitForCarrier 9 = .ok (.invokevirtual 155, 3) := by decide +kernel
theorem dX3_waitForCarrier_12 : decode cX3_waitForCarrier 12 = .ok (.return_, 1) := by decide +kernel
theorem dX3_waitForCarrier_13 : decode cX3_waitForCarrier 13 = .ok (.aload_n 0, 1) := by decide +kernel
theorem dX3_waitForCarrier_14 : decode cX3_waitForCarrier 14 = .ok (.dup, 1) := by decide +kernel
theorem dX3_waitForCarrier_15 : decode cX3_waitForCarrier 15 = .ok (.getfield 107, 3) := by decide +kernel
theorem dX3_waitForCarrier_18 : decode cX3_waitForCarrier 18 = .ok (.iconst 1, 1) := by decide +kernel
theorem dX3_waitForCarrier_19 : decode cX3_waitForCarrier 19 = .ok (.iadd, 1) := by decide +kernel
theorem dX3_waitForCarrier_20 : decode cX3_waitForCarrier 20 = .ok (.putfield 107, 3) := by decide +kernel
theorem dX3_waitForCarrier_23 : decode cX3_waitForCarrier 23 = .ok (.aload_n 0, 1) := by decide +kernel
theorem dX3_waitForCarrier_24 : decode cX3_waitForCarrier 24 = .ok (.invokevirtual 183, 3) := by decide +kernel
theorem dX3_waitForCarrier_27 : decode cX3_waitForCarrier 27 = .ok (.return_, 1) := by decide +kernel
def f_L_wait (m : xM) : Option (xM) :=
     (if xw (m 0 9) = 0 then (Option.bind (f_L_hold (xu m 0 14 ((m 0 14) + 1))) fun q0 =>
      some q0)
      else (Option.bind (f_L_beginTraining 2 m) fun q1 =>
      some q1))
set_option maxRecDepth 1000000 in
set_option maxHeartbeats 4000000 in
theorem t_L_wait {Γ : xG} {d : Nat} (hd9 : 5 ≤ d) (C : xC Γ lay_L0 RX3 cX3_waitForCarrier 1 d) {m9 : xM} (hR : xRv Γ lay_L0 cX3_waitForCarrier m9) (m : xM) (h : f_L_wait m = some m9) : xW Γ lay_L0 1 0 [(0, .inr (.inr (some 0)))] [] m := by
  unfold f_L_wait at h
  refine x_aload_n C dX3_waitForCarrier_0 rfl ?_
  refine x_getI C dX3_waitForCarrier_1 fF_X3_72 rfl rfl ?_
  refine x_if_eq C 13 dX3_waitForCarrier_4 (by decide) h (fun h => ?_) (fun h => ?_)
  · refine x_aload_n C dX3_waitForCarrier_13 rfl ?_
    refine x_dup C dX3_waitForCarrier_14 rfl ?_
    refine x_getI C dX3_waitForCarrier_15 fF_X3_107 rfl rfl ?_
    refine x_iconst C dX3_waitForCarrier_18 ?_
    refine x_iadd C dX3_waitForCarrier_19 ?_
    refine x_putI C dX3_waitForCarrier_20 fF_X3_107 rfl rfl ?_
    refine x_aload_n C dX3_waitForCarrier_23 rfl ?_
    obtain ⟨q0, hq0, h⟩ := x_bind h
    refine x_callVI C dX3_waitForCarrier_24 (xin_23 _ (List.mem_of_getElem? (i := 12) rfl)) xy_X3_cutAfterHold (xi_X3_cutAfterHold) (xs_X3_cutAfterHold) (by omega) (by decide) (b := 0) rfl ⟨_, _, rfl⟩ (av := []) rfl (Nat.le_of_ble_eq_true rfl) (c_L_hold _ _ _ hq0) rfl ?_
    exact x_returnV hR dX3_waitForCarrier_27 h
  · refine x_aload_n C dX3_waitForCarrier_7 rfl ?_
    refine x_iconst C dX3_waitForCarrier_8 ?_
    obtain ⟨q1, hq1, h⟩ := x_bind h
    refine x_callVI C dX3_waitForCarrier_9 (xin_20 _ (List.mem_of_getElem? (i := 3) rfl)) xy_X3_beginTraining (xi_X3_beginTraining) (xs_X3_beginTraining) (by omega) (by decide) (b := 0) rfl ⟨_, _, rfl⟩ (av := [.inl 2]) rfl (Nat.le_of_ble_eq_true rfl) (c_L_beginTraining _ _ _ _ hq1) rfl ?_
    exact x_returnV hR dX3_waitForCarrier_12 h
theorem c_L_wait (l : Launch) (m m9 : xM) (h : f_L_wait m = some m9) : xMet l yX3_waitForCarrier cX3_waitForCarrier 1 none 5 lay_L0 [.inr (.inr (some 0))] m none m9 :=
  xMet_v (by decide +kernel) (Nat.le_of_ble_eq_true rfl) (fun Γ C hR hl9 => t_L_wait (Nat.le_refl _) C hR m h)
/-! ===== yX3_loseCarrier ===== -/
theorem dX3_loseCarrier_0 : decode cX3_loseCarrier 0 = .ok (.aload_n 0, 1) := by decide +kernel
theorem dX3_loseCarrier_1 : decode cX3_loseCarrier 1 = .ok (.iconst 3, 1) := by decide +kernel
theorem dX3_loseCarrier_2 : decode cX3_loseCarrier 2 = .ok (.putfield 64, 3) := by decide +kernel
theorem dX3_loseCarrier_5 : decode cX3_loseCarrier 5 = .ok (.aload_n 0, 1) := by decide +kernel
theorem dX3_loseCarrier_6 : decode cX3_loseCarrier 6 = .ok (.iconst 1, 1) := by decide +kernel
theorem dX3_loseCarrier_7 : decode cX3_loseCarrier 7 = .ok (.putfield 107, 3) := by decide +kernel
theorem dX3_loseCarrier_10 : decode cX3_loseCarrier 10 = .ok (.aload_n 0, 1) := by decide +kernel
theorem dX3_loseCarrier_11 : decode cX3_loseCarrier 11 = .ok (.getfield 24, 3) := by decide +kernel
theorem dX3_loseCarrier_14 : decode cX3_loseCarrier 14 = .ok (.iconst 0, 1) := by decide +kernel
theorem dX3_loseCarrier_15 : decode cX3_loseCarrier 15 = .ok (.putfield 53, 3) := by decide +kernel
theorem dX3_loseCarrier_18 : decode cX3_loseCarrier 18 = .ok (.aload_n 0, 1) := by decide +kernel
theorem dX3_loseCarrier_19 : decode cX3_loseCarrier 19 = .ok (.getfield 35, 3) := by decide +kernel
theorem dX3_loseCarrier_22 : decode cX3_loseCarrier 22 = .ok (.bipush 6, 2) := by decide +kernel
theorem dX3_loseCarrier_24 : decode cX3_loseCarrier 24 = .ok (.dup2, 1) := by decide +kernel
theorem dX3_loseCarrier_25 : decode cX3_loseCarrier 25 = .ok (.iaload, 1) := by decide +kernel
theorem dX3_loseCarrier_26 : decode cX3_loseCarrier 26 = .ok (.iconst 1, 1) := by decide +kernel
theorem dX3_loseCarrier_27 : decode cX3_loseCarrier 27 = .ok (.iadd, 1) := by decide +kernel
theorem dX3_loseCarrier_28 : decode cX3_loseCarrier 28 = .ok (.iastore, 1) := by decide +kernel
theorem dX3_loseCarrier_29 : decode cX3_loseCarrier 29 = .ok (.aload_n 0, 1) := by decide +kernel
theorem dX3_loseCarrier_30 : decode cX3_loseCarrier 30 = .ok (.iconst 4, 1) := by decide +kernel
theorem dX3_loseCarrier_31 : decode cX3_loseCarrier 31 = .ok (.iconst (-1), 1) := by decide +kernel
theorem dX3_loseCarrier_32 : decode cX3_loseCarrier 32 = .ok (.invokevirtual 179, 3) := by decide +kernel
theorem dX3_loseCarrier_35 : decode cX3_loseCarrier 35 = .ok (.aload_n 0, 1) := by decide +kernel
theorem dX3_loseCarrier_36 : decode cX3_loseCarrier 36 = .ok (.invokevirtual 183, 3) := by decide +kernel
theorem dX3_loseCarrier_39 : decode cX3_loseCarrier 39 = .ok (.return_, 1) := by decide +kernel
def f_L_loseCarrier_29 (m : xM) : Option (xM) :=
     (Option.bind (f_L_note 4 (-1) m) fun q0 =>
      (Option.bind (f_L_hold q0) fun q1 =>
      some q1))
set_option maxRecDepth 1000000 in
set_option maxHeartbeats 4000000 in
theorem t_L_loseCarrier_29 {Γ : xG} {d : Nat} (hd9 : 5 ≤ d) (C : xC Γ lay_L0 RX3 cX3_loseCarrier 1 d) {m9 : xM} (hR : xRv Γ lay_L0 cX3_loseCarrier m9) (m : xM) (h : f_L_loseCarrier_29 m = some m9) : xW Γ lay_L0 1 29 [(0, .inr (.inr (some 0)))] [] m := by
  unfold f_L_loseCarrier_29 at h
  refine x_aload_n C dX3_loseCarrier_29 rfl ?_
  refine x_iconst C dX3_loseCarrier_30 ?_
  refine x_iconst C dX3_loseCarrier_31 ?_
  obtain ⟨q0, hq0, h⟩ := x_bind h
  refine x_callVI C dX3_loseCarrier_32 (xin_22 _ (List.mem_of_getElem? (i := 3) rfl)) xy_X3_note (xi_X3_note) (xs_X3_note) (by omega) (by decide) (b := 0) rfl ⟨_, _, rfl⟩ (av := [.inl 4, .inl (-1)]) rfl (Nat.le_of_ble_eq_true rfl) (c_L_note _ _ _ _ _ hq0) rfl ?_
  refine x_aload_n C dX3_loseCarrier_35 rfl ?_
  obtain ⟨q1, hq1, h⟩ := x_bind h
  refine x_callVI C dX3_loseCarrier_36 (xin_23 _ (List.mem_of_getElem? (i := 12) rfl)) xy_X3_cutAfterHold (xi_X3_cutAfterHold) (xs_X3_cutAfterHold) (by omega) (by decide) (b := 0) rfl ⟨_, _, rfl⟩ (av := []) rfl (Nat.le_of_ble_eq_true rfl) (c_L_hold _ _ _ hq1) rfl ?_
  exact x_returnV hR dX3_loseCarrier_39 h
def f_L_loseCarrier (m : xM) : Option (xM) :=
     (if xib 6 11 then (if xib 6 11 then f_L_loseCarrier_29 (xu (xu (xu (xu m 0 8 3) 0 14 1) 23 5 0) 30 6 ((m 30 6) + 1))
      else none)
      else none)
set_option maxRecDepth 1000000 in
set_option maxHeartbeats 4000000 in
theorem t_L_loseCarrier {Γ : xG} {d : Nat} (hd9 : 5 ≤ d) (C : xC Γ lay_L0 RX3 cX3_loseCarrier 1 d) {m9 : xM} (hR : xRv Γ lay_L0 cX3_loseCarrier m9) (m : xM) (h : f_L_loseCarrier m = some m9) : xW Γ lay_L0 1 0 [(0, .inr (.inr (some 0)))] [] m := by
  unfold f_L_loseCarrier at h
  refine x_aload_n C dX3_loseCarrier_0 rfl ?_
  refine x_iconst C dX3_loseCarrier_1 ?_
  refine x_putI C dX3_loseCarrier_2 fF_X3_64 rfl rfl ?_
  refine x_aload_n C dX3_loseCarrier_5 rfl ?_
  refine x_iconst C dX3_loseCarrier_6 ?_
  refine x_putI C dX3_loseCarrier_7 fF_X3_107 rfl rfl ?_
  refine x_aload_n C dX3_loseCarrier_10 rfl ?_
  refine x_getR C dX3_loseCarrier_11 fF_X3_24 rfl rfl ?_
  refine x_iconst C dX3_loseCarrier_14 ?_
  refine x_putI C dX3_loseCarrier_15 fF_X3_53 rfl rfl ?_
  refine x_aload_n C dX3_loseCarrier_18 rfl ?_
  refine x_getR C dX3_loseCarrier_19 fF_X3_35 rfl rfl ?_
  refine x_bipush C dX3_loseCarrier_22 (by decide) ?_
  refine x_dup2 C dX3_loseCarrier_24 rfl rfl ?_
  refine x_iaload C dX3_loseCarrier_25 rfl h (fun h => ?_)
  refine x_iconst C dX3_loseCarrier_26 ?_
  refine x_iadd C dX3_loseCarrier_27 ?_
  refine x_iastore C dX3_loseCarrier_28 rfl h (fun h => ?_)
  refine x_loc [(0, .inr (.inr (some 0)))] ⟨rfl, trivial⟩ ?_
  exact t_L_loseCarrier_29 hd9 C hR _ h
theorem c_L_loseCarrier (l : Launch) (m m9 : xM) (h : f_L_loseCarrier m = some m9) : xMet l yX3_loseCarrier cX3_loseCarrier 1 none 5 lay_L0 [.inr (.inr (some 0))] m none m9 :=
  xMet_v (by decide +kernel) (Nat.le_of_ble_eq_true rfl) (fun Γ C hR hl9 => t_L_loseCarrier (Nat.le_refl _) C hR m h)

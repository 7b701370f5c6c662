/-! ===== the own line: events, hanging up ===== -/
/-- the own line at u: its lists are as long as it says -/
def OO (u : Nat) (A ρ : Nat → Nat) (h : gH) (s : aS) : Prop := ∃ R, OR u A R ρ (((s.2.2 1490)).length : Int) (((s.2.2 1730)).length : Int) h s
section
variable {u : Nat} {A ρ : Nat → Nat} {R : Nat → List Nat} {a b : Int} {h : gH} {s : aS}
theorem OR.ev1 (o : OR u A R ρ a b h s) {q : List (Option Nat)} {r : List Nat} {l : List (List Int)} (hq : gat h (A 30) = some (.inr (.inl (4, q)))) (hl : q.length = 60) (ht : q.take r.length = r.map some) (hr : aFa (oI h ρ) r l) : OR u A R ρ a b h (aF s 1490 l) := by
  obtain ⟨p1, p2, p3, p4, p8, p9, p10⟩ := o
  exact ⟨p1, p2, p3, p4, p8, p9, r, q, hq, hl, ht, hr⟩
theorem OR.fl1 (o : OR u A R ρ a b h s) {q : List (Option Nat)} {r : List Nat} {l : List (List Int)} (hq : gat h (A 29) = some (.inr (.inl (4, q)))) (hl : q.length = 200) (ht : q.take r.length = r.map some) (hr : aFa (oI h ρ) r l) : OR u A R ρ a b h (aF s 1730 l) := by
  obtain ⟨p1, p2, p3, p4, p8, p9, p10⟩ := o
  exact ⟨p1, p2, p3, p4, p8, ⟨r, q, hq, hl, ht, hr⟩, p10⟩
theorem OR.fl0 (o : OR u A R ρ a b h s) : OR u A R ρ a b h (aF s 1730 []) := by
  obtain ⟨r, q, e1, e2, e3, e4⟩ := o.2.2.2.2.2.1
  exact o.fl1 (r := []) e1 e2 rfl trivial
theorem OR.evset (o : OR u A R ρ a b h s) (hs : (s.2.2 1490) = []) {q : List (Option Nat)} (hq : gat h (A 30) = some (.inr (.inl (4, q)))) (hl : q.length = 60) {i : Nat} (hi : i < 60) {z : Int} (hz : z = (i : Int)) {x : Nat} {l : List Int} (hx : oI h ρ x l) : ∃ h', gsQ 4 h (A 30) z (some x) = some h' ∧ OR u A R ρ a b h' s ∧ hC 0 0 ρ h ρ h' ∧ gat h' (A 30) = some (.inr (.inl (4, q.set i (some x)))) := by
  obtain ⟨⟨p1, r⟩, p2, p3, ⟨p4, p5, p6, p7⟩, p8, p9, p10⟩ := o
  obtain ⟨h', e', wr⟩ := gsQ_W x hq hz (by rw [hl]; exact hi) (by omega) (gokB4 hx.1)
  have p := wr.P (r.2.1 30 (by omega) (by omega))
  refine ⟨h', e', ⟨⟨p _ _ (by rw [r.1]; omega) p1, r.len (by rw [wr.2.2.1]; exact Nat.le_refl _)⟩, p2.kp r p (by omega), p3.kp r p (by omega), ⟨p4.kp r p (by omega) (by omega) (by omega), p5.kp r p (by omega) (by omega) (by omega), p6.kp r p (by omega) (by omega) (by omega), p7.kp r p (by omega) (by omega) (by omega)⟩, p8.kp r p (by omega) (by omega) (by omega), p9.kp r p (by omega) (by omega) (by omega), [], q.set i (some x), wr.1, by rw [List.length_set, hl], rfl, ?_⟩, wr.C (r.2.1 30 (by omega) (by omega)) (by omega), wr.1⟩
  have e : s.2.2 1490 = [] := hs
  rw [e]
  trivial
/-- one more event -/
theorem OR.wev (o : OR u A R ρ a b h s) {z : Int} (hz : z = (((s.2.2 1490)).length : Int)) (hl : ((s.2.2 1490)).length < 60) {x : Nat} {l : List Int} (hx : oI h ρ x l) : ∃ h', gsQ 4 h (A 30) z (some x) = some h' ∧ OR u A R ρ a b h' (aF s 1490 ((s.2.2 1490) ++ [l])) ∧ hC 0 0 ρ h ρ h' := by
  obtain ⟨rr, q, e1, e2, e3, e4⟩ := o.2.2.2.2.2.2
  have hlen := aFa_len e4
  have o0 : OR u A R ρ a b h (aF s 1490 []) := o.ev1 (r := []) e1 e2 rfl trivial
  obtain ⟨h', w1, w2, w3, w4⟩ := o0.evset (by show (aF s 1490 []).2.2 1490 = []; rw [aF_3, if_pos rfl]) e1 e2 hl hz hx
  have o1 := w2.ev1 (r := rr ++ [x]) (l := (s.2.2 1490) ++ [l]) w4 (by rw [List.length_set, e2]) (by
    rw [List.length_append, List.map_append, ← e3]
    show (q.set ((s.2.2 1490)).length (some x)).take (rr.length + 1) = _
    rw [hlen]
    show (q.set (s.2.2 1490).length (some x)).take ((s.2.2 1490).length + 1) = q.take (s.2.2 1490).length ++ [some x]
    rw [List.take_succ, List.take_set_of_le (Nat.le_refl _), List.getElem?_set_self (by rw [e2]; exact hl)]
    rfl) (aFa_app (aFa_mono (fun y f e => w3.oI e) e4) ⟨w3.oI hx, trivial⟩)
  rw [aF_aF] at o1
  exact ⟨h', w1, o1, w3⟩
theorem O_tell_47 (o : OR u A R ρ a b h s) (ha : a = (((s.2.2 1490)).length : Int)) (hl : ((s.2.2 1490)).length < 60) {B : Int} (hB : B ≤ 2147483647) (hr : aR B s) (k e : Int) : ∃ h', f_O_tell_47 u k e h = some h' ∧ OR u A R ρ (a + 1) b h' (aF s 1490 ((s.2.2 1490) ++ [[s.1 0, k, e, if s.1 1 = 2 then s.1 3 else -1]])) ∧ hC 1 4 ρ h ρ h' := by
  have x1 := (hr.1 1).xw hB
  unfold f_O_tell_47
  rw [o.k30, Option.bind_some, o.fa, Option.bind_some]
  obtain ⟨h1, a1, a2, a3⟩ := o.wa (a + 1)
  rw [a1, Option.bind_some, gNw_z 0 h1 (n := 4) (z := 4) rfl (by omega), Option.bind_some]
  dsimp only
  rw [(a2.app _).f0, Option.bind_some]
  rw [gsN_nz (i := 0) (z := 0) _ rfl (by show 0 < 4; omega) (by show 4 < _; omega), Option.bind_some]
  rw [gsN_nz (i := 1) (z := 1) _ rfl (by show 1 < 4; omega) (by show 4 < _; omega), Option.bind_some]
  rw [gsN_nz (i := 2) (z := 2) _ rfl (by show 2 < 4; omega) (by show 4 < _; omega), Option.bind_some]
  rw [(a2.app _).f1, Option.bind_some, x1]
  have key : ∀ r : Int, ∃ h', f_O_tell_98 u k e r 3 (2000 + h1.length) (2000 + h1.length) a (A 30) (h1 ++ [.inl (0, [s.1 0, k, e, 0])]) = some h' ∧ OR u A R ρ (a + 1) b h' (aF s 1490 ((s.2.2 1490) ++ [[s.1 0, k, e, r]])) ∧ hC 1 4 ρ h ρ h' := fun r => by
    unfold f_O_tell_98
    rw [gsN_nz (i := 3) (z := 3) _ rfl (by show 3 < 4; omega) (by show 4 < _; omega), Option.bind_some]
    obtain ⟨h2, b1, b2, b3⟩ := (a2.app [.inl (0, [s.1 0, k, e, r])]).wev ha hl (x := 2000 + h1.length) (l := [s.1 0, k, e, r]) ⟨gat_nw _ _ [], a2.1.2.2.2.1 _ (Nat.le_refl _)⟩
    refine ⟨h2, ?_, b2, ((a3.tr (hC.app ρ h1 _)).tr b3).le ?_ ?_⟩
    · show (Option.bind (gsQ 4 (h1 ++ [.inl (0, [s.1 0, k, e, r])]) (A 30) a (some (2000 + h1.length))) fun q11 => some q11) = _
      rw [b1]
      rfl
    · show 0 + 1 + 0 ≤ 1
      omega
    · show 0 + (4 + 0) + 0 ≤ 4
      omega
  by_cases hp : s.1 1 = 2
  · rw [hp, if_pos (show (2 : Int) = xw 2 by decide), if_pos rfl, (a2.app _).f3, Option.bind_some]
    exact key (s.1 3)
  · rw [if_neg (by rw [show xw 2 = 2 by decide]; exact hp), if_neg hp]
    exact key (-1)
theorem O_tell_11 (k e : Int) (L : Nat → Nat) : ∀ (j x n : Nat) (h : gH) (q : List (Option Nat)), x + j = 60 → 1 ≤ x → j < n → OR u A R ρ a b h s → (s.2.2 1490) = [] → gat h (A 30) = some (.inr (.inl (4, q))) → q.length = 60 → (∀ i, i < 60 → ∃ l, oI h ρ (L i) l) → (∀ i, i < 60 → q.getD i none = some (L (if i + 1 < x then i + 1 else i))) → ∃ (h' : gH) (q' : List (Option Nat)), f_O_tell_11 u k e n (x : Int) h = f_O_tell_37 u k e h' ∧ OR u A R ρ a b h' s ∧ hC 0 0 ρ h ρ h' ∧ gat h' (A 30) = some (.inr (.inl (4, q'))) ∧ q'.length = 60 ∧ ∀ i, i < 59 → q'.getD i none = some (L (i + 1))
  | 0, x, n + 1, h, q, hx, h1, hn, o, hs, hq, hl, hL, hi => by
    refine ⟨h, q, ?_, o, hC.rf, hq, hl, fun i h59 => ?_⟩
    · rw [f_O_tell_11, if_neg (by rw [xw_nat (by omega), show xw 60 = 60 by decide]; omega)]
    · rw [hi i (by omega), if_pos (by omega)]
  | j + 1, x, n + 1, h, q, hx, h1, hn, o, hs, hq, hl, hL, hi => by
    obtain ⟨l, hxl⟩ := hL x (by omega)
    obtain ⟨h', w1, w2, w3, w4⟩ := o.evset hs hq hl (i := x - 1) (by omega) (z := (x : Int) - 1) (by omega) hxl
    obtain ⟨h2, q2, z1, z2, z3, z4, z5, z6⟩ := O_tell_11 k e L j (x + 1) n h' (q.set (x - 1) (some (L x))) (by omega) (by omega) (by omega) w2 hs w4 (by rw [List.length_set, hl]) (fun i h60 => ⟨(hL i h60).choose, w3.oI (hL i h60).choose_spec⟩) (fun i h60 => by
      rw [gset_d none q (x - 1) i _ (by omega)]
      by_cases hix : i = x - 1
      · rw [if_pos hix, if_pos (by omega), hix, show x - 1 + 1 = x by omega]
      · rw [if_neg hix, hi i h60]
        by_cases h3 : i + 1 < x
        · rw [if_pos h3, if_pos (by omega)]
        · rw [if_neg h3, if_neg (by omega)])
    refine ⟨h2, q2, ?_, z2, (w3.tr z3).le (by omega) (by omega), z4, z5, z6⟩
    rw [f_O_tell_11, if_pos (by rw [xw_nat (by omega), show xw 60 = 60 by decide]; omega), o.k30, Option.bind_some, Option.bind_some, gaK_N hq (by omega) (by omega), hi x (by omega), if_neg (by omega), Option.bind_some, w1, Option.bind_some]
    exact z1
  | _, _, 0, _, _, _, _, hn, _, _, _, _, _, _ => by omega
theorem OR.tell (o : OR u A R ρ (((s.2.2 1490)).length : Int) b h s) (hl : ((s.2.2 1490)).length ≤ 60) {B : Int} (hB : B ≤ 2147483647) (hr : aR B s) (k e : Int) : ∃ h', f_O_tell u k e h = some h' ∧ OR u A R ρ ((((aTell k e s).2.2 1490)).length : Int) b h' (aTell k e s) ∧ hC 1 4 ρ h ρ h' := by
  have hlen : ∀ (l : List (List Int)) (x : List Int), (((aF s 1490 (l ++ [x])).2.2 1490)).length = l.length + 1 := fun l x => by
    show ((aF s 1490 (l ++ [x])).2.2 1490).length = _
    rw [aF_3, if_pos rfl, List.length_append]; rfl
  unfold f_O_tell aTell
  rw [o.fa, Option.bind_some, xw_nat (by omega), show xw 60 = 60 by decide]
  by_cases h60 : ((s.2.2 1490)).length = 60
  · rw [if_pos (by omega), if_pos h60, hlen]
    obtain ⟨rr, q, e1, e2, e3, e4⟩ := o.2.2.2.2.2.2
    have hrl := aFa_len e4
    have h60' : (s.2.2 1490).length = 60 := h60
    have eq : q = rr.map some := by rw [← e3, List.take_of_length_le (by omega)]
    have o0 : OR u A R ρ (((s.2.2 1490)).length : Int) b h (aF s 1490 []) := o.ev1 (r := []) e1 e2 rfl trivial
    have es : ((aF s 1490 []).2.2 1490) = [] := by show (aF s 1490 []).2.2 1490 = []; rw [aF_3, if_pos rfl]
    obtain ⟨h1, q1, z1, z2, z3, z4, z5, z6⟩ := O_tell_11 k e (fun i => rr.getD i 0) 59 1 fu h q (by omega) (by omega) (by show _ < 5000; omega) o0 es e1 e2 (fun i hi => ⟨_, aFa_at e4 (i := i) (by omega)⟩) (fun i hi => by
      rw [if_neg (by omega), eq, List.getD_eq_getElem?_getD, List.getElem?_map, List.getD_eq_getElem?_getD, List.getElem?_eq_getElem (by omega)]
      rfl)
    have z1' : f_O_tell_11 u k e fu 1 h = f_O_tell_37 u k e h1 := z1
    rw [z1']
    have o1 := z2.ev1 (r := rr.drop 1) (l := ((s.2.2 1490)).drop 1) z4 z5 (by
      apply List.ext_getElem?
      intro i
      rw [List.length_drop, List.getElem?_take, List.getElem?_map, List.getElem?_drop, Nat.add_comm 1 i]
      by_cases hi : i < rr.length - 1
      · have h6 := z6 i (by omega)
        rw [List.getD_eq_getElem?_getD, List.getElem?_eq_getElem (by omega)] at h6
        rw [if_pos hi, List.getElem?_eq_getElem (by omega), List.getElem?_eq_getElem (by omega)]
        have h7 : q1[i] = some (rr.getD (i + 1) 0) := h6
        rw [h7, List.getD_eq_getElem?_getD, List.getElem?_eq_getElem (by omega)]
        rfl
      · rw [if_neg hi, List.getElem?_eq_none (by omega)]
        rfl) (aFa_mono (fun y f e => z3.oI e) (aFa_drop 1 e4))
    rw [aF_aF] at o1
    unfold f_O_tell_37
    rw [o1.fa, Option.bind_some]
    obtain ⟨h2, a1, a2, a3⟩ := o1.wa ((((s.2.2 1490)).length : Int) - 1)
    rw [a1, Option.bind_some]
    have ed : ((aF s 1490 (((s.2.2 1490)).drop 1)).2.2 1490) = ((s.2.2 1490)).drop 1 := by show (aF s 1490 (((s.2.2 1490)).drop 1)).2.2 1490 = _; rw [aF_3, if_pos rfl]
    obtain ⟨h3, b1, b2, b3⟩ := O_tell_47 a2 (by rw [ed, List.length_drop]; omega) (by rw [ed, List.length_drop]; omega) hB (hr.F fun f hf => hr.2.2 1490 f (List.mem_of_mem_drop hf)) k e
    rw [ed, aF_aF] at b2
    refine ⟨h3, b1, ?_, ((z3.tr a3).tr b3).le (by omega) (by omega)⟩
    rw [List.length_drop]
    have ee : ((((s.2.2 1490)).length - 1 + 1 : Nat) : Int) = (((s.2.2 1490)).length : Int) - 1 + 1 := by omega
    rw [ee]
    exact b2
  · rw [if_neg (by omega), if_neg h60, hlen]
    obtain ⟨h3, b1, b2, b3⟩ := O_tell_47 o rfl (by omega) hB hr k e
    exact ⟨h3, b1, b2, b3⟩
theorem aTell_fl (k e : Int) (s : aS) : ((aTell k e s).2.2 1730) = (s.2.2 1730) := by
  unfold aTell
  show (aF s 1490 _).2.2 1730 = _
  rw [aF_3, if_neg (by omega)]
theorem OO.tell (o : OO u A ρ h s) (hl : ((s.2.2 1490)).length ≤ 60) {B : Int} (hB : B ≤ 2147483647) (hr : aR B s) (k e : Int) : ∃ h', f_O_tell u k e h = some h' ∧ OO u A ρ h' (aTell k e s) ∧ hC 1 4 ρ h ρ h' := by
  obtain ⟨R, o⟩ := o
  obtain ⟨h', w1, w2, w3⟩ := o.tell hl hB hr k e
  exact ⟨h', w1, ⟨R, by rw [aTell_fl]; exact w2⟩, w3⟩
theorem O_off (o : OR u A R ρ a b h s) (n e : Nat) (he : e < 2) : ∃ h', f_O_hang_12 u (n + 1) (e : Int) h = f_O_hang_12 u n ((e : Int) + 1) h' ∧ OR u A (fun k => if k = e then [] else R k) ρ a b h' (aOff e s) ∧ hC 2 0 ρ h ρ h' := by
  rw [f_O_hang_12, if_pos (by rw [xw_nat (by omega), show xw 2 = 2 by decide]; omega), o.k18, Option.bind_some, gNw_z 0 h (n := 0) (z := 0) rfl (by omega), Option.bind_some]
  dsimp only
  obtain ⟨h1, a1, a2, a3⟩ := (o.app [.inl (0, [])]).wque e rfl he (x := 2000 + h.length) (l := []) ⟨gat_nw _ _ [], o.1.2.2.2.1 _ (Nat.le_refl _)⟩
  have a1' : gsQ 4 (h ++ [.inl (0, List.replicate 0 0)]) (A 18) (e : Int) (some (2000 + h.length)) = some h1 := a1
  rw [a1', Option.bind_some, a2.k28, Option.bind_some, gNq_z 4 h1 (n := 0) (z := 0) rfl (by omega), Option.bind_some]
  dsimp only
  obtain ⟨h2, b1, b2, b3⟩ := (a2.app [.inr (.inl (4, []))]).wfrs e rfl he (y := 2000 + h1.length) (r' := []) (l := []) ⟨gat_nw _ _ [], a2.1.2.2.2.1 _ (Nat.le_refl _)⟩ trivial List.nodup_nil (fun x hx => absurd hx List.not_mem_nil)
  have b1' : gsQ 5 (h1 ++ [.inr (.inl (4, List.replicate 0 none))]) (A 28) (e : Int) (some (2000 + h1.length)) = some h2 := b1
  rw [b1', Option.bind_some]
  exact ⟨h2, rfl, b2, ((((hC.app ρ h _).tr a3).tr (hC.app ρ h1 _)).tr b3).le (by show 1 + 0 + 1 + 0 ≤ 2; omega) (by show (0 + 0) + 0 + (0 + 0) + 0 ≤ 0; omega)⟩
theorem OO.hang (o : OO u A ρ h s) (hm : oSm s) (hl : ((s.2.2 1490)).length ≤ 60) {B : Int} (hB : B ≤ 1000000000) (hr : aR B s) : ∃ h', f_O_hang u h = some h' ∧ OO u A ρ h' (aHang s) ∧ hC 5 4 ρ h ρ h' := by
  obtain ⟨R, o⟩ := o
  unfold f_O_hang
  obtain ⟨h1, a1, a2, a3⟩ := o.w1 hm 0
  obtain ⟨h2, b1, b2, b3⟩ := a2.wb 0
  rw [a1, Option.bind_some, b1, Option.bind_some]
  obtain ⟨h3, c1, c2, c3⟩ := O_off b2.fl0 4999 0 (by omega)
  obtain ⟨h4, d1, d2, d3⟩ := O_off c2 4998 1 (by omega)
  have c1' : f_O_hang_12 u fu 0 h2 = f_O_hang_12 u 4999 1 h3 := c1
  have d1' : f_O_hang_12 u 4999 1 h3 = f_O_hang_12 u (4997 + 1) 2 h4 := d1
  rw [c1', d1', f_O_hang_12, if_neg (by decide)]
  unfold f_O_hang_42
  have hm4 : oSm (aOff 1 (aOff 0 (aF (aN s 1 0) 1730 []))) := show oSm (aN s 1 0) from hm.N (by omega)
  rw [d2.k17, Option.bind_some, d2.tot 7 (z := 7) rfl (by omega), Option.bind_some]
  obtain ⟨h5, f1, f2, f3⟩ := d2.wtot hm4 7 (z := 7) rfl (by omega) ((aOff 1 (aOff 0 (aF (aN s 1 0) 1730 []))).1 (45 + 7) + 1)
  rw [f1, Option.bind_some]
  have r52 := hr.1 52
  unfold aB at r52
  have hr5 : aR 2000000000 (aN (aOff 1 (aOff 0 (aF (aN s 1 0) 1730 []))) (45 + 7) ((aOff 1 (aOff 0 (aF (aN s 1 0) 1730 []))).1 (45 + 7) + 1)) := by
    refine aR.N ?_ (by show aB _ (s.1 52 + 1); unfold aB; omega)
    have h0 : aR 2000000000 (aF (aN s 1 0) 1730 []) := ((hr.le (by omega)).N (by unfold aB; omega)).F fun f hf => absurd hf List.not_mem_nil
    have h1 : ∀ (e : Nat) (t : aS), aR 2000000000 t → aR 2000000000 (aOff e t) := fun e t ht => (ht.L fun x hx => absurd hx List.not_mem_nil).F fun f hf => absurd hf List.not_mem_nil
    exact h1 1 _ (h1 0 _ h0)
  have ev : ((aN (aOff 1 (aOff 0 (aF (aN s 1 0) 1730 []))) (45 + 7) ((aOff 1 (aOff 0 (aF (aN s 1 0) 1730 []))).1 (45 + 7) + 1)).2.2 1490) = (s.2.2 1490) := by
    unfold aOff
    show (aN (aF (aL (aF (aL (aF (aN s 1 0) 1730 []) ((56 + 717 * 0) + 117) []) ((56 + 717 * 0) + 26) []) ((56 + 717 * 1) + 117) []) ((56 + 717 * 1) + 26) []) _ _).2.2 1490 = _
    rw [aN_2, aF_3, if_neg (by omega), aL_3, aF_3, if_neg (by omega), aL_3, aF_3, if_neg (by omega)]
    rfl
  have fl : ((aN (aOff 1 (aOff 0 (aF (aN s 1 0) 1730 []))) (45 + 7) ((aOff 1 (aOff 0 (aF (aN s 1 0) 1730 []))).1 (45 + 7) + 1)).2.2 1730) = [] := by
    unfold aOff
    show (aN (aF (aL (aF (aL (aF (aN s 1 0) 1730 []) ((56 + 717 * 0) + 117) []) ((56 + 717 * 0) + 26) []) ((56 + 717 * 1) + 117) []) ((56 + 717 * 1) + 26) []) _ _).2.2 1730 = _
    rw [aN_2, aF_3, if_neg (by omega), aL_3, aF_3, if_neg (by omega), aL_3, aF_3, if_pos rfl]
  rw [← ev] at f2
  obtain ⟨h6, g1, g2, g3⟩ := f2.tell (by rw [ev]; exact hl) (by omega) hr5 5 (-1)
  rw [g1, Option.bind_some, if_pos f2.ob]
  refine ⟨h6, rfl, ⟨fun k => if k = 1 then [] else if k = 0 then [] else R k, ?_⟩, (((((a3.tr b3).tr c3).tr d3).tr f3).tr g3).le (by omega) (by omega)⟩
  have e9 : ((aHang s).2.2 1730) = [] := by
    unfold aHang
    dsimp only
    rw [aTell_fl]
    exact fl
  rw [e9]
  exact g2
end

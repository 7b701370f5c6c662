/-! ===== the law writes a text ===== -/
/-- only the cell at w differs -/
def hO (w : Nat) (h h' : gH) : Prop := (∀ y, y ≠ w → gat h' y = gat h y) ∧ h'.length = h.length ∧ gsl h' = gsl h
theorem hO.rf (w : Nat) (h : gH) : hO w h h := ⟨fun _ _ => rfl, rfl, rfl⟩
theorem hO.tr {w : Nat} {h h' h'' : gH} (p : hO w h h') (q : hO w h' h'') : hO w h h'' := ⟨fun y hy => by rw [q.1 y hy, p.1 y hy], by rw [q.2.1, p.2.1], by rw [q.2.2, p.2.2]⟩
theorem hW.O {w : Nat} {c : gC} {h h' : gH} (p : hW w c h h') : hO w h h' := ⟨p.2.1, p.2.2.1, p.2.2.2⟩
def wl (p : Nat → Int) (n : Int) : List Int := [p 0, p 1, p 2, p 3, p 4, n]
theorem wl_set (p : Nat → Int) (n x : Int) {i : Nat} (hi : i < 5) : (wl p n).set i x = wl (fun k => if k = i then x else p k) n := by
  rcases (by omega : i = 0 ∨ i = 1 ∨ i = 2 ∨ i = 3 ∨ i = 4) with r | r | r | r | r <;> (subst r; rfl)
theorem wl_get (p : Nat → Int) (n : Int) {i : Nat} (hi : i < 5) : (wl p n).getD i 0 = p i := by
  rcases (by omega : i = 0 ∨ i = 1 ∨ i = 2 ∨ i = 3 ∨ i = 4) with r | r | r | r | r <;> (subst r; rfl)
def wG (l : List Nat) (i q : Nat) : Nat := l.getD (20 * (l.length / 20) + 4 * i + q) 0
/-- the law holds the bytes behind the last twenty in its words -/
def wX (w : Nat) (h : gH) (l : List Nat) : Prop := ∃ p : Nat → Int, gat h w = some (.inl (0, wl p (l.length : Int))) ∧ (∀ i, i < 5 → pkOk (p i) (wG l i)) ∧ (l.length % 20 = 0 → ∀ i, i < 5 → p i = 0)
def cI (l : List Nat) : List Int := l.map fun (b : Nat) => (b : Int)
def cTk (l : List Nat) : List Int := cI (l.take (20 * (l.length / 20)))
def bys (l : List Nat) : Prop := ∀ b, b ∈ l → b < 256
theorem cI_len (l : List Nat) : (cI l).length = l.length := by unfold cI; rw [List.length_map]
theorem cI_app (l r : List Nat) : cI (l ++ r) = cI l ++ cI r := by unfold cI; rw [List.map_append]
theorem bys.get {l : List Nat} (h : bys l) (i : Nat) : l.getD i 0 < 256 := by
  by_cases c : i < l.length
  · rw [List.getD_eq_getElem?_getD, List.getElem?_eq_getElem c]
    exact h _ (List.getElem_mem c)
  · rw [List.getD_eq_getElem?_getD, List.getElem?_eq_none (by omega)]
    exact Nat.lt_of_sub_eq_succ rfl
theorem getD_snocN (l : List Nat) (b i : Nat) : (l ++ [b]).getD i 0 = if i = l.length then b else l.getD i 0 := by
  rw [List.getD_eq_getElem?_getD, List.getD_eq_getElem?_getD]
  by_cases c : i < l.length
  · rw [List.getElem?_append_left c, if_neg (by omega)]
  · rw [List.getElem?_append_right (by omega)]
    by_cases d : i = l.length
    · rw [if_pos d, d, Nat.sub_self]; rfl
    · rw [if_neg d, List.getElem?_eq_none (by rw [List.length_singleton]; omega), List.getElem?_eq_none (by omega)]
theorem getD_over (l : List Nat) {i : Nat} (h : l.length ≤ i) : l.getD i 0 = 0 := by
  rw [List.getD_eq_getElem?_getD, List.getElem?_eq_none h]; rfl
theorem wZ.X {w : Nat} {h : gH} (k : gat h w = some (.inl (0, [0, 0, 0, 0, 0, 0]))) : wX w h [] := ⟨fun _ => 0, k, fun i hi => pkOk.zero, fun _ _ _ => rfl⟩
section
variable {s : aS} {B : Int} {m : xM} {H : List aS} {S : Option aS} {w : Nat} {h : gH} {l : List Nat}
theorem L_add_65 (b : Int) : ∀ (j x n : Nat) (p : Nat → Int) (z : Int) (h : gH), x + j = 5 → j < n → gat h w = some (.inl (0, wl p z)) → (∀ k, k < x → p k = 0) → ∃ h', f_L_add_65 w b n (x : Int) m h = some (m, h') ∧ gat h' w = some (.inl (0, wl (fun _ => 0) z)) ∧ hO w h h' := by
  intro j
  induction j with
  | zero =>
    intro x n p z h h1 h2 hg hp
    obtain ⟨n, rfl⟩ : ∃ z, n = z + 1 := ⟨n - 1, by omega⟩
    refine ⟨h, ?_, ?_, hO.rf w h⟩
    · rw [f_L_add_65, if_neg (by rw [xw_nat (by omega), show xw 5 = 5 by decide]; omega)]
    · rw [hg]
      unfold wl
      rw [hp 0 (by omega), hp 1 (by omega), hp 2 (by omega), hp 3 (by omega), hp 4 (by omega)]
  | succ j ih =>
    intro x n p z h h1 h2 hg hp
    obtain ⟨n, rfl⟩ : ∃ z, n = z + 1 := ⟨n - 1, by omega⟩
    obtain ⟨h1', a1, a2⟩ := gsN_W 0 hg (i := x) (z := (x : Int)) rfl (by show x < 6; omega) (by show 6 < 100000; omega)
    have e := a2.1
    rw [wl_set p z 0 (by omega)] at e
    obtain ⟨h2', b1, b2, b3⟩ := ih (x + 1) n _ z h1' (by omega) (by omega) e fun k hk => by
      by_cases c : k = x
      · exact if_pos c
      · exact (if_neg c).trans (hp k (by omega))
    refine ⟨h2', ?_, b2, a2.O.tr b3⟩
    rw [f_L_add_65, if_pos (by rw [xw_nat (by omega), show xw 5 = 5 by decide]; omega), a1, Option.bind_some, show (x : Int) + 1 = ((x + 1 : Nat) : Int) by omega]
    exact b1
theorem fbL_pk {p : Nat → Int} {g : Nat → Nat → Nat} (hp : ∀ i, i < 5 → pkOk (p i) (g i)) (hg : ∀ i q, g i q < 256) : fbL (p 0) (p 1) (p 2) (p 3) (p 4) = (List.range 20).map fun k => ((g (k / 4) (k % 4) : Nat) : Int) := by
  unfold fbL
  refine List.map_congr_left fun k hk => ?_
  have hk := List.mem_range.mp hk
  unfold fbB
  have e : fbW (p 0) (p 1) (p 2) (p 3) (p 4) k = p (k / 4) := by
    unfold fbW
    by_cases c4 : k < 4
    · rw [if_pos c4, show k / 4 = 0 by omega]
    · rw [if_neg c4]
      by_cases c8 : k < 8
      · rw [if_pos c8, show k / 4 = 1 by omega]
      · rw [if_neg c8]
        by_cases c12 : k < 12
        · rw [if_pos c12, show k / 4 = 2 by omega]
        · rw [if_neg c12]
          by_cases c16 : k < 16
          · rw [if_pos c16, show k / 4 = 3 by omega]
          · rw [if_neg c16, show k / 4 = 4 by omega]
  rw [e]
  exact (hp (k / 4) (by omega)).get (by omega) (hg _ _)
theorem L_add (hx : wX w h l) (ha : aX B m s H S (cTk l)) (hl : bys l) {b : Nat} (hb : b < 256) (hn : l.length < 580) : ∃ (m' : xM) (h' : gH), f_L_add w (b : Int) m h = some (m', h') ∧ wX w h' (l ++ [b]) ∧ aX B m' s H S (cTk (l ++ [b])) ∧ hO w h h' := by
  obtain ⟨p, g1, g2, g3⟩ := hx
  obtain ⟨n, hN⟩ : ∃ n, n = l.length := ⟨_, rfl⟩
  rw [← hN] at g1 g3 hn
  have r5 : gaN 0 h w 5 = some (n : Int) := gaN_z g1 (i := 5) rfl (by show 5 < 6; omega) (by show 6 < 2147483648; omega)
  have e20 : xirem (n : Int) 20 = ((n % 20 : Nat) : Int) := by
    rw [xirem_pos (x := (n : Int)) (y := 20) ⟨by omega, by omega⟩ ⟨by omega, by omega⟩]; omega
  have e4 : xirem (n : Int) 4 = ((n % 4 : Nat) : Int) := by
    rw [xirem_pos (x := (n : Int)) (y := 4) ⟨by omega, by omega⟩ ⟨by omega, by omega⟩]; omega
  have ed : xidiv ((n % 20 : Nat) : Int) 4 = ((n % 20 / 4 : Nat) : Int) := by
    rw [xidiv_pos (x := ((n % 20 : Nat) : Int)) (y := 4) ⟨by omega, by omega⟩ ⟨by omega, by omega⟩]; omega
  obtain ⟨i, hi⟩ : ∃ i, i = n % 20 / 4 := ⟨_, rfl⟩
  have hi5 : i < 5 := by omega
  have ri : gaN 0 h w (i : Int) = some (p i) := by
    rw [gaN_z g1 (i := i) rfl (by show i < 6; omega) (by show 6 < 2147483648; omega), wl_get p _ hi5]
  obtain ⟨x, hxx⟩ : ∃ x, x = xior (p i) (xishl (b : Int) (24 - 8 * ((n % 4 : Nat) : Int))) := ⟨_, rfl⟩
  obtain ⟨h1, a1, a2⟩ := gsN_W x g1 (i := i) (z := (i : Int)) rfl (by show i < 6; omega) (by show 6 < 100000; omega)
  have f1 := a2.1
  rw [wl_set p _ x hi5] at f1
  have r5' : gaN 0 h1 w 5 = some (n : Int) := gaN_z f1 (i := 5) rfl (by show 5 < 6; omega) (by show 6 < 2147483648; omega)
  obtain ⟨h2, b1, b2⟩ := gsN_W ((n : Int) + 1) f1 (i := 5) (z := 5) rfl (by show 5 < 6; omega) (by show 6 < 100000; omega)
  have f2 : gat h2 w = some (.inl (0, wl (fun k => if k = i then x else p k) ((n + 1 : Nat) : Int))) := b2.1
  obtain ⟨p', hp'⟩ : ∃ p' : Nat → Int, p' = fun k => if k = i then x else p k := ⟨_, rfl⟩
  rw [← hp'] at f2
  have r6 : gaN 0 h2 w 5 = some ((n + 1 : Nat) : Int) := gaN_z f2 (i := 5) rfl (by show 5 < 6; omega) (by show 6 < 2147483648; omega)
  have e20' : xirem ((n + 1 : Nat) : Int) 20 = (((n + 1) % 20 : Nat) : Int) := by
    rw [xirem_pos (x := ((n + 1 : Nat) : Int)) (y := 20) ⟨by omega, by omega⟩ ⟨by omega, by omega⟩]; omega
  have hlen : (l ++ [b]).length = n + 1 := by rw [List.length_append, ← hN]; rfl
  have hO2 := a2.O.tr b2.O
  -- the words hold the bytes and the new one
  have pk : ∀ k, k < 5 → pkOk (p' k) fun q => (l ++ [b]).getD (20 * (n / 20) + 4 * k + q) 0 := fun k hk => by
    rw [hp']
    dsimp only
    by_cases c : k = i
    · rw [if_pos c, hxx, c]
      have g := (g2 i hi5).put (q := n % 4) (by omega) (by
        unfold wG
        rw [← hN]
        exact getD_over l (by omega)) hb
      intro q hq j hj
      rw [g q hq j hj]
      show (if q = n % 4 then b else wG l i q).testBit j = ((l ++ [b]).getD (20 * (n / 20) + 4 * i + q) 0).testBit j
      rw [getD_snocN, ← hN]
      by_cases d : q = n % 4
      · rw [if_pos d, if_pos (by omega)]
      · rw [if_neg d, if_neg (by omega)]
        unfold wG
        rw [← hN]
    · rw [if_neg c]
      intro q hq j hj
      rw [g2 k hk q hq j hj]
      show _ = ((l ++ [b]).getD (20 * (n / 20) + 4 * k + q) 0).testBit j
      rw [getD_snocN, ← hN, if_neg (by omega)]
      unfold wG
      rw [← hN]
  have bb : bys (l ++ [b]) := fun y hy => by
    rcases List.mem_append.mp hy with q | q
    · exact hl y q
    · rw [List.mem_singleton.mp q]; exact hb
  have e0 : f_L_add w (b : Int) m h = if xw (((n + 1) % 20 : Nat) : Int) = 0 then (Option.bind (gaN 0 h2 w 0) fun q7 => (Option.bind (gaN 0 h2 w 1) fun q8 => (Option.bind (gaN 0 h2 w 2) fun q9 => (Option.bind (gaN 0 h2 w 3) fun q10 => (Option.bind (gaN 0 h2 w 4) fun q11 => (Option.bind (f_X_feed q7 q8 q9 q10 q11 m) fun q12 => f_L_add_65 w (b : Int) fu 0 q12.2 h2)))))) else some (m, h2) := by
    unfold f_L_add
    rw [r5, Option.bind_some, if_neg (by decide), if_neg (by decide), e20, ed, ← hi, ri, Option.bind_some, Option.bind_some, if_neg (by decide), e4, ← hxx, a1, Option.bind_some, r5', Option.bind_some, b1, Option.bind_some, r6, Option.bind_some, if_neg (by decide), e20']
  rw [e0, xw_nat (by omega)]
  by_cases c : (n + 1) % 20 = 0
  · rw [if_pos (by omega)]
    have ra : ∀ k : Nat, k < 5 → gaN 0 h2 w (k : Int) = some (p' k) := fun k hk => by
      rw [gaN_z f2 (i := k) rfl (by show k < 6; omega) (by show 6 < 2147483648; omega), wl_get p' _ hk]
    have q0 : gaN 0 h2 w 0 = some (p' 0) := ra 0 (by omega)
    have q1 : gaN 0 h2 w 1 = some (p' 1) := ra 1 (by omega)
    have q2 : gaN 0 h2 w 2 = some (p' 2) := ra 2 (by omega)
    have q3 : gaN 0 h2 w 3 = some (p' 3) := ra 3 (by omega)
    have q4 : gaN 0 h2 w 4 = some (p' 4) := ra 4 (by omega)
    have lb : (cTk l).length = 20 * (n / 20) := by
      unfold cTk
      rw [cI_len, List.length_take, ← hN]
      omega
    obtain ⟨m', c1, c2⟩ := ha.feed (by rw [lb]; omega) (p' 0) (p' 1) (p' 2) (p' 3) (p' 4)
    obtain ⟨h3, d1, d2, d3⟩ := L_add_65 (w := w) (m := m') (b : Int) 5 0 fu p' _ h2 (by omega) (by show _ < 5000; omega) f2 fun k hk => absurd hk (Nat.not_lt_zero k)
    rw [show ((0 : Nat) : Int) = 0 from rfl] at d1
    refine ⟨m', h3, by rw [q0, Option.bind_some, q1, Option.bind_some, q2, Option.bind_some, q3, Option.bind_some, q4, Option.bind_some, c1, Option.bind_some]; exact d1, ⟨fun _ => 0, by rw [hlen]; exact d2, fun k hk => ?_, fun _ _ _ => rfl⟩, ?_, hO2.tr d3⟩
    · have : wG (l ++ [b]) k = fun _ => 0 := funext fun q => by
        unfold wG
        rw [hlen]
        exact getD_over _ (by rw [hlen]; omega)
      rw [this]
      exact pkOk.zero
    · have ef := fbL_pk (p := p') (g := fun k q => (l ++ [b]).getD (20 * (n / 20) + 4 * k + q) 0) pk fun k q => bb.get _
      have e1 : cTk (l ++ [b]) = cTk l ++ fbL (p' 0) (p' 1) (p' 2) (p' 3) (p' 4) := by
        rw [ef]
        refine List.ext_getElem? fun k => ?_
        have hc : cTk (l ++ [b]) = cI (l ++ [b]) := by
          unfold cTk
          rw [hlen, List.take_of_length_le (by rw [hlen]; omega)]
        rw [hc]
        by_cases ck : k < 20 * (n / 20)
        · rw [List.getElem?_append_left (by rw [lb]; exact ck)]
          unfold cTk cI
          rw [List.getElem?_map, List.getElem?_map, ← hN, List.getElem?_take, if_pos ck, List.getElem?_append_left (by omega)]
        · rw [List.getElem?_append_right (by rw [lb]; omega), lb, List.getElem?_map]
          unfold cI
          rw [List.getElem?_map]
          by_cases c9 : k < n + 1
          · rw [List.getElem?_range (by omega)]
            have e2 : 20 * (n / 20) + 4 * ((k - 20 * (n / 20)) / 4) + (k - 20 * (n / 20)) % 4 = k := by omega
            show _ = some (((l ++ [b]).getD (20 * (n / 20) + 4 * ((k - 20 * (n / 20)) / 4) + (k - 20 * (n / 20)) % 4) 0 : Nat) : Int)
            rw [e2, List.getD_eq_getElem?_getD, List.getElem?_eq_getElem (by rw [hlen]; exact c9)]
            rfl
          · rw [List.getElem?_eq_none (by rw [hlen]; omega), List.getElem?_eq_none (by rw [List.length_range]; omega)]
            rfl
      rw [e1]
      exact c2
  · rw [if_neg (by omega)]
    refine ⟨m, h2, rfl, ⟨p', by rw [hlen]; exact f2, fun k hk => ?_, fun w9 => absurd (by rw [hlen] at w9; exact w9) c⟩, ?_, hO2⟩
    · have := pk k hk
      unfold wG
      rw [hlen, show (n + 1) / 20 = n / 20 by omega]
      exact this
    · have : cTk (l ++ [b]) = cTk l := by
        unfold cTk
        rw [hlen, ← hN, show (n + 1) / 20 = n / 20 by omega, List.take_append_of_le_length (by omega)]
      rw [this]
      exact ha
/-- the end of a text: spaces up to the next twenty -/
theorem L_end_4 (x2 : Int) : ∀ (j n : Nat) (l : List Nat) (h : gH) (m : xM), (l.length + j) % 20 = 0 → j < 20 → j < n → wX w h l → aX B m s H S (cTk l) → bys l → l.length + j < 580 → ∃ (m' : xM) (h' : gH), f_L_end_4 w n x2 m h = some (x2, m', h') ∧ gat h' w = some (.inl (0, [0, 0, 0, 0, 0, 0])) ∧ aX B m' s H S (cI (l ++ List.replicate j 32)) ∧ hO w h h' := by
  intro j
  induction j with
  | zero =>
    intro n l h m h1 h2 h3 hx ha hl hn
    obtain ⟨n, rfl⟩ : ∃ z, n = z + 1 := ⟨n - 1, by omega⟩
    obtain ⟨p, g1, g2, g3⟩ := hx
    have r5 : gaN 0 h w 5 = some (l.length : Int) := gaN_z g1 (i := 5) rfl (by show 5 < 6; omega) (by show 6 < 2147483648; omega)
    have e20 : xirem (l.length : Int) 20 = ((l.length % 20 : Nat) : Int) := by
      rw [xirem_pos (x := (l.length : Int)) (y := 20) ⟨by omega, by omega⟩ ⟨by omega, by omega⟩]; omega
    obtain ⟨h1', a1, a2⟩ := gsN_W 0 g1 (i := 5) (z := 5) rfl (by show 5 < 6; omega) (by show 6 < 100000; omega)
    have p0 := g3 (by omega)
    refine ⟨m, h1', ?_, ?_, ?_, a2.O⟩
    · rw [f_L_end_4, r5, Option.bind_some, if_neg (by decide), e20, if_pos (by rw [xw_nat (by omega)]; omega)]
      unfold f_L_end_23
      rw [a1, Option.bind_some]
    · have e := a2.1
      have : (wl p (l.length : Int)).set 5 0 = [0, 0, 0, 0, 0, 0] := by
        show [p 0, p 1, p 2, p 3, p 4, 0] = _
        rw [p0 0 (by omega), p0 1 (by omega), p0 2 (by omega), p0 3 (by omega), p0 4 (by omega)]
      rw [this] at e
      exact e
    · have : cTk l = cI (l ++ List.replicate 0 32) := by
        unfold cTk
        rw [List.take_of_length_le (by omega), List.replicate_zero, List.append_nil]
      rw [← this]
      exact ha
  | succ j ih =>
    intro n l h m h1 h2 h3 hx ha hl hn
    obtain ⟨n, rfl⟩ : ∃ z, n = z + 1 := ⟨n - 1, by omega⟩
    have hx' := hx
    obtain ⟨p, g1, g2, g3⟩ := hx
    have r5 : gaN 0 h w 5 = some (l.length : Int) := gaN_z g1 (i := 5) rfl (by show 5 < 6; omega) (by show 6 < 2147483648; omega)
    have e20 : xirem (l.length : Int) 20 = ((l.length % 20 : Nat) : Int) := by
      rw [xirem_pos (x := (l.length : Int)) (y := 20) ⟨by omega, by omega⟩ ⟨by omega, by omega⟩]; omega
    obtain ⟨m1, h1', a1, a2, a3, a4⟩ := L_add hx' ha hl (b := 32) (by omega) (by omega)
    have l1 : (l ++ [32]).length = l.length + 1 := List.length_append
    obtain ⟨m2, h2', b1, b2, b3, b4⟩ := ih n (l ++ [32]) h1' m1 (by rw [l1]; omega) (by omega) (by omega) a2 a3 (fun y hy => by
      rcases List.mem_append.mp hy with q | q
      · exact hl y q
      · rw [List.mem_singleton.mp q]; omega) (by rw [l1]; omega)
    refine ⟨m2, h2', ?_, b2, ?_, a4.tr b4⟩
    · have a1' : f_L_add w 32 m h = some (m1, h1') := a1
      rw [f_L_end_4, r5, Option.bind_some, if_neg (by decide), e20, if_neg (by rw [xw_nat (by omega)]; omega), a1', Option.bind_some]
      exact b1
    · rw [List.append_assoc] at b3
      exact b3
theorem L_end (hx : wX w h l) (ha : aX B m s H S (cTk l)) (hl : bys l) (hn : l.length < 560) : ∃ (m' : xM) (h' : gH) (k : Nat), f_L_end w m h = some ((l.length : Int), m', h') ∧ gat h' w = some (.inl (0, [0, 0, 0, 0, 0, 0])) ∧ aX B m' s H S (cI (l ++ List.replicate k 32)) ∧ hO w h h' := by
  have hx' := hx
  obtain ⟨p, g1, g2, g3⟩ := hx
  have r5 : gaN 0 h w 5 = some (l.length : Int) := gaN_z g1 (i := 5) rfl (by show 5 < 6; omega) (by show 6 < 2147483648; omega)
  obtain ⟨m', h', a1, a2, a3, a4⟩ := L_end_4 (l.length : Int) ((20 - l.length % 20) % 20) fu l h m (by omega) (by omega) (by show _ < 5000; omega) hx' ha hl (by omega)
  refine ⟨m', h', _, ?_, a2, a3, a4⟩
  unfold f_L_end
  rw [r5, Option.bind_some]
  exact a1
end

/-! ===== the law writes words, numbers and clauses ===== -/
/-- the letters of a text of the class file -/
def wb (i : Nat) : List Nat := (xSby.getD i []).map fun c => c.toInt.toNat
theorem wb_len (i : Nat) : (wb i).length = (xSby.getD i []).length := by unfold wb; rw [List.length_map]
theorem wb_all : ∀ i, i < 28 → ∀ k, k < (xSby.getD i []).length → xsc i k = (((wb i).getD k 0 : Nat) : Int) ∧ (wb i).getD k 0 < 256 := by decide +kernel
theorem wb_short : ∀ i, i < 28 → (xSby.getD i []).length ≤ 60 := by decide +kernel
def dgN (v : Nat) : List Nat := if v < 10 then [48 + v] else [48 + v / 10, 48 + v % 10]
theorem dgN_len (v : Nat) : 1 ≤ (dgN v).length ∧ (dgN v).length ≤ 2 := by
  unfold dgN
  split
  · show 1 ≤ 1 ∧ 1 ≤ 2; omega
  · show 1 ≤ 2 ∧ 2 ≤ 2; omega
def sep (L : List Nat) : List Nat := L.flatMap fun v => 32 :: dgN v
/-- a text l is under way -/
def TX (w : Nat) (B : Int) (s : aS) (H : List aS) (S : Option aS) (m : xM) (h : gH) (l : List Nat) : Prop := wX w h l ∧ aX B m s H S (cTk l) ∧ bys l
section
variable {w : Nat} {s : aS} {B : Int} {m : xM} {H : List aS} {S : Option aS} {h : gH} {l : List Nat}
theorem TX.add (t : TX w B s H S m h l) {b : Nat} (hb : b < 256) (hl : l.length < 500) {z : Int} (hz : z = (b : Int)) : ∃ (m' : xM) (h' : gH), f_L_add w z m h = some (m', h') ∧ TX w B s H S m' h' (l ++ [b]) ∧ hO w h h' := by
  obtain ⟨m', h', a1, a2, a3, a4⟩ := L_add t.1 t.2.1 t.2.2 hb (by omega)
  rw [hz]
  refine ⟨m', h', a1, ⟨a2, a3, fun y hy => ?_⟩, a4⟩
  rcases List.mem_append.mp hy with q | q
  · exact t.2.2 y q
  · rw [List.mem_singleton.mp q]; exact hb
theorem TX.app (t : TX w B s H S m h l) (g : gH) : TX w B s H S m (h ++ g) l := by
  obtain ⟨⟨p, q1, q2⟩, t2, t3⟩ := t
  exact ⟨⟨p, gat_lt q1 g, q2⟩, t2, t3⟩
theorem TX.word {i : Nat} (hi : i < 28) : ∀ (j k n : Nat) (l : List Nat) (m : xM) (h : gH), TX w B s H S m h l → k + j = (wb i).length → j < n → l.length + j < 500 → ∃ (m' : xM) (h' : gH), f_L_word_2 w i n (k : Int) m h = some (m', h') ∧ TX w B s H S m' h' (l ++ (wb i).drop k) ∧ hO w h h' := by
  intro j
  have hs := wb_short i hi
  have hl := wb_len i
  induction j with
  | zero =>
    intro k n l m h t h1 h2 h3
    obtain ⟨n, rfl⟩ : ∃ z, n = z + 1 := ⟨n - 1, by omega⟩
    refine ⟨m, h, ?_, ?_, hO.rf w h⟩
    · rw [f_L_word_2, if_neg (by unfold xsl; rw [xw_nat (by omega), xw_nat (by omega)]; omega)]
    · rw [List.drop_of_length_le (by omega), List.append_nil]; exact t
  | succ j ih =>
    intro k n l m h t h1 h2 h3
    obtain ⟨n, rfl⟩ : ∃ z, n = z + 1 := ⟨n - 1, by omega⟩
    obtain ⟨w1, w2⟩ := wb_all i hi k (by omega)
    obtain ⟨m1, g1, a1, a2, a3⟩ := t.add w2 (by omega) w1
    obtain ⟨m2, g2, b1, b2, b3⟩ := ih (k + 1) n (l ++ [(wb i).getD k 0]) m1 g1 a2 (by omega) (by omega) (by rw [List.length_append, List.length_singleton]; omega)
    refine ⟨m2, g2, ?_, ?_, a3.tr b3⟩
    · rw [f_L_word_2, if_pos (by unfold xsl; rw [xw_nat (by omega), xw_nat (by omega)]; omega), if_pos (by unfold xib; rw [xw_nat (by omega)]; omega), xix_nat (by omega), a1, Option.bind_some, show (k : Int) + 1 = ((k + 1 : Nat) : Int) by omega]
      exact b1
    · have e : l ++ (wb i).drop k = l ++ [(wb i).getD k 0] ++ (wb i).drop (k + 1) := by
        have hk : k < (wb i).length := by omega
        rw [List.drop_eq_getElem_cons hk, List.append_assoc, List.getD_eq_getElem?_getD, List.getElem?_eq_getElem hk]
        rfl
      rw [e]
      exact b2
theorem TX.words (t : TX w B s H S m h l) {i : Nat} (hi : i < 28) (hl : l.length < 400) : ∃ (m' : xM) (h' : gH), f_L_word w i m h = some (m', h') ∧ TX w B s H S m' h' (l ++ wb i) ∧ hO w h h' := by
  have hs := wb_short i hi
  have hl2 := wb_len i
  obtain ⟨m', h', a1, a2, a3⟩ := TX.word (w := w) hi (wb i).length 0 fu l m h t (by omega) (by show _ < 5000; omega) (by omega)
  exact ⟨m', h', a1, a2, a3⟩
theorem TX.number (t : TX w B s H S m h l) {v : Nat} (hv : v < 100) (hl : l.length < 450) : ∃ (m' : xM) (h' : gH), f_L_number w (v : Int) m h = some (m', h') ∧ TX w B s H S m' h' (l ++ dgN v) ∧ hO w h h' := by
  have d10 : xidiv (v : Int) 10 = ((v / 10 : Nat) : Int) := b_idiv v 10 (by omega) (by omega) (by omega)
  have d1 : xidiv (v : Int) 1 = ((v : Nat) : Int) := by
    have := b_idiv v 1 (by omega) (by omega) (by omega)
    rw [Nat.div_one] at this
    exact this
  have m10 : ∀ x : Nat, x < 1000 → xirem (x : Int) 10 = ((x % 10 : Nat) : Int) := fun x hx => b_irem x 10 (by omega) (by omega) (by omega)
  have z1 : xidiv 1 10 = 0 := by decide
  have z10 : xidiv 10 10 = 1 := by decide
  unfold f_L_number
  have unit : ∀ (n : Nat) (m : xM) (h : gH) (l : List Nat), TX w B s H S m h l → l.length < 460 → ∃ (m' : xM) (h' : gH), f_L_number_18 w (v : Int) (n + 2) 1 m h = some (m', h') ∧ TX w B s H S m' h' (l ++ [48 + v % 10]) ∧ hO w h h' := fun n m h l t hl => by
    obtain ⟨m1, g1, a1, a2, a3⟩ := t.add (b := 48 + v % 10) (by omega) (by omega) (z := 48 + xirem (xidiv (v : Int) 1) 10) (by rw [d1, m10 v (by omega)]; omega)
    refine ⟨m1, g1, ?_, a2, a3⟩
    rw [f_L_number_18, if_pos (by decide), if_neg (by decide), if_neg (by decide), a1, Option.bind_some, if_neg (by decide), z1, f_L_number_18, if_neg (by decide)]
  obtain ⟨q, hq⟩ : ∃ q, fu = q + 3 := ⟨4997, rfl⟩
  rw [hq, f_L_number_2, if_neg (by decide), d10, xw_nat (by omega), show xw 1 = 1 by decide]
  unfold dgN
  by_cases c : v < 10
  · rw [if_pos (by omega), if_pos c, hq]
    obtain ⟨m', h', a1, a2, a3⟩ := unit (q + 1) m h l t (by omega)
    rw [show v % 10 = v by omega] at a2
    exact ⟨m', h', a1, a2, a3⟩
  · rw [if_neg (by omega), if_neg c, f_L_number_2, if_neg (by decide), d10, xw_nat (by omega), show (1 : Int) * 10 = 10 from rfl, show xw 10 = 10 by decide, if_pos (by omega), hq]
    obtain ⟨m1, g1, a1, a2, a3⟩ := t.add (b := 48 + v / 10) (by omega) (by omega) (z := 48 + xirem (xidiv (v : Int) 10) 10) (by rw [d10, m10 (v / 10) (by omega)]; omega)
    obtain ⟨m', h', b1, b2, b3⟩ := unit q m1 g1 (l ++ [48 + v / 10]) a2 (by rw [List.length_append, List.length_singleton]; omega)
    rw [List.append_assoc] at b2
    refine ⟨m', h', ?_, b2, a3.tr b3⟩
    rw [f_L_number_18, if_pos (by decide), if_neg (by decide), if_neg (by decide), a1, Option.bind_some, if_neg (by decide), z10]
    exact b1
theorem sep_cons (v : Nat) (L : List Nat) : sep (v :: L) = 32 :: dgN v ++ sep L := by
  unfold sep
  rw [List.flatMap_cons]
theorem sep_len : ∀ L : List Nat, (sep L).length ≤ 3 * L.length
  | [] => Nat.le_refl 0
  | v :: L => by
    have := sep_len L
    have := (dgN_len v).2
    rw [sep_cons, List.length_append, List.length_cons, List.length_cons]
    omega
/-- numbers of a row, each behind a space -/
theorem TX.line17 {i a : Nat} (ha : a ≠ w) {L : List Nat} (hL : ∀ v, v ∈ L → v < 100) (hLl : L.length ≤ 10) : ∀ (j k n : Nat) (l : List Nat) (m : xM) (h : gH), TX w B s H S m h l → gat h a = some (.inl (0, cI L)) → k + j = L.length → j < n → l.length + 3 * j < 400 → ∃ (m' : xM) (h' : gH), f_L_line_17 w i a n a (L.length : Int) (k : Int) m h = some (m', h') ∧ TX w B s H S m' h' (l ++ sep (L.drop k) ++ [59]) ∧ hO w h h' := by
  intro j
  induction j with
  | zero =>
    intro k n l m h t hg h1 h2 h3
    obtain ⟨n, rfl⟩ : ∃ z, n = z + 1 := ⟨n - 1, by omega⟩
    obtain ⟨m1, g1, a1, a2, a3⟩ := t.add (b := 59) (by omega) (by omega) (z := 59) rfl
    refine ⟨m1, g1, ?_, ?_, a3⟩
    · rw [f_L_line_17, if_neg (by rw [xw_nat (by omega), xw_nat (by omega)]; omega)]
      unfold f_L_line_51
      rw [a1, Option.bind_some]
    · rw [List.drop_of_length_le (by omega), show sep [] = [] from rfl, List.append_nil]; exact a2
  | succ j ih =>
    intro k n l m h t hg h1 h2 h3
    obtain ⟨n, rfl⟩ : ∃ z, n = z + 1 := ⟨n - 1, by omega⟩
    have hk : k < L.length := by omega
    have ev : (cI L).getD k 0 = ((L[k] : Nat) : Int) := by
      unfold cI
      rw [List.getD_eq_getElem?_getD, List.getElem?_map, List.getElem?_eq_getElem hk]
      rfl
    have hv := hL L[k] (List.getElem_mem hk)
    obtain ⟨m1, g1, a1, a2, a3⟩ := t.add (b := 32) (by omega) (by omega) (z := 32) rfl
    obtain ⟨m2, g2, b1, b2, b3⟩ := a2.number hv (by rw [List.length_append, List.length_singleton]; omega)
    have dl := (dgN_len L[k]).2
    obtain ⟨m3, g3, c1, c2, c3⟩ := ih (k + 1) n (l ++ [32] ++ dgN L[k]) m2 g2 b2 (by rw [b3.1 a ha, a3.1 a ha]; exact hg) (by omega) (by omega) (by rw [List.length_append, List.length_append, List.length_singleton]; omega)
    refine ⟨m3, g3, ?_, ?_, (a3.tr b3).tr c3⟩
    · rw [f_L_line_17, if_pos (by rw [xw_nat (by omega), xw_nat (by omega)]; omega), gaN_z hg (i := k) rfl (by rw [cI_len]; exact hk) (by rw [cI_len]; omega), ev, Option.bind_some, a1, Option.bind_some, b1, Option.bind_some, show (k : Int) + 1 = ((k + 1 : Nat) : Int) by omega]
      exact c1
    · have e : l ++ sep (L.drop k) ++ [59] = l ++ [32] ++ dgN L[k] ++ sep (L.drop (k + 1)) ++ [59] := by
        rw [List.drop_eq_getElem_cons hk, sep_cons]
        simp only [List.append_assoc, List.cons_append, List.nil_append]
      rw [e]
      exact c2
/-- a clause -/
theorem TX.line (t : TX w B s H S m h l) {i a : Nat} (hi : i < 28) (ha : a ≠ w) {L : List Nat} (hL : ∀ v, v ∈ L → v < 100) (hLl : L.length ≤ 10) (hg : gat h a = some (.inl (0, cI L))) (hl : l.length < 300) : ∃ (m' : xM) (h' : gH), f_L_line w i a m h = some (m', h') ∧ TX w B s H S m' h' (l ++ (wb i ++ sep L ++ [59])) ∧ hO w h h' := by
  obtain ⟨m1, g1, a1, a2, a3⟩ := t.words hi (by omega)
  have hs := wb_short i hi
  have hl2 := wb_len i
  have hg1 : gat g1 a = some (.inl (0, cI L)) := by rw [a3.1 a ha]; exact hg
  obtain ⟨m2, g2, b1, b2, b3⟩ := TX.line17 (w := w) (i := i) ha hL hLl L.length 0 fu (l ++ wb i) m1 g1 a2 hg1 (by omega) (by show _ < 5000; omega) (by rw [List.length_append]; omega)
  refine ⟨m2, g2, ?_, ?_, a3.tr b3⟩
  · unfold f_L_line
    rw [a1, Option.bind_some, glc_N hg1 (Or.inl rfl), cI_len, Option.bind_some]
    exact b1
  · have e : l ++ (wb i ++ sep L ++ [59]) = l ++ wb i ++ sep L ++ [59] := by simp only [List.append_assoc]
    rw [e]
    exact b2
end

/-! ===== the law's own line in its heap ===== -/
theorem gat_in {h : gH} {x : Nat} {c : gC} (e : gat h x = some c) : 2000 ≤ x ∧ x < 2000 + h.length := by
  obtain ⟨h1, h2⟩ := gat_some e
  have := (List.getElem?_eq_some_iff.mp h2).1
  omega
/-- one cell is written -/
def hW (x : Nat) (c : gC) (h h' : gH) : Prop := gat h' x = some c ∧ (∀ y, y ≠ x → gat h' y = gat h y) ∧ h'.length = h.length ∧ gsl h' = gsl h
theorem hW_set {h : gH} {x : Nat} {c c' : gC} (e : gat h x = some c) (hz : gsz c' = gsz c) : hW x c' h (h.set (x - 2000) c') := by
  obtain ⟨h1, h2⟩ := gat_some e
  have h3 := (List.getElem?_eq_some_iff.mp h2).1
  refine ⟨?_, fun y hy => ?_, List.length_set .., gsl_set h _ c c' h2 hz⟩
  · unfold gat
    rw [if_pos h1, List.getElem?_set_self h3]
  · unfold gat
    by_cases h4 : 2000 ≤ y
    · rw [if_pos h4, if_pos h4, List.getElem?_set_ne (by omega)]
    · rw [if_neg h4, if_neg h4]
theorem gsN_W {h : gH} {t k i : Nat} {l : List Int} {z : Int} (x : Int) (e : gat h k = some (.inl (t, l))) (hz : z = (i : Int)) (hi : i < l.length) (hl : l.length < 100000) : ∃ h', gsN t h k z x = some h' ∧ hW k (.inl (t, l.set i x)) h h' := by
  subst hz
  refine ⟨_, ?_, hW_set e (by show (l.set i x).length = l.length; exact List.length_set ..)⟩
  unfold gsN
  rw [e]
  dsimp only
  rw [if_pos ⟨rfl, xib_nat hi (by omega)⟩, xix_nat (by omega)]
theorem gpt_W {h : gH} {k j : Nat} {fs : List xV} (v : xV) (e : gat h k = some (.inr (.inr fs))) (hj : j < fs.length) : ∃ h', gpt h k j v = some h' ∧ hW k (.inr (.inr (fs.set j v))) h h' := by
  refine ⟨_, ?_, hW_set e (by show (fs.set j v).length = fs.length; exact List.length_set ..)⟩
  unfold gpt
  rw [e]
  dsimp only
  rw [if_pos hj]
theorem gsQ_W {h : gH} {t k i : Nat} {l : List (Option Nat)} {z : Int} (x : Nat) (e : gat h k = some (.inr (.inl (t, l)))) (hz : z = (i : Int)) (hi : i < l.length) (hl : l.length < 100000) (hx : gokB t h (some x) = true) : ∃ h', gsQ t h k z (some x) = some h' ∧ hW k (.inr (.inl (t, l.set i (some x)))) h h' := by
  subst hz
  refine ⟨_, ?_, hW_set e (by show (l.set i (some x)).length = l.length; exact List.length_set ..)⟩
  unfold gsQ
  rw [if_pos hx]
  unfold gsR
  rw [e]
  dsimp only
  rw [if_pos ⟨rfl, xib_nat hi (by omega)⟩, xix_nat (by omega)]
theorem gokB4 {h : gH} {x : Nat} {l : List Int} (e : gat h x = some (.inl (0, l))) : gokB 4 h (some x) = true := gokB_row ⟨l, e⟩
theorem gokB5 {h : gH} {x : Nat} {l : List (Option Nat)} (e : gat h x = some (.inr (.inl (4, l)))) : gokB 5 h (some x) = true := by
  unfold gokB
  dsimp only
  rw [e]
  rfl
/-- numbers of a state, in a row -/
def aAr (s : aS) (b n : Nat) : List Int := (List.range n).map fun k => s.1 (b + k)
theorem aAr_len (s : aS) (b n : Nat) : (aAr s b n).length = n := by unfold aAr; rw [List.length_map, List.length_range]
theorem aAr_at (s : aS) (b n : Nat) {i : Nat} (hi : i < n) : (aAr s b n)[i]? = some (s.1 (b + i)) := by unfold aAr; rw [List.getElem?_map, List.getElem?_range hi]; rfl
theorem aAr_get (s : aS) (b n : Nat) {i : Nat} (hi : i < n) : (aAr s b n).getD i 0 = s.1 (b + i) := by rw [List.getD_eq_getElem?_getD, aAr_at s b n hi]; rfl
theorem aAr_cg {s t : aS} {b n : Nat} (h : ∀ i, i < n → t.1 (b + i) = s.1 (b + i)) : aAr t b n = aAr s b n := by
  unfold aAr
  exact List.map_congr_left fun k hk => h k (List.mem_range.mp hk)
theorem aAr_N {s : aS} {j b n : Nat} {x : Int} (h : j < b ∨ b + n ≤ j) : aAr (aN s j x) b n = aAr s b n := aAr_cg fun i hi => by rw [aN_1, if_neg (by omega)]
theorem aAr_set {s : aS} {b n k : Nat} {x : Int} (h : k < n) : (aAr s b n).set k x = aAr (aN s (b + k) x) b n := by
  apply List.ext_getElem?
  intro i
  rw [List.getElem?_set, aAr_len]
  by_cases hi : k = i
  · subst hi
    rw [if_pos rfl, if_pos h, aAr_at _ _ _ h, aN_1, if_pos rfl]
  · rw [if_neg hi]
    by_cases h2 : i < n
    · rw [aAr_at _ _ _ h2, aAr_at _ _ _ h2, aN_1, if_neg (by omega)]
    · rw [List.getElem?_eq_none (by rw [aAr_len]; omega), List.getElem?_eq_none (by rw [aAr_len]; omega)]
/-- a number of both ends -/
def aPr (s : aS) (j : Nat) : List Int := [s.1 (56 + j), s.1 (773 + j)]
theorem aPr_get (s : aS) (j : Nat) {e : Nat} (he : e < 2) : (aPr s j).getD e 0 = s.1 ((56 + 717 * e) + j) := by
  rcases (by omega : e = 0 ∨ e = 1) with rfl | rfl <;> rfl
theorem aPr_N {s : aS} {j k : Nat} {x : Int} (h : j ≠ 56 + k ∧ j ≠ 773 + k) : aPr (aN s j x) k = aPr s k := by
  unfold aPr
  rw [aN_1, aN_1, if_neg (by omega), if_neg (by omega)]
theorem aPr_set {s : aS} {j e : Nat} {x : Int} (he : e < 2) : (aPr s j).set e x = aPr (aN s ((56 + 717 * e) + j) x) j := by
  unfold aPr
  rw [aN_1, aN_1]
  rcases (by omega : e = 0 ∨ e = 1) with rfl | rfl
  · rw [if_pos (by omega), if_neg (by omega)]; rfl
  · rw [if_neg (by omega), if_pos (by omega)]; rfl

/-- the fields of the own line -/
def oFs (A : Nat → Nat) (a b : Int) (s : aS) : List xV := [.inl (s.1 0), .inl (s.1 1), .inl (s.1 2), .inl (s.1 3), .inl (s.1 4), .inl (s.1 5), .inl (s.1 6), .inl (s.1 7), .inl (s.1 8), .inl (s.1 9), .inl a, .inl b, .inr (.inr (some (A 12))), .inr (.inr (some (A 13))), .inr (.inr (some (A 14))), .inr (.inr (some (A 15))), .inr (.inr (some (A 16))), .inr (.inr (some (A 17))), .inr (.inr (some (A 18))), .inr (.inr (some (A 19))), .inr (.inr (some (A 20))), .inr (.inr (some (A 21))), .inr (.inr (some (A 22))), .inr (.inr (some (A 23))), .inr (.inr (some (A 24))), .inr (.inr (some (A 25))), .inr (.inr (some (A 26))), .inr (.inr (some (A 27))), .inr (.inr (some (A 28))), .inr (.inr (some (A 29))), .inr (.inr (some (A 30)))]

theorem oFs_N {A : Nat → Nat} {a b : Int} {s : aS} {j : Nat} {x : Int} (h : 10 ≤ j) : oFs A a b (aN s j x) = oFs A a b s := by
  unfold oFs
  rw [aN_1, aN_1, aN_1, aN_1, aN_1, aN_1, aN_1, aN_1, aN_1, aN_1, if_neg (by omega), if_neg (by omega), if_neg (by omega), if_neg (by omega), if_neg (by omega), if_neg (by omega), if_neg (by omega), if_neg (by omega), if_neg (by omega), if_neg (by omega)]

def oI (h : gH) (ρ : Nat → Nat) (x : Nat) (l : List Int) : Prop := gat h x = some (.inl (0, l)) ∧ ρ x = 0
def oRow (h : gH) (ρ : Nat → Nat) (x : Nat) (l : List Int) : Prop := gat h x = some (.inl (0, l)) ∧ ρ x = 6
def aFa (P : Nat → List Int → Prop) : List Nat → List (List Int) → Prop
  | [], [] => True
  | x :: r, f :: l => P x f ∧ aFa P r l
  | [], _ :: _ => False
  | _ :: _, [] => False
theorem aFa_len {P : Nat → List Int → Prop} : ∀ {r : List Nat} {l : List (List Int)}, aFa P r l → r.length = l.length
  | [], [], _ => rfl
  | _ :: _, _ :: _, h => congrArg (· + 1) (aFa_len h.2)
  | [], _ :: _, h => h.elim
  | _ :: _, [], h => h.elim
theorem aFa_mono {P Q : Nat → List Int → Prop} (hPQ : ∀ x f, P x f → Q x f) : ∀ {r : List Nat} {l : List (List Int)}, aFa P r l → aFa Q r l
  | [], [], _ => trivial
  | _ :: _, _ :: _, h => ⟨hPQ _ _ h.1, aFa_mono hPQ h.2⟩
  | [], _ :: _, h => h.elim
  | _ :: _, [], h => h.elim
theorem aFa_mono2 {P Q : Nat → List Int → Prop} : ∀ {r : List Nat} {l : List (List Int)}, (∀ x f, x ∈ r → P x f → Q x f) → aFa P r l → aFa Q r l
  | [], [], _, _ => trivial
  | _ :: _, _ :: _, hPQ, h => ⟨hPQ _ _ List.mem_cons_self h.1, aFa_mono2 (fun x f hx => hPQ x f (List.mem_cons_of_mem _ hx)) h.2⟩
  | [], _ :: _, _, h => h.elim
  | _ :: _, [], _, h => h.elim
theorem aFa_app {P : Nat → List Int → Prop} : ∀ {r r' : List Nat} {l l' : List (List Int)}, aFa P r l → aFa P r' l' → aFa P (r ++ r') (l ++ l')
  | [], _, [], _, _, h' => h'
  | _ :: _, _, _ :: _, _, h, h' => ⟨h.1, aFa_app h.2 h'⟩
  | [], _, _ :: _, _, h, _ => h.elim
  | _ :: _, _, [], _, h, _ => h.elim
theorem aFa_at {P : Nat → List Int → Prop} : ∀ {r : List Nat} {l : List (List Int)} {i : Nat}, aFa P r l → i < l.length → P (r.getD i 0) (l.getD i [])
  | [], [], _, _, hi => absurd hi (Nat.not_lt_zero _)
  | _ :: _, _ :: _, 0, h, _ => h.1
  | _ :: r, _ :: l, i + 1, h, hi => by
    show P ((_ :: r).getD (i + 1) 0) ((_ :: l).getD (i + 1) [])
    rw [List.getD_cons_succ, List.getD_cons_succ]
    exact aFa_at h.2 (Nat.lt_of_succ_lt_succ hi)
  | [], _ :: _, _, h, _ => h.elim
  | _ :: _, [], _, h, _ => h.elim
theorem aFa_drop {P : Nat → List Int → Prop} : ∀ {r : List Nat} {l : List (List Int)} (n : Nat), aFa P r l → aFa P (r.drop n) (l.drop n)
  | _, _, 0, h => h
  | [], [], _ + 1, _ => trivial
  | _ :: _, _ :: _, n + 1, h => aFa_drop n h.2
  | [], _ :: _, _ + 1, h => h.elim
  | _ :: _, [], _ + 1, h => h.elim
theorem aFa_mem {P : Nat → List Int → Prop} : ∀ {r : List Nat} {l : List (List Int)} {x : Nat}, aFa P r l → x ∈ r → ∃ f, f ∈ l ∧ P x f
  | [], _, _, _, hx => absurd hx List.not_mem_nil
  | y :: r, f :: l, x, h, hx => by
    rcases List.mem_cons.mp hx with rfl | hx
    · exact ⟨f, List.mem_cons_self, h.1⟩
    · obtain ⟨g, hg, h2⟩ := aFa_mem h.2 hx
      exact ⟨g, List.mem_cons_of_mem _ hg, h2⟩
  | _ :: _, [], _, h, _ => h.elim
/-- one row is set -/
theorem aFa_set {P Q : Nat → List Int → Prop} (f' : List Int) : ∀ {r : List Nat} {l : List (List Int)} {i : Nat}, r.Nodup → (∀ x f, x ∈ r → x ≠ r.getD i 0 → P x f → Q x f) → Q (r.getD i 0) f' → i < l.length → aFa P r l → aFa Q r (l.set i f')
  | [], [], _, _, _, _, hi, _ => absurd hi (Nat.not_lt_zero _)
  | x :: r, f :: l, 0, hn, hPQ, hq, _, h => by
    refine ⟨hq, aFa_mono2 (fun y g hy hg => hPQ y g (List.mem_cons_of_mem _ hy) ?_ hg) h.2⟩
    intro he
    have he2 : y = x := he
    exact (List.nodup_cons.mp hn).1 (he2 ▸ hy)
  | x :: r, f :: l, i + 1, hn, hPQ, hq, hi, h => by
    rw [List.getD_cons_succ] at hPQ hq
    have hi' : i < l.length := Nat.lt_of_succ_lt_succ hi
    have hl := aFa_len h.2
    refine ⟨hPQ x f List.mem_cons_self ?_ h.1, aFa_set f' (List.nodup_cons.mp hn).2 (fun y g hy hne hg => hPQ y g (List.mem_cons_of_mem _ hy) hne hg) hq hi' h.2⟩
    intro he
    have hm : r.getD i 0 ∈ r := by
      rw [List.getD_eq_getElem?_getD, List.getElem?_eq_getElem (by omega)]
      exact List.getElem_mem _
    exact (List.nodup_cons.mp hn).1 (he ▸ hm)
  | [], _ :: _, _, _, _, _, _, h => h.elim
  | _ :: _, [], _, _, _, _, _, h => h.elim
/-- what has roles other than k stays -/
def hP (k : Nat) (ρ : Nat → Nat) (h h' : gH) : Prop := ∀ y c, ρ y ≠ k → gat h y = some c → gat h' y = some c
theorem hW.P {x k : Nat} {c : gC} {h h' : gH} {ρ : Nat → Nat} (w : hW x c h h') (hx : ρ x = k) : hP k ρ h h' := fun y c' hy e => by
  rw [w.2.1 y (fun q => hy (q ▸ hx)), e]
theorem hP.app (ρ : Nat → Nat) (h g : gH) : hP 99 ρ h (h ++ g) := fun _ _ _ e => gat_lt e g
/-- labels have the part of the line that they stand for: 0 is never written -/
def oRole (u : Nat) (A ρ : Nat → Nat) (h : gH) : Prop := ρ u = 1 ∧ (∀ k, 12 ≤ k → k ≤ 30 → ρ (A k) = k) ∧ (∀ y, 2000 + h.length ≤ y → ρ y = 0) ∧ ∀ y, ρ y < 99
def oSet (A : Nat → Nat) (h : gH) (s : aS) : Prop := gat h (A 12) = some (.inl (0, aAr s 35 (s.1 11).toNat)) ∧ gat h (A 13) = some (.inl (0, aAr s 40 (s.1 11).toNat)) ∧ gat h (A 14) = some (.inl (0, aAr s 21 4)) ∧ gat h (A 15) = some (.inl (0, aAr s 25 (s.1 19).toNat)) ∧ gat h (A 16) = some (.inl (0, aAr s 12 7))
def oNum (A : Nat → Nat) (h : gH) (s : aS) : Prop := gat h (A 17) = some (.inl (0, aAr s 45 11)) ∧ gat h (A 22) = some (.inl (0, aPr s 2)) ∧ gat h (A 23) = some (.inl (0, aPr s 3)) ∧ gat h (A 24) = some (.inl (0, aPr s 4)) ∧ gat h (A 25) = some (.inl (0, aPr s 5)) ∧ gat h (A 26) = some (.inl (3, aPr s 6)) ∧ gat h (A 27) = some (.inl (3, aPr s 9))
def oLs (A ρ : Nat → Nat) (h : gH) (s : aS) (k d : Nat) : Prop := ∃ x0 x1, gat h (A k) = some (.inr (.inl (4, [some x0, some x1]))) ∧ oI h ρ x0 (s.2.1 (56 + d)) ∧ oI h ρ x1 (s.2.1 (773 + d))
def oFr (A : Nat → Nat) (R : Nat → List Nat) (ρ : Nat → Nat) (h : gH) (s : aS) : Prop := (∃ y0 y1, gat h (A 28) = some (.inr (.inl (5, [some y0, some y1]))) ∧ (gat h y0 = some (.inr (.inl (4, (R 0).map some))) ∧ ρ y0 = 0) ∧ (gat h y1 = some (.inr (.inl (4, (R 1).map some))) ∧ ρ y1 = 0)) ∧ aFa (oRow h ρ) (R 0) (s.2.2 82) ∧ aFa (oRow h ρ) (R 1) (s.2.2 799) ∧ (R 0).Nodup ∧ (R 1).Nodup ∧ ∀ x, x ∈ R 0 → x ∉ R 1
def oArr (A ρ : Nat → Nat) (h : gH) (k n : Nat) (l : List (List Int)) : Prop := ∃ (r : List Nat) (q : List (Option Nat)), gat h (A k) = some (.inr (.inl (4, q))) ∧ q.length = n ∧ q.take r.length = r.map some ∧ aFa (oI h ρ) r l
/-- the own line at u is the state s; its fields 10 and 11 are a and b -/
def OR (u : Nat) (A : Nat → Nat) (R : Nat → List Nat) (ρ : Nat → Nat) (a b : Int) (h : gH) (s : aS) : Prop :=
  (gat h u = some (.inr (.inr (oFs A a b s))) ∧ oRole u A ρ h) ∧ oSet A h s ∧ oNum A h s ∧ (oLs A ρ h s 18 117 ∧ oLs A ρ h s 19 317 ∧ oLs A ρ h s 20 10 ∧ oLs A ρ h s 21 18) ∧ oFr A R ρ h s ∧ oArr A ρ h 29 200 (s.2.2 1730) ∧ oArr A ρ h 30 60 (s.2.2 1490)
section
variable {u k : Nat} {A ρ : Nat → Nat} {R : Nat → List Nat} {a b : Int} {h h' : gH} {s : aS}
theorem oI.kp {x : Nat} {l : List Int} (p : hP k ρ h h') (hk : 0 ≠ k) (e : oI h ρ x l) : oI h' ρ x l := ⟨p _ _ (by rw [e.2]; exact hk) e.1, e.2⟩
theorem oRow.kp {x : Nat} {l : List Int} (p : hP k ρ h h') (hk : 6 ≠ k) (e : oRow h ρ x l) : oRow h' ρ x l := ⟨p _ _ (by rw [e.2]; exact hk) e.1, e.2⟩
theorem oRole.la (r : oRole u A ρ h) {j : Nat} (h1 : 12 ≤ j ∧ j ≤ 30) (hk : j ≠ k) : ρ (A j) ≠ k := by rw [r.2.1 j h1.1 h1.2]; exact hk
theorem oRole.len (r : oRole u A ρ h) (hl : h.length ≤ h'.length) : oRole u A ρ h' := ⟨r.1, r.2.1, fun y hy => r.2.2.1 y (by omega), r.2.2.2⟩
theorem oSet.kp (r : oRole u A ρ h) (p : hP k ρ h h') (hk : k < 12 ∨ 16 < k) (e : oSet A h s) : oSet A h' s :=
  ⟨p _ _ (r.la (by omega) (by omega)) e.1, p _ _ (r.la (by omega) (by omega)) e.2.1, p _ _ (r.la (by omega) (by omega)) e.2.2.1, p _ _ (r.la (by omega) (by omega)) e.2.2.2.1, p _ _ (r.la (by omega) (by omega)) e.2.2.2.2⟩
theorem oNum.kp (r : oRole u A ρ h) (p : hP k ρ h h') (hk : k < 17 ∨ 27 < k ∨ (17 < k ∧ k < 22)) (e : oNum A h s) : oNum A h' s :=
  ⟨p _ _ (r.la (by omega) (by omega)) e.1, p _ _ (r.la (by omega) (by omega)) e.2.1, p _ _ (r.la (by omega) (by omega)) e.2.2.1, p _ _ (r.la (by omega) (by omega)) e.2.2.2.1, p _ _ (r.la (by omega) (by omega)) e.2.2.2.2.1, p _ _ (r.la (by omega) (by omega)) e.2.2.2.2.2.1, p _ _ (r.la (by omega) (by omega)) e.2.2.2.2.2.2⟩
theorem oLs.kp {j d : Nat} (r : oRole u A ρ h) (p : hP k ρ h h') (hj : 12 ≤ j ∧ j ≤ 30) (hk : j ≠ k) (h0 : 0 ≠ k) (e : oLs A ρ h s j d) : oLs A ρ h' s j d := by
  obtain ⟨x0, x1, e1, e2, e3⟩ := e
  exact ⟨x0, x1, p _ _ (r.la hj hk) e1, e2.kp p h0, e3.kp p h0⟩
theorem oFr.kp (r : oRole u A ρ h) (p : hP k ρ h h') (h0 : 0 ≠ k) (h6 : 6 ≠ k) (hk : 28 ≠ k) (e : oFr A R ρ h s) : oFr A R ρ h' s := by
  obtain ⟨⟨y0, y1, e1, ⟨e2, e2'⟩, ⟨e3, e3'⟩⟩, e4, e5, e6⟩ := e
  exact ⟨⟨y0, y1, p _ _ (r.la (by omega) hk) e1, ⟨p _ _ (by rw [e2']; exact h0) e2, e2'⟩, ⟨p _ _ (by rw [e3']; exact h0) e3, e3'⟩⟩, aFa_mono (fun x f q => q.kp p h6) e4, aFa_mono (fun x f q => q.kp p h6) e5, e6⟩
theorem oArr.kp {j n : Nat} {l : List (List Int)} (r : oRole u A ρ h) (p : hP k ρ h h') (hj : 12 ≤ j ∧ j ≤ 30) (h0 : 0 ≠ k) (hk : j ≠ k) (e : oArr A ρ h j n l) : oArr A ρ h' j n l := by
  obtain ⟨rr, q, e1, e2, e3, e4⟩ := e
  exact ⟨rr, q, p _ _ (r.la hj hk) e1, e2, e3, aFa_mono (fun x f q => q.kp p h0) e4⟩
theorem oSet.N {j : Nat} {x : Int} (hj : j < 11 ∨ 45 ≤ j) (hr : (s.1 11).toNat ≤ 5) (hn : (s.1 19).toNat ≤ 10) (e : oSet A h s) : oSet A h (aN s j x) := by
  unfold oSet
  rw [aN_1, aN_1, if_neg (by omega), if_neg (by omega), aAr_N (by omega), aAr_N (by omega), aAr_N (by omega), aAr_N (by omega), aAr_N (by omega)]
  exact e
end
/-- how a heap goes on: what is never written stays; cells and slots that are made -/
def hC (n z : Nat) (ρ : Nat → Nat) (h : gH) (ρ' : Nat → Nat) (h' : gH) : Prop := (h.length ≤ h'.length ∧ h'.length ≤ h.length + n ∧ gsl h' ≤ gsl h + z) ∧ ∀ y c, (ρ y = 0 ∨ 50 ≤ ρ y) → gat h y = some c → gat h' y = some c ∧ ρ' y = ρ y
theorem hC.rf {ρ : Nat → Nat} {h : gH} : hC 0 0 ρ h ρ h := ⟨⟨Nat.le_refl _, Nat.le_refl _, Nat.le_refl _⟩, fun _ _ _ e => ⟨e, rfl⟩⟩
theorem hC.tr {n z n' z' : Nat} {ρ ρ' ρ'' : Nat → Nat} {h h' h'' : gH} (p : hC n z ρ h ρ' h') (q : hC n' z' ρ' h' ρ'' h'') : hC (n + n') (z + z') ρ h ρ'' h'' := by
  obtain ⟨⟨p1, p2, p3⟩, p5⟩ := p
  obtain ⟨⟨q1, q2, q3⟩, q5⟩ := q
  refine ⟨⟨by omega, by omega, by omega⟩, fun y c hy e => ?_⟩
  obtain ⟨e1, r1⟩ := p5 y c hy e
  obtain ⟨e2, r2⟩ := q5 y c (by rw [r1]; exact hy) e1
  exact ⟨e2, by rw [r2, r1]⟩
theorem hC.le {n z n' z' : Nat} {ρ ρ' : Nat → Nat} {h h' : gH} (p : hC n z ρ h ρ' h') (hn : n ≤ n') (hz : z ≤ z') : hC n' z' ρ h ρ' h' := ⟨⟨p.1.1, by have := p.1.2.1; omega, by have := p.1.2.2; omega⟩, p.2⟩
theorem hW.C {x k : Nat} {c : gC} {h h' : gH} {ρ : Nat → Nat} (w : hW x c h h') (hx : ρ x = k) (hk : 0 < k ∧ k < 50) : hC 0 0 ρ h ρ h' := ⟨⟨by rw [w.2.2.1]; exact Nat.le_refl _, by rw [w.2.2.1]; exact Nat.le_refl _, by rw [w.2.2.2]; exact Nat.le_refl _⟩, fun y c' hy e => ⟨by
  rw [w.2.1 y (fun q => by rw [q, hx] at hy; omega), e], rfl⟩⟩
theorem hC.app (ρ : Nat → Nat) (h g : gH) : hC g.length (gsl g) ρ h ρ (h ++ g) := ⟨⟨by rw [List.length_append]; omega, by rw [List.length_append]; exact Nat.le_refl _, by rw [gsl_app]; exact Nat.le_refl _⟩, fun _ _ _ e => ⟨gat_lt e g, rfl⟩⟩
theorem hC.oI {n z : Nat} {ρ ρ' : Nat → Nat} {h h' : gH} {x : Nat} {l : List Int} (p : hC n z ρ h ρ' h') (e : oI h ρ x l) : oI h' ρ' x l := ⟨(p.2 _ _ (Or.inl e.2) e.1).1, by rw [(p.2 _ _ (Or.inl e.2) e.1).2, e.2]⟩
section
variable {u : Nat} {A ρ : Nat → Nat} {R : Nat → List Nat} {a b : Int} {h : gH} {s : aS}

theorem OR.app (o : OR u A R ρ a b h s) (g : gH) : OR u A R ρ a b (h ++ g) s := by
  obtain ⟨⟨p1, r⟩, p2, p3, ⟨p4, p5, p6, p7⟩, p8, p9, p10⟩ := o
  have p := hP.app ρ h g
  have hl : h.length ≤ (h ++ g).length := by rw [List.length_append]; omega
  exact ⟨⟨gat_lt p1 g, r.len hl⟩, p2.kp r p (by omega), p3.kp r p (by omega), ⟨p4.kp r p (by omega) (by omega) (by omega), p5.kp r p (by omega) (by omega) (by omega), p6.kp r p (by omega) (by omega) (by omega), p7.kp r p (by omega) (by omega) (by omega)⟩, p8.kp r p (by omega) (by omega) (by omega), p9.kp r p (by omega) (by omega) (by omega), p10.kp r p (by omega) (by omega) (by omega)⟩
/-- another naming of labels that do not stand yet -/
theorem OR.rho {ρ' : Nat → Nat} (o : OR u A R ρ a b h s) (h1 : ∀ y, y < 2000 + h.length → ρ' y = ρ y) (h2 : ∀ y, 2000 + h.length ≤ y → ρ' y = 0) : OR u A R ρ' a b h s := by
  obtain ⟨⟨p1, r⟩, p2, p3, ⟨p4, p5, p6, p7⟩, p8, p9, p10⟩ := o
  have hI : ∀ x l, oI h ρ x l → oI h ρ' x l := fun x l e => ⟨e.1, by rw [h1 x (gat_in e.1).2, e.2]⟩
  have hR : ∀ x l, oRow h ρ x l → oRow h ρ' x l := fun x l e => ⟨e.1, by rw [h1 x (gat_in e.1).2, e.2]⟩
  have hL : ∀ k d, oLs A ρ h s k d → oLs A ρ' h s k d := fun k d ⟨x0, x1, e1, e2, e3⟩ => ⟨x0, x1, e1, hI _ _ e2, hI _ _ e3⟩
  have hA : ∀ k n l, oArr A ρ h k n l → oArr A ρ' h k n l := fun k n l ⟨rr, q, e1, e2, e3, e4⟩ => ⟨rr, q, e1, e2, e3, aFa_mono hI e4⟩
  have hk : ∀ k, 12 ≤ k → k ≤ 30 → A k < 2000 + h.length := fun k k1 k2 => by
    rcases (by omega : A k < 2000 + h.length ∨ 2000 + h.length ≤ A k) with q | q
    · exact q
    · have := r.2.1 k k1 k2
      rw [r.2.2.1 _ q] at this
      omega
  refine ⟨⟨p1, by rw [h1 u (gat_in p1).2]; exact r.1, fun k k1 k2 => by rw [h1 _ (hk k k1 k2)]; exact r.2.1 k k1 k2, h2, fun y => ?_⟩, p2, p3, ⟨hL _ _ p4, hL _ _ p5, hL _ _ p6, hL _ _ p7⟩, ?_, hA _ _ _ p9, hA _ _ _ p10⟩
  · rcases (by omega : y < 2000 + h.length ∨ 2000 + h.length ≤ y) with q | q
    · rw [h1 y q]; exact r.2.2.2 y
    · rw [h2 y q]; omega
  · obtain ⟨⟨y0, y1, e1, ⟨e2, e2'⟩, ⟨e3, e3'⟩⟩, e4, e5, e6⟩ := p8
    exact ⟨⟨y0, y1, e1, ⟨e2, by rw [h1 y0 (gat_in e2).2, e2']⟩, ⟨e3, by rw [h1 y1 (gat_in e3).2, e3']⟩⟩, aFa_mono hR e4, aFa_mono hR e5, e6⟩
theorem OR.rhoA {ρ' : Nat → Nat} (o : OR u A R ρ a b h s) (g : gH) (h1 : ∀ y, y < 2000 + h.length → ρ' y = ρ y) (h2 : ∀ y, 2000 + (h ++ g).length ≤ y → ρ' y = 0) (h3 : ∀ y, ρ' y < 99) : OR u A R ρ' a b (h ++ g) s := by
  obtain ⟨⟨p1, r⟩, p2, p3, ⟨p4, p5, p6, p7⟩, p8, p9, p10⟩ := o
  have hI : ∀ x l, oI h ρ x l → oI (h ++ g) ρ' x l := fun x l e => ⟨gat_lt e.1 g, by rw [h1 x (gat_in e.1).2, e.2]⟩
  have hR : ∀ x l, oRow h ρ x l → oRow (h ++ g) ρ' x l := fun x l e => ⟨gat_lt e.1 g, by rw [h1 x (gat_in e.1).2, e.2]⟩
  have hL : ∀ k d, oLs A ρ h s k d → oLs A ρ' (h ++ g) s k d := fun k d ⟨x0, x1, e1, e2, e3⟩ => ⟨x0, x1, gat_lt e1 g, hI _ _ e2, hI _ _ e3⟩
  have hA : ∀ k n l, oArr A ρ h k n l → oArr A ρ' (h ++ g) k n l := fun k n l ⟨rr, q, e1, e2, e3, e4⟩ => ⟨rr, q, gat_lt e1 g, e2, e3, aFa_mono hI e4⟩
  have hk : ∀ k, 12 ≤ k → k ≤ 30 → A k < 2000 + h.length := fun k k1 k2 => by
    rcases (by omega : A k < 2000 + h.length ∨ 2000 + h.length ≤ A k) with q | q
    · exact q
    · have := r.2.1 k k1 k2
      rw [r.2.2.1 _ q] at this
      omega
  refine ⟨⟨gat_lt p1 g, by rw [h1 u (gat_in p1).2]; exact r.1, fun k k1 k2 => by rw [h1 _ (hk k k1 k2)]; exact r.2.1 k k1 k2, h2, h3⟩, ⟨gat_lt p2.1 g, gat_lt p2.2.1 g, gat_lt p2.2.2.1 g, gat_lt p2.2.2.2.1 g, gat_lt p2.2.2.2.2 g⟩, ⟨gat_lt p3.1 g, gat_lt p3.2.1 g, gat_lt p3.2.2.1 g, gat_lt p3.2.2.2.1 g, gat_lt p3.2.2.2.2.1 g, gat_lt p3.2.2.2.2.2.1 g, gat_lt p3.2.2.2.2.2.2 g⟩, ⟨hL _ _ p4, hL _ _ p5, hL _ _ p6, hL _ _ p7⟩, ?_, hA _ _ _ p9, hA _ _ _ p10⟩
  obtain ⟨⟨y0, y1, e1, ⟨e2, e2'⟩, ⟨e3, e3'⟩⟩, e4, e5, e6⟩ := p8
  exact ⟨⟨y0, y1, gat_lt e1 g, ⟨gat_lt e2 g, by rw [h1 y0 (gat_in e2).2, e2']⟩, ⟨gat_lt e3 g, by rw [h1 y1 (gat_in e3).2, e3']⟩⟩, aFa_mono hR e4, aFa_mono hR e5, e6⟩
theorem OR.ob (o : OR u A R ρ a b h s) : gob h u = true := by
  unfold gob
  rw [o.1.1]

theorem OR.f0 (o : OR u A R ρ a b h s) : gfI h u 0 = some (s.1 0) := by
  unfold gfI
  rw [o.1.1]
  rfl

theorem OR.f1 (o : OR u A R ρ a b h s) : gfI h u 1 = some (s.1 1) := by
  unfold gfI
  rw [o.1.1]
  rfl

theorem OR.f2 (o : OR u A R ρ a b h s) : gfI h u 2 = some (s.1 2) := by
  unfold gfI
  rw [o.1.1]
  rfl

theorem OR.f3 (o : OR u A R ρ a b h s) : gfI h u 3 = some (s.1 3) := by
  unfold gfI
  rw [o.1.1]
  rfl

theorem OR.f4 (o : OR u A R ρ a b h s) : gfI h u 4 = some (s.1 4) := by
  unfold gfI
  rw [o.1.1]
  rfl

theorem OR.f5 (o : OR u A R ρ a b h s) : gfI h u 5 = some (s.1 5) := by
  unfold gfI
  rw [o.1.1]
  rfl

theorem OR.f6 (o : OR u A R ρ a b h s) : gfI h u 6 = some (s.1 6) := by
  unfold gfI
  rw [o.1.1]
  rfl

theorem OR.f7 (o : OR u A R ρ a b h s) : gfI h u 7 = some (s.1 7) := by
  unfold gfI
  rw [o.1.1]
  rfl

theorem OR.f8 (o : OR u A R ρ a b h s) : gfI h u 8 = some (s.1 8) := by
  unfold gfI
  rw [o.1.1]
  rfl

theorem OR.f9 (o : OR u A R ρ a b h s) : gfI h u 9 = some (s.1 9) := by
  unfold gfI
  rw [o.1.1]
  rfl

theorem OR.fa (o : OR u A R ρ a b h s) : gfI h u 10 = some a := by
  unfold gfI
  rw [o.1.1]
  rfl

theorem OR.fb (o : OR u A R ρ a b h s) : gfI h u 11 = some b := by
  unfold gfI
  rw [o.1.1]
  rfl

theorem OR.k12 (o : OR u A R ρ a b h s) : gfK h u 12 = some (A 12) := by
  unfold gfK gfR
  rw [o.1.1]
  rfl

theorem OR.k13 (o : OR u A R ρ a b h s) : gfK h u 13 = some (A 13) := by
  unfold gfK gfR
  rw [o.1.1]
  rfl

theorem OR.k14 (o : OR u A R ρ a b h s) : gfK h u 14 = some (A 14) := by
  unfold gfK gfR
  rw [o.1.1]
  rfl

theorem OR.k15 (o : OR u A R ρ a b h s) : gfK h u 15 = some (A 15) := by
  unfold gfK gfR
  rw [o.1.1]
  rfl

theorem OR.k16 (o : OR u A R ρ a b h s) : gfK h u 16 = some (A 16) := by
  unfold gfK gfR
  rw [o.1.1]
  rfl

theorem OR.k17 (o : OR u A R ρ a b h s) : gfK h u 17 = some (A 17) := by
  unfold gfK gfR
  rw [o.1.1]
  rfl

theorem OR.k18 (o : OR u A R ρ a b h s) : gfK h u 18 = some (A 18) := by
  unfold gfK gfR
  rw [o.1.1]
  rfl

theorem OR.k19 (o : OR u A R ρ a b h s) : gfK h u 19 = some (A 19) := by
  unfold gfK gfR
  rw [o.1.1]
  rfl

theorem OR.k20 (o : OR u A R ρ a b h s) : gfK h u 20 = some (A 20) := by
  unfold gfK gfR
  rw [o.1.1]
  rfl

theorem OR.k21 (o : OR u A R ρ a b h s) : gfK h u 21 = some (A 21) := by
  unfold gfK gfR
  rw [o.1.1]
  rfl

theorem OR.k22 (o : OR u A R ρ a b h s) : gfK h u 22 = some (A 22) := by
  unfold gfK gfR
  rw [o.1.1]
  rfl

theorem OR.k23 (o : OR u A R ρ a b h s) : gfK h u 23 = some (A 23) := by
  unfold gfK gfR
  rw [o.1.1]
  rfl

theorem OR.k24 (o : OR u A R ρ a b h s) : gfK h u 24 = some (A 24) := by
  unfold gfK gfR
  rw [o.1.1]
  rfl

theorem OR.k25 (o : OR u A R ρ a b h s) : gfK h u 25 = some (A 25) := by
  unfold gfK gfR
  rw [o.1.1]
  rfl

theorem OR.k26 (o : OR u A R ρ a b h s) : gfK h u 26 = some (A 26) := by
  unfold gfK gfR
  rw [o.1.1]
  rfl

theorem OR.k27 (o : OR u A R ρ a b h s) : gfK h u 27 = some (A 27) := by
  unfold gfK gfR
  rw [o.1.1]
  rfl

theorem OR.k28 (o : OR u A R ρ a b h s) : gfK h u 28 = some (A 28) := by
  unfold gfK gfR
  rw [o.1.1]
  rfl

theorem OR.k29 (o : OR u A R ρ a b h s) : gfK h u 29 = some (A 29) := by
  unfold gfK gfR
  rw [o.1.1]
  rfl

theorem OR.k30 (o : OR u A R ρ a b h s) : gfK h u 30 = some (A 30) := by
  unfold gfK gfR
  rw [o.1.1]
  rfl

/-- what of the setting keeps the lists short -/
def oSm (s : aS) : Prop := (1 ≤ s.1 11 ∧ s.1 11 ≤ 5) ∧ 1 ≤ s.1 19 ∧ s.1 19 ≤ 10
theorem oSm.N {j : Nat} {x : Int} (h1 : oSm s) (hj : j < 11 ∨ 45 ≤ j) : oSm (aN s j x) := by
  unfold oSm
  rw [aN_1, aN_1, if_neg (by omega), if_neg (by omega)]
  exact h1
theorem OR.tot (o : OR u A R ρ a b h s) (k : Nat) {z : Int} (hz : z = (k : Int)) (hk : k < 11) : gaN 0 h (A 17) z = some (s.1 (45 + k)) := by
  subst hz
  rw [gaN_N o.2.2.1.1 (by rw [aAr_len]; exact hk) (by rw [aAr_len]; omega), aAr_get _ _ _ hk]
theorem OR.set (o : OR u A R ρ a b h s) (k : Nat) {z : Int} (hz : z = (k : Int)) (hk : k < 7) : gaN 0 h (A 16) z = some (s.1 (12 + k)) := by
  subst hz
  rw [gaN_N o.2.1.2.2.2.2 (by rw [aAr_len]; exact hk) (by rw [aAr_len]; omega), aAr_get _ _ _ hk]
theorem OR.train (o : OR u A R ρ a b h s) (k : Nat) {z : Int} (hz : z = (k : Int)) (hk : k < 4) : gaN 0 h (A 14) z = some (s.1 (21 + k)) := by
  subst hz
  rw [gaN_N o.2.1.2.2.1 (by rw [aAr_len]; exact hk) (by rw [aAr_len]; omega), aAr_get _ _ _ hk]
theorem OR.speed (o : OR u A R ρ a b h s) (hm : oSm s) (k : Nat) {z : Int} (hz : z = (k : Int)) (hk : (k : Int) < s.1 11) : gaN 0 h (A 12) z = some (s.1 (35 + k)) := by
  subst hz
  obtain ⟨⟨m1, m2⟩, m3, m4⟩ := hm
  rw [gaN_N o.2.1.1 (by rw [aAr_len]; omega) (by rw [aAr_len]; omega), aAr_get _ _ _ (by omega)]
theorem OR.need (o : OR u A R ρ a b h s) (hm : oSm s) (k : Nat) {z : Int} (hz : z = (k : Int)) (hk : (k : Int) < s.1 11) : gaN 0 h (A 13) z = some (s.1 (40 + k)) := by
  subst hz
  obtain ⟨⟨m1, m2⟩, m3, m4⟩ := hm
  rw [gaN_N o.2.1.2.1 (by rw [aAr_len]; omega) (by rw [aAr_len]; omega), aAr_get _ _ _ (by omega)]
theorem OR.noise (o : OR u A R ρ a b h s) (hm : oSm s) (k : Nat) {z : Int} (hz : z = (k : Int)) (hk : (k : Int) < s.1 19) : gaN 0 h (A 15) z = some (s.1 (25 + k)) := by
  subst hz
  obtain ⟨⟨m1, m2⟩, m3, m4⟩ := hm
  rw [gaN_N o.2.1.2.2.2.1 (by rw [aAr_len]; omega) (by rw [aAr_len]; omega), aAr_get _ _ _ (by omega)]
theorem OR.rates (o : OR u A R ρ a b h s) (hm : oSm s) : glc h (A 13) = some (s.1 11) := by
  obtain ⟨⟨m1, m2⟩, m3, m4⟩ := hm
  rw [glc_N o.2.1.2.1 (Or.inl rfl), aAr_len, Int.toNat_of_nonneg (by omega)]
theorem OR.speeds (o : OR u A R ρ a b h s) (hm : oSm s) : glc h (A 12) = some (s.1 11) := by
  obtain ⟨⟨m1, m2⟩, m3, m4⟩ := hm
  rw [glc_N o.2.1.1 (Or.inl rfl), aAr_len, Int.toNat_of_nonneg (by omega)]
theorem OR.noises (o : OR u A R ρ a b h s) (hm : oSm s) : glc h (A 15) = some (s.1 19) := by
  obtain ⟨⟨m1, m2⟩, m3, m4⟩ := hm
  rw [glc_N o.2.1.2.2.2.1 (Or.inl rfl), aAr_len, Int.toNat_of_nonneg (by omega)]

theorem OR.next (o : OR u A R ρ a b h s) (e : Nat) {z : Int} (hz : z = (e : Int)) (he : e < 2) : gaN 0 h (A 22) z = some (s.1 ((56 + 717 * e) + 2)) := by
  subst hz
  rw [gaN_N o.2.2.1.2.1 (by exact he) (by show 2 < 2147483648; omega), aPr_get _ _ he]

theorem OR.exp (o : OR u A R ρ a b h s) (e : Nat) {z : Int} (hz : z = (e : Int)) (he : e < 2) : gaN 0 h (A 23) z = some (s.1 ((56 + 717 * e) + 3)) := by
  subst hz
  rw [gaN_N o.2.2.1.2.2.1 (by exact he) (by show 2 < 2147483648; omega), aPr_get _ _ he]

theorem OR.rec (o : OR u A R ρ a b h s) (e : Nat) {z : Int} (hz : z = (e : Int)) (he : e < 2) : gaN 0 h (A 24) z = some (s.1 ((56 + 717 * e) + 4)) := by
  subst hz
  rw [gaN_N o.2.2.1.2.2.2.1 (by exact he) (by show 2 < 2147483648; omega), aPr_get _ _ he]

theorem OR.cred (o : OR u A R ρ a b h s) (e : Nat) {z : Int} (hz : z = (e : Int)) (he : e < 2) : gaN 0 h (A 25) z = some (s.1 ((56 + 717 * e) + 5)) := by
  subst hz
  rw [gaN_N o.2.2.1.2.2.2.2.1 (by exact he) (by show 2 < 2147483648; omega), aPr_get _ _ he]

theorem OR.esc (o : OR u A R ρ a b h s) (e : Nat) {z : Int} (hz : z = (e : Int)) (he : e < 2) : gaN 3 h (A 26) z = some (s.1 ((56 + 717 * e) + 6)) := by
  subst hz
  rw [gaN_N o.2.2.1.2.2.2.2.2.1 (by exact he) (by show 2 < 2147483648; omega), aPr_get _ _ he]

theorem OR.mark (o : OR u A R ρ a b h s) (e : Nat) {z : Int} (hz : z = (e : Int)) (he : e < 2) : gaN 3 h (A 27) z = some (s.1 ((56 + 717 * e) + 9)) := by
  subst hz
  rw [gaN_N o.2.2.1.2.2.2.2.2.2 (by exact he) (by show 2 < 2147483648; omega), aPr_get _ _ he]

theorem OR.que (o : OR u A R ρ a b h s) (e : Nat) {z : Int} (hz : z = (e : Int)) (he : e < 2) : ∃ x, gaK 4 h (A 18) z = some x ∧ oI h ρ x (s.2.1 ((56 + 717 * e) + 117)) := by
  subst hz
  obtain ⟨x0, x1, e1, e2, e3⟩ := o.2.2.2.1.1
  rcases (by omega : e = 0 ∨ e = 1) with rfl | rfl
  · exact ⟨x0, by rw [gaK_N e1 (by show 0 < 2; omega) (by show 2 < 2147483648; omega)]; rfl, e2⟩
  · exact ⟨x1, by rw [gaK_N e1 (by show 1 < 2; omega) (by show 2 < 2147483648; omega)]; rfl, e3⟩

theorem OR.got (o : OR u A R ρ a b h s) (e : Nat) {z : Int} (hz : z = (e : Int)) (he : e < 2) : ∃ x, gaK 4 h (A 19) z = some x ∧ oI h ρ x (s.2.1 ((56 + 717 * e) + 317)) := by
  subst hz
  obtain ⟨x0, x1, e1, e2, e3⟩ := o.2.2.2.1.2.1
  rcases (by omega : e = 0 ∨ e = 1) with rfl | rfl
  · exact ⟨x0, by rw [gaK_N e1 (by show 0 < 2; omega) (by show 2 < 2147483648; omega)]; rfl, e2⟩
  · exact ⟨x1, by rw [gaK_N e1 (by show 1 < 2; omega) (by show 2 < 2147483648; omega)]; rfl, e3⟩

theorem OR.wri (o : OR u A R ρ a b h s) (e : Nat) {z : Int} (hz : z = (e : Int)) (he : e < 2) : ∃ x, gaK 4 h (A 20) z = some x ∧ oI h ρ x (s.2.1 ((56 + 717 * e) + 10)) := by
  subst hz
  obtain ⟨x0, x1, e1, e2, e3⟩ := o.2.2.2.1.2.2.1
  rcases (by omega : e = 0 ∨ e = 1) with rfl | rfl
  · exact ⟨x0, by rw [gaK_N e1 (by show 0 < 2; omega) (by show 2 < 2147483648; omega)]; rfl, e2⟩
  · exact ⟨x1, by rw [gaK_N e1 (by show 1 < 2; omega) (by show 2 < 2147483648; omega)]; rfl, e3⟩

theorem OR.rea (o : OR u A R ρ a b h s) (e : Nat) {z : Int} (hz : z = (e : Int)) (he : e < 2) : ∃ x, gaK 4 h (A 21) z = some x ∧ oI h ρ x (s.2.1 ((56 + 717 * e) + 18)) := by
  subst hz
  obtain ⟨x0, x1, e1, e2, e3⟩ := o.2.2.2.1.2.2.2
  rcases (by omega : e = 0 ∨ e = 1) with rfl | rfl
  · exact ⟨x0, by rw [gaK_N e1 (by show 0 < 2; omega) (by show 2 < 2147483648; omega)]; rfl, e2⟩
  · exact ⟨x1, by rw [gaK_N e1 (by show 1 < 2; omega) (by show 2 < 2147483648; omega)]; rfl, e3⟩

/-- the rows of frames of an end -/
theorem OR.frs (o : OR u A R ρ a b h s) (e : Nat) {z : Int} (hz : z = (e : Int)) (he : e < 2) : ∃ y, gaK 5 h (A 28) z = some y ∧ (gat h y = some (.inr (.inl (4, (R e).map some))) ∧ ρ y = 0) ∧ aFa (oRow h ρ) (R e) ((s.2.2 (56 + 717 * e + 26))) ∧ (R e).Nodup := by
  subst hz
  obtain ⟨⟨y0, y1, e1, e2, e3⟩, e4, e5, e6, e7, e8⟩ := o.2.2.2.2.1
  rcases (by omega : e = 0 ∨ e = 1) with rfl | rfl
  · exact ⟨y0, by rw [gaK_N e1 (by show 0 < 2; omega) (by show 2 < 2147483648; omega)]; rfl, e2, e4, e6⟩
  · exact ⟨y1, by rw [gaK_N e1 (by show 1 < 2; omega) (by show 2 < 2147483648; omega)]; rfl, e3, e5, e7⟩

theorem OR.w0 (o : OR u A R ρ a b h s) (hm : oSm s) (x : Int) : ∃ h', gpt h u 0 (.inl x) = some h' ∧ OR u A R ρ a b h' (aN s 0 x) ∧ hC 0 0 ρ h ρ h' := by
  obtain ⟨⟨p1, r⟩, p2, p3, ⟨p4, p5, p6, p7⟩, p8, p9, p10⟩ := o
  obtain ⟨h', e, wr⟩ := gpt_W (j := 0) (.inl x) p1 (by show _ < 31; omega)
  have p := wr.P r.1
  obtain ⟨⟨m1, m2⟩, m3, m4⟩ := hm
  refine ⟨h', e, ⟨⟨wr.1, r.len (by rw [wr.2.2.1]; exact Nat.le_refl _)⟩, (p2.kp r p (by omega)).N (by omega) (by omega) (by omega), ?_, ⟨p4.kp r p (by omega) (by omega) (by omega), p5.kp r p (by omega) (by omega) (by omega), p6.kp r p (by omega) (by omega) (by omega), p7.kp r p (by omega) (by omega) (by omega)⟩, p8.kp r p (by omega) (by omega) (by omega), p9.kp r p (by omega) (by omega) (by omega), p10.kp r p (by omega) (by omega) (by omega)⟩, wr.C r.1 (by omega)⟩
  have q := p3.kp r p (by omega)
  unfold oNum
  rw [aAr_N (by omega), aPr_N (by omega), aPr_N (by omega), aPr_N (by omega), aPr_N (by omega), aPr_N (by omega), aPr_N (by omega)]
  exact q

theorem OR.w1 (o : OR u A R ρ a b h s) (hm : oSm s) (x : Int) : ∃ h', gpt h u 1 (.inl x) = some h' ∧ OR u A R ρ a b h' (aN s 1 x) ∧ hC 0 0 ρ h ρ h' := by
  obtain ⟨⟨p1, r⟩, p2, p3, ⟨p4, p5, p6, p7⟩, p8, p9, p10⟩ := o
  obtain ⟨h', e, wr⟩ := gpt_W (j := 1) (.inl x) p1 (by show _ < 31; omega)
  have p := wr.P r.1
  obtain ⟨⟨m1, m2⟩, m3, m4⟩ := hm
  refine ⟨h', e, ⟨⟨wr.1, r.len (by rw [wr.2.2.1]; exact Nat.le_refl _)⟩, (p2.kp r p (by omega)).N (by omega) (by omega) (by omega), ?_, ⟨p4.kp r p (by omega) (by omega) (by omega), p5.kp r p (by omega) (by omega) (by omega), p6.kp r p (by omega) (by omega) (by omega), p7.kp r p (by omega) (by omega) (by omega)⟩, p8.kp r p (by omega) (by omega) (by omega), p9.kp r p (by omega) (by omega) (by omega), p10.kp r p (by omega) (by omega) (by omega)⟩, wr.C r.1 (by omega)⟩
  have q := p3.kp r p (by omega)
  unfold oNum
  rw [aAr_N (by omega), aPr_N (by omega), aPr_N (by omega), aPr_N (by omega), aPr_N (by omega), aPr_N (by omega), aPr_N (by omega)]
  exact q

theorem OR.w2 (o : OR u A R ρ a b h s) (hm : oSm s) (x : Int) : ∃ h', gpt h u 2 (.inl x) = some h' ∧ OR u A R ρ a b h' (aN s 2 x) ∧ hC 0 0 ρ h ρ h' := by
  obtain ⟨⟨p1, r⟩, p2, p3, ⟨p4, p5, p6, p7⟩, p8, p9, p10⟩ := o
  obtain ⟨h', e, wr⟩ := gpt_W (j := 2) (.inl x) p1 (by show _ < 31; omega)
  have p := wr.P r.1
  obtain ⟨⟨m1, m2⟩, m3, m4⟩ := hm
  refine ⟨h', e, ⟨⟨wr.1, r.len (by rw [wr.2.2.1]; exact Nat.le_refl _)⟩, (p2.kp r p (by omega)).N (by omega) (by omega) (by omega), ?_, ⟨p4.kp r p (by omega) (by omega) (by omega), p5.kp r p (by omega) (by omega) (by omega), p6.kp r p (by omega) (by omega) (by omega), p7.kp r p (by omega) (by omega) (by omega)⟩, p8.kp r p (by omega) (by omega) (by omega), p9.kp r p (by omega) (by omega) (by omega), p10.kp r p (by omega) (by omega) (by omega)⟩, wr.C r.1 (by omega)⟩
  have q := p3.kp r p (by omega)
  unfold oNum
  rw [aAr_N (by omega), aPr_N (by omega), aPr_N (by omega), aPr_N (by omega), aPr_N (by omega), aPr_N (by omega), aPr_N (by omega)]
  exact q

theorem OR.w3 (o : OR u A R ρ a b h s) (hm : oSm s) (x : Int) : ∃ h', gpt h u 3 (.inl x) = some h' ∧ OR u A R ρ a b h' (aN s 3 x) ∧ hC 0 0 ρ h ρ h' := by
  obtain ⟨⟨p1, r⟩, p2, p3, ⟨p4, p5, p6, p7⟩, p8, p9, p10⟩ := o
  obtain ⟨h', e, wr⟩ := gpt_W (j := 3) (.inl x) p1 (by show _ < 31; omega)
  have p := wr.P r.1
  obtain ⟨⟨m1, m2⟩, m3, m4⟩ := hm
  refine ⟨h', e, ⟨⟨wr.1, r.len (by rw [wr.2.2.1]; exact Nat.le_refl _)⟩, (p2.kp r p (by omega)).N (by omega) (by omega) (by omega), ?_, ⟨p4.kp r p (by omega) (by omega) (by omega), p5.kp r p (by omega) (by omega) (by omega), p6.kp r p (by omega) (by omega) (by omega), p7.kp r p (by omega) (by omega) (by omega)⟩, p8.kp r p (by omega) (by omega) (by omega), p9.kp r p (by omega) (by omega) (by omega), p10.kp r p (by omega) (by omega) (by omega)⟩, wr.C r.1 (by omega)⟩
  have q := p3.kp r p (by omega)
  unfold oNum
  rw [aAr_N (by omega), aPr_N (by omega), aPr_N (by omega), aPr_N (by omega), aPr_N (by omega), aPr_N (by omega), aPr_N (by omega)]
  exact q

theorem OR.w4 (o : OR u A R ρ a b h s) (hm : oSm s) (x : Int) : ∃ h', gpt h u 4 (.inl x) = some h' ∧ OR u A R ρ a b h' (aN s 4 x) ∧ hC 0 0 ρ h ρ h' := by
  obtain ⟨⟨p1, r⟩, p2, p3, ⟨p4, p5, p6, p7⟩, p8, p9, p10⟩ := o
  obtain ⟨h', e, wr⟩ := gpt_W (j := 4) (.inl x) p1 (by show _ < 31; omega)
  have p := wr.P r.1
  obtain ⟨⟨m1, m2⟩, m3, m4⟩ := hm
  refine ⟨h', e, ⟨⟨wr.1, r.len (by rw [wr.2.2.1]; exact Nat.le_refl _)⟩, (p2.kp r p (by omega)).N (by omega) (by omega) (by omega), ?_, ⟨p4.kp r p (by omega) (by omega) (by omega), p5.kp r p (by omega) (by omega) (by omega), p6.kp r p (by omega) (by omega) (by omega), p7.kp r p (by omega) (by omega) (by omega)⟩, p8.kp r p (by omega) (by omega) (by omega), p9.kp r p (by omega) (by omega) (by omega), p10.kp r p (by omega) (by omega) (by omega)⟩, wr.C r.1 (by omega)⟩
  have q := p3.kp r p (by omega)
  unfold oNum
  rw [aAr_N (by omega), aPr_N (by omega), aPr_N (by omega), aPr_N (by omega), aPr_N (by omega), aPr_N (by omega), aPr_N (by omega)]
  exact q

theorem OR.w5 (o : OR u A R ρ a b h s) (hm : oSm s) (x : Int) : ∃ h', gpt h u 5 (.inl x) = some h' ∧ OR u A R ρ a b h' (aN s 5 x) ∧ hC 0 0 ρ h ρ h' := by
  obtain ⟨⟨p1, r⟩, p2, p3, ⟨p4, p5, p6, p7⟩, p8, p9, p10⟩ := o
  obtain ⟨h', e, wr⟩ := gpt_W (j := 5) (.inl x) p1 (by show _ < 31; omega)
  have p := wr.P r.1
  obtain ⟨⟨m1, m2⟩, m3, m4⟩ := hm
  refine ⟨h', e, ⟨⟨wr.1, r.len (by rw [wr.2.2.1]; exact Nat.le_refl _)⟩, (p2.kp r p (by omega)).N (by omega) (by omega) (by omega), ?_, ⟨p4.kp r p (by omega) (by omega) (by omega), p5.kp r p (by omega) (by omega) (by omega), p6.kp r p (by omega) (by omega) (by omega), p7.kp r p (by omega) (by omega) (by omega)⟩, p8.kp r p (by omega) (by omega) (by omega), p9.kp r p (by omega) (by omega) (by omega), p10.kp r p (by omega) (by omega) (by omega)⟩, wr.C r.1 (by omega)⟩
  have q := p3.kp r p (by omega)
  unfold oNum
  rw [aAr_N (by omega), aPr_N (by omega), aPr_N (by omega), aPr_N (by omega), aPr_N (by omega), aPr_N (by omega), aPr_N (by omega)]
  exact q

theorem OR.w6 (o : OR u A R ρ a b h s) (hm : oSm s) (x : Int) : ∃ h', gpt h u 6 (.inl x) = some h' ∧ OR u A R ρ a b h' (aN s 6 x) ∧ hC 0 0 ρ h ρ h' := by
  obtain ⟨⟨p1, r⟩, p2, p3, ⟨p4, p5, p6, p7⟩, p8, p9, p10⟩ := o
  obtain ⟨h', e, wr⟩ := gpt_W (j := 6) (.inl x) p1 (by show _ < 31; omega)
  have p := wr.P r.1
  obtain ⟨⟨m1, m2⟩, m3, m4⟩ := hm
  refine ⟨h', e, ⟨⟨wr.1, r.len (by rw [wr.2.2.1]; exact Nat.le_refl _)⟩, (p2.kp r p (by omega)).N (by omega) (by omega) (by omega), ?_, ⟨p4.kp r p (by omega) (by omega) (by omega), p5.kp r p (by omega) (by omega) (by omega), p6.kp r p (by omega) (by omega) (by omega), p7.kp r p (by omega) (by omega) (by omega)⟩, p8.kp r p (by omega) (by omega) (by omega), p9.kp r p (by omega) (by omega) (by omega), p10.kp r p (by omega) (by omega) (by omega)⟩, wr.C r.1 (by omega)⟩
  have q := p3.kp r p (by omega)
  unfold oNum
  rw [aAr_N (by omega), aPr_N (by omega), aPr_N (by omega), aPr_N (by omega), aPr_N (by omega), aPr_N (by omega), aPr_N (by omega)]
  exact q

theorem OR.w7 (o : OR u A R ρ a b h s) (hm : oSm s) (x : Int) : ∃ h', gpt h u 7 (.inl x) = some h' ∧ OR u A R ρ a b h' (aN s 7 x) ∧ hC 0 0 ρ h ρ h' := by
  obtain ⟨⟨p1, r⟩, p2, p3, ⟨p4, p5, p6, p7⟩, p8, p9, p10⟩ := o
  obtain ⟨h', e, wr⟩ := gpt_W (j := 7) (.inl x) p1 (by show _ < 31; omega)
  have p := wr.P r.1
  obtain ⟨⟨m1, m2⟩, m3, m4⟩ := hm
  refine ⟨h', e, ⟨⟨wr.1, r.len (by rw [wr.2.2.1]; exact Nat.le_refl _)⟩, (p2.kp r p (by omega)).N (by omega) (by omega) (by omega), ?_, ⟨p4.kp r p (by omega) (by omega) (by omega), p5.kp r p (by omega) (by omega) (by omega), p6.kp r p (by omega) (by omega) (by omega), p7.kp r p (by omega) (by omega) (by omega)⟩, p8.kp r p (by omega) (by omega) (by omega), p9.kp r p (by omega) (by omega) (by omega), p10.kp r p (by omega) (by omega) (by omega)⟩, wr.C r.1 (by omega)⟩
  have q := p3.kp r p (by omega)
  unfold oNum
  rw [aAr_N (by omega), aPr_N (by omega), aPr_N (by omega), aPr_N (by omega), aPr_N (by omega), aPr_N (by omega), aPr_N (by omega)]
  exact q

theorem OR.w8 (o : OR u A R ρ a b h s) (hm : oSm s) (x : Int) : ∃ h', gpt h u 8 (.inl x) = some h' ∧ OR u A R ρ a b h' (aN s 8 x) ∧ hC 0 0 ρ h ρ h' := by
  obtain ⟨⟨p1, r⟩, p2, p3, ⟨p4, p5, p6, p7⟩, p8, p9, p10⟩ := o
  obtain ⟨h', e, wr⟩ := gpt_W (j := 8) (.inl x) p1 (by show _ < 31; omega)
  have p := wr.P r.1
  obtain ⟨⟨m1, m2⟩, m3, m4⟩ := hm
  refine ⟨h', e, ⟨⟨wr.1, r.len (by rw [wr.2.2.1]; exact Nat.le_refl _)⟩, (p2.kp r p (by omega)).N (by omega) (by omega) (by omega), ?_, ⟨p4.kp r p (by omega) (by omega) (by omega), p5.kp r p (by omega) (by omega) (by omega), p6.kp r p (by omega) (by omega) (by omega), p7.kp r p (by omega) (by omega) (by omega)⟩, p8.kp r p (by omega) (by omega) (by omega), p9.kp r p (by omega) (by omega) (by omega), p10.kp r p (by omega) (by omega) (by omega)⟩, wr.C r.1 (by omega)⟩
  have q := p3.kp r p (by omega)
  unfold oNum
  rw [aAr_N (by omega), aPr_N (by omega), aPr_N (by omega), aPr_N (by omega), aPr_N (by omega), aPr_N (by omega), aPr_N (by omega)]
  exact q

theorem OR.w9 (o : OR u A R ρ a b h s) (hm : oSm s) (x : Int) : ∃ h', gpt h u 9 (.inl x) = some h' ∧ OR u A R ρ a b h' (aN s 9 x) ∧ hC 0 0 ρ h ρ h' := by
  obtain ⟨⟨p1, r⟩, p2, p3, ⟨p4, p5, p6, p7⟩, p8, p9, p10⟩ := o
  obtain ⟨h', e, wr⟩ := gpt_W (j := 9) (.inl x) p1 (by show _ < 31; omega)
  have p := wr.P r.1
  obtain ⟨⟨m1, m2⟩, m3, m4⟩ := hm
  refine ⟨h', e, ⟨⟨wr.1, r.len (by rw [wr.2.2.1]; exact Nat.le_refl _)⟩, (p2.kp r p (by omega)).N (by omega) (by omega) (by omega), ?_, ⟨p4.kp r p (by omega) (by omega) (by omega), p5.kp r p (by omega) (by omega) (by omega), p6.kp r p (by omega) (by omega) (by omega), p7.kp r p (by omega) (by omega) (by omega)⟩, p8.kp r p (by omega) (by omega) (by omega), p9.kp r p (by omega) (by omega) (by omega), p10.kp r p (by omega) (by omega) (by omega)⟩, wr.C r.1 (by omega)⟩
  have q := p3.kp r p (by omega)
  unfold oNum
  rw [aAr_N (by omega), aPr_N (by omega), aPr_N (by omega), aPr_N (by omega), aPr_N (by omega), aPr_N (by omega), aPr_N (by omega)]
  exact q

theorem OR.wa (o : OR u A R ρ a b h s) (x : Int) : ∃ h', gpt h u 10 (.inl x) = some h' ∧ OR u A R ρ x b h' s ∧ hC 0 0 ρ h ρ h' := by
  obtain ⟨⟨p1, r⟩, p2, p3, ⟨p4, p5, p6, p7⟩, p8, p9, p10⟩ := o
  obtain ⟨h', e, wr⟩ := gpt_W (j := 10) (.inl x) p1 (by show _ < 31; omega)
  have p := wr.P r.1
  exact ⟨h', e, ⟨⟨wr.1, r.len (by rw [wr.2.2.1]; exact Nat.le_refl _)⟩, p2.kp r p (by omega), p3.kp r p (by omega), ⟨p4.kp r p (by omega) (by omega) (by omega), p5.kp r p (by omega) (by omega) (by omega), p6.kp r p (by omega) (by omega) (by omega), p7.kp r p (by omega) (by omega) (by omega)⟩, p8.kp r p (by omega) (by omega) (by omega), p9.kp r p (by omega) (by omega) (by omega), p10.kp r p (by omega) (by omega) (by omega)⟩, wr.C r.1 (by omega)⟩

theorem OR.wb (o : OR u A R ρ a b h s) (x : Int) : ∃ h', gpt h u 11 (.inl x) = some h' ∧ OR u A R ρ a x h' s ∧ hC 0 0 ρ h ρ h' := by
  obtain ⟨⟨p1, r⟩, p2, p3, ⟨p4, p5, p6, p7⟩, p8, p9, p10⟩ := o
  obtain ⟨h', e, wr⟩ := gpt_W (j := 11) (.inl x) p1 (by show _ < 31; omega)
  have p := wr.P r.1
  exact ⟨h', e, ⟨⟨wr.1, r.len (by rw [wr.2.2.1]; exact Nat.le_refl _)⟩, p2.kp r p (by omega), p3.kp r p (by omega), ⟨p4.kp r p (by omega) (by omega) (by omega), p5.kp r p (by omega) (by omega) (by omega), p6.kp r p (by omega) (by omega) (by omega), p7.kp r p (by omega) (by omega) (by omega)⟩, p8.kp r p (by omega) (by omega) (by omega), p9.kp r p (by omega) (by omega) (by omega), p10.kp r p (by omega) (by omega) (by omega)⟩, wr.C r.1 (by omega)⟩

theorem OR.wtot (o : OR u A R ρ a b h s) (hm : oSm s) (k : Nat) {z : Int} (hz : z = (k : Int)) (hk : k < 11) (x : Int) : ∃ h', gsN 0 h (A 17) z x = some h' ∧ OR u A R ρ a b h' (aN s (45 + k) x) ∧ hC 0 0 ρ h ρ h' := by
  obtain ⟨⟨p1, r⟩, p2, p3, ⟨p4, p5, p6, p7⟩, p8, p9, p10⟩ := o
  have _ := hk
  obtain ⟨h', e, wr⟩ := gsN_W x p3.1 hz (by rw [aAr_len]; exact hk) (by rw [aAr_len]; omega)
  have p := wr.P (r.2.1 17 (by omega) (by omega))
  obtain ⟨⟨m1, m2⟩, m3, m4⟩ := hm
  exact ⟨h', e, ⟨⟨by rw [oFs_N (by omega)]; exact p _ _ (by rw [r.1]; omega) p1, r.len (by rw [wr.2.2.1]; exact Nat.le_refl _)⟩, (p2.kp r p (by omega)).N (by omega) (by omega) (by omega), ⟨by rw [← aAr_set hk]; exact wr.1,
    by rw [aPr_N (by omega)]; exact p _ _ (r.la (by omega) (by omega)) p3.2.1,
    by rw [aPr_N (by omega)]; exact p _ _ (r.la (by omega) (by omega)) p3.2.2.1,
    by rw [aPr_N (by omega)]; exact p _ _ (r.la (by omega) (by omega)) p3.2.2.2.1,
    by rw [aPr_N (by omega)]; exact p _ _ (r.la (by omega) (by omega)) p3.2.2.2.2.1,
    by rw [aPr_N (by omega)]; exact p _ _ (r.la (by omega) (by omega)) p3.2.2.2.2.2.1,
    by rw [aPr_N (by omega)]; exact p _ _ (r.la (by omega) (by omega)) p3.2.2.2.2.2.2⟩, ⟨p4.kp r p (by omega) (by omega) (by omega), p5.kp r p (by omega) (by omega) (by omega), p6.kp r p (by omega) (by omega) (by omega), p7.kp r p (by omega) (by omega) (by omega)⟩, p8.kp r p (by omega) (by omega) (by omega), p9.kp r p (by omega) (by omega) (by omega), p10.kp r p (by omega) (by omega) (by omega)⟩, wr.C (r.2.1 17 (by omega) (by omega)) (by omega)⟩

theorem OR.wnext (o : OR u A R ρ a b h s) (hm : oSm s) (e : Nat) {z : Int} (hz : z = (e : Int)) (he : e < 2) (x : Int) : ∃ h', gsN 0 h (A 22) z x = some h' ∧ OR u A R ρ a b h' (aN s ((56 + 717 * e) + 2) x) ∧ hC 0 0 ρ h ρ h' := by
  obtain ⟨⟨p1, r⟩, p2, p3, ⟨p4, p5, p6, p7⟩, p8, p9, p10⟩ := o
  have he2 : e = 0 ∨ e = 1 := by omega
  obtain ⟨h', e, wr⟩ := gsN_W x p3.2.1 hz (by exact he) (by show 2 < 100000; omega)
  have p := wr.P (r.2.1 22 (by omega) (by omega))
  obtain ⟨⟨m1, m2⟩, m3, m4⟩ := hm
  exact ⟨h', e, ⟨⟨by rw [oFs_N (by omega)]; exact p _ _ (by rw [r.1]; omega) p1, r.len (by rw [wr.2.2.1]; exact Nat.le_refl _)⟩, (p2.kp r p (by omega)).N (by omega) (by omega) (by omega), ⟨by rw [aAr_N (by omega)]; exact p _ _ (r.la (by omega) (by omega)) p3.1,
    by rw [← aPr_set he]; exact wr.1,
    by rw [aPr_N (by omega)]; exact p _ _ (r.la (by omega) (by omega)) p3.2.2.1,
    by rw [aPr_N (by omega)]; exact p _ _ (r.la (by omega) (by omega)) p3.2.2.2.1,
    by rw [aPr_N (by omega)]; exact p _ _ (r.la (by omega) (by omega)) p3.2.2.2.2.1,
    by rw [aPr_N (by omega)]; exact p _ _ (r.la (by omega) (by omega)) p3.2.2.2.2.2.1,
    by rw [aPr_N (by omega)]; exact p _ _ (r.la (by omega) (by omega)) p3.2.2.2.2.2.2⟩, ⟨p4.kp r p (by omega) (by omega) (by omega), p5.kp r p (by omega) (by omega) (by omega), p6.kp r p (by omega) (by omega) (by omega), p7.kp r p (by omega) (by omega) (by omega)⟩, p8.kp r p (by omega) (by omega) (by omega), p9.kp r p (by omega) (by omega) (by omega), p10.kp r p (by omega) (by omega) (by omega)⟩, wr.C (r.2.1 22 (by omega) (by omega)) (by omega)⟩

theorem OR.wexp (o : OR u A R ρ a b h s) (hm : oSm s) (e : Nat) {z : Int} (hz : z = (e : Int)) (he : e < 2) (x : Int) : ∃ h', gsN 0 h (A 23) z x = some h' ∧ OR u A R ρ a b h' (aN s ((56 + 717 * e) + 3) x) ∧ hC 0 0 ρ h ρ h' := by
  obtain ⟨⟨p1, r⟩, p2, p3, ⟨p4, p5, p6, p7⟩, p8, p9, p10⟩ := o
  have he2 : e = 0 ∨ e = 1 := by omega
  obtain ⟨h', e, wr⟩ := gsN_W x p3.2.2.1 hz (by exact he) (by show 2 < 100000; omega)
  have p := wr.P (r.2.1 23 (by omega) (by omega))
  obtain ⟨⟨m1, m2⟩, m3, m4⟩ := hm
  exact ⟨h', e, ⟨⟨by rw [oFs_N (by omega)]; exact p _ _ (by rw [r.1]; omega) p1, r.len (by rw [wr.2.2.1]; exact Nat.le_refl _)⟩, (p2.kp r p (by omega)).N (by omega) (by omega) (by omega), ⟨by rw [aAr_N (by omega)]; exact p _ _ (r.la (by omega) (by omega)) p3.1,
    by rw [aPr_N (by omega)]; exact p _ _ (r.la (by omega) (by omega)) p3.2.1,
    by rw [← aPr_set he]; exact wr.1,
    by rw [aPr_N (by omega)]; exact p _ _ (r.la (by omega) (by omega)) p3.2.2.2.1,
    by rw [aPr_N (by omega)]; exact p _ _ (r.la (by omega) (by omega)) p3.2.2.2.2.1,
    by rw [aPr_N (by omega)]; exact p _ _ (r.la (by omega) (by omega)) p3.2.2.2.2.2.1,
    by rw [aPr_N (by omega)]; exact p _ _ (r.la (by omega) (by omega)) p3.2.2.2.2.2.2⟩, ⟨p4.kp r p (by omega) (by omega) (by omega), p5.kp r p (by omega) (by omega) (by omega), p6.kp r p (by omega) (by omega) (by omega), p7.kp r p (by omega) (by omega) (by omega)⟩, p8.kp r p (by omega) (by omega) (by omega), p9.kp r p (by omega) (by omega) (by omega), p10.kp r p (by omega) (by omega) (by omega)⟩, wr.C (r.2.1 23 (by omega) (by omega)) (by omega)⟩

theorem OR.wrec (o : OR u A R ρ a b h s) (hm : oSm s) (e : Nat) {z : Int} (hz : z = (e : Int)) (he : e < 2) (x : Int) : ∃ h', gsN 0 h (A 24) z x = some h' ∧ OR u A R ρ a b h' (aN s ((56 + 717 * e) + 4) x) ∧ hC 0 0 ρ h ρ h' := by
  obtain ⟨⟨p1, r⟩, p2, p3, ⟨p4, p5, p6, p7⟩, p8, p9, p10⟩ := o
  have he2 : e = 0 ∨ e = 1 := by omega
  obtain ⟨h', e, wr⟩ := gsN_W x p3.2.2.2.1 hz (by exact he) (by show 2 < 100000; omega)
  have p := wr.P (r.2.1 24 (by omega) (by omega))
  obtain ⟨⟨m1, m2⟩, m3, m4⟩ := hm
  exact ⟨h', e, ⟨⟨by rw [oFs_N (by omega)]; exact p _ _ (by rw [r.1]; omega) p1, r.len (by rw [wr.2.2.1]; exact Nat.le_refl _)⟩, (p2.kp r p (by omega)).N (by omega) (by omega) (by omega), ⟨by rw [aAr_N (by omega)]; exact p _ _ (r.la (by omega) (by omega)) p3.1,
    by rw [aPr_N (by omega)]; exact p _ _ (r.la (by omega) (by omega)) p3.2.1,
    by rw [aPr_N (by omega)]; exact p _ _ (r.la (by omega) (by omega)) p3.2.2.1,
    by rw [← aPr_set he]; exact wr.1,
    by rw [aPr_N (by omega)]; exact p _ _ (r.la (by omega) (by omega)) p3.2.2.2.2.1,
    by rw [aPr_N (by omega)]; exact p _ _ (r.la (by omega) (by omega)) p3.2.2.2.2.2.1,
    by rw [aPr_N (by omega)]; exact p _ _ (r.la (by omega) (by omega)) p3.2.2.2.2.2.2⟩, ⟨p4.kp r p (by omega) (by omega) (by omega), p5.kp r p (by omega) (by omega) (by omega), p6.kp r p (by omega) (by omega) (by omega), p7.kp r p (by omega) (by omega) (by omega)⟩, p8.kp r p (by omega) (by omega) (by omega), p9.kp r p (by omega) (by omega) (by omega), p10.kp r p (by omega) (by omega) (by omega)⟩, wr.C (r.2.1 24 (by omega) (by omega)) (by omega)⟩

theorem OR.wcred (o : OR u A R ρ a b h s) (hm : oSm s) (e : Nat) {z : Int} (hz : z = (e : Int)) (he : e < 2) (x : Int) : ∃ h', gsN 0 h (A 25) z x = some h' ∧ OR u A R ρ a b h' (aN s ((56 + 717 * e) + 5) x) ∧ hC 0 0 ρ h ρ h' := by
  obtain ⟨⟨p1, r⟩, p2, p3, ⟨p4, p5, p6, p7⟩, p8, p9, p10⟩ := o
  have he2 : e = 0 ∨ e = 1 := by omega
  obtain ⟨h', e, wr⟩ := gsN_W x p3.2.2.2.2.1 hz (by exact he) (by show 2 < 100000; omega)
  have p := wr.P (r.2.1 25 (by omega) (by omega))
  obtain ⟨⟨m1, m2⟩, m3, m4⟩ := hm
  exact ⟨h', e, ⟨⟨by rw [oFs_N (by omega)]; exact p _ _ (by rw [r.1]; omega) p1, r.len (by rw [wr.2.2.1]; exact Nat.le_refl _)⟩, (p2.kp r p (by omega)).N (by omega) (by omega) (by omega), ⟨by rw [aAr_N (by omega)]; exact p _ _ (r.la (by omega) (by omega)) p3.1,
    by rw [aPr_N (by omega)]; exact p _ _ (r.la (by omega) (by omega)) p3.2.1,
    by rw [aPr_N (by omega)]; exact p _ _ (r.la (by omega) (by omega)) p3.2.2.1,
    by rw [aPr_N (by omega)]; exact p _ _ (r.la (by omega) (by omega)) p3.2.2.2.1,
    by rw [← aPr_set he]; exact wr.1,
    by rw [aPr_N (by omega)]; exact p _ _ (r.la (by omega) (by omega)) p3.2.2.2.2.2.1,
    by rw [aPr_N (by omega)]; exact p _ _ (r.la (by omega) (by omega)) p3.2.2.2.2.2.2⟩, ⟨p4.kp r p (by omega) (by omega) (by omega), p5.kp r p (by omega) (by omega) (by omega), p6.kp r p (by omega) (by omega) (by omega), p7.kp r p (by omega) (by omega) (by omega)⟩, p8.kp r p (by omega) (by omega) (by omega), p9.kp r p (by omega) (by omega) (by omega), p10.kp r p (by omega) (by omega) (by omega)⟩, wr.C (r.2.1 25 (by omega) (by omega)) (by omega)⟩

theorem OR.wesc (o : OR u A R ρ a b h s) (hm : oSm s) (e : Nat) {z : Int} (hz : z = (e : Int)) (he : e < 2) (x : Int) : ∃ h', gsN 3 h (A 26) z x = some h' ∧ OR u A R ρ a b h' (aN s ((56 + 717 * e) + 6) x) ∧ hC 0 0 ρ h ρ h' := by
  obtain ⟨⟨p1, r⟩, p2, p3, ⟨p4, p5, p6, p7⟩, p8, p9, p10⟩ := o
  have he2 : e = 0 ∨ e = 1 := by omega
  obtain ⟨h', e, wr⟩ := gsN_W x p3.2.2.2.2.2.1 hz (by exact he) (by show 2 < 100000; omega)
  have p := wr.P (r.2.1 26 (by omega) (by omega))
  obtain ⟨⟨m1, m2⟩, m3, m4⟩ := hm
  exact ⟨h', e, ⟨⟨by rw [oFs_N (by omega)]; exact p _ _ (by rw [r.1]; omega) p1, r.len (by rw [wr.2.2.1]; exact Nat.le_refl _)⟩, (p2.kp r p (by omega)).N (by omega) (by omega) (by omega), ⟨by rw [aAr_N (by omega)]; exact p _ _ (r.la (by omega) (by omega)) p3.1,
    by rw [aPr_N (by omega)]; exact p _ _ (r.la (by omega) (by omega)) p3.2.1,
    by rw [aPr_N (by omega)]; exact p _ _ (r.la (by omega) (by omega)) p3.2.2.1,
    by rw [aPr_N (by omega)]; exact p _ _ (r.la (by omega) (by omega)) p3.2.2.2.1,
    by rw [aPr_N (by omega)]; exact p _ _ (r.la (by omega) (by omega)) p3.2.2.2.2.1,
    by rw [← aPr_set he]; exact wr.1,
    by rw [aPr_N (by omega)]; exact p _ _ (r.la (by omega) (by omega)) p3.2.2.2.2.2.2⟩, ⟨p4.kp r p (by omega) (by omega) (by omega), p5.kp r p (by omega) (by omega) (by omega), p6.kp r p (by omega) (by omega) (by omega), p7.kp r p (by omega) (by omega) (by omega)⟩, p8.kp r p (by omega) (by omega) (by omega), p9.kp r p (by omega) (by omega) (by omega), p10.kp r p (by omega) (by omega) (by omega)⟩, wr.C (r.2.1 26 (by omega) (by omega)) (by omega)⟩

theorem OR.wmark (o : OR u A R ρ a b h s) (hm : oSm s) (e : Nat) {z : Int} (hz : z = (e : Int)) (he : e < 2) (x : Int) : ∃ h', gsN 3 h (A 27) z x = some h' ∧ OR u A R ρ a b h' (aN s ((56 + 717 * e) + 9) x) ∧ hC 0 0 ρ h ρ h' := by
  obtain ⟨⟨p1, r⟩, p2, p3, ⟨p4, p5, p6, p7⟩, p8, p9, p10⟩ := o
  have he2 : e = 0 ∨ e = 1 := by omega
  obtain ⟨h', e, wr⟩ := gsN_W x p3.2.2.2.2.2.2 hz (by exact he) (by show 2 < 100000; omega)
  have p := wr.P (r.2.1 27 (by omega) (by omega))
  obtain ⟨⟨m1, m2⟩, m3, m4⟩ := hm
  exact ⟨h', e, ⟨⟨by rw [oFs_N (by omega)]; exact p _ _ (by rw [r.1]; omega) p1, r.len (by rw [wr.2.2.1]; exact Nat.le_refl _)⟩, (p2.kp r p (by omega)).N (by omega) (by omega) (by omega), ⟨by rw [aAr_N (by omega)]; exact p _ _ (r.la (by omega) (by omega)) p3.1,
    by rw [aPr_N (by omega)]; exact p _ _ (r.la (by omega) (by omega)) p3.2.1,
    by rw [aPr_N (by omega)]; exact p _ _ (r.la (by omega) (by omega)) p3.2.2.1,
    by rw [aPr_N (by omega)]; exact p _ _ (r.la (by omega) (by omega)) p3.2.2.2.1,
    by rw [aPr_N (by omega)]; exact p _ _ (r.la (by omega) (by omega)) p3.2.2.2.2.1,
    by rw [aPr_N (by omega)]; exact p _ _ (r.la (by omega) (by omega)) p3.2.2.2.2.2.1,
    by rw [← aPr_set he]; exact wr.1⟩, ⟨p4.kp r p (by omega) (by omega) (by omega), p5.kp r p (by omega) (by omega) (by omega), p6.kp r p (by omega) (by omega) (by omega), p7.kp r p (by omega) (by omega) (by omega)⟩, p8.kp r p (by omega) (by omega) (by omega), p9.kp r p (by omega) (by omega) (by omega), p10.kp r p (by omega) (by omega) (by omega)⟩, wr.C (r.2.1 27 (by omega) (by omega)) (by omega)⟩

theorem OR.wnext2 (o : OR u A R ρ a b h s) (hm : oSm s) (e : Nat) {z : Int} (hz : z = (e : Int)) (he : e < 2) (x : Int) : ∃ h', gsN 0 h (A 22) z x = some h' ∧ OR u A R ρ a b h' (aN s ((56 + 717 * e) + 2) x) ∧ hC 0 0 ρ h ρ h' ∧ hP 22 ρ h h' := by
  obtain ⟨⟨p1, r⟩, p2, p3, ⟨p4, p5, p6, p7⟩, p8, p9, p10⟩ := o
  have he2 : e = 0 ∨ e = 1 := by omega
  obtain ⟨h', e, wr⟩ := gsN_W x p3.2.1 hz (by exact he) (by show 2 < 100000; omega)
  have p := wr.P (r.2.1 22 (by omega) (by omega))
  obtain ⟨⟨m1, m2⟩, m3, m4⟩ := hm
  exact ⟨h', e, ⟨⟨by rw [oFs_N (by omega)]; exact p _ _ (by rw [r.1]; omega) p1, r.len (by rw [wr.2.2.1]; exact Nat.le_refl _)⟩, (p2.kp r p (by omega)).N (by omega) (by omega) (by omega), ⟨by rw [aAr_N (by omega)]; exact p _ _ (r.la (by omega) (by omega)) p3.1,
    by rw [← aPr_set he]; exact wr.1,
    by rw [aPr_N (by omega)]; exact p _ _ (r.la (by omega) (by omega)) p3.2.2.1,
    by rw [aPr_N (by omega)]; exact p _ _ (r.la (by omega) (by omega)) p3.2.2.2.1,
    by rw [aPr_N (by omega)]; exact p _ _ (r.la (by omega) (by omega)) p3.2.2.2.2.1,
    by rw [aPr_N (by omega)]; exact p _ _ (r.la (by omega) (by omega)) p3.2.2.2.2.2.1,
    by rw [aPr_N (by omega)]; exact p _ _ (r.la (by omega) (by omega)) p3.2.2.2.2.2.2⟩, ⟨p4.kp r p (by omega) (by omega) (by omega), p5.kp r p (by omega) (by omega) (by omega), p6.kp r p (by omega) (by omega) (by omega), p7.kp r p (by omega) (by omega) (by omega)⟩, p8.kp r p (by omega) (by omega) (by omega), p9.kp r p (by omega) (by omega) (by omega), p10.kp r p (by omega) (by omega) (by omega)⟩, wr.C (r.2.1 22 (by omega) (by omega)) (by omega), p⟩

theorem OR.wque (o : OR u A R ρ a b h s) (e : Nat) {z : Int} (hz : z = (e : Int)) (he : e < 2) {x : Nat} {l : List Int} (hx : oI h ρ x l) : ∃ h', gsQ 4 h (A 18) z (some x) = some h' ∧ OR u A R ρ a b h' (aL s ((56 + 717 * e) + 117) l) ∧ hC 0 0 ρ h ρ h' := by
  obtain ⟨⟨p1, r⟩, p2, p3, ⟨p4, p5, p6, p7⟩, p8, p9, p10⟩ := o
  obtain ⟨x0, x1, e1, e2, e3⟩ := p4
  obtain ⟨h', e', wr⟩ := gsQ_W x e1 hz (by exact he) (by show 2 < 100000; omega) (gokB4 hx.1)
  have p := wr.P (r.2.1 18 (by omega) (by omega))
  have hL : ∀ k d, (d = 117 ∨ d = 317 ∨ d = 10 ∨ d = 18) → d ≠ 117 → (12 ≤ k ∧ k ≤ 30 ∧ k ≠ 18) → oLs A ρ h s k d → oLs A ρ h' (aL s ((56 + 717 * e) + 117) l) k d := fun k d hd hd2 hk ee => by
    have q := ee.kp r p ⟨hk.1, hk.2.1⟩ hk.2.2 (by omega)
    unfold oLs
    have he2 : e = 0 ∨ e = 1 := by omega
    rw [aL_2, aL_2, if_neg (by omega), if_neg (by omega)]
    exact q
  have hn : oLs A ρ h' (aL s ((56 + 717 * e) + 117) l) 18 117 := by
    unfold oLs
    rw [aL_2, aL_2]
    rcases (by omega : e = 0 ∨ e = 1) with rfl | rfl
    · rw [if_pos (by omega), if_neg (by omega)]
      exact ⟨x, x1, wr.1, hx.kp p (by omega), e3.kp p (by omega)⟩
    · rw [if_neg (by omega), if_pos (by omega)]
      exact ⟨x0, x, wr.1, e2.kp p (by omega), hx.kp p (by omega)⟩
  exact ⟨h', e', ⟨⟨p _ _ (by rw [r.1]; omega) p1, r.len (by rw [wr.2.2.1]; exact Nat.le_refl _)⟩, p2.kp r p (by omega), p3.kp r p (by omega), ⟨hn, hL _ _ (by omega) (by omega) (by omega) p5, hL _ _ (by omega) (by omega) (by omega) p6, hL _ _ (by omega) (by omega) (by omega) p7⟩, p8.kp r p (by omega) (by omega) (by omega), p9.kp r p (by omega) (by omega) (by omega), p10.kp r p (by omega) (by omega) (by omega)⟩, wr.C (r.2.1 18 (by omega) (by omega)) (by omega)⟩

theorem OR.wgot (o : OR u A R ρ a b h s) (e : Nat) {z : Int} (hz : z = (e : Int)) (he : e < 2) {x : Nat} {l : List Int} (hx : oI h ρ x l) : ∃ h', gsQ 4 h (A 19) z (some x) = some h' ∧ OR u A R ρ a b h' (aL s ((56 + 717 * e) + 317) l) ∧ hC 0 0 ρ h ρ h' := by
  obtain ⟨⟨p1, r⟩, p2, p3, ⟨p4, p5, p6, p7⟩, p8, p9, p10⟩ := o
  obtain ⟨x0, x1, e1, e2, e3⟩ := p5
  obtain ⟨h', e', wr⟩ := gsQ_W x e1 hz (by exact he) (by show 2 < 100000; omega) (gokB4 hx.1)
  have p := wr.P (r.2.1 19 (by omega) (by omega))
  have hL : ∀ k d, (d = 117 ∨ d = 317 ∨ d = 10 ∨ d = 18) → d ≠ 317 → (12 ≤ k ∧ k ≤ 30 ∧ k ≠ 19) → oLs A ρ h s k d → oLs A ρ h' (aL s ((56 + 717 * e) + 317) l) k d := fun k d hd hd2 hk ee => by
    have q := ee.kp r p ⟨hk.1, hk.2.1⟩ hk.2.2 (by omega)
    unfold oLs
    have he2 : e = 0 ∨ e = 1 := by omega
    rw [aL_2, aL_2, if_neg (by omega), if_neg (by omega)]
    exact q
  have hn : oLs A ρ h' (aL s ((56 + 717 * e) + 317) l) 19 317 := by
    unfold oLs
    rw [aL_2, aL_2]
    rcases (by omega : e = 0 ∨ e = 1) with rfl | rfl
    · rw [if_pos (by omega), if_neg (by omega)]
      exact ⟨x, x1, wr.1, hx.kp p (by omega), e3.kp p (by omega)⟩
    · rw [if_neg (by omega), if_pos (by omega)]
      exact ⟨x0, x, wr.1, e2.kp p (by omega), hx.kp p (by omega)⟩
  exact ⟨h', e', ⟨⟨p _ _ (by rw [r.1]; omega) p1, r.len (by rw [wr.2.2.1]; exact Nat.le_refl _)⟩, p2.kp r p (by omega), p3.kp r p (by omega), ⟨hL _ _ (by omega) (by omega) (by omega) p4, hn, hL _ _ (by omega) (by omega) (by omega) p6, hL _ _ (by omega) (by omega) (by omega) p7⟩, p8.kp r p (by omega) (by omega) (by omega), p9.kp r p (by omega) (by omega) (by omega), p10.kp r p (by omega) (by omega) (by omega)⟩, wr.C (r.2.1 19 (by omega) (by omega)) (by omega)⟩

theorem OR.wwri (o : OR u A R ρ a b h s) (e : Nat) {z : Int} (hz : z = (e : Int)) (he : e < 2) {x : Nat} {l : List Int} (hx : oI h ρ x l) : ∃ h', gsQ 4 h (A 20) z (some x) = some h' ∧ OR u A R ρ a b h' (aL s ((56 + 717 * e) + 10) l) ∧ hC 0 0 ρ h ρ h' := by
  obtain ⟨⟨p1, r⟩, p2, p3, ⟨p4, p5, p6, p7⟩, p8, p9, p10⟩ := o
  obtain ⟨x0, x1, e1, e2, e3⟩ := p6
  obtain ⟨h', e', wr⟩ := gsQ_W x e1 hz (by exact he) (by show 2 < 100000; omega) (gokB4 hx.1)
  have p := wr.P (r.2.1 20 (by omega) (by omega))
  have hL : ∀ k d, (d = 117 ∨ d = 317 ∨ d = 10 ∨ d = 18) → d ≠ 10 → (12 ≤ k ∧ k ≤ 30 ∧ k ≠ 20) → oLs A ρ h s k d → oLs A ρ h' (aL s ((56 + 717 * e) + 10) l) k d := fun k d hd hd2 hk ee => by
    have q := ee.kp r p ⟨hk.1, hk.2.1⟩ hk.2.2 (by omega)
    unfold oLs
    have he2 : e = 0 ∨ e = 1 := by omega
    rw [aL_2, aL_2, if_neg (by omega), if_neg (by omega)]
    exact q
  have hn : oLs A ρ h' (aL s ((56 + 717 * e) + 10) l) 20 10 := by
    unfold oLs
    rw [aL_2, aL_2]
    rcases (by omega : e = 0 ∨ e = 1) with rfl | rfl
    · rw [if_pos (by omega), if_neg (by omega)]
      exact ⟨x, x1, wr.1, hx.kp p (by omega), e3.kp p (by omega)⟩
    · rw [if_neg (by omega), if_pos (by omega)]
      exact ⟨x0, x, wr.1, e2.kp p (by omega), hx.kp p (by omega)⟩
  exact ⟨h', e', ⟨⟨p _ _ (by rw [r.1]; omega) p1, r.len (by rw [wr.2.2.1]; exact Nat.le_refl _)⟩, p2.kp r p (by omega), p3.kp r p (by omega), ⟨hL _ _ (by omega) (by omega) (by omega) p4, hL _ _ (by omega) (by omega) (by omega) p5, hn, hL _ _ (by omega) (by omega) (by omega) p7⟩, p8.kp r p (by omega) (by omega) (by omega), p9.kp r p (by omega) (by omega) (by omega), p10.kp r p (by omega) (by omega) (by omega)⟩, wr.C (r.2.1 20 (by omega) (by omega)) (by omega)⟩

theorem OR.wrea (o : OR u A R ρ a b h s) (e : Nat) {z : Int} (hz : z = (e : Int)) (he : e < 2) {x : Nat} {l : List Int} (hx : oI h ρ x l) : ∃ h', gsQ 4 h (A 21) z (some x) = some h' ∧ OR u A R ρ a b h' (aL s ((56 + 717 * e) + 18) l) ∧ hC 0 0 ρ h ρ h' := by
  obtain ⟨⟨p1, r⟩, p2, p3, ⟨p4, p5, p6, p7⟩, p8, p9, p10⟩ := o
  obtain ⟨x0, x1, e1, e2, e3⟩ := p7
  obtain ⟨h', e', wr⟩ := gsQ_W x e1 hz (by exact he) (by show 2 < 100000; omega) (gokB4 hx.1)
  have p := wr.P (r.2.1 21 (by omega) (by omega))
  have hL : ∀ k d, (d = 117 ∨ d = 317 ∨ d = 10 ∨ d = 18) → d ≠ 18 → (12 ≤ k ∧ k ≤ 30 ∧ k ≠ 21) → oLs A ρ h s k d → oLs A ρ h' (aL s ((56 + 717 * e) + 18) l) k d := fun k d hd hd2 hk ee => by
    have q := ee.kp r p ⟨hk.1, hk.2.1⟩ hk.2.2 (by omega)
    unfold oLs
    have he2 : e = 0 ∨ e = 1 := by omega
    rw [aL_2, aL_2, if_neg (by omega), if_neg (by omega)]
    exact q
  have hn : oLs A ρ h' (aL s ((56 + 717 * e) + 18) l) 21 18 := by
    unfold oLs
    rw [aL_2, aL_2]
    rcases (by omega : e = 0 ∨ e = 1) with rfl | rfl
    · rw [if_pos (by omega), if_neg (by omega)]
      exact ⟨x, x1, wr.1, hx.kp p (by omega), e3.kp p (by omega)⟩
    · rw [if_neg (by omega), if_pos (by omega)]
      exact ⟨x0, x, wr.1, e2.kp p (by omega), hx.kp p (by omega)⟩
  exact ⟨h', e', ⟨⟨p _ _ (by rw [r.1]; omega) p1, r.len (by rw [wr.2.2.1]; exact Nat.le_refl _)⟩, p2.kp r p (by omega), p3.kp r p (by omega), ⟨hL _ _ (by omega) (by omega) (by omega) p4, hL _ _ (by omega) (by omega) (by omega) p5, hL _ _ (by omega) (by omega) (by omega) p6, hn⟩, p8.kp r p (by omega) (by omega) (by omega), p9.kp r p (by omega) (by omega) (by omega), p10.kp r p (by omega) (by omega) (by omega)⟩, wr.C (r.2.1 21 (by omega) (by omega)) (by omega)⟩

/-- another list of frames -/
theorem OR.wfrs (o : OR u A R ρ a b h s) (e : Nat) {z : Int} (hz : z = (e : Int)) (he : e < 2) {y : Nat} {r' : List Nat} {l : List (List Int)} (hy : gat h y = some (.inr (.inl (4, r'.map some))) ∧ ρ y = 0) (hr : aFa (oRow h ρ) r' l) (hn : r'.Nodup) (hd : ∀ x, x ∈ r' → x ∉ R (1 - e)) : ∃ h', gsQ 5 h (A 28) z (some y) = some h' ∧ OR u A (fun k => if k = e then r' else R k) ρ a b h' (aF s ((56 + 717 * e) + 26) l) ∧ hC 0 0 ρ h ρ h' := by
  obtain ⟨⟨p1, r⟩, p2, p3, ⟨p4, p5, p6, p7⟩, ⟨⟨y0, y1, e1, ⟨e2, e2'⟩, ⟨e3, e3'⟩⟩, e4, e5, e6, e7, e8⟩, p9, p10⟩ := o
  obtain ⟨h', e', wr⟩ := gsQ_W y e1 hz (by exact he) (by show 2 < 100000; omega) (gokB5 hy.1)
  have p := wr.P (r.2.1 28 (by omega) (by omega))
  have hA : ∀ k n j, (j = 1730 ∨ j = 1490) → (12 ≤ k ∧ k ≤ 30 ∧ k ≠ 28) → oArr A ρ h k n (s.2.2 j) → oArr A ρ h' k n ((aF s ((56 + 717 * e) + 26) l).2.2 j) := fun k n j hj hk ee => by
    have q := ee.kp r p ⟨hk.1, hk.2.1⟩ (by omega) hk.2.2
    have he2 : e = 0 ∨ e = 1 := by omega
    rw [aF_3, if_neg (by omega)]
    exact q
  have hN : ∀ x f, oRow h ρ x f → oRow h' ρ x f := fun x f q => q.kp p (by omega)
  refine ⟨h', e', ⟨⟨p _ _ (by rw [r.1]; omega) p1, r.len (by rw [wr.2.2.1]; exact Nat.le_refl _)⟩, p2.kp r p (by omega), p3.kp r p (by omega), ⟨p4.kp r p (by omega) (by omega) (by omega), p5.kp r p (by omega) (by omega) (by omega), p6.kp r p (by omega) (by omega) (by omega), p7.kp r p (by omega) (by omega) (by omega)⟩, ?_, hA _ _ _ (by omega) (by omega) p9, hA _ _ _ (by omega) (by omega) p10⟩, wr.C (r.2.1 28 (by omega) (by omega)) (by omega)⟩
  unfold oFr
  rw [aF_3, aF_3]
  rcases (by omega : e = 0 ∨ e = 1) with rfl | rfl
  · rw [if_pos (by omega), if_neg (by omega)]
    exact ⟨⟨y, y1, wr.1, ⟨p _ _ (by rw [hy.2]; omega) hy.1, hy.2⟩, ⟨p _ _ (by rw [e3']; omega) e3, e3'⟩⟩, aFa_mono hN hr, aFa_mono hN e5, hn, e7, hd⟩
  · rw [if_neg (by omega), if_pos (by omega)]
    exact ⟨⟨y0, y, wr.1, ⟨p _ _ (by rw [e2']; omega) e2, e2'⟩, ⟨p _ _ (by rw [hy.2]; omega) hy.1, hy.2⟩⟩, aFa_mono hN e4, aFa_mono hN hr, e6, hn, fun x hx h2 => hd x h2 hx⟩
/-- one number of one frame -/
theorem OR.wrow (o : OR u A R ρ a b h s) (e i k : Nat) {z : Int} (hz : z = (k : Int)) (he : e < 2) (hi : i < ((s.2.2 (56 + 717 * e + 26))).length) (hk : k < (((s.2.2 (56 + 717 * e + 26))).getD i []).length) (hl : (((s.2.2 (56 + 717 * e + 26))).getD i []).length < 100000) (x : Int) : ∃ h', gsN 0 h ((R e).getD i 0) z x = some h' ∧ OR u A R ρ a b h' (aF s ((56 + 717 * e) + 26) (((s.2.2 (56 + 717 * e + 26))).set i ((((s.2.2 (56 + 717 * e + 26))).getD i []).set k x))) ∧ hC 0 0 ρ h ρ h' := by
  obtain ⟨y, f1, f2, f3, f4⟩ := o.frs e rfl he
  have f5 := aFa_at f3 hi
  obtain ⟨⟨p1, r⟩, p2, p3, ⟨p4, p5, p6, p7⟩, ⟨⟨y0, y1, e1, ⟨e2, e2'⟩, ⟨e3, e3'⟩⟩, e4, e5, e6, e7, e8⟩, p9, p10⟩ := o
  obtain ⟨h', e', wr⟩ := gsN_W x f5.1 hz hk hl
  have p := wr.P f5.2
  have hA : ∀ kk n j, (j = 1730 ∨ j = 1490) → (12 ≤ kk ∧ kk ≤ 30) → oArr A ρ h kk n (s.2.2 j) → oArr A ρ h' kk n ((aF s ((56 + 717 * e) + 26) (((s.2.2 (56 + 717 * e + 26))).set i ((((s.2.2 (56 + 717 * e + 26))).getD i []).set k x))).2.2 j) := fun kk n j hj hkk ee => by
    have q := ee.kp r p ⟨hkk.1, hkk.2⟩ (by omega) (by omega)
    have he2 : e = 0 ∨ e = 1 := by omega
    rw [aF_3, if_neg (by omega)]
    exact q
  have hN : ∀ x' f, x' ≠ (R e).getD i 0 → oRow h ρ x' f → oRow h' ρ x' f := fun x' f hne q => ⟨by rw [wr.2.1 x' hne]; exact q.1, q.2⟩
  have hm : (R e).getD i 0 ∈ R e := by
    have hl := aFa_len f3
    rw [List.getD_eq_getElem?_getD, List.getElem?_eq_getElem (by omega)]
    exact List.getElem_mem _
  refine ⟨h', e', ⟨⟨p _ _ (by rw [r.1]; omega) p1, r.len (by rw [wr.2.2.1]; exact Nat.le_refl _)⟩, p2.kp r p (by omega), p3.kp r p (by omega), ⟨p4.kp r p (by omega) (by omega) (by omega), p5.kp r p (by omega) (by omega) (by omega), p6.kp r p (by omega) (by omega) (by omega), p7.kp r p (by omega) (by omega) (by omega)⟩, ?_, hA _ _ _ (by omega) (by omega) p9, hA _ _ _ (by omega) (by omega) p10⟩, wr.C f5.2 (by omega)⟩
  refine ⟨⟨y0, y1, p _ _ (r.la (by omega) (by omega)) e1, ⟨p _ _ (by rw [e2']; omega) e2, e2'⟩, ⟨p _ _ (by rw [e3']; omega) e3, e3'⟩⟩, ?_, ?_, e6, e7, e8⟩
  · rw [aF_3]
    rcases (by omega : e = 0 ∨ e = 1) with rfl | rfl
    · rw [if_pos (by omega)]
      exact aFa_set _ e6 (fun x' f _ hne q => hN x' f hne q) ⟨wr.1, f5.2⟩ hi e4
    · rw [if_neg (by omega)]
      exact aFa_mono2 (fun x' f hx q => hN x' f (fun he' => e8 x' hx (he' ▸ hm)) q) e4
  · rw [aF_3]
    rcases (by omega : e = 0 ∨ e = 1) with rfl | rfl
    · rw [if_neg (by omega)]
      exact aFa_mono2 (fun x' f hx q => hN x' f (fun he' => e8 _ hm (he' ▸ hx)) q) e5
    · rw [if_pos (by omega)]
      exact aFa_set _ e7 (fun x' f _ hne q => hN x' f hne q) ⟨wr.1, f5.2⟩ hi e5
/-- one more is under way -/
theorem OR.wfly (o : OR u A R ρ a b h s) {z : Int} (hz : z = (((s.2.2 1730)).length : Int)) (hl : ((s.2.2 1730)).length < 200) {x : Nat} {l : List Int} (hx : oI h ρ x l) : ∃ h', gsQ 4 h (A 29) z (some x) = some h' ∧ OR u A R ρ a b h' (aF s 1730 ((s.2.2 1730) ++ [l])) ∧ hC 0 0 ρ h ρ h' := by
  obtain ⟨⟨p1, r⟩, p2, p3, ⟨p4, p5, p6, p7⟩, p8, ⟨rr, q, e1, e2, e3, e4⟩, p10⟩ := o
  have hlen := aFa_len e4
  obtain ⟨h', e', wr⟩ := gsQ_W x e1 hz (by rw [e2]; exact hl) (by omega) (gokB4 hx.1)
  have p := wr.P (r.2.1 29 (by omega) (by omega))
  refine ⟨h', e', ⟨⟨p _ _ (by rw [r.1]; omega) p1, r.len (by rw [wr.2.2.1]; exact Nat.le_refl _)⟩, p2.kp r p (by omega), p3.kp r p (by omega), ⟨p4.kp r p (by omega) (by omega) (by omega), p5.kp r p (by omega) (by omega) (by omega), p6.kp r p (by omega) (by omega) (by omega), p7.kp r p (by omega) (by omega) (by omega)⟩, p8.kp r p (by omega) (by omega) (by omega), ?_, p10.kp r p (by omega) (by omega) (by omega)⟩, wr.C (r.2.1 29 (by omega) (by omega)) (by omega)⟩
  refine ⟨rr ++ [x], q.set ((s.2.2 1730)).length (some x), wr.1, by rw [List.length_set, e2], ?_, ?_⟩
  · rw [List.length_append, List.map_append, ← e3]
    show (q.set ((s.2.2 1730)).length (some x)).take (rr.length + 1) = _
    rw [hlen]
    show (q.set (s.2.2 1730).length (some x)).take ((s.2.2 1730).length + 1) = q.take (s.2.2 1730).length ++ [some x]
    rw [List.take_succ, List.take_set_of_le (Nat.le_refl _), List.getElem?_set_self (by rw [e2]; exact hl)]
    rfl
  · rw [aF_3, if_pos rfl]
    exact aFa_app (aFa_mono (fun x' f w' => w'.kp p (by omega)) e4) ⟨hx.kp p (by omega), trivial⟩
end

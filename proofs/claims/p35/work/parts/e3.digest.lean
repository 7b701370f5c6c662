/-! ===== what the law reads of a line: one number, alike for alike states ===== -/
section
variable {s : aS}
/-- a number that every memory in state s answers -/
def aDet (s : aS) (f : xM → gH → Option Int) : Prop := ∃ d : Int, ∀ (m : xM) (hp : gH), aSee m s → f m hp = some d
theorem d_242 {k : xM → gH → Int → Int → Option Int} {p : Nat} (hp : p < ((s.2.2 1490)).length) (hl : ((s.2.2 1490)).length ≤ 60) (hk : ∀ x, aDet s fun m h => k m h x ((p + 1 : Nat) : Int)) : ∀ (j q n : Nat) (x : Int), q + j = 4 → j < n → aDet s fun m h => f_L_all_242 m h (k m h) n x (p : Int) (q : Int) := by
  intro j
  induction j with
  | zero =>
    intro q n x h1 h2
    obtain ⟨n, rfl⟩ : ∃ z, n = z + 1 := ⟨n - 1, by omega⟩
    obtain ⟨d, hd⟩ := hk x
    refine ⟨d, fun m h hs => ?_⟩
    show f_L_all_242 m h (k m h) (n + 1) x (p : Int) (q : Int) = some d
    rw [f_L_all_242, if_neg (by rw [xw_nat (by omega), xw_id (x := 4) (by omega) (by omega)]; omega)]
    unfold f_L_all_269
    rw [show (p : Int) + 1 = ((p + 1 : Nat) : Int) by omega]
    exact hd m h hs
  | succ j ih =>
    intro q n x h1 h2
    obtain ⟨n, rfl⟩ : ∃ z, n = z + 1 := ⟨n - 1, by omega⟩
    obtain ⟨d, hd⟩ := ih (q + 1) n (31 * x + xw ((((s.2.2 1490)).getD p []).getD q 0)) (by omega) (by omega)
    refine ⟨d, fun m h hs => ?_⟩
    show f_L_all_242 m h (k m h) (n + 1) x (p : Int) (q : Int) = some d
    have e := hs.2.2.2.2.2.2 p q hp (by omega)
    rw [f_L_all_242, if_pos (by rw [xw_nat (by omega), xw_id (x := 4) (by omega) (by omega)]; omega), e, Option.bind_some, show (q : Int) + 1 = ((q + 1 : Nat) : Int) by omega]
    exact hd m h hs
theorem d_229 (hl : ((s.2.2 1490)).length ≤ 60) : ∀ (j p n : Nat) (x : Int), p + j = ((s.2.2 1490)).length → j < n → aDet s fun m h => f_L_all_229 m h n x (p : Int) := by
  intro j
  induction j with
  | zero =>
    intro p n x h1 h2
    obtain ⟨n, rfl⟩ : ∃ z, n = z + 1 := ⟨n - 1, by omega⟩
    refine ⟨x, fun m h hs => ?_⟩
    show f_L_all_229 m h (n + 1) x (p : Int) = some x
    have e : f_X_size 10 m = some (((s.2.2 1490)).length : Int) := hs.1 10 (by omega)
    rw [f_L_all_229, e, Option.bind_some, if_neg (by rw [xw_nat (by omega), xw_nat (by omega)]; omega)]
    rfl
  | succ j ih =>
    intro p n x h1 h2
    obtain ⟨n, rfl⟩ : ∃ z, n = z + 1 := ⟨n - 1, by omega⟩
    obtain ⟨d, hd⟩ := d_242 (k := fun m h => f_L_all_229 m h n) (p := p) (by omega) hl (fun x => ih (p + 1) n x (by omega) (by omega)) 4 0 fu x (by omega) (by show _ < 5000; omega)
    refine ⟨d, fun m h hs => ?_⟩
    show f_L_all_229 m h (n + 1) x (p : Int) = some d
    have e : f_X_size 10 m = some (((s.2.2 1490)).length : Int) := hs.1 10 (by omega)
    rw [f_L_all_229, e, Option.bind_some, if_pos (by rw [xw_nat (by omega), xw_nat (by omega)]; omega)]
    exact hd m h hs
theorem d_186 {k42 : xM → gH → Int → Int → Option Int} {k : xM → gH → Int → Int → Int → Int → Option Int} {e p c : Nat} (he : e < 2) (hp : p < ((s.2.2 (56 + 717 * e + 26))).length) (hl : ((s.2.2 (56 + 717 * e + 26))).length ≤ 7) (hk : ∀ x, aDet s fun m h => k m h x (e : Int) (c : Int) ((p + 1 : Nat) : Int)) : ∀ (j q n : Nat) (x : Int), q + j = 4 → j < n → aDet s fun m h => f_L_all_186 m h (k42 m h) (k m h) n x (e : Int) (c : Int) (p : Int) (q : Int) := by
  intro j
  induction j with
  | zero =>
    intro q n x h1 h2
    obtain ⟨n, rfl⟩ : ∃ z, n = z + 1 := ⟨n - 1, by omega⟩
    obtain ⟨d, hd⟩ := hk x
    refine ⟨d, fun m h hs => ?_⟩
    show f_L_all_186 m h (k42 m h) (k m h) (n + 1) x (e : Int) (c : Int) (p : Int) (q : Int) = some d
    rw [f_L_all_186, if_neg (by rw [xw_nat (by omega), xw_id (x := 4) (by omega) (by omega)]; omega)]
    unfold f_L_all_215
    rw [show (p : Int) + 1 = ((p + 1 : Nat) : Int) by omega]
    exact hd m h hs
  | succ j ih =>
    intro q n x h1 h2
    obtain ⟨n, rfl⟩ : ∃ z, n = z + 1 := ⟨n - 1, by omega⟩
    obtain ⟨d, hd⟩ := ih (q + 1) n (31 * x + xw (aFrmN (((s.2.2 (56 + 717 * e + 26))).getD p []) q)) (by omega) (by omega)
    refine ⟨d, fun m h hs => ?_⟩
    show f_L_all_186 m h (k42 m h) (k m h) (n + 1) x (e : Int) (c : Int) (p : Int) (q : Int) = some d
    have v := hs.2.2.2.1 e p q he hp (by omega)
    rw [f_L_all_186, if_pos (by rw [xw_nat (by omega), xw_id (x := 4) (by omega) (by omega)]; omega), v, Option.bind_some, show (q : Int) + 1 = ((q + 1 : Nat) : Int) by omega]
    exact hd m h hs
theorem d_176 {k42 : xM → gH → Int → Int → Option Int} {e : Nat} (he : e < 2) (hl : ((s.2.2 (56 + 717 * e + 26))).length ≤ 7) (hk : ∀ x, aDet s fun m h => k42 m h x ((e + 1 : Nat) : Int)) : ∀ (j p n : Nat) (x : Int), p + j = ((s.2.2 (56 + 717 * e + 26))).length → j < n → aDet s fun m h => f_L_all_176 m h (k42 m h) n x (e : Int) (((s.2.2 (56 + 717 * e + 26))).length : Int) (p : Int) := by
  intro j
  induction j with
  | zero =>
    intro p n x h1 h2
    obtain ⟨n, rfl⟩ : ∃ z, n = z + 1 := ⟨n - 1, by omega⟩
    obtain ⟨d, hd⟩ := hk x
    refine ⟨d, fun m h hs => ?_⟩
    show f_L_all_176 m h (k42 m h) (n + 1) x (e : Int) (((s.2.2 (56 + 717 * e + 26))).length : Int) (p : Int) = some d
    rw [f_L_all_176, if_neg (by rw [xw_nat (by omega), xw_nat (by omega)]; omega)]
    unfold f_L_all_221
    rw [show (e : Int) + 1 = ((e + 1 : Nat) : Int) by omega]
    exact hd m h hs
  | succ j ih =>
    intro p n x h1 h2
    obtain ⟨n, rfl⟩ : ∃ z, n = z + 1 := ⟨n - 1, by omega⟩
    obtain ⟨d, hd⟩ := d_186 (k42 := k42) (k := fun m h => f_L_all_176 m h (k42 m h) n) (c := ((s.2.2 (56 + 717 * e + 26))).length) (p := p) he (by omega) hl (fun x => ih (p + 1) n x (by omega) (by omega)) 4 0 fu x (by omega) (by show _ < 5000; omega)
    refine ⟨d, fun m h hs => ?_⟩
    show f_L_all_176 m h (k42 m h) (n + 1) x (e : Int) (((s.2.2 (56 + 717 * e + 26))).length : Int) (p : Int) = some d
    rw [f_L_all_176, if_pos (by rw [xw_nat (by omega), xw_nat (by omega)]; omega)]
    exact hd m h hs
theorem d_158 {k42 : xM → gH → Int → Int → Option Int} {e : Nat} (he : e < 2) (hl : ((s.2.2 (56 + 717 * e + 26))).length ≤ 7) (hc : aCnt 0 ((s.2.2 (56 + 717 * e + 26))) + aCnt 1 ((s.2.2 (56 + 717 * e + 26))) = (((s.2.2 (56 + 717 * e + 26))).length : Int)) (hk : ∀ x, aDet s fun m h => k42 m h x ((e + 1 : Nat) : Int)) (x : Int) : aDet s fun m h => f_L_all_158 m h (k42 m h) x (e : Int) := by
  obtain ⟨d, hd⟩ := d_176 he hl hk ((s.2.2 (56 + 717 * e + 26))).length 0 fu x (by omega) (by show _ < 5000; omega)
  refine ⟨d, fun m h hs => ?_⟩
  show f_L_all_158 m h (k42 m h) x (e : Int) = some d
  have e1 : f_X_end (e : Int) 1 m = some (aCnt 0 ((s.2.2 (56 + 717 * e + 26)))) := hs.2.2.1 e 1 he (by omega)
  have e2 : f_X_end (e : Int) 2 m = some (aCnt 1 ((s.2.2 (56 + 717 * e + 26)))) := hs.2.2.1 e 2 he (by omega)
  unfold f_L_all_158
  rw [e1, Option.bind_some, e2, Option.bind_some, hc]
  exact hd m h hs
theorem d_127 {k42 : xM → gH → Int → Int → Option Int} {e : Nat} (he : e < 2) (hg : ((s.2.1 (56 + 717 * e + 317))).length ≤ 400) (hk : ∀ x, aDet s fun m h => f_L_all_158 m h (k42 m h) x (e : Int)) : ∀ (j p n : Nat) (x : Int), p + j = ((s.2.1 (56 + 717 * e + 317))).length → j < n → aDet s fun m h => f_L_all_127 m h (k42 m h) n x (e : Int) (p : Int) := by
  intro j
  induction j with
  | zero =>
    intro p n x h1 h2
    obtain ⟨n, rfl⟩ : ∃ z, n = z + 1 := ⟨n - 1, by omega⟩
    obtain ⟨d, hd⟩ := hk x
    refine ⟨d, fun m h hs => ?_⟩
    show f_L_all_127 m h (k42 m h) (n + 1) x (e : Int) (p : Int) = some d
    have v := hs.2.2.2.2.1 e p he (by omega)
    rw [if_neg (by omega)] at v
    rw [f_L_all_127, v, Option.bind_some, if_pos (by decide)]
    exact hd m h hs
  | succ j ih =>
    intro p n x h1 h2
    obtain ⟨n, rfl⟩ : ∃ z, n = z + 1 := ⟨n - 1, by omega⟩
    by_cases c : xw (((s.2.1 (56 + 717 * e + 317))).getD p 0) < 0
    · obtain ⟨d, hd⟩ := hk x
      refine ⟨d, fun m h hs => ?_⟩
      show f_L_all_127 m h (k42 m h) (n + 1) x (e : Int) (p : Int) = some d
      have v := hs.2.2.2.2.1 e p he (by omega)
      rw [if_pos (by omega)] at v
      rw [f_L_all_127, v, Option.bind_some, if_pos c]
      exact hd m h hs
    · obtain ⟨d, hd⟩ := ih (p + 1) n (31 * x + xw (((s.2.1 (56 + 717 * e + 317))).getD p 0)) (by omega) (by omega)
      refine ⟨d, fun m h hs => ?_⟩
      show f_L_all_127 m h (k42 m h) (n + 1) x (e : Int) (p : Int) = some d
      have v := hs.2.2.2.2.1 e p he (by omega)
      rw [if_pos (by omega)] at v
      rw [f_L_all_127, v, Option.bind_some, if_neg c, Option.bind_some, show (p : Int) + 1 = ((p + 1 : Nat) : Int) by omega]
      exact hd m h hs
theorem d_81 {k42 : xM → gH → Int → Int → Option Int} {e : Nat} (he : e < 2) (hk : ∀ x, aDet s fun m h => f_L_all_124 m h (k42 m h) x (e : Int)) : ∀ (j p n : Nat) (x : Int), p + j = 8 → j < n → aDet s fun m h => f_L_all_81 m h (k42 m h) n x (e : Int) (p : Int) := by
  intro j
  induction j with
  | zero =>
    intro p n x h1 h2
    obtain ⟨n, rfl⟩ : ∃ z, n = z + 1 := ⟨n - 1, by omega⟩
    obtain ⟨d, hd⟩ := hk x
    refine ⟨d, fun m h hs => ?_⟩
    show f_L_all_81 m h (k42 m h) (n + 1) x (e : Int) (p : Int) = some d
    rw [f_L_all_81, if_neg (by rw [xw_nat (by omega), xw_id (x := 8) (by omega) (by omega)]; omega)]
    exact hd m h hs
  | succ j ih =>
    intro p n x h1 h2
    obtain ⟨n, rfl⟩ : ∃ z, n = z + 1 := ⟨n - 1, by omega⟩
    obtain ⟨w1, hw1⟩ : ∃ v, v = (if p < ((s.2.1 (56 + 717 * e + 10))).length then ((s.2.1 (56 + 717 * e + 10))).getD p 0 else -1) := ⟨_, rfl⟩
    obtain ⟨w2, hw2⟩ : ∃ v, v = (if p < (s.2.1 ((56 + 717 * e) + 18)).length then (s.2.1 ((56 + 717 * e) + 18)).getD p 0 else -1) := ⟨_, rfl⟩
    obtain ⟨d, hd⟩ := ih (p + 1) n (31 * (31 * x + xw w1) + xw w2) (by omega) (by omega)
    refine ⟨d, fun m h hs => ?_⟩
    show f_L_all_81 m h (k42 m h) (n + 1) x (e : Int) (p : Int) = some d
    obtain ⟨v1, v2⟩ := hs.2.2.2.2.2.1 e p he (by omega)
    rw [← hw1] at v1
    rw [← hw2] at v2
    rw [f_L_all_81, if_pos (by rw [xw_nat (by omega), xw_id (x := 8) (by omega) (by omega)]; omega), v1, Option.bind_some, v2, Option.bind_some, show (p : Int) + 1 = ((p + 1 : Nat) : Int) by omega]
    exact hd m h hs
theorem d_50 {k42 : xM → gH → Int → Int → Option Int} {e : Nat} (he : e < 2) (hk : ∀ x, aDet s fun m h => f_L_all_78 m h (k42 m h) x (e : Int)) : ∀ (j p n : Nat) (x : Int), p + j = 10 → j < n → aDet s fun m h => f_L_all_50 m h (k42 m h) n x (e : Int) (p : Int) := by
  intro j
  induction j with
  | zero =>
    intro p n x h1 h2
    obtain ⟨n, rfl⟩ : ∃ z, n = z + 1 := ⟨n - 1, by omega⟩
    obtain ⟨d, hd⟩ := hk x
    refine ⟨d, fun m h hs => ?_⟩
    show f_L_all_50 m h (k42 m h) (n + 1) x (e : Int) (p : Int) = some d
    rw [f_L_all_50, if_neg (by rw [xw_nat (by omega), xw_id (x := 10) (by omega) (by omega)]; omega)]
    exact hd m h hs
  | succ j ih =>
    intro p n x h1 h2
    obtain ⟨n, rfl⟩ : ∃ z, n = z + 1 := ⟨n - 1, by omega⟩
    obtain ⟨d, hd⟩ := ih (p + 1) n (31 * x + xw (aEndN s e p)) (by omega) (by omega)
    refine ⟨d, fun m h hs => ?_⟩
    show f_L_all_50 m h (k42 m h) (n + 1) x (e : Int) (p : Int) = some d
    have v := hs.2.2.1 e p he (by omega)
    rw [f_L_all_50, if_pos (by rw [xw_nat (by omega), xw_id (x := 10) (by omega) (by omega)]; omega), v, Option.bind_some, show (p : Int) + 1 = ((p + 1 : Nat) : Int) by omega]
    exact hd m h hs
/-- frames: what is to be sent again and what isn't make all -/
theorem aCnt_all : ∀ l : List (List Int), (∀ f, f ∈ l → f.getD 2 0 = 0 ∨ f.getD 2 0 = 1) → aCnt 0 l + aCnt 1 l = (l.length : Int)
  | [], _ => rfl
  | f :: l, h => by
    have ih := aCnt_all l fun g hg => h g (List.mem_cons_of_mem _ hg)
    rw [aCnt, aCnt, List.length_cons]
    rcases h f List.mem_cons_self with q | q
    · rw [if_pos q, if_neg (by omega)]; omega
    · rw [if_neg (by omega), if_pos q]; omega
theorem d_42 {B : Int} (hi : aI B s) : ∀ (j e n : Nat) (x : Int), e + j = 2 → j < n → aDet s fun m h => f_L_all_42 m h n x (e : Int) := by
  intro j
  induction j with
  | zero =>
    intro e n x h1 h2
    obtain ⟨n, rfl⟩ : ∃ z, n = z + 1 := ⟨n - 1, by omega⟩
    obtain ⟨d, hd⟩ := d_229 hi.2.2.1 ((s.2.2 1490)).length 0 fu x (by omega) (by have : ((s.2.2 1490)).length ≤ 60 := hi.2.2.1; show _ < 5000; omega)
    refine ⟨d, fun m h hs => ?_⟩
    show f_L_all_42 m h (n + 1) x (e : Int) = some d
    rw [f_L_all_42, if_neg (by rw [xw_nat (by omega), xw_id (x := 2) (by omega) (by omega)]; omega)]
    exact hd m h hs
  | succ j ih =>
    intro e n x h1 h2
    obtain ⟨n, rfl⟩ : ∃ z, n = z + 1 := ⟨n - 1, by omega⟩
    have he : e < 2 := by omega
    obtain ⟨a1, a2, -⟩ := hi.2.2.2.1 e he
    have hc := aCnt_all _ fun f hf => (a1.2.1 f hf).2.1
    have h158 := d_158 (k42 := fun m h => f_L_all_42 m h n) he a1.1 hc (fun x => ih (e + 1) n x (by omega) (by omega))
    have h124 : ∀ x, aDet s fun m h => f_L_all_124 m h (f_L_all_42 m h n) x (e : Int) := fun x => d_127 (k42 := fun m h => f_L_all_42 m h n) he a2.2.1 h158 ((s.2.1 (56 + 717 * e + 317))).length 0 fu x (by omega) (by have : ((s.2.1 (56 + 717 * e + 317))).length ≤ 400 := a2.2.1; show _ < 5000; omega)
    have h78 : ∀ x, aDet s fun m h => f_L_all_78 m h (f_L_all_42 m h n) x (e : Int) := fun x => d_81 (k42 := fun m h => f_L_all_42 m h n) he h124 8 0 fu x (by omega) (by show _ < 5000; omega)
    obtain ⟨d, hd⟩ := d_50 (k42 := fun m h => f_L_all_42 m h n) he h78 10 0 fu x (by omega) (by show _ < 5000; omega)
    refine ⟨d, fun m h hs => ?_⟩
    show f_L_all_42 m h (n + 1) x (e : Int) = some d
    rw [f_L_all_42, if_pos (by rw [xw_nat (by omega), xw_id (x := 2) (by omega) (by omega)]; omega)]
    exact hd m h hs
theorem d_4 {B : Int} (hi : aI B s) : ∀ (j p n : Nat) (x : Int), p + j = 11 → j < n → aDet s fun m h => f_L_all_4 m h n x (p : Int) := by
  intro j
  induction j with
  | zero =>
    intro p n x h1 h2
    obtain ⟨n, rfl⟩ : ∃ z, n = z + 1 := ⟨n - 1, by omega⟩
    obtain ⟨d, hd⟩ := d_42 hi 2 0 fu x (by omega) (by show _ < 5000; omega)
    refine ⟨d, fun m h hs => ?_⟩
    show f_L_all_4 m h (n + 1) x (p : Int) = some d
    rw [f_L_all_4, if_neg (by rw [xw_nat (by omega), xw_id (x := 11) (by omega) (by omega)]; omega)]
    exact hd m h hs
  | succ j ih =>
    intro p n x h1 h2
    obtain ⟨n, rfl⟩ : ∃ z, n = z + 1 := ⟨n - 1, by omega⟩
    obtain ⟨d, hd⟩ := ih (p + 1) n (31 * (31 * x + xw (aSize s p)) + xw (s.1 (45 + p))) (by omega) (by omega)
    refine ⟨d, fun m h hs => ?_⟩
    show f_L_all_4 m h (n + 1) x (p : Int) = some d
    rw [f_L_all_4, if_pos (by rw [xw_nat (by omega), xw_id (x := 11) (by omega) (by omega)]; omega), hs.1 p (by omega), Option.bind_some, hs.2.1 p (by omega), Option.bind_some, show (p : Int) + 1 = ((p + 1 : Nat) : Int) by omega]
    exact hd m h hs
theorem d_all {B : Int} (hi : aI B s) : aDet s fun m h => f_L_all m h := d_4 hi 11 0 fu 0 (by omega) (by show _ < 5000; omega)
end

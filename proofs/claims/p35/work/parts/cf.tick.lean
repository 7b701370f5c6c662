/-! ===== a tick keeps what stays true; the own line's tick ===== -/
section
variable {B : Int} {s : aS}
theorem aI.step (h : aI B s) {e : Nat} (he : e < 2) {t : aS} (ht : aStep e s = some t) (h1 : 1 ≤ B) : aI (B + 101) t ∧ t.1 ((56 + 717 * e) + 5) + 5 ≤ s.1 ((56 + 717 * e) + 5) ∧ ((t.2.2 1730)).length = ((s.2.2 1730)).length + 1 := by
  unfold aStep at ht
  by_cases hp : aFst 1 ((s.2.2 (56 + 717 * e + 26))) < ((s.2.2 (56 + 717 * e + 26))).length
  · rw [if_pos hp] at ht
    by_cases hc : s.1 ((56 + 717 * e) + 5) < aCost e ((((s.2.2 (56 + 717 * e + 26))).getD (aFst 1 ((s.2.2 (56 + 717 * e + 26)))) []).drop 3) s
    · rw [if_pos hc] at ht; cases ht
    · rw [if_neg hc] at ht
      have ht := Option.some.inj ht
      subst ht
      have hfm := (aFst_at hp).2
      have hl := ((h.2.2.2.1 e he).1.2.1 _ hfm).1
      have hco := aCost_le e ((((s.2.2 (56 + 717 * e + 26))).getD (aFst 1 ((s.2.2 (56 + 717 * e + 26)))) []).drop 3) s
      rw [List.length_drop] at hco
      refine ⟨(h.again he hp hc h1).le (by omega), ?_, ?_⟩
      · unfold aAgain aLaunch
        dsimp only
        rw [aF_1, aN_1, if_neg (by omega), aN_1, if_neg (by omega), aN_1, if_neg (by omega), aN_1, if_neg (by omega), aF_1, aN_1, if_pos rfl]
        omega
      · unfold aAgain
        dsimp only
        rw [aF_3, if_neg (by omega), aLaunch_fl, List.length_append, List.length_singleton]
  · rw [if_neg hp] at ht
    by_cases hn : ((s.2.1 (56 + 717 * e + 117))).length = 0 ∨ s.1 14 ≤ (((s.2.2 (56 + 717 * e + 26))).length : Int) ∨ s.1 ((56 + 717 * e) + 5) < aCost e (((s.2.1 (56 + 717 * e + 117))).take 8) s
    · rw [if_pos hn] at ht; cases ht
    · rw [if_neg hn] at ht
      have ht := Option.some.inj ht
      subst ht
      rw [not_or, not_or] at hn
      have hlb : (((s.2.1 (56 + 717 * e + 117))).take 8).length = min 8 ((s.2.1 (56 + 717 * e + 117))).length := List.length_take
      have hco := aCost_le e (((s.2.1 (56 + 717 * e + 117))).take 8) s
      refine ⟨h.new he hn.1 hn.2.1 hn.2.2 h1, ?_, ?_⟩
      · unfold aNew aLaunch
        dsimp only
        rw [aL_1, aF_1, aN_1, if_neg (by omega), aN_1, if_neg (by omega), aN_1, if_neg (by omega), aN_1, if_neg (by omega), aN_1, if_neg (by omega), aF_1, aN_1, if_pos rfl]
        omega
      · unfold aNew
        dsimp only
        rw [aL_3, aF_3, if_neg (by omega), aN_2, aLaunch_fl, List.length_append, List.length_singleton]
theorem aI.loop {e : Nat} (he : e < 2) : ∀ (k : Nat) {B : Int} {s : aS}, aI B s → 1 ≤ B → aI (B + 101 * k) (aLoop e k s) ∧ 5 * ((((aLoop e k s).2.2 1730)).length : Int) + (aLoop e k s).1 ((56 + 717 * e) + 5) ≤ 5 * (((s.2.2 1730)).length : Int) + s.1 ((56 + 717 * e) + 5)
  | 0, B, s, h, _ => ⟨h.le (by omega), Int.le_refl _⟩
  | k + 1, B, s, h, h1 => by
    rw [aLoop]
    cases hc : aStep e s with
    | none => exact ⟨h.le (by omega), Int.le_refl _⟩
    | some t =>
      obtain ⟨a1, a2, a3⟩ := h.step he hc h1
      obtain ⟨b1, b2⟩ := aI.loop he k a1 (by omega)
      refine ⟨b1.le (by omega), ?_⟩
      show 5 * ((((aLoop e k t).2.2 1730)).length : Int) + (aLoop e k t).1 ((56 + 717 * e) + 5) ≤ _
      omega
theorem aI.send (h : aI B s) {e : Nat} (he : e < 2) (h1 : 108 ≤ B) : aI (B + 12120) (aSend e s) ∧ (((aSend e s).2.2 1730)).length ≤ ((s.2.2 1730)).length + 21 := by
  have h2 := h.cred he h1
  unfold aSend
  by_cases c : s.1 ((56 + 717 * e) + 6) = 0
  · rw [if_pos c]
    obtain ⟨a1, a2⟩ := aI.loop he 120 h2 (by omega)
    have c1 := (h2.2.2.2.1 e he).2.2.1
    have c2 := (a1.2.2.2.1 e he).2.2.1
    have ef : (((aCred e s).2.2 1730)) = (s.2.2 1730) := rfl
    rw [ef] at a2
    exact ⟨a1.le (by omega), by omega⟩
  · rw [if_neg c]
    exact ⟨h2.le (by omega), by show ((s.2.2 1730)).length ≤ _; omega⟩
theorem aLand_fl (it : List Int) (s : aS) : (((aLand it s).2.2 1730)).length ≤ ((s.2.2 1730)).length + 1 := by
  unfold aLand aAck aTake
  by_cases h1 : it.getD 1 0 = 1
  · rw [if_pos h1, aN_2, aN_2, aF_3, if_neg (by omega)]; omega
  · rw [if_neg h1]
    by_cases h2 : it.getD 4 0 = 1 ∨ it.getD 3 0 ≠ s.1 ((56 + 717 * (it.getD 2 0).toNat) + 3)
    · rw [if_pos h2, aN_2]; omega
    · rw [if_neg h2]
      dsimp only
      rw [aF_3, if_pos rfl, List.length_append, List.length_singleton, aRecvs_F]
      by_cases h3 : it.getD 5 0 = 1
      · rw [if_pos h3, aTell_fl, aL_3]; omega
      · rw [if_neg h3]; omega
/-- while frames and acknowledgements arrive -/
def aJ (T B : Int) (N n : Nat) (r : List (List Int)) (t : aS) : Prop := t.1 0 = T ∧ aI (B + 30 * ((n : Int) - r.length)) t ∧ ((t.2.2 1730)).length + (r.filter fun it => decide (it.getD 0 0 = T)).length ≤ N ∧ (∀ it, it ∈ r → aItOk it ∧ aRl B it) ∧ r.length ≤ n
theorem aJ.step {T B : Int} {N n : Nat} {it : List Int} {r : List (List Int)} {t : aS} (h : aJ T B N n (it :: r) t) (h1 : 8 ≤ B) : (it.getD 0 0 = t.1 0 → aJ T B N n r (aLand it t)) ∧ (it.getD 0 0 ≠ t.1 0 → aJ T B N n r t) := by
  obtain ⟨a1, a2, a3, a4, a5⟩ := h
  rw [List.length_cons] at a2 a5
  obtain ⟨i1, i2⟩ := a4 it List.mem_cons_self
  have a4' := fun it' h' => a4 it' (List.mem_cons_of_mem _ h')
  constructor
  · intro hc
    rw [a1] at hc
    rw [List.filter_cons_of_pos (by rw [decide_eq_true_eq]; exact hc), List.length_cons] at a3
    have := aLand_fl it t
    exact ⟨by rw [aLand_sc11 it t 0 (by omega)]; exact a1, (a2.land i1 (i2.le (by omega)) (by omega)).le (by omega), by omega, a4', by omega⟩
  · intro hc
    rw [a1] at hc
    rw [List.filter_cons_of_neg (by rw [decide_eq_true_eq]; exact hc)] at a3
    exact ⟨a1, a2.le (by omega), a3, a4', by omega⟩
theorem aJ.lands {T B : Int} {N n : Nat} (h1 : 8 ≤ B) : ∀ (r : List (List Int)) (t : aS), aJ T B N n r t → aJ T B N n [] (aLands T r t)
  | [], t, h => h
  | it :: r, t, h => by
    rw [aLands]
    obtain ⟨s1, s2⟩ := h.step h1
    have hT := h.1
    by_cases c : it.getD 0 0 = T
    · rw [if_pos c]; exact aJ.lands h1 r _ (s1 (by rw [hT]; exact c))
    · rw [if_neg c]; exact aJ.lands h1 r _ (s2 (by rw [hT]; exact c))
theorem filter_split {α : Type} (P : α → Bool) : ∀ l : List α, (l.filter P).length + (l.filter fun x => !P x).length = l.length
  | [] => rfl
  | x :: l => by
    have ih := filter_split P l
    by_cases c : P x = true
    · rw [List.filter_cons_of_pos c, List.filter_cons_of_neg (by rw [c]; decide), List.length_cons, List.length_cons]; omega
    · rw [List.filter_cons_of_neg c, List.filter_cons_of_pos (by rw [Bool.not_eq_true] at c; rw [c]; rfl), List.length_cons, List.length_cons]; omega
theorem aJ.begin (h : aI B s) : aJ (s.1 0) B ((s.2.2 1730)).length ((s.2.2 1730)).length ((s.2.2 1730)) (aF s 1730 (((s.2.2 1730)).filter fun it => decide (it.getD 0 0 ≠ s.1 0))) := by
  refine ⟨rfl, ?_, ?_, fun it hit => ⟨h.2.2.2.2 it hit, h.2.1.2.2 _ it hit⟩, Nat.le_refl _⟩
  · exact (h.Fl fun it hit => ⟨h.2.2.2.2 it (List.mem_filter.mp hit).1, h.2.1.2.2 _ it (List.mem_filter.mp hit).1⟩).le (by omega)
  · rw [aF_3, if_pos rfl]
    have h2 := filter_split (fun it : List Int => decide (it.getD 0 0 = s.1 0)) ((s.2.2 1730))
    have h3 : (fun it : List Int => !decide (it.getD 0 0 = s.1 0)) = fun it => decide (it.getD 0 0 ≠ s.1 0) := funext fun it => by rw [decide_not]
    rw [h3] at h2
    omega
theorem aI.arr (h : aI B s) (h1 : 8 ≤ B) : aI (B + 30 * (((s.2.2 1730)).length : Int)) (aArr s) ∧ (((aArr s).2.2 1730)).length ≤ ((s.2.2 1730)).length ∧ (aArr s).1 0 = s.1 0 := by
  have h2 := (aJ.begin h).lands h1
  obtain ⟨a1, a2, a3, a4, a5⟩ := h2
  rw [List.filter_nil] at a3
  refine ⟨?_, a3, a1⟩
  exact a2.le (by rw [List.length_nil]; omega)
end
/-- cells of a tick, at most -/
def aRiseC (s : aS) : Nat := if s.1 18 ≤ s.1 9 ∧ s.1 3 + 1 < s.1 11 ∧ s.1 (40 + (s.1 3 + 1).toNat) ≤ s.1 2 then 1 else 0
def aOutC (s : aS) : Nat := if s.1 1 = 2 then aRiseC s + (aSendC 0 (aRise s) + aSendC 1 (aSend 0 (aRise s))) else 0
def aOutZ (s : aS) : Nat := if s.1 1 = 2 then 4 * aRiseC s + (aSendZ 0 (aRise s) + aSendZ 1 (aSend 0 (aRise s))) else 0
def aTimes (s : aS) : aS := if (aTimer 0 s).1 1 = 2 then aTimer 1 (aTimer 0 s) else aTimer 0 s
def aTimesC (s : aS) : Nat := aTimerC 0 s + (if (aTimer 0 s).1 1 = 2 then aTimerC 1 (aTimer 0 s) else 0)
def aLiveC (s : aS) : Nat := if s.1 2 = 0 then 6 else (1 + aLcs (s.1 0) ((s.2.2 1730)) (aF s 1730 (((s.2.2 1730)).filter fun it => decide (it.getD 0 0 ≠ s.1 0)))) + (aTimesC (aArr s) + aOutC (aTimes (aArr s)))
def aLiveZ (s : aS) : Nat := if s.1 2 = 0 then 8 else (200 + aLzs (s.1 0) ((s.2.2 1730)) (aF s 1730 (((s.2.2 1730)).filter fun it => decide (it.getD 0 0 ≠ s.1 0)))) + (2 * aTimesC (aArr s) + aOutZ (aTimes (aArr s)))
def aTickC (s : aS) : Nat := if s.1 1 = 1 then 20 else if s.1 1 = 3 then 5 else if s.1 1 = 2 then aLiveC s else 0
def aTickZ (s : aS) : Nat := if s.1 1 = 1 then 140 else if s.1 1 = 3 then 4 else if s.1 1 = 2 then aLiveZ s else 0
section
variable {B : Int} {s : aS}
theorem aI.fw (h : aI B s) : ∀ e, e < 2 → oFw ((s.2.2 (56 + 717 * e + 26))) := fun e he => (h.2.2.2.1 e he).1.fw
theorem aI.sm (h : aI B s) : oSm s := h.1.1.sm
theorem aTimer_fl (e : Nat) (he : e < 2) (s : aS) : (((aTimer e s).2.2 1730)).length ≤ ((s.2.2 1730)).length := by
  have f1 : ((aFail e s).2.2 1730) = (s.2.2 1730) := by
    unfold aFail
    rw [aTell_fl, aN_2, aN_2, aN_2, aN_2, aF_3, if_neg (by omega)]
  have f2 : ∀ t : aS, (((aHang t).2.2 1730)).length ≤ ((t.2.2 1730)).length := fun t => by
    unfold aHang aOff
    dsimp only
    rw [aTell_fl, aN_2, aF_3, if_neg (by omega), aL_3, aF_3, if_neg (by omega), aL_3, aF_3, if_pos rfl]
    exact Nat.zero_le _
  unfold aTimer
  by_cases c : aFst 0 ((s.2.2 (56 + 717 * e + 26))) < ((s.2.2 (56 + 717 * e + 26))).length ∧ s.1 16 ≤ s.1 0 - (((s.2.2 (56 + 717 * e + 26))).getD (aFst 0 ((s.2.2 (56 + 717 * e + 26)))) []).getD 1 0
  · rw [if_pos c]
    by_cases c2 : (aFail e s).1 8 < (aFail e s).1 17
    · rw [if_pos c2, f1]; exact Nat.le_refl _
    · rw [if_neg c2]
      unfold aFall
      by_cases c3 : (aFail e s).1 3 = 0
      · rw [if_pos c3]; have := f2 (aFail e s); rw [f1] at this; exact this
      · rw [if_neg c3, aTell_fl, aN_2, aN_2, aN_2, f1]; exact Nat.le_refl _
  · rw [if_neg c]; exact Nat.le_refl _
theorem aRise_fl (s : aS) : ((aRise s).2.2 1730) = (s.2.2 1730) := by
  unfold aRise
  by_cases c : s.1 18 ≤ s.1 9 ∧ s.1 3 + 1 < s.1 11 ∧ s.1 (40 + (s.1 3 + 1).toNat) ≤ s.1 2
  · rw [if_pos c, aTell_fl]; rfl
  · rw [if_neg c]
theorem aI.times (h : aI B s) (h1 : 6 ≤ B) : aI (B + 4) (aTimes s) ∧ (((aTimes s).2.2 1730)).length ≤ ((s.2.2 1730)).length := by
  have h2 := h.timer (e := 0) (by omega) h1
  have f2 := aTimer_fl 0 (by omega) s
  unfold aTimes
  by_cases c : (aTimer 0 s).1 1 = 2
  · rw [if_pos c]
    have f3 := aTimer_fl 1 (by omega) (aTimer 0 s)
    exact ⟨(h2.timer (e := 1) (by omega) (by omega)).le (by omega), by omega⟩
  · rw [if_neg c]
    exact ⟨h2.le (by omega), f2⟩
theorem aI.out (h : aI B s) (h1 : 108 ≤ B) : aI (B + 24241) (aOut s) ∧ (((aOut s).2.2 1730)).length ≤ ((s.2.2 1730)).length + 42 := by
  unfold aOut
  by_cases c : s.1 1 = 2
  · rw [if_pos c]
    have h2 := h.rise (by omega)
    obtain ⟨a1, a2⟩ := h2.send (e := 0) (by omega) (by omega)
    obtain ⟨b1, b2⟩ := a1.send (e := 1) (by omega) (by omega)
    rw [aRise_fl] at a2
    exact ⟨b1.le (by omega), by omega⟩
  · rw [if_neg c]
    exact ⟨h.le (by omega), by omega⟩
theorem aHang_fl (s : aS) : ((aHang s).2.2 1730) = [] := by
  unfold aHang aOff
  dsimp only
  rw [aTell_fl, aN_2, aF_3, if_neg (by omega), aL_3, aF_3, if_neg (by omega), aL_3, aF_3, if_pos rfl]
theorem aI.lose (h : aI B s) (h1 : 6 ≤ B) : aI (B + 2) (aLose s) ∧ (((aLose s).2.2 1730)).length = 0 := by
  have x51 := h.2.1.1 51
  unfold aB at x51
  have h2 := ((h.N 1 3 (by unfold aB; omega) (by omega) (by omega) (fun e he => by omega)).N 7 1 (by unfold aB; omega) (by omega) (by omega) (fun e he => by omega)).Fl (l := []) fun f hf => absurd hf List.not_mem_nil
  have h3 := ((h2.le (by omega : B ≤ B + 1)).N 51 (s.1 51 + 1) (by unfold aB; omega) (by omega) (by omega) (fun e he => by omega)).tell (k := 4) (e := -1) (by unfold aB; omega) (by unfold aB; omega) (by omega)
  have f3 : ((aTell 4 (-1) (aN (aF (aN (aN s 1 3) 7 1) 1730 []) 51 (s.1 51 + 1))).2.2 1730) = [] := by rw [aTell_fl, aN_2, aF_3, if_pos rfl]
  unfold aLose
  dsimp only
  by_cases c : (aTell 4 (-1) (aN (aF (aN (aN s 1 3) 7 1) 1730 []) 51 (s.1 51 + 1))).1 13 = 0
  · rw [if_pos c]
    exact ⟨(h3.hang (by omega)).le (by omega), by rw [aHang_fl]; rfl⟩
  · rw [if_neg c, f3]
    exact ⟨h3.le (by omega), rfl⟩
theorem aI.live (h : aI B s) (h1 : 108 ≤ B) (hf : ((s.2.2 1730)).length ≤ 150) : aI (B + 29000) (aLive s) ∧ (((aLive s).2.2 1730)).length ≤ ((s.2.2 1730)).length + 42 := by
  unfold aLive
  by_cases c : s.1 2 = 0
  · rw [if_pos c]
    obtain ⟨a1, a2⟩ := h.lose (by omega)
    exact ⟨a1.le (by omega), by omega⟩
  · rw [if_neg c]
    obtain ⟨a1, a2, a3⟩ := h.arr (by omega)
    obtain ⟨b1, b2⟩ := a1.times (by omega)
    obtain ⟨c1, c2⟩ := b1.out (by omega)
    exact ⟨c1.le (by omega), by show (((aOut (aTimes (aArr s))).2.2 1730)).length ≤ _; omega⟩
theorem aOnline_fl (s : aS) : ((aOnline s).2.2 1730) = [] := by
  have hn : ∀ e, e < 2 → ∀ t : aS, ((aOn e t).2.2 1730) = (t.2.2 1730) := fun e he t => aOn_fr e t 1730 (by omega)
  unfold aOnline aUp
  by_cases c : aRt s (s.1 2) (s.1 11).toNat < 0
  · rw [if_pos c, aHang_fl]
  · rw [if_neg c]
    dsimp only
    rw [aTell_fl, aN_2, hn 1 (by omega), hn 0 (by omega), aF_3, if_pos rfl]
theorem aI.train (h : aI B s) (h1 : 20 ≤ B) : aI (B + 2) (aTrain s) ∧ (((aTrain s).2.2 1730)).length ≤ ((s.2.2 1730)).length := by
  have hst := h.1.2.2.2.2.1
  have hsu := h.1.1.2.2.1
  have x6 := h.2.1.1 6
  have x5 := h.2.1.1 5
  unfold aB at x6 x5
  unfold aTrain
  by_cases c : s.1 2 = 0
  · rw [if_pos c]
    dsimp only
    have htr := hsu (s.1 4).toNat (by omega)
    have h2 := ((h.le (by omega : B ≤ B + 1)).N 5 (s.1 (21 + (s.1 4).toNat)) (by unfold aB; omega) (by omega) (by omega) (fun e he => by omega)).N 6 (s.1 6 + 1) (by unfold aB; omega) (by omega) (by omega) (fun e he => by omega)
    by_cases d : (aN (aN s 5 (s.1 (21 + (s.1 4).toNat))) 6 (s.1 6 + 1)).1 12 < (aN (aN s 5 (s.1 (21 + (s.1 4).toNat))) 6 (s.1 6 + 1)).1 6
    · rw [if_pos d]
      exact ⟨(h2.hang (by omega)).le (by omega), by rw [aHang_fl]; exact Nat.zero_le _⟩
    · rw [if_neg d]
      exact ⟨h2.le (by omega), Nat.le_refl _⟩
  · rw [if_neg c]
    dsimp only
    have h2 := (h.le (by omega : B ≤ B + 1)).N 5 (s.1 5 - 1) (by unfold aB; omega) (by omega) (by omega) (fun e he => by omega)
    by_cases d : 0 < (aN s 5 (s.1 5 - 1)).1 5
    · rw [if_pos d]
      exact ⟨h2.le (by omega), Nat.le_refl _⟩
    · rw [if_neg d]
      have e4 : (aN s 5 (s.1 5 - 1)).1 4 = s.1 4 := rfl
      by_cases f : (aN s 5 (s.1 5 - 1)).1 4 = 3
      · rw [if_pos f]
        exact ⟨(h2.online (by omega)).le (by omega), by rw [aOnline_fl]; exact Nat.zero_le _⟩
      · rw [if_neg f]
        rw [e4] at f ⊢
        have htr := hsu (s.1 4 + 1).toNat (by omega)
        have e5 : (aN s 5 (s.1 5 - 1)).1 (21 + (s.1 4 + 1).toNat) = s.1 (21 + (s.1 4 + 1).toNat) := by rw [aN_1, if_neg (by omega)]
        rw [e5]
        exact ⟨((h2.N 4 (s.1 4 + 1) (by unfold aB; omega) (by omega) (by omega) (fun e he => by omega)).N 5 _ (by unfold aB; omega) (by omega) (by omega) (fun e he => by omega)).le (by omega), Nat.le_refl _⟩
theorem aI.wait (h : aI B s) (h1 : 20 ≤ B) : aI (B + 2) (aWait s) ∧ (((aWait s).2.2 1730)).length ≤ ((s.2.2 1730)).length := by
  have x7 := h.2.1.1 7
  unfold aB at x7
  have htr : 1 ≤ s.1 23 ∧ s.1 23 ≤ 20 := h.1.1.2.2.1 2 (by omega)
  unfold aWait
  by_cases c : 0 < s.1 2
  · rw [if_pos c]
    exact ⟨((((h.le (by omega : B ≤ B + 2)).N 1 1 (by unfold aB; omega) (by omega) (by omega) (fun e he => by omega)).N 4 2 (by unfold aB; omega) (by omega) (by omega) (fun e he => by omega)).N 5 (s.1 23) (by unfold aB; omega) (by omega) (by omega) (fun e he => by omega)).N 6 0 (by unfold aB; omega) (by omega) (by omega) (fun e he => by omega), Nat.le_refl _⟩
  · rw [if_neg c]
    dsimp only
    have h2 := (h.le (by omega : B ≤ B + 1)).N 7 (s.1 7 + 1) (by unfold aB; omega) (by omega) (by omega) (fun e he => by omega)
    by_cases d : (aN s 7 (s.1 7 + 1)).1 13 < (aN s 7 (s.1 7 + 1)).1 7
    · rw [if_pos d]
      exact ⟨(h2.hang (by omega)).le (by omega), by rw [aHang_fl]; exact Nat.zero_le _⟩
    · rw [if_neg d]
      exact ⟨h2.le (by omega), Nat.le_refl _⟩
theorem aI.do (h : aI B s) (h1 : 108 ≤ B) (hf : ((s.2.2 1730)).length ≤ 150) : aI (B + 29000) (aDo s) ∧ (((aDo s).2.2 1730)).length ≤ ((s.2.2 1730)).length + 42 := by
  unfold aDo
  by_cases c1 : s.1 1 = 1
  · rw [if_pos c1]
    obtain ⟨a1, a2⟩ := h.train (by omega)
    exact ⟨a1.le (by omega), by omega⟩
  · rw [if_neg c1]
    by_cases c3 : s.1 1 = 3
    · rw [if_pos c3]
      obtain ⟨a1, a2⟩ := h.wait (by omega)
      exact ⟨a1.le (by omega), by omega⟩
    · rw [if_neg c3]
      by_cases c2 : s.1 1 = 2
      · rw [if_pos c2]; exact h.live h1 hf
      · rw [if_neg c2]; exact ⟨h.le (by omega), by omega⟩
theorem aI.tick (h : aI B s) (h1 : 108 ≤ B) (hf : ((s.2.2 1730)).length ≤ 150) : aI (B + 30000) (aTick s) ∧ (((aTick s).2.2 1730)).length ≤ ((s.2.2 1730)).length + 42 := by
  obtain ⟨a1, a2⟩ := h.do h1 hf
  have x0 := a1.2.1.1 0
  unfold aB at x0
  exact ⟨(a1.le (by omega)).N 0 _ (by unfold aB; omega) (by omega) (by omega) (fun e he => by omega), a2⟩
end

/-! ===== the world of a new object of the class ===== -/
def yB (b : Nat) : List xS := ly_X3.map (xsh (fun r => if r = 33 then 1 else b + r))
def yZ : List xS := [.inr (2, 10, [110, 143, 176, 209, 242, 275, 308, 341, 374, 407]), .inr (0, 600, []), .inl (9, [some 441, none, none, none, none, none, none]), .inl (8, [some 442]), .inl (6, [some 442, some 39])]
def yX0 : List xS := [.inl (11, [some 1, some 6, some 11, some 44, some 77, none, some 440, none, none, some 441, none, none, some 442, some 443, some 444, some 445])]
theorem lay_X_eq : lay_X = yX0 ++ (lay_S.map (xsh (fun r => 1 + r)) ++ (lay_S.map (xsh (fun r => 6 + r)) ++ (yB 11 ++ (yB 44 ++ (yB 77 ++ (yB 110 ++ (yB 143 ++ (yB 176 ++ (yB 209 ++ (yB 242 ++ (yB 275 ++ (yB 308 ++ (yB 341 ++ (yB 374 ++ (yB 407 ++ yZ))))))))))))))) := by decide +kernel
theorem xw_split (ad : Nat → Nat) (dA : Nat → ClassId) (m : xM) (l1 l2 : List xS) (b c : Nat) (h : b + l1.length = c) : xwld ad dA m b (l1 ++ l2) = xwld ad dA m b l1 ++ xwld ad dA m c l2 := by
  rw [xwld_app, h]
def yadX (h0 : Nat) (aS aD l1 l2 l3 : Nat → Nat) (AD : Nat → Nat → Nat) (pa bu : Nat) (aT aR aQ aW ad0 : Nat → Nat) : Nat → Nat := fun i => if i = 0 then h0 else if i < 6 then aS (i - 1) else if i < 11 then aD (i - 6) else if i < 44 then l1 (i - 11) else if i < 77 then l2 (i - 44) else if i < 110 then l3 (i - 77) else if i < 440 then AD ((i - 110) / 33) ((i - 110) % 33) else if i = 440 then pa else if i = 441 then bu else if i = 442 then aT 0 else if i = 443 then aR 0 else if i = 444 then aQ 0 else if i = 445 then aW 0 else if i = 446 then aW 1 else ad0 i
theorem yX3_33 : ∀ s ∈ ly_X3, ∀ r ∈ xrf s, r ≤ 33 := by decide +kernel
theorem yS_5 : ∀ s ∈ lay_S, ∀ r ∈ xrf s, r < 5 := by decide +kernel
theorem yB_sp (ad : Nat → Nat) (dA : Nat → ClassId) (m : xM) (b : Nat) (a : Nat → Nat) (m' : xM) (s1 : Nat) (h : ∀ t, t < 33 → ad (b + t) = a t ∧ m (b + t) = m' t) (h33 : a 33 = s1) (h1 : ad 1 = s1) : xwld ad dA m b (yB b) = xwld a dA m' 0 ly_X3 := by
  have := xwld_sh (ad := ad) (a' := a) (f := fun r => if r = 33 then 1 else b + r) (dA := dA) (m := m) (m' := m') (b := b) ly_X3 0 (fun i _ hi => h i (by have : ly_X3.length = 33 := rfl; omega)) (fun s hs r hr => by
    have hr33 := yX3_33 s hs r hr
    by_cases e : r = 33
    · rw [if_pos e, h1, e, h33]
    · rw [if_neg e]; exact (h r (by omega)).1)
  rw [Nat.add_zero] at this
  exact this
theorem yS_sp (ad : Nat → Nat) (dA : Nat → ClassId) (m : xM) (b : Nat) (a : Nat → Nat) (m' : xM) (h : ∀ t, t < 5 → ad (b + t) = a t ∧ m (b + t) = m' t) : xwld ad dA m b (lay_S.map (xsh (fun r => b + r))) = xwld a dA m' 0 lay_S := by
  have := xwld_sh (ad := ad) (a' := a) (f := fun r => b + r) (dA := dA) (m := m) (m' := m') (b := b) lay_S 0 (fun i _ hi => h i (by have : lay_S.length = 5 := rfl; omega)) (fun s hs r hr => (h r (yS_5 s hs r hr)).1)
  rw [Nat.add_zero] at this
  exact this
set_option maxRecDepth 1000000 in
set_option maxHeartbeats 4000000 in
theorem X10_world (dA : Nat → ClassId) (h0 : Nat) (aS aD l1 l2 l3 : Nat → Nat) (AD : Nat → Nat → Nat) (pa bu : Nat) (aT aR aQ aW ad0 : Nat → Nat) (hl1 : l1 33 = aS 0) (hl2 : l2 33 = aS 0) (hl3 : l3 33 = aS 0) (hAD : ∀ i, i < 10 → AD i 33 = aS 0) (hT : aT 1 = bu) (hR : aR 1 = aT 0) (hQ : aQ 1 = aT 0) (hQ2 : aQ 2 = l1 28) :
    xwld (yadX h0 aS aD l1 l2 l3 AD pa bu aT aR aQ aW ad0) dA mX9 0 lay_X = [(h0, .inr (11, [.ref (aS 0), .ref (aD 0), .ref (l1 0), .ref (l2 0), .ref (l3 0), .int 0, .ref pa, .int 0, .int 0, .ref bu, .int 0, .int (Int32.ofInt (-1)), .ref (aT 0), .ref (aR 0), .ref (aQ 0), .ref (aW 0)]))] ++ (xwld aS dA mS9 0 lay_S ++ (xwld aD dA (fun _ _ => 0) 0 lay_S ++ (xwld l1 dA mL9 0 ly_X3 ++ (xwld l2 dA (fun _ _ => 0) 0 ly_X3 ++ (xwld l3 dA (fun _ _ => 0) 0 ly_X3 ++ (yls dA AD 10 ++ (pa, yarr dA AD 10) :: (bu, .inl (dA 0, 600, .inl (fun _ => 0))) :: (xwld aT dA (fun _ _ => 0) 0 ly_X8 ++ (xwld aR dA (fun _ _ => 0) 0 ly_X7 ++ xwld aQ dA (fun _ _ => 0) 0 ly_X5)))))))) := by
  obtain ⟨ad, had⟩ : ∃ ad, ad = yadX h0 aS aD l1 l2 l3 AD pa bu aT aR aQ aW ad0 := ⟨_, rfl⟩
  have g1 : ad 1 = aS 0 := by rw [had]; rfl
  have gS : ∀ t, t < 5 → ad (1 + t) = aS t ∧ mX9 (1 + t) = mS9 t := fun t ht => by
    constructor
    · rw [had]; unfold yadX; rw [if_neg (by omega), if_pos (by omega)]; congr 1; omega
    · unfold mX9; rw [if_neg (by omega), if_pos (by omega)]; congr 1; omega
  have gD : ∀ t, t < 5 → ad (6 + t) = aD t ∧ mX9 (6 + t) = (fun _ => 0) := fun t ht => by
    constructor
    · rw [had]; unfold yadX; rw [if_neg (by omega), if_neg (by omega), if_pos (by omega)]; congr 1; omega
    · unfold mX9; rw [if_neg (by omega), if_neg (by omega), if_pos (by omega)]
  have gL1 : ∀ t, t < 33 → ad (11 + t) = l1 t ∧ mX9 (11 + t) = mL9 t := fun t ht => by
    constructor
    · rw [had]; unfold yadX; rw [if_neg (by omega), if_neg (by omega), if_neg (by omega), if_pos (by omega)]; congr 1; omega
    · unfold mX9; rw [if_neg (by omega), if_neg (by omega), if_neg (by omega), if_pos (by omega)]; congr 1; omega
  have gm : ∀ k, 44 ≤ k → mX9 k = (fun _ => 0) := fun k hk => by
    unfold mX9; rw [if_neg (by omega), if_neg (by omega), if_neg (by omega), if_neg (by omega)]
  have gL2 : ∀ t, t < 33 → ad (44 + t) = l2 t ∧ mX9 (44 + t) = (fun _ => 0) := fun t ht => by
    refine ⟨?_, gm _ (by omega)⟩
    rw [had]; unfold yadX; rw [if_neg (by omega), if_neg (by omega), if_neg (by omega), if_neg (by omega), if_pos (by omega)]; congr 1; omega
  have gL3 : ∀ t, t < 33 → ad (77 + t) = l3 t ∧ mX9 (77 + t) = (fun _ => 0) := fun t ht => by
    refine ⟨?_, gm _ (by omega)⟩
    rw [had]; unfold yadX; rw [if_neg (by omega), if_neg (by omega), if_neg (by omega), if_neg (by omega), if_neg (by omega), if_pos (by omega)]; congr 1; omega
  have gP : ∀ i b, i < 10 → b = 110 + 33 * i → xwld ad dA mX9 b (yB b) = xwld (AD i) dA (fun _ _ => 0) 0 ly_X3 := fun i b hi hb => by
    refine yB_sp ad dA mX9 b (AD i) (fun _ _ => 0) (aS 0) (fun t ht => ⟨?_, gm _ (by omega)⟩) (hAD i hi) g1
    rw [had]; unfold yadX
    rw [if_neg (by omega), if_neg (by omega), if_neg (by omega), if_neg (by omega), if_neg (by omega), if_neg (by omega), if_pos (by omega), show (b + t - 110) / 33 = i by omega, show (b + t - 110) % 33 = t by omega]
  have e0 : xwld ad dA mX9 0 yX0 = [(h0, .inr (11, [.ref (aS 0), .ref (aD 0), .ref (l1 0), .ref (l2 0), .ref (l3 0), .int 0, .ref pa, .int 0, .int 0, .ref bu, .int 0, .int (Int32.ofInt (-1)), .ref (aT 0), .ref (aR 0), .ref (aQ 0), .ref (aW 0)]))] := by
    rw [had]; rfl
  have eZ : xwld ad dA mX9 440 yZ = (pa, yarr dA AD 10) :: (bu, .inl (dA 0, 600, .inl (fun _ => 0))) :: (xwld aT dA (fun _ _ => 0) 0 ly_X8 ++ (xwld aR dA (fun _ _ => 0) 0 ly_X7 ++ xwld aQ dA (fun _ _ => 0) 0 ly_X5)) := by
    have p : (fun j : Nat => ([110, 143, 176, 209, 242, 275, 308, 341, 374, 407][j]?).map ad) = (fun j => if j < 10 then some (AD j 0) else none) := by
      funext j
      by_cases hj : j < 10
      · rw [if_pos hj, had]
        rcases (show j = 0 ∨ j = 1 ∨ j = 2 ∨ j = 3 ∨ j = 4 ∨ j = 5 ∨ j = 6 ∨ j = 7 ∨ j = 8 ∨ j = 9 by omega) with e | e | e | e | e | e | e | e | e | e <;> rw [e] <;> rfl
      · rw [if_neg hj, List.getElem?_eq_none (by show 10 ≤ j; omega)]; rfl
    have eT : xwld aT dA (fun _ _ => 0) 0 ly_X8 = [(aT 0, .inr (9, [.ref bu, .int 0, .int 0, .int 0, .int 0, .int 0, .int 0]))] := by rw [← hT]; rfl
    have eR : xwld aR dA (fun _ _ => 0) 0 ly_X7 = [(aR 0, .inr (8, [.ref (aT 0)]))] := by rw [← hR]; rfl
    have eQ : xwld aQ dA (fun _ _ => 0) 0 ly_X5 = [(aQ 0, .inr (6, [.ref (aT 0), .ref (l1 28)]))] := by rw [← hQ2, ← hQ]; rfl
    rw [eT, eR, eQ]
    show (ad 440, Sum.inl (dA 2, 10, Sum.inr (Sum.inr (Sum.inr (Sum.inr (fun j : Nat => ([110, 143, 176, 209, 242, 275, 308, 341, 374, 407][j]?).map ad)))))) :: _ = _
    rw [p, had]
    rfl
  rw [← had, lay_X_eq, xw_split _ _ _ _ _ 0 1 rfl, xw_split _ _ _ _ _ 1 6 rfl, xw_split _ _ _ _ _ 6 11 rfl, xw_split _ _ _ _ _ 11 44 rfl, xw_split _ _ _ _ _ 44 77 rfl, xw_split _ _ _ _ _ 77 110 rfl, xw_split _ _ _ _ _ 110 143 rfl, xw_split _ _ _ _ _ 143 176 rfl, xw_split _ _ _ _ _ 176 209 rfl, xw_split _ _ _ _ _ 209 242 rfl, xw_split _ _ _ _ _ 242 275 rfl, xw_split _ _ _ _ _ 275 308 rfl, xw_split _ _ _ _ _ 308 341 rfl, xw_split _ _ _ _ _ 341 374 rfl, xw_split _ _ _ _ _ 374 407 rfl, xw_split _ _ _ _ _ 407 440 rfl]
  rw [e0, eZ, yS_sp ad dA mX9 1 aS mS9 gS, yS_sp ad dA mX9 6 aD (fun _ _ => 0) gD, yB_sp ad dA mX9 11 l1 mL9 (aS 0) gL1 hl1 g1, yB_sp ad dA mX9 44 l2 (fun _ _ => 0) (aS 0) gL2 hl2 g1, yB_sp ad dA mX9 77 l3 (fun _ _ => 0) (aS 0) gL3 hl3 g1, gP 0 110 (by omega) rfl, gP 1 143 (by omega) rfl, gP 2 176 (by omega) rfl, gP 3 209 (by omega) rfl, gP 4 242 (by omega) rfl, gP 5 275 (by omega) rfl, gP 6 308 (by omega) rfl, gP 7 341 (by omega) rfl, gP 8 374 (by omega) rfl, gP 9 407 (by omega) rfl]
  simp only [yls, List.append_assoc, List.nil_append]

/-! ===== what drawing a line and the law itself do (functions alone) ===== -/
/-- two empty rows and what holds them -/
def gMn (t : Nat) (c : gC) (h : gH) : Nat × gH := (2000 + h.length, ((h ++ [.inr (.inl (t, [some (2000 + (h.length + 1)), some (2000 + (h.length + 2))]))]) ++ [c]) ++ [c])
def gOo (h : gH) : Option (Nat × gH) := some (2000 + h.length, h ++ [.inr (.inr gO0)])
def gMo (t : Nat) (h : gH) : Option (Nat × gH) := some (gMn t (if t = 4 then .inl (0, []) else .inr (.inl (4, []))) h)
def f_O_init (o : Nat) (hp : gH) : Option (gH) :=
     (Option.bind (gpt hp o 2 (.inl 9)) fun q0 =>
      (Option.bind (gNw 0 q0 1) fun q1 =>
      (Option.bind (gsN 0 q1.2 q1.1 0 8) fun q2 =>
      (Option.bind (gpt q2 o 12 (.inr (.inr (some q1.1)))) fun q3 =>
      (Option.bind (gNw 0 q3 1) fun q4 =>
      (Option.bind (gsN 0 q4.2 q4.1 0 1) fun q5 =>
      (Option.bind (gpt q5 o 13 (.inr (.inr (some q4.1)))) fun q6 =>
      (Option.bind (gNw 0 q6 4) fun q7 =>
      (Option.bind (gsN 0 q7.2 q7.1 0 2) fun q8 =>
      (Option.bind (gsN 0 q8 q7.1 1 2) fun q9 =>
      (Option.bind (gsN 0 q9 q7.1 2 2) fun q10 =>
      (Option.bind (gsN 0 q10 q7.1 3 2) fun q11 =>
      (Option.bind (gpt q11 o 14 (.inr (.inr (some q7.1)))) fun q12 =>
      (Option.bind (gNw 0 q12 1) fun q13 =>
      (Option.bind (gsN 0 q13.2 q13.1 0 0) fun q14 =>
      (Option.bind (gpt q14 o 15 (.inr (.inr (some q13.1)))) fun q15 =>
      (Option.bind (gNw 0 q15 7) fun q16 =>
      (Option.bind (gsN 0 q16.2 q16.1 0 2) fun q17 =>
      (Option.bind (gsN 0 q17 q16.1 1 5) fun q18 =>
      (Option.bind (gsN 0 q18 q16.1 2 4) fun q19 =>
      (Option.bind (gsN 0 q19 q16.1 3 1) fun q20 =>
      (Option.bind (gsN 0 q20 q16.1 4 3) fun q21 =>
      (Option.bind (gsN 0 q21 q16.1 5 2) fun q22 =>
      (Option.bind (gsN 0 q22 q16.1 6 8) fun q23 =>
      (Option.bind (gpt q23 o 16 (.inr (.inr (some q16.1)))) fun q24 =>
      (Option.bind (gNw 0 q24 11) fun q25 =>
      (Option.bind (gpt q25.2 o 17 (.inr (.inr (some q25.1)))) fun q26 =>
      (Option.bind (gMo 4 q26) fun q27 =>
      (Option.bind (gpt q27.2 o 18 (.inr (.inr (some q27.1)))) fun q28 =>
      (Option.bind (gMo 4 q28) fun q29 =>
      (Option.bind (gpt q29.2 o 19 (.inr (.inr (some q29.1)))) fun q30 =>
      (Option.bind (gMo 4 q30) fun q31 =>
      (Option.bind (gpt q31.2 o 20 (.inr (.inr (some q31.1)))) fun q32 =>
      (Option.bind (gMo 4 q32) fun q33 =>
      (Option.bind (gpt q33.2 o 21 (.inr (.inr (some q33.1)))) fun q34 =>
      (Option.bind (gNw 0 q34 2) fun q35 =>
      (Option.bind (gpt q35.2 o 22 (.inr (.inr (some q35.1)))) fun q36 =>
      (Option.bind (gNw 0 q36 2) fun q37 =>
      (Option.bind (gpt q37.2 o 23 (.inr (.inr (some q37.1)))) fun q38 =>
      (Option.bind (gNw 0 q38 2) fun q39 =>
      (Option.bind (gpt q39.2 o 24 (.inr (.inr (some q39.1)))) fun q40 =>
      (Option.bind (gNw 0 q40 2) fun q41 =>
      (Option.bind (gpt q41.2 o 25 (.inr (.inr (some q41.1)))) fun q42 =>
      (Option.bind (gNw 3 q42 2) fun q43 =>
      (Option.bind (gpt q43.2 o 26 (.inr (.inr (some q43.1)))) fun q44 =>
      (Option.bind (gNw 3 q44 2) fun q45 =>
      (Option.bind (gpt q45.2 o 27 (.inr (.inr (some q45.1)))) fun q46 =>
      (Option.bind (gMo 5 q46) fun q47 =>
      (Option.bind (gpt q47.2 o 28 (.inr (.inr (some q47.1)))) fun q48 =>
      (Option.bind (gNq 4 q48 200) fun q49 =>
      (Option.bind (gpt q49.2 o 29 (.inr (.inr (some q49.1)))) fun q50 =>
      (Option.bind (gNq 4 q50 60) fun q51 =>
      (Option.bind (gpt q51.2 o 30 (.inr (.inr (some q51.1)))) fun q52 =>
      some q52)))))))))))))))))))))))))))))))))))))))))))))))))))))
def f_L_drawn_439 (Ln : Nat) (xs : Nat → Int) (k0 : Int) (x2 : Nat) (hp : gH) : Option (Nat × gH) :=
     some (x2, hp)
def f_L_drawn_432 (Ln : Nat) (xs : Nat → Int) (k0 : Int) (k389 : Nat → Int → Int → Int → gH → Option (Nat × gH)) (x2 : Nat) (x4 : Int) (x7 : Int) (x8 : Int) (s0 : Int) (s1 : Int) (s2 : Nat) (hp : gH) : Option (Nat × gH) :=
     (Option.bind (gsN 0 hp s2 s1 s0) fun q44 =>
      k389 x2 x4 x7 (x8 + 1) q44)
def f_L_drawn_389 (Ln : Nat) (xs : Nat → Int) (k0 : Int) : Nat → Nat → Int → Int → Int → gH → Option (Nat × gH)
  | 0, _, _, _, _, _ => none
  | n + 1, x2, x4, x7, x8, hp =>
     (if xw x8 < xw x7 then (Option.bind (gfK hp x2 15) fun q41 =>
      (Option.bind (f_L_most (xishr x4 (2 * x8)) 4 hp) fun q42 =>
      (if xw q42 = 0 then f_L_drawn_432 Ln xs k0 (f_L_drawn_389 Ln xs k0 n) x2 x4 x7 x8 9 x8 q41 hp
      else (Option.bind (f_L_most (xishr x4 (x8 + 3)) 5 hp) fun q43 =>
      f_L_drawn_432 Ln xs k0 (f_L_drawn_389 Ln xs k0 n) x2 x4 x7 x8 q43 x8 q41 hp))))
      else f_L_drawn_439 Ln xs k0 x2 hp)
def f_L_drawn_196 (Ln : Nat) (xs : Nat → Int) (k0 : Int) (x2 : Nat) (x4 : Int) (hp : gH) : Option (Nat × gH) :=
     (Option.bind (gNw 0 hp 4) fun q12 =>
      (Option.bind (f_L_most x4 3 q12.2) fun q13 =>
      (Option.bind (gsN 0 q12.2 q12.1 0 (1 + q13)) fun q14 =>
      (Option.bind (f_L_most (xishr x4 1) 3 q14) fun q15 =>
      (Option.bind (gsN 0 q14 q12.1 1 (1 + q15)) fun q16 =>
      (Option.bind (f_L_most (xishr x4 2) 3 q16) fun q17 =>
      (Option.bind (gsN 0 q16 q12.1 2 (1 + q17)) fun q18 =>
      (Option.bind (f_L_most (xishr x4 3) 2 q18) fun q19 =>
      (Option.bind (gsN 0 q18 q12.1 3 (1 + q19)) fun q20 =>
      (Option.bind (gpt q20 x2 14 (.inr (.inr (some q12.1)))) fun q21 =>
      (Option.bind (f_L_most (xishr x4 4) 4 q21) fun q22 =>
      (Option.bind (gNw 0 q21 7) fun q23 =>
      (Option.bind (f_L_most (xishr x4 5) 4 q23.2) fun q24 =>
      (Option.bind (gsN 0 q23.2 q23.1 0 q24) fun q25 =>
      (Option.bind (f_L_most (xishr x4 7) 5 q25) fun q26 =>
      (Option.bind (gsN 0 q25 q23.1 1 q26) fun q27 =>
      (Option.bind (f_L_most (xishr x4 8) 7 q27) fun q28 =>
      (Option.bind (gsN 0 q27 q23.1 2 (1 + q28)) fun q29 =>
      (Option.bind (gsN 0 q29 q23.1 3 (1 + q22)) fun q30 =>
      (Option.bind (f_L_most (xishr x4 9) 4 q30) fun q31 =>
      (Option.bind (gsN 0 q30 q23.1 4 (((2 * (1 + q22)) + 1) + q31)) fun q32 =>
      (Option.bind (f_L_most (xishr x4 6) 4 q32) fun q33 =>
      (Option.bind (gsN 0 q32 q23.1 5 (1 + q33)) fun q34 =>
      (Option.bind (f_L_most (xishr x4 10) 7 q34) fun q35 =>
      (Option.bind (gsN 0 q34 q23.1 6 (1 + q35)) fun q36 =>
      (Option.bind (gpt q36 x2 16 (.inr (.inr (some q23.1)))) fun q37 =>
      (Option.bind (f_L_most (xishr x4 11) 5 q37) fun q38 =>
      (Option.bind (gNw 0 q37 (1 + q38)) fun q39 =>
      (Option.bind (gpt q39.2 x2 15 (.inr (.inr (some q39.1)))) fun q40 =>
      f_L_drawn_389 Ln xs k0 fu x2 x4 (1 + q38) 0 q40)))))))))))))))))))))))))))))
def f_L_drawn_189 (Ln : Nat) (xs : Nat → Int) (k0 : Int) (k85 : Nat → Int → Int → Int → Int → gH → Option (Nat × gH)) (x2 : Nat) (x3 : Int) (x4 : Int) (x5 : Int) (x6 : Int) (s0 : Int) (s1 : Int) (s2 : Nat) (hp : gH) : Option (Nat × gH) :=
     (Option.bind (gsN 0 hp s2 s1 s0) fun q54 =>
      k85 x2 x3 x4 x5 (x6 + 1) q54)
def f_L_drawn_141 (Ln : Nat) (xs : Nat → Int) (k0 : Int) (k85 : Nat → Int → Int → Int → Int → gH → Option (Nat × gH)) (x2 : Nat) (x3 : Int) (x4 : Int) (x5 : Int) (x6 : Int) (s0 : Int) (s1 : Int) (s2 : Nat) (hp : gH) : Option (Nat × gH) :=
     (Option.bind (gsN 0 hp s2 s1 s0) fun q49 =>
      (Option.bind (gfK q49 x2 13) fun q50 =>
      (if xw x6 = 0 then (Option.bind (f_L_most (xishr x3 9) 3 q49) fun q55 =>
      f_L_drawn_189 Ln xs k0 k85 x2 x3 x4 x5 x6 (1 + q55) x6 q50 q49)
      else (Option.bind (gfK q49 x2 13) fun q51 =>
      (Option.bind (gaN 0 q49 q51 (x6 - 1)) fun q52 =>
      (Option.bind (f_L_most (xishr x3 (10 + x6)) 2 q49) fun q53 =>
      f_L_drawn_189 Ln xs k0 k85 x2 x3 x4 x5 x6 ((q52 + 1) + q53) x6 q50 q49))))))
def f_L_drawn_85 (Ln : Nat) (xs : Nat → Int) (k0 : Int) : Nat → Nat → Int → Int → Int → Int → gH → Option (Nat × gH)
  | 0, _, _, _, _, _, _ => none
  | n + 1, x2, x3, x4, x5, x6, hp =>
     (if xw x6 < xw x5 then (Option.bind (gfK hp x2 12) fun q45 =>
      (if xw x6 = 0 then (Option.bind (f_L_most (xishr x3 7) 20 hp) fun q56 =>
      f_L_drawn_141 Ln xs k0 (f_L_drawn_85 Ln xs k0 n) x2 x3 x4 x5 x6 (4 + q56) x6 q45 hp)
      else (Option.bind (gfK hp x2 12) fun q46 =>
      (Option.bind (gaN 0 hp q46 (x6 - 1)) fun q47 =>
      (Option.bind (f_L_most (xishr x3 (8 + x6)) 12 hp) fun q48 =>
      f_L_drawn_141 Ln xs k0 (f_L_drawn_85 Ln xs k0 n) x2 x3 x4 x5 x6 ((q47 + 1) + q48) x6 q45 hp)))))
      else f_L_drawn_196 Ln xs k0 x2 x4 hp)
def f_L_drawn_52 (Ln : Nat) (xs : Nat → Int) (k0 : Int) (x2 : Nat) (x3 : Int) (x4 : Int) (s0 : Int) (s1 : Nat) (hp : gH) : Option (Nat × gH) :=
     (Option.bind (gpt hp s1 2 (.inl s0)) fun q6 =>
      (Option.bind (f_L_most (xishr x3 5) 4 q6) fun q7 =>
      (Option.bind (gNw 0 q6 (1 + q7)) fun q8 =>
      (Option.bind (gpt q8.2 x2 12 (.inr (.inr (some q8.1)))) fun q9 =>
      (Option.bind (gNw 0 q9 (1 + q7)) fun q10 =>
      (Option.bind (gpt q10.2 x2 13 (.inr (.inr (some q10.1)))) fun q11 =>
      f_L_drawn_85 Ln xs k0 fu x2 x3 x4 (1 + q7) 0 q11))))))
def f_L_drawn (Ln : Nat) (xs : Nat → Int) (k0 : Int) (hp : gH) : Option (Nat × gH) :=
     (Option.bind (gOo hp) fun q0 =>
      (Option.bind (f_O_init q0.1 q0.2) fun q1 =>
      (Option.bind (f_L_cell Ln xs k0 q1) fun q2 =>
      (Option.bind (f_L_cell Ln xs (k0 + 1) q1) fun q3 =>
      (Option.bind (f_L_most q2 3 q1) fun q4 =>
      (if xw q4 = 0 then (Option.bind (f_L_most (xishr q2 2) 10 q1) fun q57 =>
      f_L_drawn_52 Ln xs k0 q0.1 q2 q3 q57 q0.1 q1)
      else (Option.bind (f_L_most (xishr q2 2) 5 q1) fun q5 =>
      f_L_drawn_52 Ln xs k0 q0.1 q2 q3 (5 + q5) q0.1 q1)))))))
def f_L_law_538 (Ln : Nat) (xs : Nat → Int) (w : Nat) (x4 : Int) (m : xM) (hp : gH) : Option (Int × xM × gH) :=
     (Option.bind (f_X_undo m) fun q36 =>
      (if xw q36.1 = xw (-1) then (Option.bind (f_L_isPassed 40 hp q36.2) fun q37 =>
      (if xw q37.1 = 0 then some (0, q37.2, hp)
      else (Option.bind (f_L_isSound hp q37.2) fun q38 =>
      (if xw q38.1 = 0 then some (0, q38.2, hp)
      else (Option.bind (f_X_restoreSnapshot q38.2) fun q39 =>
      (if xw q39.1 = 0 then some (0, q39.2, hp)
      else (Option.bind (f_L_all q39.2 hp) fun q40 =>
      (if xw (xlcmp q40 x4) = 0 then (Option.bind (f_X_undoCount q39.2) fun q41 =>
      (if xw q41 = 0 then some (1, q39.2, hp)
      else some (0, q39.2, hp)))
      else some (0, q39.2, hp)))))))))
      else some (0, q36.2, hp)))
def f_L_law_503 (Ln : Nat) (xs : Nat → Int) (w : Nat) : Nat → Int → Nat → Int → xM → gH → Option (Int × xM × gH)
  | 0, _, _, _, _, _ => none
  | n + 1, x4, x6, x8, m, hp =>
     (if xw x8 < 0 then f_L_law_538 Ln xs w x4 m hp
      else (Option.bind (f_X_undo m) fun q42 =>
      (if xw q42.1 = xw x8 then (Option.bind (f_L_all q42.2 hp) fun q43 =>
      (Option.bind (gaN 1 hp x6 x8) fun q44 =>
      (if xw (xlcmp q43 q44) = 0 then f_L_law_503 Ln xs w n x4 x6 (x8 + (-1)) q42.2 hp
      else some (0, q42.2, hp))))
      else some (0, q42.2, hp))))
def f_L_law_497 (Ln : Nat) (xs : Nat → Int) (w : Nat) (x4 : Int) (x6 : Nat) (x7 : Int) (m : xM) (hp : gH) : Option (Int × xM × gH) :=
     f_L_law_503 Ln xs w fu x4 x6 (x7 - 1) m hp
def f_L_law_491 (Ln : Nat) (xs : Nat → Int) (w : Nat) (k320 : Nat → Int → Nat → Int → Int → xM → gH → Option (Int × xM × gH)) (x3 : Nat) (x4 : Int) (x6 : Nat) (x7 : Int) (x8 : Int) (m : xM) (hp : gH) : Option (Int × xM × gH) :=
     k320 x3 x4 x6 x7 (x8 + 1) m hp
def f_L_law_432 (Ln : Nat) (xs : Nat → Int) (w : Nat) (k320 : Nat → Int → Nat → Int → Int → xM → gH → Option (Int × xM × gH)) (x3 : Nat) (x4 : Int) (x6 : Nat) (x7 : Int) (x8 : Int) (x9 : Int) (x10 : Int) (m : xM) (hp : gH) : Option (Int × xM × gH) :=
     (Option.bind (gsN 1 hp x6 x7 x10) fun q48 =>
      (Option.bind (f_X_undoCount m) fun q49 =>
      (if xw q49 = xw (x7 + 1) then (Option.bind (f_L_isSound q48 m) fun q50 =>
      (if xw q50.1 = 0 then some (0, q50.2, q48)
      else (if xw 2 = 0 then none
      else (if xw (xirem x8 2) = xw 1 then (if xw (x7 + 1) < xw 10 then (Option.bind (f_L_most x9 20 q48) fun q51 =>
      (Option.bind (f_L_isPassed (1 + q51) q48 q50.2) fun q52 =>
      (if xw q52.1 = 0 then some (0, q52.2, q48)
      else f_L_law_491 Ln xs w k320 x3 x4 x6 (x7 + 1) x8 q52.2 q48)))
      else f_L_law_491 Ln xs w k320 x3 x4 x6 (x7 + 1) x8 q50.2 q48)
      else f_L_law_491 Ln xs w k320 x3 x4 x6 (x7 + 1) x8 q50.2 q48))))
      else some (0, m, q48))))
def f_L_law_429 (Ln : Nat) (xs : Nat → Int) (w : Nat) (k320 : Nat → Int → Nat → Int → Int → xM → gH → Option (Int × xM × gH)) (x3 : Nat) (x4 : Int) (x6 : Nat) (x7 : Int) (x8 : Int) (x9 : Int) (x10 : Int) (m : xM) (hp : gH) : Option (Int × xM × gH) :=
     f_L_law_432 Ln xs w k320 x3 x4 x6 (x7 + (-1)) x8 x9 x10 m hp
def f_L_law_404 (Ln : Nat) (xs : Nat → Int) (w : Nat) (k320 : Nat → Int → Nat → Int → Int → xM → gH → Option (Int × xM × gH)) : Nat → Nat → Int → Nat → Int → Int → Int → Int → Int → xM → gH → Option (Int × xM × gH)
  | 0, _, _, _, _, _, _, _, _, _, _ => none
  | n + 1, x3, x4, x6, x7, x8, x9, x10, x13, m, hp =>
     (if xw x13 < xw 10 then (Option.bind (gaN 1 hp x6 x13) fun q53 =>
      (Option.bind (gsN 1 hp x6 (x13 - 1) q53) fun q54 =>
      f_L_law_404 Ln xs w k320 n x3 x4 x6 x7 x8 x9 x10 (x13 + 1) m q54))
      else f_L_law_429 Ln xs w k320 x3 x4 x6 x7 x8 x9 x10 m hp)
def f_L_law_386 (Ln : Nat) (xs : Nat → Int) (w : Nat) (k320 : Nat → Int → Nat → Int → Int → xM → gH → Option (Int × xM × gH)) (x3 : Nat) (x4 : Int) (x6 : Nat) (x7 : Int) (x8 : Int) (x9 : Int) (x10 : Int) (x12 : Int) (m : xM) (hp : gH) : Option (Int × xM × gH) :=
     (if xw x12 = 0 then f_L_law_491 Ln xs w k320 x3 x4 x6 x7 x8 m hp
      else (if xw x7 = xw 10 then f_L_law_404 Ln xs w k320 fu x3 x4 x6 x7 x8 x9 x10 1 m hp
      else f_L_law_432 Ln xs w k320 x3 x4 x6 x7 x8 x9 x10 m hp))
def f_L_law_320 (Ln : Nat) (xs : Nat → Int) (w : Nat) : Nat → Nat → Int → Nat → Int → Int → xM → gH → Option (Int × xM × gH)
  | 0, _, _, _, _, _, _, _ => none
  | n + 1, x3, x4, x6, x7, x8, m, hp =>
     (if xw x8 < xw 36 then (if xw 29 = 0 then none
      else (Option.bind (f_L_cell Ln xs (2 + (xirem x8 29)) hp) fun q45 =>
      (if xw 29 = 0 then none
      else (Option.bind (f_L_all m hp) fun q46 =>
      (Option.bind (f_L_act w x3 (xishr q45 ((xidiv x8 29) * 3)) m hp) fun q47 =>
      (if xw q47.1 < 0 then some (0, q47.2.1, q47.2.2)
      else (if xw q47.1 = 0 then (Option.bind (f_L_all q47.2.1 q47.2.2) fun q55 =>
      (if xw (xlcmp q55 q46) = 0 then f_L_law_386 Ln xs w (f_L_law_320 Ln xs w n) x3 x4 x6 x7 x8 (xishr q45 ((xidiv x8 29) * 3)) q46 q47.1 q47.2.1 q47.2.2
      else some (0, q47.2.1, q47.2.2)))
      else f_L_law_386 Ln xs w (f_L_law_320 Ln xs w n) x3 x4 x6 x7 x8 (xishr q45 ((xidiv x8 29) * 3)) q46 q47.1 q47.2.1 q47.2.2)))))))
      else f_L_law_497 Ln xs w x4 x6 x7 m hp)
def f_L_law (Ln : Nat) (xs : Nat → Int) (w : Nat) (m : xM) (hp : gH) : Option (Int × xM × gH) :=
     (Option.bind (f_L_word w 26 m hp) fun q0 =>
      (Option.bind (f_L_end w q0.1 q0.2) fun q1 =>
      (Option.bind (f_X_load q1.1 q1.2.1) fun q2 =>
      (if xw q2.1 = xw 2 then (Option.bind (f_X_dial q2.2) fun q3 =>
      (if xw q3.1 = xw 4 then (Option.bind (f_X_pass 4 q3.2) fun q4 =>
      (if xw q4.1 = 0 then (Option.bind (f_X_size 3 q4.2) fun q5 =>
      (if xw q5 = xw 1 then (Option.bind (f_L_word w 27 q4.2 q1.2.2) fun q6 =>
      (Option.bind (f_L_end w q6.1 q6.2) fun q7 =>
      (Option.bind (f_X_send 0 q7.1 q7.2.1) fun q8 =>
      (if xw q8.1 = xw 4 then (Option.bind (f_X_nextCost 0 q8.2) fun q9 =>
      (if xw q9.1 = xw 13 then (Option.bind (f_X_ticksToFinish q9.2) fun q10 =>
      (if xw q10.1 = xw 3 then (Option.bind (f_X_pass 1 q10.2) fun q11 =>
      (if xw q11.1 = 0 then (Option.bind (f_X_end 0 1 q11.2) fun q12 =>
      (if xw q12 = xw 1 then (Option.bind (f_X_end 0 6 q11.2) fun q13 =>
      (if xw q13 = xw 7 then (Option.bind (f_X_pass 1 q11.2) fun q14 =>
      (if xw q14.1 = xw 4 then (Option.bind (f_X_received 1 2 q14.2) fun q15 =>
      (if xw q15 = xw 98 then (Option.bind (f_X_end 0 1 q14.2) fun q16 =>
      (if xw q16 = xw 1 then (Option.bind (f_X_pass 1 q14.2) fun q17 =>
      (if xw q17.1 = 0 then (Option.bind (f_X_end 0 1 q17.2) fun q18 =>
      (if xw q18 = 0 then (Option.bind (f_X_word 1 0 0 q17.2) fun q19 =>
      (if xw q19 = xw 98 then (Option.bind (f_X_word 0 1 1 q17.2) fun q20 =>
      (if xw q20 = xw 97 then (Option.bind (f_X_event 1 1 q17.2) fun q21 =>
      (if xw q21 = xw 7 then (Option.bind (f_X_event 1 2 q17.2) fun q22 =>
      (if xw q22 = xw 1 then (Option.bind (f_X_setQuality 0 q17.2) fun q23 =>
      (if xw q23.1 = xw 9 then (Option.bind (f_X_pass 1 q23.2) fun q24 =>
      (if xw q24.1 = 0 then (Option.bind (f_X_size 7 q24.2) fun q25 =>
      (if xw q25 = xw 1 then (Option.bind (f_X_ticksToFinish q24.2) fun q26 =>
      (if xw q26.1 = xw (-1) then (Option.bind (f_X_leastQuality q26.2) fun q27 =>
      (if xw q27.1 = xw 1 then (Option.bind (f_L_drawn Ln xs 0 q7.2.2) fun q28 =>
      (Option.bind (f_L_tell w q28.1 q27.2 q28.2) fun q29 =>
      (Option.bind (gfK q29.2.2 q28.1 13) fun q30 =>
      (Option.bind (glc q29.2.2 q30) fun q31 =>
      (if xw q29.1 = xw q31 then (Option.bind (f_L_isSound q29.2.2 q29.2.1) fun q32 =>
      (if xw q32.1 = 0 then some (0, q32.2, q29.2.2)
      else (Option.bind (f_X_saveSnapshot q32.2) fun q33 =>
      (Option.bind (f_L_all q33 q29.2.2) fun q34 =>
      (Option.bind (gNL q29.2.2 10) fun q35 =>
      f_L_law_320 Ln xs w fu q28.1 q34 q35.1 0 0 q33 q35.2)))))
      else some (0, q29.2.1, q29.2.2))))))
      else some (0, q27.2, q7.2.2)))
      else some (0, q26.2, q7.2.2)))
      else some (0, q24.2, q7.2.2)))
      else some (0, q24.2, q7.2.2)))
      else some (0, q23.2, q7.2.2)))
      else some (0, q17.2, q7.2.2)))
      else some (0, q17.2, q7.2.2)))
      else some (0, q17.2, q7.2.2)))
      else some (0, q17.2, q7.2.2)))
      else some (0, q17.2, q7.2.2)))
      else some (0, q17.2, q7.2.2)))
      else some (0, q14.2, q7.2.2)))
      else some (0, q14.2, q7.2.2)))
      else some (0, q14.2, q7.2.2)))
      else some (0, q11.2, q7.2.2)))
      else some (0, q11.2, q7.2.2)))
      else some (0, q11.2, q7.2.2)))
      else some (0, q10.2, q7.2.2)))
      else some (0, q9.2, q7.2.2)))
      else some (0, q8.2, q7.2.2)))))
      else some (0, q4.2, q1.2.2)))
      else some (0, q4.2, q1.2.2)))
      else some (0, q3.2, q1.2.2)))
      else some (0, q2.2, q1.2.2)))))

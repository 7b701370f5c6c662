/-! ===== when the object's methods throw: definitions alone, for the law never makes them throw ===== -/
def xthr (o K : Option Nat) : Option Nat := match o with
  | some k => some k
  | none => K
def h_X_checkLength_17 (z : Int) (w : Int) (m : xM) : Option (Nat) :=
     some 1
def h_X_checkLength (z : Int) (w : Int) (m : xM) : Option (Nat) :=
     (if xw z < 0 then h_X_checkLength_17 z w m
      else (if xw w < xw z then h_X_checkLength_17 z w m
      else (if xw (m 0 10) < xw z then h_X_checkLength_17 z w m
      else none)))
def f_X_errorPosition (m : xM) : Option (Int) :=
     some (m 0 11)
def h_X_size_33 (w : Int) (m : xM) (x2 : Int) (s0 : Int) : Option (Nat) :=
     (if xw w = 0 then none
      else (if xw w = 1 then none
      else (if xw w = 2 then none
      else (if xw w = 3 then none
      else (if xw w = 4 then none
      else (if xw w = 5 then none
      else (if xw w = 6 then none
      else (if xw w = 7 then none
      else (if xw w = 8 then none
      else (if xw w = 9 then none
      else (if xw w = 10 then none
      else (if xw w = 11 then none
      else some 2))))))))))))
def h_X_size_16 (w : Int) (m : xM) (s0 : Int) : Option (Nat) :=
     (if xw (m 11 8) = xw 2 then h_X_size_33 w m s0 1
      else h_X_size_33 w m s0 0)
def h_X_size (w : Int) (m : xM) : Option (Nat) :=
     (if xw (m 11 8) = xw 1 then h_X_size_16 w m 1
      else h_X_size_16 w m 0)
def h_X_total_10 (w : Int) (m : xM) : Option (Nat) :=
     some 2
def h_X_total (w : Int) (m : xM) : Option (Nat) :=
     (if xw w < 0 then h_X_total_10 w m
      else (if xw w < xw 11 then none
      else h_X_total_10 w m))
def h_X_checkEnd (e : Int) (m : xM) : Option (Nat) :=
     (if xw e = 0 then none
      else (if xw e = xw 1 then none
      else some 2))
def h_X_end (e : Int) (w : Int) (m : xM) : Option (Nat) :=
     (xthr (h_X_checkEnd e m) (Option.bind (f_X_checkEnd e m) fun q0 =>
      (if xw e = 0 then (if xw w = 0 then none
      else (if xw w = 1 then none
      else (if xw w = 2 then none
      else (if xw w = 3 then none
      else (if xw w = 4 then none
      else (if xw w = 5 then none
      else (if xw w = 6 then none
      else (if xw w = 7 then none
      else (if xw w = 8 then none
      else (if xw w = 9 then none
      else some 2))))))))))
      else (if xw e = 1 then (if xw w = 0 then none
      else (if xw w = 1 then none
      else (if xw w = 2 then none
      else (if xw w = 3 then none
      else (if xw w = 4 then none
      else (if xw w = 5 then none
      else (if xw w = 6 then none
      else (if xw w = 7 then none
      else (if xw w = 8 then none
      else (if xw w = 9 then none
      else some 2))))))))))
      else none))))
def f_X_rate_24 (z : Int) (w : Int) (m : xM) : Option (Int) :=
     none
def f_X_rate (z : Int) (w : Int) (m : xM) : Option (Int) :=
     (if xw z < 0 then f_X_rate_24 z w m
      else (if xw z < xw (m 1 4) then (if xw w < 0 then f_X_rate_24 z w m
      else (if xw 1 < xw w then f_X_rate_24 z w m
      else (if xw w = 0 then (if xib z 5 then some (m 2 (xix z))
      else none)
      else (if xib z 5 then some (m 3 (xix z))
      else none))))
      else f_X_rate_24 z w m))
def h_X_rate_24 (z : Int) (w : Int) (m : xM) : Option (Nat) :=
     some 2
def h_X_rate (z : Int) (w : Int) (m : xM) : Option (Nat) :=
     (if xw z < 0 then h_X_rate_24 z w m
      else (if xw z < xw (m 1 4) then (if xw w < 0 then h_X_rate_24 z w m
      else (if xw 1 < xw w then h_X_rate_24 z w m
      else none))
      else h_X_rate_24 z w m))
def h_X_frame_31 (e : Int) (p : Int) (w : Int) (m : xM) : Option (Nat) :=
     some 2
def h_X_frame (e : Int) (p : Int) (w : Int) (m : xM) : Option (Nat) :=
     (xthr (h_X_checkEnd e m) (Option.bind (f_X_checkEnd e m) fun q0 =>
      (if xw e = 0 then (if xw p < 0 then h_X_frame_31 e p w m
      else (if xw p < xw (m 15 4) then (if xw w = 0 then none
      else (if xw w = 1 then none
      else (if xw w = 2 then none
      else (if xw w = 3 then none
      else some 2))))
      else h_X_frame_31 e p w m))
      else (if xw e = 1 then (if xw p < 0 then h_X_frame_31 e p w m
      else (if xw p < xw (m 26 4) then (if xw w = 0 then none
      else (if xw w = 1 then none
      else (if xw w = 2 then none
      else (if xw w = 3 then none
      else some 2))))
      else h_X_frame_31 e p w m))
      else none))))
def h_X_received (e : Int) (p : Int) (m : xM) : Option (Nat) :=
     (xthr (h_X_checkEnd e m) none)
def h_X_word (e : Int) (b : Int) (p : Int) (m : xM) : Option (Nat) :=
     (xthr (h_X_checkEnd e m) none)
def h_X_event_27 (e : Int) (w : Int) (m : xM) : Option (Nat) :=
     some 2
def h_X_event (e : Int) (w : Int) (m : xM) : Option (Nat) :=
     (if xw e < 0 then h_X_event_27 e w m
      else (if xw e < xw (m 39 2) then (if xw w < 0 then h_X_event_27 e w m
      else (if xw w < xw 4 then none
      else h_X_event_27 e w m))
      else h_X_event_27 e w m))
def h_X_checkQuality_10 (q : Int) (m : xM) : Option (Nat) :=
     some 1
def h_X_checkQuality (q : Int) (m : xM) : Option (Nat) :=
     (if xw q < 0 then h_X_checkQuality_10 q m
      else (if xw 9 < xw q then h_X_checkQuality_10 q m
      else none))
def f_X_rateFor (q : Int) (m : xM) : Option (Int) :=
     (Option.bind (f_X_checkQuality q m) fun q0 =>
      (Option.bind (f_S_greatest q (xvw [1, 2, 3, 4, 5] m)) fun q1 =>
      some q1))
def h_X_rateFor (q : Int) (m : xM) : Option (Nat) :=
     (xthr (h_X_checkQuality q m) none)
def h_X_nextCost (e : Int) (m : xM) : Option (Nat) :=
     (xthr (h_X_checkEnd e m) none)
def h_X_receivedBehind_16 (e : Int) (z : Int) (m : xM) : Option (Nat) :=
     some 1
def h_X_receivedBehind (e : Int) (z : Int) (m : xM) : Option (Nat) :=
     (xthr (h_X_checkEnd e m) (Option.bind (f_X_checkEnd e m) fun q0 =>
      (if xw z < 0 then h_X_receivedBehind_16 e z m
      else (if xw 400 < xw z then h_X_receivedBehind_16 e z m
      else none))))
def h_X_pass_12 (z : Int) (m : xM) : Option (Nat) :=
     some 1
def h_X_pass (z : Int) (m : xM) : Option (Nat) :=
     (if xw z < xw 1 then h_X_pass_12 z m
      else (if xw 200 < xw z then h_X_pass_12 z m
      else none))
def h_X_setEscaped (e : Int) (b : Int) (m : xM) : Option (Nat) :=
     (xthr (h_X_checkEnd e m) none)
def h_X_escape (e : Int) (m : xM) : Option (Nat) :=
     (xthr (h_X_setEscaped e 1 m) none)
def h_X_resume (e : Int) (m : xM) : Option (Nat) :=
     (xthr (h_X_setEscaped e 0 m) none)
def h_X_send (e : Int) (z : Int) (m : xM) : Option (Nat) :=
     (xthr (h_X_checkEnd e m) (Option.bind (f_X_checkEnd e m) fun q0 =>
      (xthr (h_X_checkLength z 600 m) none)))
def h_X_setQuality (q : Int) (m : xM) : Option (Nat) :=
     (xthr (h_X_checkQuality q m) none)
def h_X_load (z : Int) (m : xM) : Option (Nat) :=
     (xthr (h_X_checkLength z 600 m) none)

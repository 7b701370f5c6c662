/-! ===== the reference as functions over its numbers (definitions alone) ===== -/
def f_m_inRange (v : Int) (a : Int) (b : Int) (m : xM) : Option (Int) :=
     (if xw v < xw a then some 0
      else (if xw b < xw v then some 0
      else some 1))
def f_m_endAt (e : Int) (f : Int) (m : xM) : Option (Int) :=
     some ((56 + (717 * e)) + f)
def f_m_of (e : Int) (f : Int) (m : xM) : Option (Int) :=
     (Option.bind (f_m_endAt e f (xvw [] m)) fun q0 =>
      (if xib q0 3530 then some (m 1 (xix q0))
      else none))
def f_m_frameAt (e : Int) (p : Int) (f : Int) (m : xM) : Option (Int) :=
     (Option.bind (f_m_endAt e ((26 + (13 * p)) + f) m) fun q0 =>
      some q0)
def f_m_ofFrame (e : Int) (p : Int) (f : Int) (m : xM) : Option (Int) :=
     (Option.bind (f_m_frameAt e p f (xvw [] m)) fun q0 =>
      (if xib q0 3530 then some (m 1 (xix q0))
      else none))
def f_m_flyAt (p : Int) (f : Int) (m : xM) : Option (Int) :=
     some ((1730 + (15 * p)) + f)
def f_m_isPhase (z : Int) (m : xM) : Option (Int) :=
     (if xib 1 3530 then (if xw (m 1 1) = xw z then some 1
      else some 0)
      else none)
def f_m_rateNow (m : xM) : Option (Int) :=
     (Option.bind (f_m_isPhase 2 m) fun q0 =>
      (if xw q0 = 0 then some (-1)
      else (if xib 3 3530 then some (m 1 3)
      else none)))
def f_m_isEnd (e : Int) (m : xM) : Option (Int) :=
     (Option.bind (f_m_inRange e 0 1 m) fun q0 =>
      (if xbz q0 then some q0
      else none))
def f_m_isRate (z : Int) (m : xM) : Option (Int) :=
     (if xib 11 3530 then (Option.bind (f_m_inRange z 0 ((m 1 11) - 1) (xvw [] m)) fun q0 =>
      (if xbz q0 then some q0
      else none))
      else none)
def f_m_thrown (m : xM) : Option (Int) :=
     some (m 0 6)
def f_m_raise (z : Int) (m : xM) : Option (Int × xM) :=
     some (0, (xu m 0 6 z))
def f_m_tellEvent_89 (k : Int) (e : Int) (x3 : Int) (m : xM) : Option (xM) :=
     (if xib (x3 + 2) 3530 then (Option.bind (f_m_rateNow (xu m 1 (xix (x3 + 2)) e)) fun q0 =>
      (if xib (x3 + 3) 3530 then (if xib 10 3530 then (if xib 10 3530 then some (xu (xu (xu m 1 (xix (x3 + 2)) e) 1 (xix (x3 + 3)) q0) 1 10 (((xu (xu m 1 (xix (x3 + 2)) e) 1 (xix (x3 + 3)) q0) 1 10) + 1))
      else none)
      else none)
      else none))
      else none)
def f_m_tellEvent_54 (k : Int) (e : Int) (m : xM) : Option (xM) :=
     (if xib 10 3530 then (if xib 0 3530 then (if xib (1490 + (4 * (m 1 10))) 3530 then (if xib ((1490 + (4 * (m 1 10))) + 1) 3530 then f_m_tellEvent_89 k e (1490 + (4 * (m 1 10))) (xu (xu m 1 (xix (1490 + (4 * (m 1 10)))) (m 1 0)) 1 (xix ((1490 + (4 * (m 1 10))) + 1)) k)
      else none)
      else none)
      else none)
      else none)
def f_m_tellEvent_43 (k : Int) (e : Int) (m : xM) : Option (xM) :=
     (if xib 10 3530 then (if xib 10 3530 then f_m_tellEvent_54 k e (xu m 1 10 ((m 1 10) - 1))
      else none)
      else none)
def f_m_tellEvent_16 (k : Int) (e : Int) : Nat → Int → xM → Option (xM)
  | 0, _, _ => none
  | n + 1, x3, m =>
     (if xw x3 < xw 1726 then (if xib (x3 + 4) 3530 then (if xib x3 3530 then f_m_tellEvent_16 k e n (x3 + 1) (xu m 1 (xix x3) (m 1 (xix (x3 + 4))))
      else none)
      else none)
      else f_m_tellEvent_43 k e m)
def f_m_tellEvent (k : Int) (e : Int) (m : xM) : Option (xM) :=
     (if xib 10 3530 then (if xw (m 1 10) = xw 60 then f_m_tellEvent_16 k e fu 1490 m
      else f_m_tellEvent_54 k e m)
      else none)
def f_m_wordsAt_12 (e : Int) (w : Int) (m : xM) (s0 : Int) (s1 : Int) : Option (Int) :=
     (Option.bind (f_m_endAt s1 s0 m) fun q0 =>
      some q0)
def f_m_wordsAt (e : Int) (w : Int) (m : xM) : Option (Int) :=
     (if xw w = 0 then f_m_wordsAt_12 e w m 18 e
      else f_m_wordsAt_12 e w m 10 e)
def f_m_countAt_12 (e : Int) (w : Int) (m : xM) (s0 : Int) (s1 : Int) : Option (Int) :=
     (Option.bind (f_m_endAt s1 s0 m) fun q0 =>
      some q0)
def f_m_countAt (e : Int) (w : Int) (m : xM) : Option (Int) :=
     (if xw w = 0 then f_m_countAt_12 e w m 8 e
      else f_m_countAt_12 e w m 7 e)
def f_m_use_140 (e : Int) (w : Int) (z : Int) (x4 : Int) (x7 : Int) (m : xM) : Option (Int × xM) :=
     (if xib x4 3530 then some (x7, (xu m 1 (xix x4) z))
      else none)
def f_m_use_107 (e : Int) (w : Int) (z : Int) : Nat → Int → Int → Int → xM → Option (Int × xM)
  | 0, _, _, _, _ => none
  | n + 1, x4, x7, x8, m =>
     (if 0 < xw x8 then (if xib ((x4 + x8) - 1) 3530 then (if xib (x4 + x8) 3530 then f_m_use_107 e w z n x4 x7 (x8 + (-1)) (xu m 1 (xix (x4 + x8)) (m 1 (xix ((x4 + x8) - 1))))
      else none)
      else none)
      else f_m_use_140 e w z x4 x7 m)
def f_m_use_98 (e : Int) (w : Int) (z : Int) (x4 : Int) (x6 : Int) (x7 : Int) (m : xM) : Option (Int × xM) :=
     f_m_use_107 e w z fu x4 x7 (if xw 7 < xw x6 then 7 else x6) m
def f_m_use_66 (e : Int) (w : Int) (z : Int) (x4 : Int) (x5 : Int) (x6 : Int) (s0 : Int) (m : xM) : Option (Int × xM) :=
     (if xib x5 3530 then (if xw x6 = xw (m 1 (xix x5)) then (if xw x6 < xw 8 then (if xib x5 3530 then (if xib x5 3530 then f_m_use_98 e w z x4 x6 s0 (xu m 1 (xix x5) ((m 1 (xix x5)) + 1))
      else none)
      else none)
      else f_m_use_98 e w z x4 x6 s0 m)
      else f_m_use_98 e w z x4 x6 s0 m)
      else none)
def f_m_use_49 (e : Int) (w : Int) (z : Int) (x4 : Int) (x5 : Int) (x6 : Int) (m : xM) : Option (Int × xM) :=
     (if xib x5 3530 then (if xw x6 < xw (m 1 (xix x5)) then f_m_use_66 e w z x4 x5 x6 1 m
      else f_m_use_66 e w z x4 x5 x6 3 m)
      else none)
def f_m_use_17 (e : Int) (w : Int) (z : Int) : Nat → Int → Int → Int → xM → Option (Int × xM)
  | 0, _, _, _, _ => none
  | n + 1, x4, x5, x6, m =>
     (if xib x5 3530 then (if xw x6 < xw (m 1 (xix x5)) then (if xib (x4 + x6) 3530 then (if xw (m 1 (xix (x4 + x6))) = xw z then f_m_use_49 e w z x4 x5 x6 m
      else f_m_use_17 e w z n x4 x5 (x6 + 1) m)
      else none)
      else f_m_use_49 e w z x4 x5 x6 m)
      else none)
def f_m_use (e : Int) (w : Int) (z : Int) (m : xM) : Option (Int × xM) :=
     (Option.bind (f_m_wordsAt e w (xvw [] m)) fun q0 =>
      (Option.bind (f_m_countAt e w (xvw [] m)) fun q1 =>
      f_m_use_17 e w z fu q0 q1 0 m))
def f_m_keepWords_13 (e : Int) : Nat → Int → xM → Option (xM)
  | 0, _, _ => none
  | n + 1, x2, m =>
     (if xw x2 < xw 8 then (Option.bind (f_m_of e (10 + x2) m) fun q1 =>
      (if xib x2 8 then f_m_keepWords_13 e n (x2 + 1) (xu m 6 (xix x2) q1)
      else none))
      else some m)
def f_m_keepWords (e : Int) (m : xM) : Option (xM) :=
     (Option.bind (f_m_of e 7 m) fun q0 =>
      f_m_keepWords_13 e fu 0 (xu m 0 9 q0))
def f_m_takeWordsBack_17 (e : Int) : Nat → Int → xM → Option (xM)
  | 0, _, _ => none
  | n + 1, x2, m =>
     (if xw x2 < xw 8 then (Option.bind (f_m_endAt e (10 + x2) (xvw [] m)) fun q1 =>
      (if xib x2 8 then (if xib q1 3530 then f_m_takeWordsBack_17 e n (x2 + 1) (xu m 1 (xix q1) (m 6 (xix x2)))
      else none)
      else none))
      else some m)
def f_m_takeWordsBack (e : Int) (m : xM) : Option (xM) :=
     (Option.bind (f_m_endAt e 7 (xvw [] m)) fun q0 =>
      (if xib q0 3530 then f_m_takeWordsBack_17 e fu 0 (xu m 1 (xix q0) (m 0 9))
      else none))
def f_m_write_50 (e : Int) (f : Int) (z : Int) : Nat → Int → Int → xM → Option (Int × xM)
  | 0, _, _, _ => none
  | n + 1, x5, x6, m =>
     (if xw x6 < xw z then (if xib (f + x6) 3530 then (Option.bind (f_m_use e 1 (m 1 (xix (f + x6))) m) fun q1 =>
      f_m_write_50 e f z n (x5 + q1.1) (x6 + 1) q1.2)
      else none)
      else some (x5, m))
def f_m_write_45 (e : Int) (f : Int) (z : Int) (s0 : Int) (m : xM) : Option (Int × xM) :=
     f_m_write_50 e f z fu s0 0 m
def f_m_write_35 (e : Int) (f : Int) (z : Int) (x4 : Int) (m : xM) : Option (Int × xM) :=
     (if xw x4 = 0 then f_m_write_45 e f z 4 m
      else f_m_write_45 e f z 5 m)
def f_m_write_16 (e : Int) (f : Int) (z : Int) (s0 : Int) (m : xM) : Option (Int × xM) :=
     (if xw s0 = 0 then f_m_write_35 e f z s0 m
      else (Option.bind (f_m_endAt e 7 (xvw [] m)) fun q2 =>
      (if xib q2 3530 then f_m_write_35 e f z s0 (xu m 1 (xix q2) 0)
      else none)))
def f_m_write (e : Int) (f : Int) (z : Int) (m : xM) : Option (Int × xM) :=
     (Option.bind (f_m_of e 9 m) fun q0 =>
      (if xw q0 = xw 1 then f_m_write_16 e f z 1 m
      else f_m_write_16 e f z 0 m))
def f_m_fly_58 (a : Int) (t : Int) (b : Int) (x4 : Int) (m : xM) : Option (Int × xM) :=
     (Option.bind (f_m_flyAt x4 3 (xvw [] m)) fun q3 =>
      (if xib q3 3530 then (if xib 20 3530 then (if xib 20 3530 then some (x4, (xu (xu m 1 (xix q3) b) 1 20 (((xu m 1 (xix q3) b) 1 20) + 1)))
      else none)
      else none)
      else none))
def f_m_fly (a : Int) (t : Int) (b : Int) (m : xM) : Option (Int × xM) :=
     (if xib 20 3530 then (Option.bind (f_m_flyAt (m 1 20) 0 (xvw [] m)) fun q0 =>
      (if xib 0 3530 then (if xib 15 3530 then (if xib q0 3530 then (Option.bind (f_m_flyAt (m 1 20) 1 (xvw [] (xu m 1 (xix q0) ((m 1 0) + (m 1 15))))) fun q1 =>
      (if xib q1 3530 then (Option.bind (f_m_flyAt (m 1 20) 2 (xvw [] (xu (xu m 1 (xix q0) ((m 1 0) + (m 1 15))) 1 (xix q1) a))) fun q2 =>
      (if xib q2 3530 then f_m_fly_58 a t b (m 1 20) (xu (xu (xu m 1 (xix q0) ((m 1 0) + (m 1 15))) 1 (xix q1) a) 1 (xix q2) t)
      else none))
      else none))
      else none)
      else none)
      else none))
      else none)
def f_m_land_17 (p : Int) : Nat → Int → xM → Option (xM)
  | 0, _, _ => none
  | n + 1, x2, m =>
     (if xib 20 3530 then (Option.bind (f_m_flyAt (m 1 20) 0 (xvw [] m)) fun q1 =>
      (if xw x2 < xw q1 then (if xib (x2 + 15) 3530 then (if xib x2 3530 then f_m_land_17 p n (x2 + 1) (xu m 1 (xix x2) (m 1 (xix (x2 + 15))))
      else none)
      else none)
      else some m))
      else none)
def f_m_land (p : Int) (m : xM) : Option (xM) :=
     (if xib 20 3530 then (if xib 20 3530 then (Option.bind (f_m_flyAt p 0 (xvw [] (xu m 1 20 ((m 1 20) - 1)))) fun q0 =>
      f_m_land_17 p fu q0 (xu m 1 20 ((m 1 20) - 1)))
      else none)
      else none)
def f_m_receive_60 (e : Int) (z : Int) (s0 : Int) (s1 : Int) (s2 : Int) (m : xM) : Option (xM) :=
     (if xib s2 3530 then (if xib 55 3530 then (if xib 55 3530 then some (xu (xu m 1 (xix s2) (s1 + s0)) 1 55 (((xu m 1 (xix s2) (s1 + s0)) 1 55) + 1))
      else none)
      else none)
      else none)
def f_m_receive_40 (e : Int) (z : Int) (x3 : Int) (m : xM) : Option (xM) :=
     (Option.bind (f_m_endAt e 4 (xvw [] m)) fun q2 =>
      (if xib q2 3530 then (if 0 < xw x3 then f_m_receive_60 e z 1 (m 1 (xix q2)) q2 m
      else f_m_receive_60 e z 0 (m 1 (xix q2)) q2 m)
      else none))
def f_m_receive (e : Int) (z : Int) (m : xM) : Option (xM) :=
     (Option.bind (f_m_use e 0 z m) fun q0 =>
      (Option.bind (f_m_of e 4 q0.2) fun q1 =>
      (if xw q1 < xw 400 then (Option.bind (f_m_endAt e (317 + q1) (xvw [] q0.2)) fun q3 =>
      (if xib q3 3530 then f_m_receive_40 e z q0.1 (xu q0.2 1 (xix q3) z)
      else none))
      else f_m_receive_40 e z q0.1 q0.2)))
def f_m_arriveFrame_46 (p : Int) (m : xM) : Option (xM) :=
     (if xib 47 3530 then (if xib 47 3530 then some (xu m 1 47 ((m 1 47) + 1))
      else none)
      else none)
def f_m_arriveFrame_135 (p : Int) (x2 : Int) (x3 : Int) (m : xM) : Option (xM) :=
     (Option.bind (f_m_endAt x2 3 (xvw [] m)) fun q6 =>
      (if xib q6 3530 then (if xib q6 3530 then (Option.bind (f_m_fly 1 (1 - x2) x3 (xu m 1 (xix q6) ((m 1 (xix q6)) + 1))) fun q7 =>
      some q7.2)
      else none)
      else none))
def f_m_arriveFrame_95 (p : Int) : Nat → Int → Int → Int → xM → Option (xM)
  | 0, _, _, _, _ => none
  | n + 1, x2, x3, x4, m =>
     (Option.bind (f_m_flyAt p 4 (xvw [] m)) fun q5 =>
      (if xib q5 3530 then (if xw x4 < xw (m 1 (xix q5)) then (Option.bind (f_m_flyAt p (7 + x4) (xvw [] m)) fun q8 =>
      (if xib q8 3530 then (Option.bind (f_m_receive x2 (m 1 (xix q8)) m) fun q9 =>
      f_m_arriveFrame_95 p n x2 x3 (x4 + 1) q9)
      else none))
      else f_m_arriveFrame_135 p x2 x3 m)
      else none))
def f_m_arriveFrame_92 (p : Int) (x2 : Int) (x3 : Int) (m : xM) : Option (xM) :=
     f_m_arriveFrame_95 p fu x2 x3 0 m
def f_m_arriveFrame (p : Int) (m : xM) : Option (xM) :=
     (Option.bind (f_m_flyAt p 2 (xvw [] m)) fun q0 =>
      (if xib q0 3530 then (Option.bind (f_m_flyAt p 3 (xvw [] m)) fun q1 =>
      (if xib q1 3530 then (Option.bind (f_m_flyAt p 5 (xvw [] m)) fun q2 =>
      (if xib q2 3530 then (if xw (m 1 (xix q2)) = xw 1 then f_m_arriveFrame_46 p m
      else (Option.bind (f_m_of (m 1 (xix q0)) 3 m) fun q3 =>
      (if xw (m 1 (xix q1)) = xw q3 then (Option.bind (f_m_flyAt p 6 (xvw [] m)) fun q4 =>
      (if xib q4 3530 then (if xw (m 1 (xix q4)) = xw 1 then (Option.bind (f_m_endAt (m 1 (xix q0)) 8 (xvw [] m)) fun q10 =>
      (if xib q10 3530 then (Option.bind (f_m_tellEvent 7 (m 1 (xix q0)) (xu m 1 (xix q10) 0)) fun q11 =>
      f_m_arriveFrame_92 p (m 1 (xix q0)) (m 1 (xix q1)) q11)
      else none))
      else f_m_arriveFrame_92 p (m 1 (xix q0)) (m 1 (xix q1)) m)
      else none))
      else f_m_arriveFrame_46 p m)))
      else none))
      else none))
      else none))
def f_m_forget_21 (e : Int) (p : Int) : Nat → Int → xM → Option (xM)
  | 0, _, _ => none
  | n + 1, x3, m =>
     (Option.bind (f_m_of e 1 m) fun q2 =>
      (Option.bind (f_m_frameAt e q2 0 (xvw [] m)) fun q3 =>
      (if xw x3 < xw q3 then (if xib (x3 + 13) 3530 then (if xib x3 3530 then f_m_forget_21 e p n (x3 + 1) (xu m 1 (xix x3) (m 1 (xix (x3 + 13))))
      else none)
      else none)
      else some m)))
def f_m_forget (e : Int) (p : Int) (m : xM) : Option (xM) :=
     (Option.bind (f_m_endAt e 1 (xvw [] m)) fun q0 =>
      (if xib q0 3530 then (if xib q0 3530 then (Option.bind (f_m_frameAt e p 0 (xvw [] (xu m 1 (xix q0) ((m 1 (xix q0)) - 1)))) fun q1 =>
      f_m_forget_21 e p fu q1 (xu m 1 (xix q0) ((m 1 (xix q0)) - 1)))
      else none)
      else none))
def f_m_arriveAck_61 (p : Int) (m : xM) : Option (xM) :=
     (if xib 8 3530 then (if xib 9 3530 then (if xib 9 3530 then some (xu (xu m 1 8 0) 1 9 ((m 1 9) + 1))
      else none)
      else none)
      else none)
def f_m_arriveAck_55 (p : Int) (k25 : Int → Int → Int → xM → Option (xM)) (x2 : Int) (x3 : Int) (x4 : Int) (m : xM) : Option (xM) :=
     k25 x2 x3 (x4 + 1) m
def f_m_arriveAck_25 (p : Int) : Nat → Int → Int → Int → xM → Option (xM)
  | 0, _, _, _, _ => none
  | n + 1, x2, x3, x4, m =>
     (Option.bind (f_m_of x2 1 m) fun q2 =>
      (if xw x4 < xw q2 then (Option.bind (f_m_ofFrame x2 x4 0 m) fun q3 =>
      (if xw q3 = xw x3 then (Option.bind (f_m_forget x2 x4 m) fun q4 =>
      f_m_arriveAck_55 p (f_m_arriveAck_25 p n) x2 x3 x4 q4)
      else f_m_arriveAck_55 p (f_m_arriveAck_25 p n) x2 x3 x4 m))
      else f_m_arriveAck_61 p m))
def f_m_arriveAck (p : Int) (m : xM) : Option (xM) :=
     (Option.bind (f_m_flyAt p 2 (xvw [] m)) fun q0 =>
      (if xib q0 3530 then (Option.bind (f_m_flyAt p 3 (xvw [] m)) fun q1 =>
      (if xib q1 3530 then f_m_arriveAck_25 p fu (m 1 (xix q0)) (m 1 (xix q1)) 0 m
      else none))
      else none))
def f_m_arrivals_65 (k2 : Int → xM → Option (xM)) (x1 : Int) (m : xM) : Option (xM) :=
     (Option.bind (f_m_land x1 m) fun q3 =>
      k2 x1 q3)
def f_m_arrivals_2 : Nat → Int → xM → Option (xM)
  | 0, _, _ => none
  | n + 1, x1, m =>
     (if xib 20 3530 then (if xw x1 < xw (m 1 20) then (Option.bind (f_m_flyAt x1 0 (xvw [] m)) fun q0 =>
      (if xib q0 3530 then (if xib 0 3530 then (if xw (m 1 (xix q0)) = xw (m 1 0) then (Option.bind (f_m_flyAt x1 1 (xvw [] m)) fun q1 =>
      (if xib q1 3530 then (if xw (m 1 (xix q1)) = xw 1 then (Option.bind (f_m_arriveAck x1 m) fun q4 =>
      f_m_arrivals_65 (f_m_arrivals_2 n) x1 q4)
      else (Option.bind (f_m_arriveFrame x1 m) fun q2 =>
      f_m_arrivals_65 (f_m_arrivals_2 n) x1 q2))
      else none))
      else f_m_arrivals_2 n (x1 + 1) m)
      else none)
      else none))
      else some m)
      else none)
def f_m_arrivals (m : xM) : Option (xM) :=
     f_m_arrivals_2 fu 0 m
def f_m_losing_68 (m : xM) (k4 : Int → Int → Option (Int)) (x1 : Int) (x2 : Int) : Option (Int) :=
     k4 x1 (x2 + 1)
def f_m_losing_60 (m : xM) (k4 : Int → Int → Option (Int)) (k20 : Int → Int → Int → Option (Int)) (x2 : Int) (x3 : Int) (s0 : Int) (s1 : Int) : Option (Int) :=
     k20 (s1 + s0) x2 (x3 + 1)
def f_m_losing_20 (m : xM) (k4 : Int → Int → Option (Int)) : Nat → Int → Int → Int → Option (Int)
  | 0, _, _, _ => none
  | n + 1, x1, x2, x3 =>
     (Option.bind (f_m_of x2 1 m) fun q1 =>
      (if xw x3 < xw q1 then (Option.bind (f_m_ofFrame x2 x3 0 m) fun q2 =>
      (Option.bind (f_m_of (1 - x2) 3 m) fun q3 =>
      (if xw q2 < xw q3 then f_m_losing_60 m k4 (f_m_losing_20 m k4 n) x2 x3 0 x1
      else (Option.bind (f_m_ofFrame x2 x3 1 m) fun q4 =>
      f_m_losing_60 m k4 (f_m_losing_20 m k4 n) x2 x3 q4 x1))))
      else f_m_losing_68 m k4 x1 x2))
def f_m_losing_4 (m : xM) : Nat → Int → Int → Option (Int)
  | 0, _, _ => none
  | n + 1, x1, x2 =>
     (if xw x2 < xw 2 then (Option.bind (f_m_of x2 0 m) fun q0 =>
      f_m_losing_20 m (f_m_losing_4 m n) fu (x1 + q0) x2 0)
      else some x1)
def f_m_losing (m : xM) : Option (Int) :=
     f_m_losing_4 m fu 0 0
def f_m_hang_50 (m : xM) : Option (xM) :=
     (if xib 52 3530 then (if xib 52 3530 then (Option.bind (f_m_tellEvent 5 (-1) (xu m 1 52 ((m 1 52) + 1))) fun q0 =>
      some q0)
      else none)
      else none)
def f_m_hang_17 : Nat → Int → xM → Option (xM)
  | 0, _, _ => none
  | n + 1, x1, m =>
     (if xw x1 < xw 2 then (Option.bind (f_m_endAt x1 0 (xvw [] m)) fun q1 =>
      (if xib q1 3530 then (Option.bind (f_m_endAt x1 1 (xvw [] (xu m 1 (xix q1) 0))) fun q2 =>
      (if xib q2 3530 then f_m_hang_17 n (x1 + 1) (xu (xu m 1 (xix q1) 0) 1 (xix q2) 0)
      else none))
      else none))
      else f_m_hang_50 m)
def f_m_hang (m : xM) : Option (xM) :=
     (if xib 1 3530 then (if xib 20 3530 then f_m_hang_17 fu 0 (xu (xu m 1 1 0) 1 20 0)
      else none)
      else none)
def f_m_train_29 (z : Int) (m : xM) : Option (xM) :=
     (if xib 6 3530 then some (xu m 1 6 0)
      else none)
def f_m_train (z : Int) (m : xM) : Option (xM) :=
     (if xib 1 3530 then (if xib 4 3530 then (if xib (21 + z) 3530 then (if xib 5 3530 then f_m_train_29 z (xu (xu (xu m 1 1 1) 1 4 z) 1 5 ((xu (xu m 1 1 1) 1 4 z) 1 (xix (21 + z))))
      else none)
      else none)
      else none)
      else none)
def f_m_greatestRate_33 (q : Int) (m : xM) (k4 : Int → Int → Option (Int)) (x3 : Int) (s0 : Int) : Option (Int) :=
     k4 s0 (x3 + 1)
def f_m_greatestRate_4 (q : Int) (m : xM) : Nat → Int → Int → Option (Int)
  | 0, _, _ => none
  | n + 1, x2, x3 =>
     (if xib 11 3530 then (if xw x3 < xw (m 1 11) then (if xib (40 + x3) 3530 then (if xw q < xw (m 1 (xix (40 + x3))) then f_m_greatestRate_33 q m (f_m_greatestRate_4 q m n) x3 x2
      else f_m_greatestRate_33 q m (f_m_greatestRate_4 q m n) x3 x3)
      else none)
      else some x2)
      else none)
def f_m_greatestRate (q : Int) (m : xM) : Option (Int) :=
     f_m_greatestRate_4 q m fu (-1) 0
def f_m_beginAgain_66 (e : Int) (m : xM) : Option (xM) :=
     (Option.bind (f_m_endAt e 5 (xvw [] m)) fun q2 =>
      (if xib q2 3530 then (Option.bind (f_m_endAt e 6 (xvw [] (xu m 1 (xix q2) 0))) fun q3 =>
      (if xib q3 3530 then (Option.bind (f_m_endAt e 9 (xvw [] (xu (xu m 1 (xix q2) 0) 1 (xix q3) 0))) fun q4 =>
      (if xib q4 3530 then some (xu (xu (xu m 1 (xix q2) 0) 1 (xix q3) 0) 1 (xix q4) 1)
      else none))
      else none))
      else none))
def f_m_beginAgain_38 (e : Int) : Nat → Int → xM → Option (xM)
  | 0, _, _ => none
  | n + 1, x2, m =>
     (Option.bind (f_m_of e 1 m) fun q1 =>
      (if xw x2 < xw q1 then (Option.bind (f_m_frameAt e x2 3 (xvw [] m)) fun q5 =>
      (if xib q5 3530 then f_m_beginAgain_38 e n (x2 + 1) (xu m 1 (xix q5) 1)
      else none))
      else f_m_beginAgain_66 e m))
def f_m_beginAgain_36 (e : Int) (m : xM) : Option (xM) :=
     f_m_beginAgain_38 e fu 0 m
def f_m_beginAgain_0 (e : Int) : Nat → xM → Option (xM)
  | 0, _ => none
  | n + 1, m =>
     (Option.bind (f_m_of e 1 m) fun q0 =>
      (if 0 < xw q0 then (Option.bind (f_m_ofFrame e 0 0 m) fun q6 =>
      (Option.bind (f_m_of (1 - e) 3 m) fun q7 =>
      (if xw q6 < xw q7 then (Option.bind (f_m_forget e 0 m) fun q8 =>
      f_m_beginAgain_0 e n q8)
      else f_m_beginAgain_36 e m)))
      else f_m_beginAgain_36 e m))
def f_m_beginAgain (e : Int) (m : xM) : Option (xM) :=
     f_m_beginAgain_0 e fu m
def f_m_comeOnline_77 (m : xM) : Option (xM) :=
     (if xib 53 3530 then (if xib 53 3530 then (Option.bind (f_m_tellEvent 1 (-1) (xu m 1 53 ((m 1 53) + 1))) fun q1 =>
      some q1)
      else none)
      else none)
def f_m_comeOnline_61 : Nat → Int → xM → Option (xM)
  | 0, _, _ => none
  | n + 1, x2, m =>
     (if xw x2 < xw 2 then (Option.bind (f_m_beginAgain x2 m) fun q2 =>
      f_m_comeOnline_61 n (x2 + 1) q2)
      else f_m_comeOnline_77 m)
def f_m_comeOnline (m : xM) : Option (xM) :=
     (if xib 2 3530 then (Option.bind (f_m_greatestRate (m 1 2) m) fun q0 =>
      (if xw q0 = xw (-1) then (Option.bind (f_m_hang m) fun q3 =>
      some q3)
      else (if xib 1 3530 then (if xib 3 3530 then (if xib 8 3530 then (if xib 9 3530 then (if xib 20 3530 then f_m_comeOnline_61 fu 0 (xu (xu (xu (xu (xu m 1 1 2) 1 3 q0) 1 8 0) 1 9 0) 1 20 0)
      else none)
      else none)
      else none)
      else none)
      else none)))
      else none)
def f_m_passTraining (m : xM) : Option (xM) :=
     (if xib 2 3530 then (if xw (m 1 2) = 0 then (if xib 4 3530 then (if xib (21 + (m 1 4)) 3530 then (if xib 5 3530 then (if xib 6 3530 then (if xib 6 3530 then (if xib 6 3530 then (if xib 12 3530 then (if xw (m 1 12) < xw ((m 1 6) + 1) then (Option.bind (f_m_hang (xu (xu m 1 5 (m 1 (xix (21 + (m 1 4))))) 1 6 ((m 1 6) + 1))) fun q1 =>
      some q1)
      else some (xu (xu m 1 5 (m 1 (xix (21 + (m 1 4))))) 1 6 ((m 1 6) + 1)))
      else none)
      else none)
      else none)
      else none)
      else none)
      else none)
      else none)
      else (if xib 5 3530 then (if xib 5 3530 then (if xib 5 3530 then (if 0 < xw ((m 1 5) - 1) then some (xu m 1 5 ((m 1 5) - 1))
      else (if xib 4 3530 then (if xw (m 1 4) = xw 3 then (Option.bind (f_m_comeOnline (xu m 1 5 ((m 1 5) - 1))) fun q0 =>
      some q0)
      else (if xib 4 3530 then (if xib 4 3530 then (if xib 4 3530 then (if xib (21 + ((m 1 4) + 1)) 3530 then (if xib 5 3530 then some (xu (xu (xu m 1 5 ((m 1 5) - 1)) 1 4 ((m 1 4) + 1)) 1 5 ((xu (xu m 1 5 ((m 1 5) - 1)) 1 4 ((m 1 4) + 1)) 1 (xix (21 + ((m 1 4) + 1)))))
      else none)
      else none)
      else none)
      else none)
      else none))
      else none))
      else none)
      else none)
      else none))
      else none)
def f_m_passLoss (m : xM) : Option (xM) :=
     (if xib 2 3530 then (if 0 < xw (m 1 2) then (Option.bind (f_m_train 2 m) fun q1 =>
      some q1)
      else (if xib 7 3530 then (if xib 7 3530 then (if xib 7 3530 then (if xib 13 3530 then (if xw (m 1 13) < xw ((m 1 7) + 1) then (Option.bind (f_m_hang (xu m 1 7 ((m 1 7) + 1))) fun q0 =>
      some q0)
      else some (xu m 1 7 ((m 1 7) + 1)))
      else none)
      else none)
      else none)
      else none))
      else none)
def f_m_loseCarrier (m : xM) : Option (xM) :=
     (if xib 1 3530 then (if xib 7 3530 then (if xib 20 3530 then (if xib 51 3530 then (if xib 51 3530 then (Option.bind (f_m_tellEvent 4 (-1) (xu (xu (xu (xu m 1 1 3) 1 7 1) 1 20 0) 1 51 ((m 1 51) + 1))) fun q0 =>
      (if xib 13 3530 then (if xw (q0 1 13) < xw 1 then (Option.bind (f_m_hang q0) fun q1 =>
      some q1)
      else some q0)
      else none))
      else none)
      else none)
      else none)
      else none)
      else none)
def f_m_firstThat_2 (e : Int) (a : Int) (m : xM) : Nat → Int → Option (Int)
  | 0, _ => none
  | n + 1, x3 =>
     (Option.bind (f_m_of e 1 m) fun q0 =>
      (if xw x3 < xw q0 then (Option.bind (f_m_ofFrame e x3 3 m) fun q1 =>
      (if xw q1 = xw a then some x3
      else f_m_firstThat_2 e a m n (x3 + 1)))
      else some (-1)))
def f_m_firstThat (e : Int) (a : Int) (m : xM) : Option (Int) :=
     f_m_firstThat_2 e a m fu 0
def f_m_countThat_34 (e : Int) (a : Int) (m : xM) (k5 : Int → Int → Option (Int)) (x4 : Int) (s0 : Int) (s1 : Int) : Option (Int) :=
     k5 (s1 + s0) (x4 + 1)
def f_m_countThat_5 (e : Int) (a : Int) (m : xM) : Nat → Int → Int → Option (Int)
  | 0, _, _ => none
  | n + 1, x3, x4 =>
     (Option.bind (f_m_of e 1 m) fun q0 =>
      (if xw x4 < xw q0 then (Option.bind (f_m_ofFrame e x4 3 m) fun q1 =>
      (if xw q1 = xw a then f_m_countThat_34 e a m (f_m_countThat_5 e a m n) x4 1 x3
      else f_m_countThat_34 e a m (f_m_countThat_5 e a m n) x4 0 x3))
      else some x3))
def f_m_countThat (e : Int) (a : Int) (m : xM) : Option (Int) :=
     f_m_countThat_5 e a m fu 0 0
def f_m_fall_51 (m : xM) : Option (xM) :=
     (Option.bind (f_m_tellEvent 2 (-1) m) fun q0 =>
      some q0)
def f_m_fall (m : xM) : Option (xM) :=
     (if xib 3 3530 then (if xw (m 1 3) = 0 then (Option.bind (f_m_hang m) fun q1 =>
      some q1)
      else (if xib 3 3530 then (if xib 3 3530 then (if xib 8 3530 then (if xib 9 3530 then (if xib 49 3530 then (if xib 49 3530 then f_m_fall_51 (xu (xu (xu (xu m 1 3 ((m 1 3) - 1)) 1 8 0) 1 9 0) 1 49 ((m 1 49) + 1))
      else none)
      else none)
      else none)
      else none)
      else none)
      else none))
      else none)
def f_m_timer_90 (e : Int) (m : xM) : Option (xM) :=
     (if xib 8 3530 then (if xib 8 3530 then (if xib 9 3530 then (Option.bind (f_m_tellEvent 6 e (xu (xu m 1 8 ((m 1 8) + 1)) 1 9 0)) fun q4 =>
      (if xib 8 3530 then (if xib 17 3530 then (if xw (q4 1 8) < xw (q4 1 17) then some q4
      else (Option.bind (f_m_fall q4) fun q5 =>
      some q5))
      else none)
      else none))
      else none)
      else none)
      else none)
def f_m_timer_67 (e : Int) (m : xM) : Option (xM) :=
     (Option.bind (f_m_endAt e 9 (xvw [] m)) fun q3 =>
      (if xib q3 3530 then (if xib 48 3530 then (if xib 48 3530 then f_m_timer_90 e (xu (xu m 1 (xix q3) 1) 1 48 (((xu m 1 (xix q3) 1) 1 48) + 1))
      else none)
      else none)
      else none))
def f_m_timer_39 (e : Int) : Nat → Int → xM → Option (xM)
  | 0, _, _ => none
  | n + 1, x3, m =>
     (Option.bind (f_m_of e 1 m) fun q2 =>
      (if xw x3 < xw q2 then (Option.bind (f_m_frameAt e x3 3 (xvw [] m)) fun q6 =>
      (if xib q6 3530 then f_m_timer_39 e n (x3 + 1) (xu m 1 (xix q6) 1)
      else none))
      else f_m_timer_67 e m))
def f_m_timer (e : Int) (m : xM) : Option (xM) :=
     (Option.bind (f_m_firstThat e 0 m) fun q0 =>
      (if xw q0 = xw (-1) then some m
      else (if xib 0 3530 then (Option.bind (f_m_ofFrame e q0 2 m) fun q1 =>
      (if xib 16 3530 then (if xw ((m 1 0) - q1) < xw (m 1 16) then some m
      else f_m_timer_39 e fu 0 m)
      else none))
      else none)))
def f_m_rise (m : xM) : Option (xM) :=
     (if xib 3 3530 then (if xib 9 3530 then (if xib 18 3530 then (if xw (m 1 9) < xw (m 1 18) then some m
      else (Option.bind (f_m_isRate ((m 1 3) + 1) m) fun q0 =>
      (if xw q0 = 0 then some m
      else (if xib (40 + ((m 1 3) + 1)) 3530 then (if xib 2 3530 then (if xw (m 1 2) < xw (m 1 (xix (40 + ((m 1 3) + 1)))) then some m
      else (if xib 3 3530 then (if xib 9 3530 then (if xib 50 3530 then (if xib 50 3530 then (Option.bind (f_m_tellEvent 3 (-1) (xu (xu (xu m 1 3 ((m 1 3) + 1)) 1 9 0) 1 50 ((m 1 50) + 1))) fun q1 =>
      some q1)
      else none)
      else none)
      else none)
      else none))
      else none)
      else none))))
      else none)
      else none)
      else none)
def f_m_launch_210 (e : Int) (b : Int) (f : Int) (z : Int) (x6 : Int) (x9 : Int) (m : xM) : Option (Int × xM) :=
     (if xib 45 3530 then (if xib 45 3530 then (if xib 46 3530 then (if xib 46 3530 then (if xib 54 3530 then (if xib 54 3530 then some (1, (xu (xu (xu m 1 45 ((m 1 45) + 1)) 1 46 ((m 1 46) + x9)) 1 54 ((m 1 54) + x6)))
      else none)
      else none)
      else none)
      else none)
      else none)
      else none)
def f_m_launch_173 (e : Int) (b : Int) (f : Int) (z : Int) : Nat → Int → Int → Int → Int → xM → Option (Int × xM)
  | 0, _, _, _, _, _ => none
  | n + 1, x6, x7, x9, x10, m =>
     (if xw x10 < xw z then (Option.bind (f_m_flyAt x7 (7 + x10) (xvw [] m)) fun q10 =>
      (if xib (f + x10) 3530 then (if xib q10 3530 then f_m_launch_173 e b f z n x6 x7 x9 (x10 + 1) (xu m 1 (xix q10) (m 1 (xix (f + x10))))
      else none)
      else none))
      else f_m_launch_210 e b f z x6 x9 m)
def f_m_launch_128 (e : Int) (b : Int) (f : Int) (z : Int) (x5 : Int) (x6 : Int) (x7 : Int) (s0 : Int) (m : xM) : Option (Int × xM) :=
     (Option.bind (f_m_flyAt x7 4 (xvw [] m)) fun q7 =>
      (if xib q7 3530 then (Option.bind (f_m_flyAt x7 5 (xvw [] (xu m 1 (xix q7) z))) fun q8 =>
      (if xib q8 3530 then (Option.bind (f_m_flyAt x7 6 (xvw [] (xu (xu m 1 (xix q7) z) 1 (xix q8) s0))) fun q9 =>
      (if xib q9 3530 then f_m_launch_173 e b f z fu x6 x7 s0 0 (xu (xu (xu m 1 (xix q7) z) 1 (xix q8) s0) 1 (xix q9) x5)
      else none))
      else none))
      else none))
def f_m_launch_69 (e : Int) (b : Int) (f : Int) (z : Int) (x5 : Int) (x6 : Int) (m : xM) : Option (Int × xM) :=
     (Option.bind (f_m_fly 0 (1 - e) b m) fun q6 =>
      (if xib 45 3530 then (if xib 19 3530 then (if xw (q6.2 1 19) = 0 then none
      else (if xib (25 + (xirem (q6.2 1 45) (q6.2 1 19))) 3530 then (if xib 3 3530 then (if xib 2 3530 then (if xw (q6.2 1 2) < xw ((q6.2 1 (xix (25 + (xirem (q6.2 1 45) (q6.2 1 19))))) + (q6.2 1 3)) then f_m_launch_128 e b f z x5 x6 q6.1 1 q6.2
      else f_m_launch_128 e b f z x5 x6 q6.1 0 q6.2)
      else none)
      else none)
      else none))
      else none)
      else none))
def f_m_launch (e : Int) (b : Int) (f : Int) (z : Int) (m : xM) : Option (Int × xM) :=
     (Option.bind (f_m_keepWords e m) fun q0 =>
      (Option.bind (f_m_of e 9 q0) fun q1 =>
      (Option.bind (f_m_write e f z q0) fun q2 =>
      (Option.bind (f_m_of e 5 q2.2) fun q3 =>
      (if xw q3 < xw q2.1 then (Option.bind (f_m_takeWordsBack e q2.2) fun q11 =>
      some (0, q11))
      else (Option.bind (f_m_endAt e 5 (xvw [] q2.2)) fun q4 =>
      (if xib q4 3530 then (if xib q4 3530 then (Option.bind (f_m_endAt e 9 (xvw [] (xu q2.2 1 (xix q4) ((q2.2 1 (xix q4)) - q2.1)))) fun q5 =>
      (if xib q5 3530 then f_m_launch_69 e b f z q1 q2.1 (xu (xu q2.2 1 (xix q4) ((q2.2 1 (xix q4)) - q2.1)) 1 (xix q5) 0)
      else none))
      else none)
      else none)))))))
def f_m_sendAgain (e : Int) (f : Int) (m : xM) : Option (Int × xM) :=
     (Option.bind (f_m_ofFrame e f 0 m) fun q0 =>
      (Option.bind (f_m_frameAt e f 4 (xvw [] m)) fun q1 =>
      (Option.bind (f_m_ofFrame e f 1 m) fun q2 =>
      (Option.bind (f_m_launch e q0 q1 q2 m) fun q3 =>
      (if xw q3.1 = 0 then some (0, q3.2)
      else (Option.bind (f_m_frameAt e f 3 (xvw [] q3.2)) fun q4 =>
      (if xib q4 3530 then (Option.bind (f_m_frameAt e f 2 (xvw [] (xu q3.2 1 (xix q4) 0))) fun q5 =>
      (if xib 0 3530 then (if xib q5 3530 then some (1, (xu (xu q3.2 1 (xix q4) 0) 1 (xix q5) ((xu q3.2 1 (xix q4) 0) 1 0)))
      else none)
      else none))
      else none)))))))
def f_m_sendNew_204 (e : Int) : Nat → Int → Int → xM → Option (Int × xM)
  | 0, _, _, _ => none
  | n + 1, x2, x4, m =>
     (Option.bind (f_m_of e 0 m) fun q14 =>
      (if xw x4 < xw q14 then (Option.bind (f_m_endAt e (117 + x4) (xvw [] m)) fun q15 =>
      (Option.bind (f_m_of e ((117 + x4) + x2) m) fun q16 =>
      (if xib q15 3530 then f_m_sendNew_204 e n x2 (x4 + 1) (xu m 1 (xix q15) q16)
      else none)))
      else some (1, m)))
def f_m_sendNew_187 (e : Int) (x2 : Int) (m : xM) : Option (Int × xM) :=
     (Option.bind (f_m_endAt e 0 (xvw [] m)) fun q13 =>
      (if xib q13 3530 then (if xib q13 3530 then f_m_sendNew_204 e fu x2 0 (xu m 1 (xix q13) ((m 1 (xix q13)) - x2))
      else none)
      else none))
def f_m_sendNew_159 (e : Int) (x2 : Int) (m : xM) : Option (Int × xM) :=
     (Option.bind (f_m_endAt e 1 (xvw [] m)) fun q11 =>
      (if xib q11 3530 then (if xib q11 3530 then (Option.bind (f_m_endAt e 2 (xvw [] (xu m 1 (xix q11) ((m 1 (xix q11)) + 1)))) fun q12 =>
      (if xib q12 3530 then (if xib q12 3530 then f_m_sendNew_187 e x2 (xu (xu m 1 (xix q11) ((m 1 (xix q11)) + 1)) 1 (xix q12) (((xu m 1 (xix q11) ((m 1 (xix q11)) + 1)) 1 (xix q12)) + 1))
      else none)
      else none))
      else none)
      else none))
def f_m_sendNew_123 (e : Int) : Nat → Int → Int → Int → xM → Option (Int × xM)
  | 0, _, _, _, _ => none
  | n + 1, x2, x3, x4, m =>
     (if xw x4 < xw x2 then (Option.bind (f_m_frameAt e x3 (4 + x4) (xvw [] m)) fun q17 =>
      (Option.bind (f_m_of e (117 + x4) m) fun q18 =>
      (if xib q17 3530 then f_m_sendNew_123 e n x2 x3 (x4 + 1) (xu m 1 (xix q17) q18)
      else none)))
      else f_m_sendNew_159 e x2 m)
def f_m_sendNew_91 (e : Int) (x2 : Int) (x3 : Int) (m : xM) : Option (Int × xM) :=
     (Option.bind (f_m_frameAt e x3 2 (xvw [] m)) fun q9 =>
      (if xib 0 3530 then (if xib q9 3530 then (Option.bind (f_m_frameAt e x3 3 (xvw [] (xu m 1 (xix q9) (m 1 0)))) fun q10 =>
      (if xib q10 3530 then f_m_sendNew_123 e fu x2 x3 0 (xu (xu m 1 (xix q9) (m 1 0)) 1 (xix q10) 0)
      else none))
      else none)
      else none))
def f_m_sendNew (e : Int) (m : xM) : Option (Int × xM) :=
     (Option.bind (f_m_of e 0 m) fun q0 =>
      (Option.bind (f_m_of e 1 m) fun q1 =>
      (if xib 14 3530 then (if xw q1 < xw (m 1 14) then (if xw (if xw q0 < xw 8 then q0 else 8) = 0 then some (0, m)
      else (Option.bind (f_m_of e 2 m) fun q2 =>
      (Option.bind (f_m_endAt e 117 (xvw [] m)) fun q3 =>
      (Option.bind (f_m_launch e q2 q3 (if xw q0 < xw 8 then q0 else 8) m) fun q4 =>
      (if xw q4.1 = 0 then some (0, q4.2)
      else (Option.bind (f_m_of e 1 q4.2) fun q5 =>
      (Option.bind (f_m_frameAt e q5 0 (xvw [] q4.2)) fun q6 =>
      (Option.bind (f_m_of e 2 q4.2) fun q7 =>
      (if xib q6 3530 then (Option.bind (f_m_frameAt e q5 1 (xvw [] (xu q4.2 1 (xix q6) q7))) fun q8 =>
      (if xib q8 3530 then f_m_sendNew_91 e (if xw q0 < xw 8 then q0 else 8) q5 (xu (xu q4.2 1 (xix q6) q7) 1 (xix q8) (if xw q0 < xw 8 then q0 else 8))
      else none))
      else none)))))))))
      else some (0, m))
      else none)))
def f_m_sendAll_89 (e : Int) (k56 : Int → xM → Option (xM)) (s0 : Int) (m : xM) : Option (xM) :=
     k56 s0 m
def f_m_sendAll_56 (e : Int) : Nat → Int → xM → Option (xM)
  | 0, _, _ => none
  | n + 1, x3, m =>
     (if xw x3 = 0 then some m
      else (Option.bind (f_m_firstThat e 1 m) fun q3 =>
      (if xw q3 = xw (-1) then (Option.bind (f_m_sendNew e m) fun q4 =>
      f_m_sendAll_89 e (f_m_sendAll_56 e n) q4.1 q4.2)
      else (Option.bind (f_m_sendAgain e q3 m) fun q5 =>
      f_m_sendAll_89 e (f_m_sendAll_56 e n) q5.1 q5.2))))
def f_m_sendAll_55 (e : Int) (s0 : Int) (m : xM) : Option (xM) :=
     f_m_sendAll_56 e fu s0 m
def f_m_sendAll_40 (e : Int) (m : xM) : Option (xM) :=
     (Option.bind (f_m_of e 6 m) fun q2 =>
      (if xw q2 = 0 then f_m_sendAll_55 e 1 m
      else f_m_sendAll_55 e 0 m))
def f_m_sendAll (e : Int) (m : xM) : Option (xM) :=
     (if xib 3 3530 then (if xib (35 + (m 1 3)) 3530 then (Option.bind (f_m_endAt e 5 (xvw [] m)) fun q0 =>
      (Option.bind (f_m_of e 5 m) fun q1 =>
      (if xib q0 3530 then f_m_sendAll_40 e (xu m 1 (xix q0) (if xw (q1 + (m 1 (xix (35 + (m 1 3))))) < xw ((m 1 (xix (35 + (m 1 3)))) + 28) then q1 + (m 1 (xix (35 + (m 1 3)))) else (m 1 (xix (35 + (m 1 3)))) + 28))
      else none)))
      else none)
      else none)
def f_m_passOnline_44 (m : xM) : Option (xM) :=
     (Option.bind (f_m_isPhase 2 m) fun q1 =>
      (if xw q1 = 0 then some m
      else (Option.bind (f_m_rise m) fun q2 =>
      (Option.bind (f_m_sendAll 0 q2) fun q3 =>
      (Option.bind (f_m_sendAll 1 q3) fun q4 =>
      some q4)))))
def f_m_passOnline_20 : Nat → Int → xM → Option (xM)
  | 0, _, _ => none
  | n + 1, x1, m =>
     (if xw x1 < xw 2 then (Option.bind (f_m_isPhase 2 m) fun q5 =>
      (if xw q5 = 0 then f_m_passOnline_44 m
      else (Option.bind (f_m_timer x1 m) fun q6 =>
      f_m_passOnline_20 n (x1 + 1) q6)))
      else f_m_passOnline_44 m)
def f_m_passOnline (m : xM) : Option (xM) :=
     (if xib 2 3530 then (if xw (m 1 2) = 0 then (Option.bind (f_m_loseCarrier m) fun q7 =>
      some q7)
      else (Option.bind (f_m_arrivals m) fun q0 =>
      f_m_passOnline_20 fu 0 q0))
      else none)
def f_m_passTick_53 (m : xM) : Option (xM) :=
     (if xib 0 3530 then (if xib 0 3530 then some (xu m 1 0 ((m 1 0) + 1))
      else none)
      else none)
def f_m_passTick (m : xM) : Option (xM) :=
     (if xib 1 3530 then (if xw (m 1 1) = 1 then (Option.bind (f_m_passTraining m) fun q0 =>
      f_m_passTick_53 q0)
      else (if xw (m 1 1) = 2 then (Option.bind (f_m_passOnline m) fun q1 =>
      f_m_passTick_53 q1)
      else (if xw (m 1 1) = 3 then (Option.bind (f_m_passLoss m) fun q2 =>
      f_m_passTick_53 q2)
      else f_m_passTick_53 m)))
      else none)
def f_m_size (w : Int) (m : xM) : Option (Int × xM) :=
     (if xw w = 0 then (if xib w 3530 then some ((m 1 (xix w)), (xu m 0 6 0))
      else none)
      else (if xw w = 1 then (if xib w 3530 then some ((m 1 (xix w)), (xu m 0 6 0))
      else none)
      else (if xw w = 2 then (if xib w 3530 then some ((m 1 (xix w)), (xu m 0 6 0))
      else none)
      else (if xw w = 3 then (Option.bind (f_m_rateNow (xu m 0 6 0)) fun q0 =>
      some (q0, (xu m 0 6 0)))
      else (if xw w = 4 then (Option.bind (f_m_isPhase 1 (xu m 0 6 0)) fun q1 =>
      (if xw q1 = 0 then some ((-1), (xu m 0 6 0))
      else (if xib w 3530 then some ((m 1 (xix w)), (xu m 0 6 0))
      else none)))
      else (if xw w = 5 then (Option.bind (f_m_isPhase 1 (xu m 0 6 0)) fun q2 =>
      (if xw q2 = 0 then some ((-1), (xu m 0 6 0))
      else (if xib w 3530 then some ((m 1 (xix w)), (xu m 0 6 0))
      else none)))
      else (if xw w = 6 then (Option.bind (f_m_isPhase 1 (xu m 0 6 0)) fun q3 =>
      (if xw q3 = 0 then some ((-1), (xu m 0 6 0))
      else (if xib w 3530 then some ((m 1 (xix w)), (xu m 0 6 0))
      else none)))
      else (if xw w = 7 then (Option.bind (f_m_isPhase 3 (xu m 0 6 0)) fun q4 =>
      (if xw q4 = 0 then some ((-1), (xu m 0 6 0))
      else (if xib 7 3530 then some ((m 1 7), (xu m 0 6 0))
      else none)))
      else (if xw w = 8 then (Option.bind (f_m_isPhase 2 (xu m 0 6 0)) fun q5 =>
      (if xw q5 = 0 then some (0, (xu m 0 6 0))
      else (if xib w 3530 then some ((m 1 (xix w)), (xu m 0 6 0))
      else none)))
      else (if xw w = 9 then (Option.bind (f_m_isPhase 2 (xu m 0 6 0)) fun q6 =>
      (if xw q6 = 0 then some (0, (xu m 0 6 0))
      else (if xib w 3530 then some ((m 1 (xix w)), (xu m 0 6 0))
      else none)))
      else (if xw w = 10 then (if xib w 3530 then some ((m 1 (xix w)), (xu m 0 6 0))
      else none)
      else (if xw w = 11 then some ((m 0 13), (xu m 0 6 0))
      else (Option.bind (f_m_raise 1 (xu m 0 6 0)) fun q7 =>
      some (q7.1, q7.2))))))))))))))
def f_m_total (w : Int) (m : xM) : Option (Int × xM) :=
     (Option.bind (f_m_inRange w 0 10 (xvw [] (xu m 0 6 0))) fun q0 =>
      (if xw q0 = 0 then (Option.bind (f_m_raise 1 (xu m 0 6 0)) fun q1 =>
      some (q1.1, q1.2))
      else (if xib (45 + w) 3530 then some ((m 1 (xix (45 + w))), (xu m 0 6 0))
      else none)))
def f_m_end (e : Int) (w : Int) (m : xM) : Option (Int × xM) :=
     (Option.bind (f_m_isEnd e (xvw [] (xu m 0 6 0))) fun q0 =>
      (if xw q0 = 0 then (Option.bind (f_m_raise 1 (xu m 0 6 0)) fun q12 =>
      some (q12.1, q12.2))
      else (if xw w = 0 then (Option.bind (f_m_of e 0 (xu m 0 6 0)) fun q1 =>
      some (q1, (xu m 0 6 0)))
      else (if xw w = 1 then (Option.bind (f_m_countThat e 0 (xu m 0 6 0)) fun q2 =>
      some (q2, (xu m 0 6 0)))
      else (if xw w = 2 then (Option.bind (f_m_countThat e 1 (xu m 0 6 0)) fun q3 =>
      some (q3, (xu m 0 6 0)))
      else (if xw w = 3 then (Option.bind (f_m_of e ((2 + w) - 3) (xu m 0 6 0)) fun q4 =>
      some (q4, (xu m 0 6 0)))
      else (if xw w = 4 then (Option.bind (f_m_of e ((2 + w) - 3) (xu m 0 6 0)) fun q5 =>
      some (q5, (xu m 0 6 0)))
      else (if xw w = 5 then (Option.bind (f_m_of e ((2 + w) - 3) (xu m 0 6 0)) fun q6 =>
      some (q6, (xu m 0 6 0)))
      else (if xw w = 6 then (Option.bind (f_m_of e ((2 + w) - 3) (xu m 0 6 0)) fun q7 =>
      some (q7, (xu m 0 6 0)))
      else (if xw w = 7 then (Option.bind (f_m_of e ((2 + w) - 3) (xu m 0 6 0)) fun q8 =>
      some (q8, (xu m 0 6 0)))
      else (if xw w = 8 then (Option.bind (f_m_of e ((2 + w) - 3) (xu m 0 6 0)) fun q9 =>
      some (q9, (xu m 0 6 0)))
      else (if xw w = 9 then (Option.bind (f_m_of e ((2 + w) - 3) (xu m 0 6 0)) fun q10 =>
      some (q10, (xu m 0 6 0)))
      else (Option.bind (f_m_raise 1 (xu m 0 6 0)) fun q11 =>
      some (q11.1, q11.2))))))))))))))
def f_m_rate_22 (z : Int) (w : Int) (m : xM) : Option (Int × xM) :=
     (Option.bind (f_m_raise 1 m) fun q1 =>
      some (q1.1, q1.2))
def f_m_rate_47 (z : Int) (w : Int) (s0 : Int) (m : xM) : Option (Int × xM) :=
     (if xib s0 3530 then some ((m 1 (xix s0)), m)
      else none)
def f_m_rate (z : Int) (w : Int) (m : xM) : Option (Int × xM) :=
     (Option.bind (f_m_isRate z (xu m 0 6 0)) fun q0 =>
      (if xw q0 = 0 then f_m_rate_22 z w (xu m 0 6 0)
      else (Option.bind (f_m_inRange w 0 1 (xvw [] (xu m 0 6 0))) fun q2 =>
      (if xw q2 = 0 then f_m_rate_22 z w (xu m 0 6 0)
      else (if xw w = 0 then f_m_rate_47 z w (35 + z) (xu m 0 6 0)
      else f_m_rate_47 z w (40 + z) (xu m 0 6 0))))))
def f_m_frame_42 (e : Int) (p : Int) (w : Int) (s0 : Int) (m : xM) : Option (Int × xM) :=
     (if xw s0 = 0 then (Option.bind (f_m_raise 1 m) fun q1 =>
      some (q1.1, q1.2))
      else (Option.bind (f_m_ofFrame e p w m) fun q2 =>
      some (q2, m)))
def f_m_frame_41 (e : Int) (p : Int) (w : Int) (m : xM) : Option (Int × xM) :=
     f_m_frame_42 e p w 0 m
def f_m_frame (e : Int) (p : Int) (w : Int) (m : xM) : Option (Int × xM) :=
     (Option.bind (f_m_isEnd e (xvw [] (xu m 0 6 0))) fun q0 =>
      (if xw q0 = 0 then f_m_frame_41 e p w (xu m 0 6 0)
      else (Option.bind (f_m_of e 1 (xu m 0 6 0)) fun q3 =>
      (Option.bind (f_m_inRange p 0 (q3 - 1) (xvw [] (xu m 0 6 0))) fun q4 =>
      (if xw q4 = 0 then f_m_frame_41 e p w (xu m 0 6 0)
      else (Option.bind (f_m_inRange w 0 3 (xvw [] (xu m 0 6 0))) fun q5 =>
      (if xw q5 = 0 then f_m_frame_41 e p w (xu m 0 6 0)
      else f_m_frame_42 e p w 1 (xu m 0 6 0))))))))
def f_m_received (e : Int) (p : Int) (m : xM) : Option (Int × xM) :=
     (Option.bind (f_m_isEnd e (xvw [] (xu m 0 6 0))) fun q0 =>
      (if xw q0 = 0 then (Option.bind (f_m_raise 1 (xu m 0 6 0)) fun q4 =>
      some (q4.1, q4.2))
      else (Option.bind (f_m_of e 4 (xu m 0 6 0)) fun q1 =>
      (Option.bind (f_m_inRange p 0 ((if xw q1 < xw 400 then q1 else 400) - 1) (xvw [] (xu m 0 6 0))) fun q2 =>
      (if xw q2 = 0 then some ((-1), (xu m 0 6 0))
      else (Option.bind (f_m_of e (317 + p) (xu m 0 6 0)) fun q3 =>
      some (q3, (xu m 0 6 0))))))))
def f_m_word (e : Int) (w : Int) (p : Int) (m : xM) : Option (Int × xM) :=
     (Option.bind (f_m_isEnd e (xvw [] (xu m 0 6 0))) fun q0 =>
      (if xw q0 = 0 then (Option.bind (f_m_raise 1 (xu m 0 6 0)) fun q4 =>
      some (q4.1, q4.2))
      else (Option.bind (f_m_countAt e w (xvw [] (xu m 0 6 0))) fun q1 =>
      (if xib q1 3530 then (Option.bind (f_m_inRange p 0 ((m 1 (xix q1)) - 1) (xvw [] (xu m 0 6 0))) fun q2 =>
      (if xw q2 = 0 then some ((-1), (xu m 0 6 0))
      else (Option.bind (f_m_wordsAt e w (xvw [] (xu m 0 6 0))) fun q3 =>
      (if xib (q3 + p) 3530 then some ((m 1 (xix (q3 + p))), (xu m 0 6 0))
      else none))))
      else none))))
def f_m_event_36 (e : Int) (w : Int) (s0 : Int) (m : xM) : Option (Int × xM) :=
     (if xw s0 = 0 then (Option.bind (f_m_raise 1 m) fun q1 =>
      some (q1.1, q1.2))
      else (if xib ((1490 + (4 * e)) + w) 3530 then some ((m 1 (xix ((1490 + (4 * e)) + w))), m)
      else none))
def f_m_event_35 (e : Int) (w : Int) (m : xM) : Option (Int × xM) :=
     f_m_event_36 e w 0 m
def f_m_event (e : Int) (w : Int) (m : xM) : Option (Int × xM) :=
     (if xib 10 3530 then (Option.bind (f_m_inRange e 0 ((m 1 10) - 1) (xvw [] (xu m 0 6 0))) fun q0 =>
      (if xw q0 = 0 then f_m_event_35 e w (xu m 0 6 0)
      else (Option.bind (f_m_inRange w 0 3 (xvw [] (xu m 0 6 0))) fun q2 =>
      (if xw q2 = 0 then f_m_event_35 e w (xu m 0 6 0)
      else f_m_event_36 e w 1 (xu m 0 6 0)))))
      else none)
def f_m_rateFor (q : Int) (m : xM) : Option (Int × xM) :=
     (Option.bind (f_m_inRange q 0 9 (xvw [] (xu m 0 6 0))) fun q0 =>
      (if xw q0 = 0 then (Option.bind (f_m_raise 1 (xu m 0 6 0)) fun q1 =>
      some (q1.1, q1.2))
      else (Option.bind (f_m_greatestRate q (xu m 0 6 0)) fun q2 =>
      some (q2, (xu m 0 6 0)))))
def f_m_nextCost (e : Int) (m : xM) : Option (Int × xM) :=
     (Option.bind (f_m_isEnd e (xvw [] (xu m 0 6 0))) fun q0 =>
      (if xw q0 = 0 then (Option.bind (f_m_raise 1 (xu m 0 6 0)) fun q8 =>
      some (q8.1, q8.2))
      else (Option.bind (f_m_isPhase 2 (xu m 0 6 0)) fun q1 =>
      (if xw q1 = 0 then some (0, (xu m 0 6 0))
      else (Option.bind (f_m_of e 0 (xu m 0 6 0)) fun q2 =>
      (if xw q2 = 0 then some (0, (xu m 0 6 0))
      else (Option.bind (f_m_keepWords e (xu m 0 6 0)) fun q3 =>
      (Option.bind (f_m_endAt e 117 (xvw [] q3)) fun q4 =>
      (Option.bind (f_m_of e 0 q3) fun q5 =>
      (Option.bind (f_m_write e q4 (if xw q5 < xw 8 then q5 else 8) q3) fun q6 =>
      (Option.bind (f_m_takeWordsBack e q6.2) fun q7 =>
      some (q6.1, q7))))))))))))
def f_m_isDone_37 (m : xM) (k8 : Int → Int → Option (Int)) (x2 : Int) (s0 : Int) (s1 : Int) : Option (Int) :=
     k8 (xiand s1 s0) (x2 + 1)
def f_m_isDone_36 (m : xM) (k8 : Int → Int → Option (Int)) (x2 : Int) (s0 : Int) : Option (Int) :=
     f_m_isDone_37 m k8 x2 0 s0
def f_m_isDone_8 (m : xM) : Nat → Int → Int → Option (Int)
  | 0, _, _ => none
  | n + 1, x1, x2 =>
     (if xw x2 < xw 2 then (Option.bind (f_m_of x2 0 m) fun q1 =>
      (if xw q1 = 0 then (Option.bind (f_m_of x2 1 m) fun q2 =>
      (if xw q2 = 0 then f_m_isDone_37 m (f_m_isDone_8 m n) x2 1 x1
      else f_m_isDone_36 m (f_m_isDone_8 m n) x2 x1))
      else f_m_isDone_36 m (f_m_isDone_8 m n) x2 x1))
      else (if xbz x1 then some x1
      else none))
def f_m_isDone (m : xM) : Option (Int) :=
     (Option.bind (f_m_isPhase 2 m) fun q0 =>
      f_m_isDone_8 m fu q0 0)
def f_m_finishOf_2 : Nat → Int → xM → Option (Int × xM)
  | 0, _, _ => none
  | n + 1, x1, m =>
     (if xw 400 < xw x1 then some ((-1), m)
      else (Option.bind (f_m_isPhase 0 m) fun q0 =>
      (if xw q0 = 0 then (Option.bind (f_m_isDone m) fun q1 =>
      (if xw q1 = 0 then (Option.bind (f_m_passTick m) fun q2 =>
      f_m_finishOf_2 n (x1 + 1) q2)
      else some (x1, m)))
      else some ((-1), m))))
def f_m_finishOf (m : xM) : Option (Int × xM) :=
     f_m_finishOf_2 fu 0 m
def f_m_copyA_31 (a : Int) (b : Int) (k3 : Int → xM → Option (xM)) (x4 : Int) (m : xM) : Option (xM) :=
     k3 (x4 + 1) m
def f_m_copyA_3 (a : Int) (b : Int) : Nat → Int → xM → Option (xM)
  | 0, _, _ => none
  | n + 1, x4, m =>
     (if xw x4 < xw 3530 then (if xib ((3530 * a) + x4) 3530 then (if xib ((3530 * b) + x4) 3530 then f_m_copyA_31 a b (f_m_copyA_3 a b n) x4 (xu m 1 (xix ((3530 * b) + x4)) (m 0 (xix ((3530 * a) + x4))))
      else none)
      else none)
      else some m)
def f_m_copyA (a : Int) (b : Int) (m : xM) : Option (xM) :=
     f_m_copyA_3 a b fu 0 m
def f_m_copyB_31 (a : Int) (b : Int) (k3 : Int → xM → Option (xM)) (x4 : Int) (m : xM) : Option (xM) :=
     k3 (x4 + 1) m
def f_m_copyB_3 (a : Int) (b : Int) : Nat → Int → xM → Option (xM)
  | 0, _, _ => none
  | n + 1, x4, m =>
     (if xw x4 < xw 3530 then (if xib ((3530 * a) + x4) 3530 then (if xib ((3530 * b) + x4) 35300 then f_m_copyB_31 a b (f_m_copyB_3 a b n) x4 (xu m 1 (xix ((3530 * b) + x4)) (m 0 (xix ((3530 * a) + x4))))
      else none)
      else none)
      else some m)
def f_m_copyB (a : Int) (b : Int) (m : xM) : Option (xM) :=
     f_m_copyB_3 a b fu 0 m
def f_m_copyC_31 (a : Int) (b : Int) (k3 : Int → xM → Option (xM)) (x4 : Int) (m : xM) : Option (xM) :=
     k3 (x4 + 1) m
def f_m_copyC_3 (a : Int) (b : Int) : Nat → Int → xM → Option (xM)
  | 0, _, _ => none
  | n + 1, x4, m =>
     (if xw x4 < xw 3530 then (if xib ((3530 * a) + x4) 35300 then (if xib ((3530 * b) + x4) 3530 then f_m_copyC_31 a b (f_m_copyC_3 a b n) x4 (xu m 1 (xix ((3530 * b) + x4)) (m 0 (xix ((3530 * a) + x4))))
      else none)
      else none)
      else some m)
def f_m_copyC (a : Int) (b : Int) (m : xM) : Option (xM) :=
     f_m_copyC_3 a b fu 0 m
def f_m_copyD_31 (a : Int) (b : Int) (k3 : Int → xM → Option (xM)) (x4 : Int) (m : xM) : Option (xM) :=
     k3 (x4 + 1) m
def f_m_copyD_3 (a : Int) (b : Int) : Nat → Int → xM → Option (xM)
  | 0, _, _ => none
  | n + 1, x4, m =>
     (if xw x4 < xw 3530 then (if xib ((3530 * a) + x4) 35300 then (if xib ((3530 * b) + x4) 35300 then f_m_copyD_31 a b (f_m_copyD_3 a b n) x4 (xu m 0 (xix ((3530 * b) + x4)) (m 0 (xix ((3530 * a) + x4))))
      else none)
      else none)
      else some m)
def f_m_copyD (a : Int) (b : Int) (m : xM) : Option (xM) :=
     f_m_copyD_3 a b fu 0 m
def f_m_ticksToFinish (m : xM) : Option (Int × xM) :=
     (Option.bind (f_m_copyA 0 0 (xvw [1, 3] (xu m 0 6 0))) fun q0 =>
      (Option.bind (f_m_finishOf (xmg [1, 3] 2 (xu m 0 6 0) q0)) fun q1 =>
      (Option.bind (f_m_copyA 0 0 (xvw [3, 1] q1.2)) fun q2 =>
      some (q1.1, (xmg [3, 1] 2 q1.2 q2)))))
def f_m_receivedBehind_70 (e : Int) (z : Int) (m : xM) : Option (Int × xM) :=
     (Option.bind (f_m_of e 4 m) fun q3 =>
      (Option.bind (f_m_copyA 0 0 (xvw [3, 1] m)) fun q4 =>
      some (q3, (xmg [3, 1] 2 m q4))))
def f_m_receivedBehind_55 (e : Int) (z : Int) : Nat → Int → xM → Option (Int × xM)
  | 0, _, _ => none
  | n + 1, x3, m =>
     (if xw x3 < xw z then (Option.bind (f_m_passTick m) fun q5 =>
      f_m_receivedBehind_55 e z n (x3 + 1) q5)
      else f_m_receivedBehind_70 e z m)
def f_m_receivedBehind_28 (e : Int) (z : Int) (s0 : Int) (m : xM) : Option (Int × xM) :=
     (if xw s0 = 0 then (Option.bind (f_m_copyA 0 0 (xvw [1, 3] (xu m 0 6 s0))) fun q2 =>
      f_m_receivedBehind_55 e z fu 0 (xmg [1, 3] 2 (xu m 0 6 s0) q2))
      else some (0, (xu m 0 6 s0)))
def f_m_receivedBehind (e : Int) (z : Int) (m : xM) : Option (Int × xM) :=
     (Option.bind (f_m_isEnd e (xvw [] m)) fun q0 =>
      (if xw q0 = 0 then f_m_receivedBehind_28 e z 1 m
      else (Option.bind (f_m_inRange z 0 400 (xvw [] m)) fun q1 =>
      (if xw q1 = 0 then f_m_receivedBehind_28 e z 2 m
      else f_m_receivedBehind_28 e z 0 m))))
def f_m_leastQuality_53 (k22 : Int → Int → xM → Option (Int × xM)) (x2 : Int) (s0 : Int) (m : xM) : Option (Int × xM) :=
     (Option.bind (f_m_copyA 0 0 (xvw [3, 1] m)) fun q2 =>
      k22 s0 (x2 + 1) (xmg [3, 1] 2 m q2))
def f_m_leastQuality_22 : Nat → Int → Int → xM → Option (Int × xM)
  | 0, _, _, _ => none
  | n + 1, x1, x2, m =>
     (if xw 9 < xw x2 then some (x1, m)
      else (if xw x1 = xw (-1) then (if xib 2 3530 then (Option.bind (f_m_finishOf (xu m 1 2 x2)) fun q1 =>
      (if xw q1.1 = xw (-1) then f_m_leastQuality_53 (f_m_leastQuality_22 n) x2 (-1) q1.2
      else f_m_leastQuality_53 (f_m_leastQuality_22 n) x2 x2 q1.2))
      else none)
      else some (x1, m)))
def f_m_leastQuality (m : xM) : Option (Int × xM) :=
     (Option.bind (f_m_copyA 0 0 (xvw [1, 3] (xu m 0 6 0))) fun q0 =>
      f_m_leastQuality_22 fu (-1) 0 (xmg [1, 3] 2 (xu m 0 6 0) q0))
def f_m_record_48 (m : xM) : Option (xM) :=
     (Option.bind (f_m_copyB 0 (m 0 5) (xvw [1, 5] m)) fun q0 =>
      some (xu (xmg [1, 5] 2 m q0) 0 5 (((xmg [1, 5] 2 m q0) 0 5) + 1)))
def f_m_record_38 (m : xM) : Option (xM) :=
     f_m_record_48 (xu m 0 5 ((m 0 5) - 1))
def f_m_record_11 : Nat → Int → xM → Option (xM)
  | 0, _, _ => none
  | n + 1, x1, m =>
     (if xw x1 < xw 10 then (Option.bind (f_m_copyD x1 (x1 - 1) (xvw [5] m)) fun q1 =>
      f_m_record_11 n (x1 + 1) (xmg [5] 1 m q1))
      else f_m_record_38 m)
def f_m_record (m : xM) : Option (xM) :=
     (if xw (m 0 5) = xw 10 then f_m_record_11 fu 1 m
      else f_m_record_48 m)
def f_m_pass_67 (z : Int) (x2 : Int) (m : xM) : Option (Int × xM) :=
     (if xib 55 3530 then some ((m 1 55) - x2, m)
      else none)
def f_m_pass_52 (z : Int) : Nat → Int → Int → xM → Option (Int × xM)
  | 0, _, _, _ => none
  | n + 1, x2, x3, m =>
     (if xw x3 < xw z then (Option.bind (f_m_passTick m) fun q2 =>
      f_m_pass_52 z n x2 (x3 + 1) q2)
      else f_m_pass_67 z x2 m)
def f_m_pass (z : Int) (m : xM) : Option (Int × xM) :=
     (Option.bind (f_m_inRange z 1 200 (xvw [] (xu m 0 6 0))) fun q0 =>
      (if xw q0 = 0 then (Option.bind (f_m_raise 1 (xu m 0 6 0)) fun q3 =>
      some (q3.1, q3.2))
      else (if xib 0 3530 then (if xw 99999 < xw ((m 1 0) + z) then some ((-2), (xu m 0 6 0))
      else (Option.bind (f_m_record (xu m 0 6 0)) fun q1 =>
      (if xib 55 3530 then f_m_pass_52 z fu (q1 1 55) 0 q1
      else none)))
      else none)))
def f_m_dial_54 : Nat → Int → Int → xM → Option (Int × xM)
  | 0, _, _, _ => none
  | n + 1, x1, x2, m =>
     (if xw x2 < xw 2 then (Option.bind (f_m_endAt x2 2 (xvw [] m)) fun q3 =>
      (if xib q3 3530 then (Option.bind (f_m_endAt x2 3 (xvw [] (xu m 1 (xix q3) 0))) fun q4 =>
      (if xib q4 3530 then f_m_dial_54 n x1 (x2 + 1) (xu (xu m 1 (xix q3) 0) 1 (xix q4) 0)
      else none))
      else none))
      else some (x1, m))
def f_m_dial_52 (x1 : Int) (m : xM) : Option (Int × xM) :=
     f_m_dial_54 fu x1 0 m
def f_m_dial_29 : Nat → Int → Int → xM → Option (Int × xM)
  | 0, _, _, _ => none
  | n + 1, x1, x2, m =>
     (if xw x2 < xw 4 then (if xib (21 + x2) 3530 then f_m_dial_29 n (x1 + (m 1 (xix (21 + x2)))) (x2 + 1) m
      else none)
      else f_m_dial_52 x1 m)
def f_m_dial (m : xM) : Option (Int × xM) :=
     (Option.bind (f_m_isPhase 0 (xu m 0 6 0)) fun q0 =>
      (if xw q0 = 0 then some ((-2), (xu m 0 6 0))
      else (Option.bind (f_m_record (xu m 0 6 0)) fun q1 =>
      (Option.bind (f_m_train 0 q1) fun q2 =>
      f_m_dial_29 fu 0 0 q2))))
def f_m_hangUp (m : xM) : Option (Int × xM) :=
     (Option.bind (f_m_isPhase 0 (xu m 0 6 0)) fun q0 =>
      (if xw q0 = 0 then (Option.bind (f_m_record (xu m 0 6 0)) fun q1 =>
      (Option.bind (f_m_losing q1) fun q2 =>
      (Option.bind (f_m_hang q1) fun q3 =>
      some (q2, q3))))
      else some ((-2), (xu m 0 6 0))))
def f_m_setEscaped (e : Int) (z : Int) (m : xM) : Option (Int × xM) :=
     (Option.bind (f_m_isEnd e (xvw [] (xu m 0 6 0))) fun q0 =>
      (if xw q0 = 0 then (Option.bind (f_m_raise 1 (xu m 0 6 0)) fun q6 =>
      some (q6.1, q6.2))
      else (Option.bind (f_m_isPhase 2 (xu m 0 6 0)) fun q1 =>
      (if xw q1 = 0 then some ((-2), (xu m 0 6 0))
      else (Option.bind (f_m_of e 6 (xu m 0 6 0)) fun q2 =>
      (if xw q2 = xw z then some ((-3), (xu m 0 6 0))
      else (Option.bind (f_m_record (xu m 0 6 0)) fun q3 =>
      (Option.bind (f_m_endAt e 6 (xvw [] q3)) fun q4 =>
      (if xib q4 3530 then (Option.bind (f_m_of e 0 (xu q3 1 (xix q4) z)) fun q5 =>
      some (q5, (xu q3 1 (xix q4) z)))
      else none)))))))))
def f_m_escape (e : Int) (m : xM) : Option (Int × xM) :=
     (Option.bind (f_m_setEscaped e 1 m) fun q0 =>
      some (q0.1, q0.2))
def f_m_resume (e : Int) (m : xM) : Option (Int × xM) :=
     (Option.bind (f_m_setEscaped e 0 m) fun q0 =>
      some (q0.1, q0.2))
def f_m_send_133 (e : Int) (z : Int) (m : xM) : Option (Int × xM) :=
     (Option.bind (f_m_of e 0 m) fun q5 =>
      some (q5, m))
def f_m_send_127 (e : Int) (z : Int) (k80 : Int → xM → Option (Int × xM)) (x3 : Int) (m : xM) : Option (Int × xM) :=
     k80 (x3 + 1) m
def f_m_send_80 (e : Int) (z : Int) : Nat → Int → xM → Option (Int × xM)
  | 0, _, _ => none
  | n + 1, x3, m =>
     (if xw x3 < xw z then (Option.bind (f_m_of e 0 m) fun q6 =>
      (Option.bind (f_m_endAt e (117 + q6) (xvw [] m)) fun q7 =>
      (if xib x3 600 then (if xib q7 3530 then (Option.bind (f_m_endAt e 0 (xvw [] (xu m 1 (xix q7) (xiand (m 8 (xix x3)) 255)))) fun q8 =>
      (if xib q8 3530 then (if xib q8 3530 then f_m_send_127 e z (f_m_send_80 e z n) x3 (xu (xu m 1 (xix q7) (xiand (m 8 (xix x3)) 255)) 1 (xix q8) (((xu m 1 (xix q7) (xiand (m 8 (xix x3)) 255)) 1 (xix q8)) + 1))
      else none)
      else none))
      else none)
      else none)))
      else f_m_send_133 e z m)
def f_m_send_29 (e : Int) (z : Int) (s0 : Int) (m : xM) : Option (Int × xM) :=
     (if xw s0 = 0 then (Option.bind (f_m_isPhase 0 (xu (xu m 0 6 s0) 0 13 0)) fun q2 =>
      (if xw q2 = 0 then (Option.bind (f_m_of e 0 (xu (xu m 0 6 s0) 0 13 0)) fun q3 =>
      (if xw 200 < xw (q3 + z) then some ((-3), (xu (xu m 0 6 s0) 0 13 0))
      else (Option.bind (f_m_record (xu (xu m 0 6 s0) 0 13 0)) fun q4 =>
      f_m_send_80 e z fu 0 q4)))
      else some ((-2), (xu (xu m 0 6 s0) 0 13 0))))
      else some (0, (xu m 0 6 s0)))
def f_m_send (e : Int) (z : Int) (m : xM) : Option (Int × xM) :=
     (Option.bind (f_m_isEnd e (xvw [] m)) fun q0 =>
      (if xw q0 = 0 then f_m_send_29 e z 1 m
      else (Option.bind (f_m_inRange z 0 (m 0 13) (xvw [] m)) fun q1 =>
      (if xw q1 = 0 then f_m_send_29 e z 2 m
      else f_m_send_29 e z 0 m))))
def f_m_setQuality (q : Int) (m : xM) : Option (Int × xM) :=
     (Option.bind (f_m_inRange q 0 9 (xvw [] (xu m 0 6 0))) fun q0 =>
      (if xw q0 = 0 then (Option.bind (f_m_raise 1 (xu m 0 6 0)) fun q2 =>
      some (q2.1, q2.2))
      else (Option.bind (f_m_record (xu m 0 6 0)) fun q1 =>
      (if xib 2 3530 then (if xib 2 3530 then some ((q1 1 2), (xu q1 1 2 q))
      else none)
      else none))))
def f_m_put (z : Int) (m : xM) : Option (xM) :=
     (if xib (m 0 11) 60 then some (xu (xu m 7 (xix (m 0 11)) z) 0 11 ((m 0 11) + 1))
      else none)
def f_m_putWord_2 (w : Nat) : Nat → Int → xM → Option (xM)
  | 0, _, _ => none
  | n + 1, x2, m =>
     (if xw x2 < xw (xsl w) then (if xib x2 (xSby.getD w []).length then (Option.bind (f_m_put (xsc w (xix x2)) m) fun q0 =>
      f_m_putWord_2 w n (x2 + 1) q0)
      else none)
      else some m)
def f_m_putWord (w : Nat) (m : xM) : Option (xM) :=
     f_m_putWord_2 w fu 0 m
def f_m_putNumber_18 (z : Int) : Nat → Int → xM → Option (xM)
  | 0, _, _ => none
  | n + 1, x2, m =>
     (if 0 < xw x2 then (if xw x2 = 0 then none
      else (if xw 10 = 0 then none
      else (Option.bind (f_m_put (48 + (xirem (xidiv z x2) 10)) m) fun q0 =>
      (if xw 10 = 0 then none
      else f_m_putNumber_18 z n (xidiv x2 10) q0))))
      else some m)
def f_m_putNumber_2 (z : Int) : Nat → Int → xM → Option (xM)
  | 0, _, _ => none
  | n + 1, x2, m =>
     (if xw x2 = 0 then none
      else (if xw 9 < xw (xidiv z x2) then f_m_putNumber_2 z n (x2 * 10) m
      else f_m_putNumber_18 z fu x2 m))
def f_m_putNumber (z : Int) (m : xM) : Option (xM) :=
     f_m_putNumber_2 z fu 1 m
def f_m_format_169 (m : xM) : Option (Int × xM) :=
     some ((m 0 11), m)
def f_m_format_110 : Nat → Int → xM → Option (Int × xM)
  | 0, _, _ => none
  | n + 1, x1, m =>
     (if xw x1 < xw 2 then (Option.bind (f_m_put 32 m) fun q8 =>
      (Option.bind (f_m_of x1 0 q8) fun q9 =>
      (Option.bind (f_m_putNumber q9 q8) fun q10 =>
      (Option.bind (f_m_put 47 q10) fun q11 =>
      (Option.bind (f_m_of x1 1 q11) fun q12 =>
      (Option.bind (f_m_putNumber q12 q11) fun q13 =>
      (Option.bind (f_m_put 47 q13) fun q14 =>
      (Option.bind (f_m_of x1 4 q14) fun q15 =>
      (Option.bind (f_m_putNumber q15 q14) fun q16 =>
      f_m_format_110 n (x1 + 1) q16)))))))))
      else f_m_format_169 m)
def f_m_format_108 (m : xM) : Option (Int × xM) :=
     f_m_format_110 fu 0 m
def f_m_format_105 (s0 : Int) (m : xM) : Option (Int × xM) :=
     (Option.bind (f_m_putNumber s0 m) fun q7 =>
      f_m_format_108 q7)
def f_m_format_75 (m : xM) : Option (Int × xM) :=
     (Option.bind (f_m_put 32 m) fun q5 =>
      (Option.bind (f_m_isPhase 2 q5) fun q6 =>
      (if xw q6 = 0 then (if xib 4 3530 then f_m_format_105 (q5 1 4) q5
      else none)
      else (if xib 3 3530 then f_m_format_105 (q5 1 3) q5
      else none))))
def f_m_format_56 (m : xM) : Option (Int × xM) :=
     (Option.bind (f_m_putWord 23 m) fun q3 =>
      (Option.bind (f_m_isPhase 1 q3) fun q4 =>
      (if xw q4 = 0 then (Option.bind (f_m_isPhase 2 q3) fun q17 =>
      (if xw q17 = 0 then f_m_format_108 q3
      else f_m_format_75 q3))
      else f_m_format_75 q3)))
def f_m_format_56_010220 (m : xM) : Option (Int × xM) :=
     (Option.bind (f_m_putWord 22 m) fun q18 =>
      (Option.bind (f_m_isPhase 1 q18) fun q19 =>
      (if xw q19 = 0 then (Option.bind (f_m_isPhase 2 q18) fun q20 =>
      (if xw q20 = 0 then f_m_format_108 q18
      else f_m_format_75 q18))
      else f_m_format_75 q18)))
def f_m_format_56_010210 (m : xM) : Option (Int × xM) :=
     (Option.bind (f_m_putWord 21 m) fun q21 =>
      (Option.bind (f_m_isPhase 1 q21) fun q22 =>
      (if xw q22 = 0 then (Option.bind (f_m_isPhase 2 q21) fun q23 =>
      (if xw q23 = 0 then f_m_format_108 q21
      else f_m_format_75 q21))
      else f_m_format_75 q21)))
def f_m_format_56_010200 (m : xM) : Option (Int × xM) :=
     (Option.bind (f_m_putWord 20 m) fun q24 =>
      (Option.bind (f_m_isPhase 1 q24) fun q25 =>
      (if xw q25 = 0 then (Option.bind (f_m_isPhase 2 q24) fun q26 =>
      (if xw q26 = 0 then f_m_format_108 q24
      else f_m_format_75 q24))
      else f_m_format_75 q24)))
def f_m_format (m : xM) : Option (Int × xM) :=
     (Option.bind (f_m_isPhase 0 (xu (xu m 0 6 0) 0 11 0)) fun q0 =>
      (if xw q0 = 0 then (Option.bind (f_m_isPhase 1 (xu (xu m 0 6 0) 0 11 0)) fun q1 =>
      (if xw q1 = 0 then (Option.bind (f_m_isPhase 2 (xu (xu m 0 6 0) 0 11 0)) fun q2 =>
      (if xw q2 = 0 then f_m_format_56 (xu (xu m 0 6 0) 0 11 0)
      else f_m_format_56_010220 (xu (xu m 0 6 0) 0 11 0)))
      else f_m_format_56_010210 (xu (xu m 0 6 0) 0 11 0)))
      else f_m_format_56_010200 (xu (xu m 0 6 0) 0 11 0)))
def f_m_formattedByte (p : Int) (m : xM) : Option (Int × xM) :=
     (Option.bind (f_m_inRange p 0 ((m 0 11) - 1) (xvw [] (xu m 0 6 0))) fun q0 =>
      (if xw q0 = 0 then some ((-1), (xu m 0 6 0))
      else (if xib p 60 then some ((m 7 (xix p)), (xu m 0 6 0))
      else none)))
def f_m_clear_64 (m : xM) : Option (xM) :=
     (if xib 17 3530 then (if xib 18 3530 then (if xib 19 3530 then some (xu (xu (xu m 0 17 2) 0 18 8) 0 19 1)
      else none)
      else none)
      else none)
def f_m_clear_39 (m : xM) : Option (xM) :=
     (if xib 12 3530 then (if xib 13 3530 then (if xib 14 3530 then (if xib 15 3530 then (if xib 16 3530 then f_m_clear_64 (xu (xu (xu (xu (xu m 0 12 2) 0 13 5) 0 14 4) 0 15 1) 0 16 3)
      else none)
      else none)
      else none)
      else none)
      else none)
def f_m_clear_21 : Nat → Int → xM → Option (xM)
  | 0, _, _ => none
  | n + 1, x1, m =>
     (if xw x1 < xw 4 then (if xib (21 + x1) 3530 then f_m_clear_21 n (x1 + 1) (xu m 0 (xix (21 + x1)) 2)
      else none)
      else f_m_clear_39 m)
def f_m_clear_19 (m : xM) : Option (xM) :=
     f_m_clear_21 fu 0 m
def f_m_clear_2 : Nat → Int → xM → Option (xM)
  | 0, _, _ => none
  | n + 1, x1, m =>
     (if xw x1 < xw 3530 then (if xib x1 3530 then f_m_clear_2 n (x1 + 1) (xu m 0 (xix x1) 0)
      else none)
      else f_m_clear_19 m)
def f_m_clear (m : xM) : Option (xM) :=
     f_m_clear_2 fu 0 m
def f_m_undoCount (m : xM) : Option (Int × xM) :=
     some ((m 0 5), (xu m 0 6 0))
def f_m_undo (m : xM) : Option (Int × xM) :=
     (if xw (m 0 5) = 0 then some ((-1), (xu m 0 6 0))
      else (Option.bind (f_m_copyC ((m 0 5) - 1) 0 (xvw [5, 1] (xu (xu m 0 6 0) 0 5 ((m 0 5) - 1)))) fun q0 =>
      some (((xmg [5, 1] 2 (xu (xu m 0 6 0) 0 5 ((m 0 5) - 1)) q0) 0 5), (xmg [5, 1] 2 (xu (xu m 0 6 0) 0 5 ((m 0 5) - 1)) q0))))
def f_m_saveSnapshot (m : xM) : Option (xM) :=
     (Option.bind (f_m_copyA 0 0 (xvw [1, 4] (xu m 0 6 0))) fun q0 =>
      some (xu (xmg [1, 4] 2 (xu m 0 6 0) q0) 0 7 1))
def f_m_restoreSnapshot (m : xM) : Option (Int × xM) :=
     (if xw (m 0 7) = 0 then some (0, (xu m 0 6 0))
      else (Option.bind (f_m_copyA 0 0 (xvw [4, 1] (xu m 0 6 0))) fun q0 =>
      some (1, (xu (xmg [4, 1] 2 (xu m 0 6 0) q0) 0 5 0))))
def f_m_feed_120 (a : Int) (b : Int) (c : Int) (d0 : Int) (e : Int) (m : xM) : Option (Int × xM) :=
     some ((m 0 13), m)
def f_m_feed_104 (a : Int) (b : Int) (c : Int) (d0 : Int) (e : Int) (k23 : Int → xM → Option (Int × xM)) (x6 : Int) (m : xM) : Option (Int × xM) :=
     k23 (x6 + 1) (xu m 0 13 ((m 0 13) + 1))
def f_m_feed_76 (a : Int) (b : Int) (c : Int) (d0 : Int) (e : Int) (k23 : Int → xM → Option (Int × xM)) (x6 : Int) (s0 : Int) (m : xM) : Option (Int × xM) :=
     (if xw 4 = 0 then none
      else (if xib (m 0 13) 600 then f_m_feed_104 a b c d0 e k23 x6 (xu m 8 (xix (m 0 13)) (xiand (xishr s0 (24 - (8 * (xirem x6 4)))) 255))
      else none))
def f_m_feed_23 (a : Int) (b : Int) (c : Int) (d0 : Int) (e : Int) : Nat → Int → xM → Option (Int × xM)
  | 0, _, _ => none
  | n + 1, x6, m =>
     (if xw x6 < xw 20 then (if xw x6 < xw 4 then f_m_feed_76 a b c d0 e (f_m_feed_23 a b c d0 e n) x6 a m
      else (if xw x6 < xw 8 then f_m_feed_76 a b c d0 e (f_m_feed_23 a b c d0 e n) x6 b m
      else (if xw x6 < xw 12 then f_m_feed_76 a b c d0 e (f_m_feed_23 a b c d0 e n) x6 c m
      else (if xw x6 < xw 16 then f_m_feed_76 a b c d0 e (f_m_feed_23 a b c d0 e n) x6 d0 m
      else f_m_feed_76 a b c d0 e (f_m_feed_23 a b c d0 e n) x6 e m))))
      else f_m_feed_120 a b c d0 e m)
def f_m_feed (a : Int) (b : Int) (c : Int) (d0 : Int) (e : Int) (m : xM) : Option (Int × xM) :=
     (if xw 600 < xw ((m 0 13) + 20) then some ((-1), (xu m 0 6 0))
      else f_m_feed_23 a b c d0 e fu 0 (xu m 0 6 0))
def f_m_errorPosition (m : xM) : Option (Int × xM) :=
     some ((m 0 20), (xu m 0 6 0))
def f_m_byteAt (p : Int) (m : xM) : Option (Int) :=
     (if xw p < xw (m 0 14) then (if xib p 600 then some (m 8 (xix p))
      else none)
      else some (-1))
def f_m_isLetter (p : Int) (m : xM) : Option (Int) :=
     (Option.bind (f_m_byteAt p m) fun q0 =>
      (if xw q0 < xw 97 then some 0
      else (Option.bind (f_m_byteAt p m) fun q1 =>
      (if xw 122 < xw q1 then some 0
      else some 1))))
def f_m_isDigit (p : Int) (m : xM) : Option (Int) :=
     (Option.bind (f_m_byteAt p m) fun q0 =>
      (if xw q0 < xw 48 then some 0
      else (Option.bind (f_m_byteAt p m) fun q1 =>
      (if xw 57 < xw q1 then some 0
      else some 1))))
def f_m_scan_26 (k0 : xM → Option (xM)) (m : xM) : Option (xM) :=
     k0 (xu m 0 15 ((m 0 15) + 1))
def f_m_scan_144 (m : xM) : Option (xM) :=
     some (xu m 0 17 2)
def f_m_scan_120 : Nat → xM → Option (xM)
  | 0, _ => none
  | n + 1, m =>
     (Option.bind (f_m_isDigit (m 0 15) m) fun q4 =>
      (if xw q4 = 0 then f_m_scan_144 m
      else f_m_scan_120 n (xu m 0 15 ((m 0 15) + 1))))
def f_m_scan_101 (m : xM) : Option (xM) :=
     some (xu m 0 17 1)
def f_m_scan_77 : Nat → xM → Option (xM)
  | 0, _ => none
  | n + 1, m =>
     (Option.bind (f_m_isLetter (m 0 15) m) fun q5 =>
      (if xw q5 = 0 then f_m_scan_101 m
      else f_m_scan_77 n (xu m 0 15 ((m 0 15) + 1))))
def f_m_scan_39 (m : xM) : Option (xM) :=
     (if xw (m 0 15) < xw (m 0 14) then (Option.bind (f_m_isLetter (m 0 15) (xu m 0 16 (m 0 15))) fun q2 =>
      (if xw q2 = 0 then (Option.bind (f_m_isDigit (m 0 15) (xu m 0 16 (m 0 15))) fun q3 =>
      (if xw q3 = 0 then some (xu (xu (xu m 0 16 (m 0 15)) 0 15 ((m 0 15) + 1)) 0 17 3)
      else f_m_scan_120 fu (xu m 0 16 (m 0 15))))
      else f_m_scan_77 fu (xu m 0 16 (m 0 15))))
      else some (xu (xu m 0 16 (m 0 15)) 0 17 0))
def f_m_scan_0 : Nat → xM → Option (xM)
  | 0, _ => none
  | n + 1, m =>
     (Option.bind (f_m_byteAt (m 0 15) m) fun q0 =>
      (if xw q0 = xw 32 then f_m_scan_26 (f_m_scan_0 n) m
      else (Option.bind (f_m_byteAt (m 0 15) m) fun q1 =>
      (if xw q1 = xw 10 then f_m_scan_26 (f_m_scan_0 n) m
      else f_m_scan_39 m))))
def f_m_scan (m : xM) : Option (xM) :=
     f_m_scan_0 fu m
def f_m_startText (z : Int) (m : xM) : Option (xM) :=
     (Option.bind (f_m_scan (xu (xu (xu (xu m 0 14 z) 0 15 0) 0 18 0) 0 21 0)) fun q0 =>
      some q0)
def f_m_finish_21 (s0 : Int) (m : xM) : Option (Int × xM) :=
     some ((m 0 18), (xu m 0 20 s0))
def f_m_finish (m : xM) : Option (Int × xM) :=
     (if xw (m 0 18) = 0 then f_m_finish_21 (-1) (xu m 0 13 0)
      else f_m_finish_21 (m 0 19) (xu m 0 13 0))
def f_m_flaw (z : Int) (m : xM) : Option (xM) :=
     (if xw (m 0 18) = 0 then some (xu (xu m 0 18 z) 0 19 (m 0 16))
      else some m)
def f_m_check (v : Int) (z : Int) (m : xM) : Option (xM) :=
     (if xw v = 0 then (Option.bind (f_m_flaw z m) fun q0 =>
      some q0)
      else some m)
def f_m_advance (m : xM) : Option (xM) :=
     (if xw (m 0 18) = 0 then (Option.bind (f_m_scan m) fun q0 =>
      some q0)
      else some m)
def f_m_isSymbol (z : Int) (m : xM) : Option (Int) :=
     (if xw (m 0 18) = 0 then (if xw (m 0 17) = xw 3 then (if xib (m 0 16) 600 then (if xw (m 8 (xix (m 0 16))) = xw z then some 1
      else some 0)
      else none)
      else some 0)
      else some 0)
def f_m_isWord_75 (w : Nat) (m : xM) (k39 : Int → Int → Option (Int)) (x3 : Int) (s0 : Int) : Option (Int) :=
     k39 s0 (x3 + 1)
def f_m_isWord_39 (w : Nat) (m : xM) : Nat → Int → Int → Option (Int)
  | 0, _, _ => none
  | n + 1, x2, x3 =>
     (if xw x2 = 0 then (if xbz x2 then some x2
      else none)
      else (if xw x3 < xw (xsl w) then (if xib x3 (xSby.getD w []).length then (if xib ((m 0 16) + x3) 600 then (if xw (xsc w (xix x3)) = xw (m 8 (xix ((m 0 16) + x3))) then f_m_isWord_75 w m (f_m_isWord_39 w m n) x3 1
      else f_m_isWord_75 w m (f_m_isWord_39 w m n) x3 0)
      else none)
      else none)
      else (if xbz x2 then some x2
      else none)))
def f_m_isWord_36 (w : Nat) (m : xM) (s0 : Int) : Option (Int) :=
     f_m_isWord_39 w m fu s0 0
def f_m_isWord_35 (w : Nat) (m : xM) : Option (Int) :=
     f_m_isWord_36 w m 0
def f_m_isWord (w : Nat) (m : xM) : Option (Int) :=
     (if xw (m 0 18) = 0 then (if xw (m 0 17) = xw 1 then (if xw (xsl w) = xw ((m 0 15) - (m 0 16)) then f_m_isWord_36 w m 1
      else f_m_isWord_35 w m)
      else f_m_isWord_35 w m)
      else f_m_isWord_35 w m)
def f_m_accept (w : Nat) (m : xM) : Option (Int × xM) :=
     (Option.bind (f_m_isWord w m) fun q0 =>
      (if xw q0 = 0 then (if xbz q0 then some (q0, m)
      else none)
      else (Option.bind (f_m_scan m) fun q1 =>
      (if xbz q0 then some (q0, q1)
      else none))))
def f_m_expectWord (w : Nat) (m : xM) : Option (xM) :=
     (Option.bind (f_m_isWord w m) fun q0 =>
      (Option.bind (f_m_check q0 1 m) fun q1 =>
      (Option.bind (f_m_advance q1) fun q2 =>
      some q2)))
def f_m_expect (z : Int) (m : xM) : Option (xM) :=
     (Option.bind (f_m_isSymbol z m) fun q0 =>
      (Option.bind (f_m_check q0 1 m) fun q1 =>
      (Option.bind (f_m_advance q1) fun q2 =>
      some q2)))
def f_m_value_7 (m : xM) : Nat → Int → Int → Option (Int)
  | 0, _, _ => none
  | n + 1, x1, x2 =>
     (if xw x2 < xw (m 0 15) then (if xw (m 0 17) = xw 2 then (if xib x2 600 then f_m_value_7 m n (if xwl (((10 * (xw x1)) + (xw (m 8 (xix x2)))) - 48) < xwl 2000000000 then ((10 * (xw x1)) + (xw (m 8 (xix x2)))) - 48 else 2000000000) (x2 + 1)
      else none)
      else some x1)
      else some x1)
def f_m_value (m : xM) : Option (Int) :=
     f_m_value_7 m fu 0 (m 0 16)
def f_m_readNumber_52 (a : Int) (b : Int) (x3 : Int) (s0 : Int) (m : xM) : Option (Int × xM) :=
     (Option.bind (f_m_check s0 2 m) fun q2 =>
      (Option.bind (f_m_advance q2) fun q3 =>
      (if xw (q3 0 18) = 0 then some (x3, q3)
      else some (a, q3))))
def f_m_readNumber_47 (a : Int) (b : Int) (x3 : Int) (m : xM) : Option (Int × xM) :=
     f_m_readNumber_52 a b x3 1 m
def f_m_readNumber_21 (a : Int) (b : Int) (s0 : Int) (m : xM) : Option (Int × xM) :=
     (Option.bind (f_m_check s0 1 m) fun q0 =>
      (Option.bind (f_m_value q0) fun q1 =>
      (if xw (q0 0 18) = 0 then (Option.bind (f_m_inRange q1 a b (xvw [] q0)) fun q4 =>
      (if xw q4 = 0 then f_m_readNumber_52 a b q1 0 q0
      else f_m_readNumber_47 a b q1 q0))
      else f_m_readNumber_47 a b q1 q0)))
def f_m_readNumber_16 (a : Int) (b : Int) (m : xM) : Option (Int × xM) :=
     f_m_readNumber_21 a b 1 m
def f_m_readNumber (a : Int) (b : Int) (m : xM) : Option (Int × xM) :=
     (if xw (m 0 18) = 0 then (if xw (m 0 17) = xw 2 then f_m_readNumber_16 a b m
      else f_m_readNumber_21 a b 0 m)
      else f_m_readNumber_16 a b m)
def f_m_readGreater_75 (a : Int) (b : Int) (t : Int) (s0 : Int) (m : xM) : Option (Int × xM) :=
     (Option.bind (f_m_check s0 4 m) fun q2 =>
      (Option.bind (f_m_value q2) fun q3 =>
      (Option.bind (f_m_advance q2) fun q4 =>
      some (q3, q4))))
def f_m_readGreater_70 (a : Int) (b : Int) (t : Int) (m : xM) : Option (Int × xM) :=
     f_m_readGreater_75 a b t 1 m
def f_m_readGreater_50 (a : Int) (b : Int) (t : Int) (s0 : Int) (m : xM) : Option (Int × xM) :=
     (Option.bind (f_m_check s0 2 m) fun q1 =>
      (if xw (q1 0 18) = 0 then (Option.bind (f_m_value q1) fun q5 =>
      (if xw t < xw q5 then f_m_readGreater_70 a b t q1
      else f_m_readGreater_75 a b t 0 q1))
      else f_m_readGreater_70 a b t q1))
def f_m_readGreater_45 (a : Int) (b : Int) (t : Int) (m : xM) : Option (Int × xM) :=
     f_m_readGreater_50 a b t 1 m
def f_m_readGreater_21 (a : Int) (b : Int) (t : Int) (s0 : Int) (m : xM) : Option (Int × xM) :=
     (Option.bind (f_m_check s0 1 m) fun q0 =>
      (if xw (q0 0 18) = 0 then (Option.bind (f_m_value q0) fun q6 =>
      (Option.bind (f_m_inRange q6 a b (xvw [] q0)) fun q7 =>
      (if xw q7 = 0 then f_m_readGreater_50 a b t 0 q0
      else f_m_readGreater_45 a b t q0)))
      else f_m_readGreater_45 a b t q0))
def f_m_readGreater_16 (a : Int) (b : Int) (t : Int) (m : xM) : Option (Int × xM) :=
     f_m_readGreater_21 a b t 1 m
def f_m_readGreater (a : Int) (b : Int) (t : Int) (m : xM) : Option (Int × xM) :=
     (if xw (m 0 18) = 0 then (if xw (m 0 17) = xw 2 then f_m_readGreater_16 a b t m
      else f_m_readGreater_21 a b t 0 m)
      else f_m_readGreater_16 a b t m)
def f_m_readRate_58 (x1 : Int) (x2 : Int) (s0 : Int) (s1 : Int) (s2 : Int) (m : xM) : Option (xM) :=
     (Option.bind (f_m_readGreater s2 s1 s0 m) fun q1 =>
      (if xw (q1.2 0 18) = 0 then (if xib (35 + x1) 3530 then (if xib (40 + x1) 3530 then (if xib 11 3530 then (if xib 11 3530 then some (xu (xu (xu q1.2 2 (xix (35 + x1)) x2) 2 (xix (40 + x1)) q1.1) 2 11 (((xu (xu q1.2 2 (xix (35 + x1)) x2) 2 (xix (40 + x1)) q1.1) 2 11) + 1))
      else none)
      else none)
      else none)
      else none)
      else some q1.2))
def f_m_readRate_31 (x1 : Int) (s0 : Int) (s1 : Int) (s2 : Int) (m : xM) : Option (xM) :=
     (Option.bind (f_m_readGreater s2 s1 s0 m) fun q0 =>
      (if xw x1 = 0 then f_m_readRate_58 x1 q0.1 0 9 1 q0.2
      else (if xib ((40 + x1) - 1) 3530 then f_m_readRate_58 x1 q0.1 (q0.2 2 (xix ((40 + x1) - 1))) 9 1 q0.2
      else none)))
def f_m_readRate (m : xM) : Option (xM) :=
     (if xib 11 3530 then (if xw (m 2 11) = 0 then f_m_readRate_31 (m 2 11) 0 80 4 m
      else (if xib ((35 + (m 2 11)) - 1) 3530 then f_m_readRate_31 (m 2 11) (m 2 (xix ((35 + (m 2 11)) - 1))) 80 4 m
      else none))
      else none)
def f_m_readTrain_43 (k2 : Int → xM → Option (xM)) (x1 : Int) (s0 : Int) (s1 : Int) (m : xM) : Option (xM) :=
     (if xib s1 3530 then k2 (x1 + 1) (xu m 2 (xix s1) s0)
      else none)
def f_m_readTrain_2 : Nat → Int → xM → Option (xM)
  | 0, _, _ => none
  | n + 1, x1, m =>
     (if xw x1 < xw 4 then (Option.bind (f_m_readNumber 1 20 m) fun q0 =>
      (if xw (q0.2 0 18) = 0 then f_m_readTrain_43 (f_m_readTrain_2 n) x1 q0.1 (21 + x1) q0.2
      else (if xib (21 + x1) 3530 then f_m_readTrain_43 (f_m_readTrain_2 n) x1 (q0.2 2 (xix (21 + x1))) (21 + x1) q0.2
      else none)))
      else some m)
def f_m_readTrain (m : xM) : Option (xM) :=
     f_m_readTrain_2 fu 0 m
def f_m_readDelay (m : xM) : Option (xM) :=
     (Option.bind (f_m_readNumber 1 9 m) fun q0 =>
      (Option.bind (f_m_readGreater 0 60 (2 * q0.1) q0.2) fun q1 =>
      (if xw (q1.2 0 18) = 0 then (if xib 15 3530 then (if xib 16 3530 then some (xu (xu q1.2 2 15 q0.1) 2 16 q1.1)
      else none)
      else none)
      else some q1.2)))
def f_m_readNoise_129 (k33 : xM → Option (xM)) (m : xM) : Option (xM) :=
     (Option.bind (f_m_advance m) fun q5 =>
      k33 q5)
def f_m_readNoise_88 (k33 : xM → Option (xM)) (s0 : Int) (m : xM) : Option (xM) :=
     (Option.bind (f_m_check s0 3 m) fun q4 =>
      (if xw (q4 0 18) = 0 then (if xib 19 3530 then (Option.bind (f_m_value q4) fun q6 =>
      (if xib (25 + (q4 2 19)) 3530 then (if xib 19 3530 then (if xib 19 3530 then f_m_readNoise_129 k33 (xu (xu q4 2 (xix (25 + (q4 2 19))) q6) 2 19 (((xu q4 2 (xix (25 + (q4 2 19))) q6) 2 19) + 1))
      else none)
      else none)
      else none))
      else none)
      else f_m_readNoise_129 k33 q4))
def f_m_readNoise_83 (k33 : xM → Option (xM)) (m : xM) : Option (xM) :=
     f_m_readNoise_88 k33 1 m
def f_m_readNoise_33 : Nat → xM → Option (xM)
  | 0, _ => none
  | n + 1, m =>
     (if xw (m 0 18) = 0 then (if xw (m 0 17) = xw 2 then (Option.bind (f_m_value m) fun q1 =>
      (Option.bind (f_m_inRange q1 0 9 (xvw [] m)) fun q2 =>
      (Option.bind (f_m_check q2 2 m) fun q3 =>
      (if xw (q3 0 18) = 0 then (if xib 19 3530 then (if xw (q3 2 19) < xw 10 then f_m_readNoise_83 (f_m_readNoise_33 n) q3
      else f_m_readNoise_88 (f_m_readNoise_33 n) 0 q3)
      else none)
      else f_m_readNoise_83 (f_m_readNoise_33 n) q3))))
      else some m)
      else some m)
def f_m_readNoise_29 (s0 : Int) (m : xM) : Option (xM) :=
     (Option.bind (f_m_check s0 1 m) fun q0 =>
      f_m_readNoise_33 fu q0)
def f_m_readNoise_24 (m : xM) : Option (xM) :=
     f_m_readNoise_29 1 m
def f_m_readNoise (m : xM) : Option (xM) :=
     (if xib 19 3530 then (if xw (m 0 18) = 0 then (if xw (m 0 17) = xw 2 then f_m_readNoise_24 (xu m 2 19 0)
      else f_m_readNoise_29 0 (xu m 2 19 0))
      else f_m_readNoise_24 (xu m 2 19 0))
      else none)
def f_m_readOne_31 (f : Int) (a : Int) (b : Int) (s0 : Int) (s1 : Int) (m : xM) : Option (xM) :=
     (if xib s1 3530 then some (xu m 2 (xix s1) s0)
      else none)
def f_m_readOne (f : Int) (a : Int) (b : Int) (m : xM) : Option (xM) :=
     (Option.bind (f_m_readNumber a b m) fun q0 =>
      (if xw (q0.2 0 18) = 0 then f_m_readOne_31 f a b q0.1 f q0.2
      else (if xib f 3530 then f_m_readOne_31 f a b (q0.2 2 (xix f)) f q0.2
      else none)))
def f_m_readClause_154 (m : xM) : Option (xM) :=
     (Option.bind (f_m_expect 59 m) fun q9 =>
      some q9)
def f_m_readClause (m : xM) : Option (xM) :=
     (Option.bind (f_m_accept 12 m) fun q0 =>
      (if xw q0.1 = 0 then (Option.bind (f_m_accept 13 q0.2) fun q1 =>
      (if xw q1.1 = 0 then (Option.bind (f_m_accept 14 q1.2) fun q2 =>
      (if xw q2.1 = 0 then (Option.bind (f_m_accept 15 q2.2) fun q3 =>
      (if xw q3.1 = 0 then (Option.bind (f_m_accept 16 q3.2) fun q4 =>
      (if xw q4.1 = 0 then (Option.bind (f_m_accept 17 q4.2) fun q5 =>
      (if xw q5.1 = 0 then (Option.bind (f_m_accept 18 q5.2) fun q6 =>
      (if xw q6.1 = 0 then (Option.bind (f_m_expectWord 19 q6.2) fun q7 =>
      (Option.bind (f_m_readNoise q7) fun q8 =>
      f_m_readClause_154 q8))
      else (Option.bind (f_m_readOne 18 1 50 q6.2) fun q10 =>
      f_m_readClause_154 q10)))
      else (Option.bind (f_m_readOne 17 1 5 q5.2) fun q11 =>
      f_m_readClause_154 q11)))
      else (Option.bind (f_m_readDelay q4.2) fun q12 =>
      f_m_readClause_154 q12)))
      else (Option.bind (f_m_readOne 14 1 7 q3.2) fun q13 =>
      f_m_readClause_154 q13)))
      else (Option.bind (f_m_readOne 13 0 50 q2.2) fun q14 =>
      f_m_readClause_154 q14)))
      else (Option.bind (f_m_readOne 12 0 9 q1.2) fun q15 =>
      f_m_readClause_154 q15)))
      else (Option.bind (f_m_readTrain q0.2) fun q16 =>
      f_m_readClause_154 q16)))
def f_m_readAll_86 : Nat → xM → Option (xM)
  | 0, _ => none
  | n + 1, m =>
     (if xw (m 0 18) = 0 then (if xw (m 0 17) = 0 then some m
      else (Option.bind (f_m_readClause m) fun q6 =>
      f_m_readAll_86 n q6))
      else some m)
def f_m_readAll_80 (m : xM) : Option (xM) :=
     (Option.bind (f_m_expect 59 m) fun q5 =>
      f_m_readAll_86 fu q5)
def f_m_readAll_65 (k32 : xM → Option (xM)) (s0 : Int) (m : xM) : Option (xM) :=
     (Option.bind (f_m_check s0 3 m) fun q8 =>
      (Option.bind (f_m_advance q8) fun q9 =>
      (Option.bind (f_m_readRate q9) fun q10 =>
      k32 q10)))
def f_m_readAll_32 : Nat → xM → Option (xM)
  | 0, _ => none
  | n + 1, m =>
     (if xw (m 0 18) = 0 then (Option.bind (f_m_isSymbol 44 m) fun q7 =>
      (if xw q7 = 0 then f_m_readAll_80 m
      else (if xib 11 3530 then (if xw (m 2 11) < xw 5 then f_m_readAll_65 (f_m_readAll_32 n) 1 m
      else f_m_readAll_65 (f_m_readAll_32 n) 0 m)
      else none)))
      else f_m_readAll_80 m)
def f_m_readAll (m : xM) : Option (xM) :=
     (Option.bind (f_m_expectWord 10 m) fun q0 =>
      (Option.bind (f_m_readOne 2 0 9 q0) fun q1 =>
      (Option.bind (f_m_expect 59 q1) fun q2 =>
      (Option.bind (f_m_expectWord 11 q2) fun q3 =>
      (Option.bind (f_m_readRate q3) fun q4 =>
      f_m_readAll_32 fu q4)))))
def f_m_load (z : Int) (m : xM) : Option (Int × xM) :=
     (Option.bind (f_m_inRange z 0 (m 0 13) (xvw [] (xu m 0 6 0))) fun q0 =>
      (if xw q0 = 0 then (Option.bind (f_m_raise 1 (xu m 0 6 0)) fun q6 =>
      some (q6.1, q6.2))
      else (Option.bind (f_m_clear (xvw [2] (xu m 0 6 0))) fun q1 =>
      (Option.bind (f_m_startText z (xmg [2] 1 (xu m 0 6 0) q1)) fun q2 =>
      (Option.bind (f_m_readAll q2) fun q3 =>
      (Option.bind (f_m_finish q3) fun q4 =>
      (if xw q4.1 = 0 then (Option.bind (f_m_copyA 0 0 (xvw [2, 1] q4.2)) fun q5 =>
      (if xib 11 3530 then some (((xmg [2, 1] 2 q4.2 q5) 1 11), (xu (xu (xmg [2, 1] 2 q4.2 q5) 0 5 0) 0 7 0))
      else none))
      else some ((-10) - (q4.2 0 18), q4.2))))))))
def f_m_emit (z : Int) (m : xM) : Option (xM) :=
     (if xw (m 0 18) = 0 then (if xib (m 0 25) 200 then some (xu (xu m 10 (xix (m 0 25)) z) 0 25 ((m 0 25) + 1))
      else none)
      else some m)
def f_m_enter_15 (s0 : Int) (m : xM) : Option (xM) :=
     (Option.bind (f_m_check s0 3 m) fun q0 =>
      (Option.bind (f_m_advance (xu q0 0 21 ((q0 0 21) + 1))) fun q1 =>
      some q1))
def f_m_enter (m : xM) : Option (xM) :=
     (if xw (m 0 21) < xw 6 then f_m_enter_15 1 m
      else f_m_enter_15 0 m)
def f_m_compileValue_15 (m : xM) : Option (xM) :=
     (Option.bind (f_m_readNumber 0 99999 m) fun q0 =>
      (Option.bind (f_m_emit q0.1 q0.2) fun q1 =>
      some q1))
def f_m_compileValue_72 (x1 : Int) (s0 : Int) (m : xM) : Option (xM) :=
     (Option.bind (f_m_check s0 1 m) fun q2 =>
      (Option.bind (f_m_emit ((-1) - x1) q2) fun q3 =>
      (Option.bind (f_m_advance q3) fun q4 =>
      some q4)))
def f_m_compileValue_57 (x1 : Int) (m : xM) : Option (xM) :=
     (if xw x1 < xw 5 then f_m_compileValue_72 x1 1 m
      else f_m_compileValue_72 x1 0 m)
def f_m_compileValue_29 : Nat → Int → xM → Option (xM)
  | 0, _, _ => none
  | n + 1, x1, m =>
     (if xw x1 < xw 5 then (if xib x1 5 then (Option.bind (f_m_isWord (xix x1) m) fun q6 =>
      (if xw q6 = 0 then f_m_compileValue_29 n (x1 + 1) m
      else f_m_compileValue_57 x1 m))
      else none)
      else f_m_compileValue_57 x1 m)
def f_m_compileValue (m : xM) : Option (xM) :=
     (if xw (m 0 18) = 0 then (if xw (m 0 17) = xw 2 then f_m_compileValue_15 m
      else f_m_compileValue_29 fu 0 m)
      else f_m_compileValue_15 m)
def f_m_operate (o : Int) (x : Int) (y : Int) (m : xM) : Option (Int) :=
     (if xw o = (-24) then some (xland x y)
      else (if xw o = (-23) then some (xlor x y)
      else (if xw o = (-22) then (if 0 < xw (xlcmp x y) then some 1
      else some 0)
      else (if xw o = (-21) then (if xw (xlcmp x y) = 0 then some 1
      else some 0)
      else (if xw o = (-20) then (if xw (xlcmp x y) < 0 then some 1
      else some 0)
      else some (xlor x y))))))
def f_m_property (e : Int) (z : Int) (m : xM) : Option (Int) :=
     (if xw z = 0 then some e
      else (if xw z = 1 then (if xib (1490 + (4 * e)) 3530 then some (m 1 (xix (1490 + (4 * e))))
      else none)
      else (if xw z = 2 then (if xib ((1490 + (4 * e)) + 1) 3530 then some (m 1 (xix ((1490 + (4 * e)) + 1)))
      else none)
      else (if xw z = 3 then (if xib ((1490 + (4 * e)) + 2) 3530 then some (1 + (m 1 (xix ((1490 + (4 * e)) + 2))))
      else none)
      else (if xib ((1490 + (4 * e)) + 3) 3530 then some (1 + (m 1 (xix ((1490 + (4 * e)) + 3))))
      else none)))))
def f_m_holdsFor_124 (e : Int) (m : xM) : Option (Int × xM) :=
     (if xib 0 200 then (if xw (xlcmp (m 11 0) 1) = 0 then some (1, m)
      else some (0, m))
      else none)
def f_m_holdsFor_118 (e : Int) (k4 : Int → Int → xM → Option (Int × xM)) (x2 : Int) (x3 : Int) (m : xM) : Option (Int × xM) :=
     k4 x2 (x3 + 1) m
def f_m_holdsFor_81 (e : Int) (k4 : Int → Int → xM → Option (Int × xM)) (x2 : Int) (x3 : Int) (s0 : Int) (s1 : Int) (m : xM) : Option (Int × xM) :=
     (if xib s1 200 then f_m_holdsFor_118 e k4 (x2 + 1) x3 (xu m 11 (xix s1) s0)
      else none)
def f_m_holdsFor_4 (e : Int) : Nat → Int → Int → xM → Option (Int × xM)
  | 0, _, _, _ => none
  | n + 1, x2, x3, m =>
     (if xw x3 < xw (m 0 25) then (if xib x3 200 then (if xw (m 10 (xix x3)) = xw (-23) then (if xib (x2 - 1) 200 then (if xib (x2 - 1) 200 then f_m_holdsFor_118 e (f_m_holdsFor_4 e n) x2 x3 (xu m 11 (xix (x2 - 1)) (1 - (m 11 (xix (x2 - 1)))))
      else none)
      else none)
      else (if xw (-20) < xw (m 10 (xix x3)) then (if xw (m 10 (xix x3)) < 0 then (Option.bind (f_m_property e ((-1) - (m 10 (xix x3))) m) fun q1 =>
      f_m_holdsFor_81 e (f_m_holdsFor_4 e n) x2 x3 (xw q1) x2 m)
      else f_m_holdsFor_81 e (f_m_holdsFor_4 e n) x2 x3 (xw (m 10 (xix x3))) x2 m)
      else (if xib ((x2 + (-1)) - 1) 200 then (if xib (x2 + (-1)) 200 then (Option.bind (f_m_operate (m 10 (xix x3)) (m 11 (xix ((x2 + (-1)) - 1))) (m 11 (xix (x2 + (-1)))) (xvw [] m)) fun q0 =>
      (if xib ((x2 + (-1)) - 1) 200 then f_m_holdsFor_118 e (f_m_holdsFor_4 e n) (x2 + (-1)) x3 (xu m 11 (xix ((x2 + (-1)) - 1)) q0)
      else none))
      else none)
      else none)))
      else none)
      else f_m_holdsFor_124 e m)
def f_m_holdsFor (e : Int) (m : xM) : Option (Int × xM) :=
     f_m_holdsFor_4 e fu 0 0 m

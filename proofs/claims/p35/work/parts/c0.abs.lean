/-! ===== what the class, the reference and the law's own line do, over lists of numbers ===== -/
/-- numbers by their places in the reference's row; lists, and lists of rows, by the places where they begin there -/
abbrev aS : Type := (Nat → Int) × (Nat → List Int) × (Nat → List (List Int))
def aN (s : aS) (j : Nat) (x : Int) : aS := (xup s.1 j x, s.2)
def aL (s : aS) (j : Nat) (l : List Int) : aS := (s.1, (fun k => if k = j then l else s.2.1 k), s.2.2)
def aF (s : aS) (j : Nat) (l : List (List Int)) : aS := (s.1, s.2.1, fun k => if k = j then l else s.2.2 k)
theorem aN_1 (s : aS) (j k : Nat) (x : Int) : (aN s j x).1 k = if k = j then x else s.1 k := rfl
theorem aN_2 (s : aS) (j : Nat) (x : Int) : (aN s j x).2 = s.2 := rfl
theorem aL_1 (s : aS) (j : Nat) (l : List Int) : (aL s j l).1 = s.1 := rfl
theorem aL_2 (s : aS) (j k : Nat) (l : List Int) : (aL s j l).2.1 k = if k = j then l else s.2.1 k := rfl
theorem aL_3 (s : aS) (j : Nat) (l : List Int) : (aL s j l).2.2 = s.2.2 := rfl
theorem aF_1 (s : aS) (j : Nat) (l : List (List Int)) : (aF s j l).1 = s.1 := rfl
theorem aF_2 (s : aS) (j : Nat) (l : List (List Int)) : (aF s j l).2.1 = s.2.1 := rfl
theorem aF_3 (s : aS) (j k : Nat) (l : List (List Int)) : (aF s j l).2.2 k = if k = j then l else s.2.2 k := rfl
theorem aL_aL (s : aS) (j : Nat) (a b : List Int) : aL (aL s j a) j b = aL s j b := by
  unfold aL
  refine Prod.ext rfl (Prod.ext (funext fun k => ?_) rfl)
  dsimp only
  by_cases h : k = j
  · rw [if_pos h, if_pos h]
  · rw [if_neg h, if_neg h, if_neg h]
theorem aL_self (s : aS) (j : Nat) : aL s j (s.2.1 j) = s := by
  unfold aL
  refine Prod.ext rfl (Prod.ext (funext fun k => ?_) rfl)
  dsimp only
  by_cases h : k = j
  · rw [if_pos h, h]
  · rw [if_neg h]
theorem aF_aF (s : aS) (j : Nat) (a b : List (List Int)) : aF (aF s j a) j b = aF s j b := by
  unfold aF
  refine Prod.ext rfl (Prod.ext rfl (funext fun k => ?_))
  dsimp only
  by_cases h : k = j
  · rw [if_pos h, if_pos h]
  · rw [if_neg h, if_neg h, if_neg h]
theorem aF_self (s : aS) (j : Nat) : aF s j (s.2.2 j) = s := by
  unfold aF
  refine Prod.ext rfl (Prod.ext rfl (funext fun k => ?_))
  dsimp only
  by_cases h : k = j
  · rw [if_pos h, h]
  · rw [if_neg h]
def aTell (k e : Int) (s : aS) : aS := aF s 1490 ((if ((s.2.2 1490)).length = 60 then ((s.2.2 1490)).drop 1 else (s.2.2 1490)) ++ [[s.1 0, k, e, if s.1 1 = 2 then s.1 3 else -1]])
/-- a dictionary behind a byte, and what the byte costs -/
def aUse (v : Int) (l : List Int) : List Int := v :: (l.filter fun w => decide (w ≠ v)).take 7
def aPay (v : Int) (l : List Int) : Int := if v ∈ l then 1 else 3
def aWr : List Int → List Int → List Int
  | ws, [] => ws
  | ws, v :: t => aWr (aUse v ws) t
def aCo : List Int → List Int → Int
  | _, [] => 0
  | ws, v :: t => aPay v ws + aCo (aUse v ws) t
def aDict (e : Nat) (s : aS) : List Int := if s.1 ((56 + 717 * e) + 9) = 0 then (s.2.1 (56 + 717 * e + 10)) else []
def aCost (e : Nat) (b : List Int) (s : aS) : Int := (if s.1 ((56 + 717 * e) + 9) = 0 then 4 else 5) + aCo (aDict e s) b
def aBad (s : aS) : Int := if s.1 2 < s.1 (25 + (s.1 45 % s.1 19).toNat) + s.1 3 then 1 else 0
def aItem (e : Nat) (num : Int) (b : List Int) (s : aS) : List Int := [s.1 0 + s.1 15, 0, 1 - (e : Int), num, aBad s, if s.1 ((56 + 717 * e) + 9) = 0 then 0 else 1] ++ b
def aLaunch (e : Nat) (num : Int) (b : List Int) (s : aS) : aS :=
  aN (aN (aN (aN (aF (aN (aL s ((56 + 717 * e) + 10) (aWr (aDict e s) b)) ((56 + 717 * e) + 5) (s.1 ((56 + 717 * e) + 5) - aCost e b s)) 1730 ((s.2.2 1730) ++ [aItem e num b s])) ((56 + 717 * e) + 9) 0) 45 (s.1 45 + 1)) 46 (s.1 46 + aBad s)) 54 (s.1 54 + aCost e b s)
def aRecv (e : Nat) (v : Int) (s : aS) : aS :=
  aN (aN (if ((s.2.1 (56 + 717 * e + 317))).length < 400 then aL (aL s ((56 + 717 * e) + 18) (aUse v ((s.2.1 (56 + 717 * e + 18))))) ((56 + 717 * e) + 317) ((s.2.1 (56 + 717 * e + 317)) ++ [v]) else aL s ((56 + 717 * e) + 18) (aUse v ((s.2.1 (56 + 717 * e + 18))))) ((56 + 717 * e) + 4) (s.1 ((56 + 717 * e) + 4) + 1)) 55 (s.1 55 + 1)
def aRecvs (e : Nat) : List Int → aS → aS
  | [], s => s
  | v :: t, s => aRecvs e t (aRecv e v s)
def aAck (e : Nat) (num : Int) (s : aS) : aS := aN (aN (aF s ((56 + 717 * e) + 26) (((s.2.2 (56 + 717 * e + 26))).filter fun f => decide (f.getD 0 0 ≠ num))) 8 0) 9 (s.1 9 + 1)
/-- a frame that is received -/
def aTake (e : Nat) (num mk : Int) (b : List Int) (s : aS) : aS :=
  let t := aRecvs e b (if mk = 1 then aTell 7 e (aL s ((56 + 717 * e) + 18) []) else s)
  aF (aN t ((56 + 717 * e) + 3) (t.1 ((56 + 717 * e) + 3) + 1)) 1730 ((t.2.2 1730) ++ [[t.1 0 + t.1 15, 1, 1 - (e : Int), num]])
def aLand (it : List Int) (s : aS) : aS :=
  if it.getD 1 0 = 1 then aAck (it.getD 2 0).toNat (it.getD 3 0) s
  else if it.getD 4 0 = 1 ∨ it.getD 3 0 ≠ s.1 ((56 + 717 * (it.getD 2 0).toNat) + 3) then aN s 47 (s.1 47 + 1)
  else aTake (it.getD 2 0).toNat (it.getD 3 0) (it.getD 5 0) (it.drop 6) s
def aLands (t : Int) : List (List Int) → aS → aS
  | [], s => s
  | it :: r, s => aLands t r (if it.getD 0 0 = t then aLand it s else s)
def aArr (s : aS) : aS := aLands (s.1 0) ((s.2.2 1730)) (aF s 1730 (((s.2.2 1730)).filter fun it => decide (it.getD 0 0 ≠ s.1 0)))
def aOff (e : Nat) (s : aS) : aS := aF (aL s ((56 + 717 * e) + 117) []) ((56 + 717 * e) + 26) []
def aHang (s : aS) : aS :=
  let t := aOff 1 (aOff 0 (aF (aN s 1 0) 1730 []))
  aTell 5 (-1) (aN t 52 (t.1 52 + 1))
/-- the greatest rate below k whose need is at most q -/
def aRt (s : aS) (q : Int) : Nat → Int
  | 0 => -1
  | k + 1 => if s.1 (40 + k) ≤ q then (k : Int) else aRt s q k
def aMark (l : List (List Int)) : List (List Int) := l.map fun f => f.set 2 1
def aOn (e : Nat) (s : aS) : aS :=
  aN (aN (aN (aF s ((56 + 717 * e) + 26) (aMark (((s.2.2 (56 + 717 * e + 26))).filter fun f => decide (s.1 ((56 + 717 * (1 - e)) + 3) ≤ f.getD 0 0)))) ((56 + 717 * e) + 5) 0) ((56 + 717 * e) + 6) 0) ((56 + 717 * e) + 9) 1
def aUp (r : Int) (s : aS) : aS :=
  let t := aOn 1 (aOn 0 (aF (aN (aN (aN (aN s 1 2) 3 r) 8 0) 9 0) 1730 []))
  aTell 1 (-1) (aN t 53 (t.1 53 + 1))
def aOnline (s : aS) : aS := if aRt s (s.1 2) (s.1 11).toNat < 0 then aHang s else aUp (aRt s (s.1 2) (s.1 11).toNat) s
def aFst (a : Int) (l : List (List Int)) : Nat := l.findIdx fun f => f.getD 2 0 == a
def aFail (e : Nat) (s : aS) : aS := aTell 6 e (aN (aN (aN (aN (aF s ((56 + 717 * e) + 26) (aMark ((s.2.2 (56 + 717 * e + 26))))) ((56 + 717 * e) + 9) 1) 48 (s.1 48 + 1)) 8 (s.1 8 + 1)) 9 0)
def aFall (s : aS) : aS := if s.1 3 = 0 then aHang s else aTell 2 (-1) (aN (aN (aN s 3 (s.1 3 - 1)) 8 0) 49 (s.1 49 + 1))
def aTimer (e : Nat) (s : aS) : aS :=
  if aFst 0 ((s.2.2 (56 + 717 * e + 26))) < ((s.2.2 (56 + 717 * e + 26))).length ∧ s.1 16 ≤ s.1 0 - (((s.2.2 (56 + 717 * e + 26))).getD (aFst 0 ((s.2.2 (56 + 717 * e + 26)))) []).getD 1 0 then
    (if (aFail e s).1 8 < (aFail e s).1 17 then aFail e s else aFall (aFail e s))
  else s
def aRise (s : aS) : aS :=
  if s.1 18 ≤ s.1 9 ∧ s.1 3 + 1 < s.1 11 ∧ s.1 (40 + (s.1 3 + 1).toNat) ≤ s.1 2 then aTell 3 (-1) (aN (aN (aN s 3 (s.1 3 + 1)) 9 0) 50 (s.1 50 + 1)) else s
/-- a frame of the row that is to be sent again: the p-th -/
def aAgain (e p : Nat) (s : aS) : aS :=
  let t := aLaunch e ((((s.2.2 (56 + 717 * e + 26))).getD p []).getD 0 0) ((((s.2.2 (56 + 717 * e + 26))).getD p []).drop 3) s
  aF t ((56 + 717 * e) + 26) (((s.2.2 (56 + 717 * e + 26))).set p (((((s.2.2 (56 + 717 * e + 26))).getD p []).set 1 (s.1 0)).set 2 0))
def aNew (e : Nat) (s : aS) : aS :=
  let b := ((s.2.1 (56 + 717 * e + 117))).take 8
  let t := aN (aLaunch e (s.1 ((56 + 717 * e) + 2)) b s) ((56 + 717 * e) + 2) (s.1 ((56 + 717 * e) + 2) + 1)
  aL (aF t ((56 + 717 * e) + 26) ((s.2.2 (56 + 717 * e + 26)) ++ [[s.1 ((56 + 717 * e) + 2), s.1 0, 0] ++ b])) ((56 + 717 * e) + 117) (((s.2.1 (56 + 717 * e + 117))).drop 8)
/-- one frame of an end is sent, if it can be -/
def aStep (e : Nat) (s : aS) : Option aS :=
  if aFst 1 ((s.2.2 (56 + 717 * e + 26))) < ((s.2.2 (56 + 717 * e + 26))).length then
    (if s.1 ((56 + 717 * e) + 5) < aCost e ((((s.2.2 (56 + 717 * e + 26))).getD (aFst 1 ((s.2.2 (56 + 717 * e + 26)))) []).drop 3) s then none else some (aAgain e (aFst 1 ((s.2.2 (56 + 717 * e + 26)))) s))
  else if ((s.2.1 (56 + 717 * e + 117))).length = 0 ∨ s.1 14 ≤ (((s.2.2 (56 + 717 * e + 26))).length : Int) ∨ s.1 ((56 + 717 * e) + 5) < aCost e (((s.2.1 (56 + 717 * e + 117))).take 8) s then none
  else some (aNew e s)
def aLoop (e : Nat) : Nat → aS → aS
  | 0, s => s
  | k + 1, s => match aStep e s with
    | none => s
    | some t => aLoop e k t
def aCred (e : Nat) (s : aS) : aS := aN s ((56 + 717 * e) + 5) (if s.1 (35 + (s.1 3).toNat) + 28 < s.1 ((56 + 717 * e) + 5) + s.1 (35 + (s.1 3).toNat) then s.1 (35 + (s.1 3).toNat) + 28 else s.1 ((56 + 717 * e) + 5) + s.1 (35 + (s.1 3).toNat))
def aSend (e : Nat) (s : aS) : aS := if s.1 ((56 + 717 * e) + 6) = 0 then aLoop e 120 (aCred e s) else aCred e s
def aLose (s : aS) : aS :=
  let t := aTell 4 (-1) (aN (aF (aN (aN s 1 3) 7 1) 1730 []) 51 (s.1 51 + 1))
  if t.1 13 = 0 then aHang t else t
def aOut (s : aS) : aS := if s.1 1 = 2 then aSend 1 (aSend 0 (aRise s)) else s
def aLive (s : aS) : aS :=
  if s.1 2 = 0 then aLose s
  else
    let t := aTimer 0 (aArr s)
    aOut (if t.1 1 = 2 then aTimer 1 t else t)
def aTrain (s : aS) : aS :=
  if s.1 2 = 0 then
    (let t := aN (aN s 5 (s.1 (21 + (s.1 4).toNat))) 6 (s.1 6 + 1)
     if t.1 12 < t.1 6 then aHang t else t)
  else
    (let t := aN s 5 (s.1 5 - 1)
     if 0 < t.1 5 then t
     else if t.1 4 = 3 then aOnline t
     else aN (aN t 4 (t.1 4 + 1)) 5 (t.1 (21 + (t.1 4 + 1).toNat)))
def aWait (s : aS) : aS :=
  if 0 < s.1 2 then aN (aN (aN (aN s 1 1) 4 2) 5 (s.1 23)) 6 0
  else
    (let t := aN s 7 (s.1 7 + 1)
     if t.1 13 < t.1 7 then aHang t else t)
def aDo (s : aS) : aS := if s.1 1 = 1 then aTrain s else if s.1 1 = 3 then aWait s else if s.1 1 = 2 then aLive s else s
def aTick (s : aS) : aS := aN (aDo s) 0 ((aDo s).1 0 + 1)
def aTicks : Nat → aS → aS
  | 0, s => s
  | k + 1, s => aTicks k (aTick s)
def aLostF (x : Int) : List (List Int) → Int
  | [] => 0
  | f :: t => (if f.getD 0 0 < x then 0 else (f.length : Int) - 3) + aLostF x t
def aLosing (s : aS) : Int := (((s.2.1 (56 + 717 * 0 + 117))).length : Int) + aLostF (s.1 ((56 + 717 * 1) + 3)) ((s.2.2 (56 + 717 * 0 + 26))) + ((((s.2.1 (56 + 717 * 1 + 117))).length : Int) + aLostF (s.1 ((56 + 717 * 0) + 3)) ((s.2.2 (56 + 717 * 1 + 26))))
def aIsDone (s : aS) : Prop := s.1 1 = 2 ∧ ((s.2.1 (56 + 717 * 0 + 117))).length = 0 ∧ ((s.2.1 (56 + 717 * 1 + 117))).length = 0 ∧ ((s.2.2 (56 + 717 * 0 + 26))).length = 0 ∧ ((s.2.2 (56 + 717 * 1 + 26))).length = 0
def aDial (s : aS) : aS := aN (aN (aN (aN (aN (aN (aN (aN s 1 1) 4 0) 5 (s.1 21)) 6 0) ((56 + 717 * 0) + 2) 0) ((56 + 717 * 1) + 2) 0) ((56 + 717 * 0) + 3) 0) ((56 + 717 * 1) + 3) 0

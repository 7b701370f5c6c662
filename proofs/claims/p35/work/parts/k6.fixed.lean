/-! ===== the law's fixed start ===== -/
def sF0 : aS := sN (dV 9 [(8, 1), (20, 9)] [1, 1, 1, 1] [2, 5, 4, 1, 3, 2, 2] [0])
theorem fx1 : (aTicks 4 (aDial sF0)).1 55 = 0 ∧ (aTicks 4 (aDial sF0)).1 1 = 2 ∧ (aTicks 4 (aDial sF0)).1 3 = 1 := by decide +kernel
def sF4 : aS := aL (aTicks 4 (aDial sF0)) 173 [97, 97, 98, 98]
theorem fx2 : aNextC 0 sF4 = 13 ∧ aSendN 0 4 (aTicks 4 (aDial sF0)) = 4 := by decide +kernel
def sF5 : aS := aTicks 1 sF4
theorem fx3 : sF5.1 55 - sF4.1 55 = 0 ∧ aEndN sF5 0 1 = 1 ∧ aEndN sF5 0 6 = 7 := by decide +kernel
def sF6 : aS := aTicks 1 sF5
theorem fx4 : sF6.1 55 - sF5.1 55 = 4 ∧ ((sF6.2.1 (56 + 717 * 1 + 317))).length = 4 ∧ ((sF6.2.1 (56 + 717 * 1 + 317))).getD 2 0 = 98 ∧ aEndN sF6 0 1 = 1 := by decide +kernel
def sF7 : aS := aTicks 1 sF6
theorem fx5 : sF7.1 55 - sF6.1 55 = 0 ∧ aEndN sF7 0 1 = 0 := by decide +kernel
theorem fx6 : ((sF7.2.1 (56 + 717 * 1 + 18))).length = 2 ∧ ((sF7.2.1 (56 + 717 * 1 + 18))).getD 0 0 = 98 ∧ ((sF7.2.1 (56 + 717 * 0 + 10))).length = 2 ∧ ((sF7.2.1 (56 + 717 * 0 + 10))).getD 1 0 = 97 ∧ ((sF7.2.2 1490)).length = 2 ∧ (((sF7.2.2 1490)).getD 1 []).getD 1 0 = 7 ∧ (((sF7.2.2 1490)).getD 1 []).getD 2 0 = 1 ∧ sF7.1 2 = 9 := by decide +kernel
theorem fx7 : aFin 401 0 sF4 = 3 := by decide +kernel
def sF8 : aS := aTicks 1 (aN sF7 2 0)
theorem fx8 : sF8.1 55 - (aN sF7 2 0).1 55 = 0 ∧ aSize sF8 7 = 1 := by decide +kernel
theorem fx9 : aFin 401 0 sF8 = -1 := by decide +kernel
theorem fx10 : aLeast sF8 10 0 = 1 := by decide +kernel

/-! the reference's calls -/
theorem setA_2 (S : MSt) (k : Nat) (h : k ≠ 29) : (setA S).2 k = S.2 k := by
  unfold setA
  rw [uG_n _ h, sl1_2]
theorem setB_2 (S : MSt) (k : Nat) (h : k ≠ 29 ∧ k ≠ 24) : (setB S).2 k = S.2 k := by
  unfold setB
  rw [uG_n _ h.2, sl2_2, setA_2 S k h.1]
def isRangeB (c r lc lr : Int) : Bool := decide (c ≤ lc) && decide (r ≤ lr)
theorem thS_t (S : MSt) (a : Int) : thS S true a = uG S 31 a := rfl
theorem thS_f (S : MSt) (a : Int) : thS S false a = uG S 31 0 := rfl
def cellX (S : MSt) (c r : Int) : Int × MSt := if isCellB c r = false then (0, uG S 31 1) else (S.1 0 (atI c r), uG S 31 0)
def addMacroX (S : MSt) : Int × MSt := if S.2 22 = 6 then (0, uG S 31 1) else (S.2 22, uG (uG S 31 0) 22 (S.2 22 + 1))
def isMacB (S : MSt) (m : Int) : Bool := isInB m 0 (S.2 22 - 1)
def recordX (S : MSt) (m c r : Int) : Int × MSt := if isMacB S m = false ∨ isCellB c r = false then (0, uG S 31 1) else if 0 ≤ S.2 27 then (0, uG S 31 2) else (S.1 4 m, uG (uG (uA (uG S 31 0) 4 m 0) 27 m) 28 (atI c r))
def stopX (S : MSt) : Int × MSt := if S.2 27 < 0 then (0, uG S 31 1) else (S.1 4 (S.2 27), uG (uG S 31 0) 27 (-1))
def stepsX (S : MSt) (m : Int) : Int × MSt := if isMacB S m = false then (0, uG S 31 1) else (S.1 4 m, uG S 31 0)
def grantX (S : MSt) (m c r lc lr : Int) : Int × MSt := if isMacB S m = false ∨ isCellB c r = false ∨ isCellB lc lr = false then (0, uG S 31 1) else if isRangeB c r lc lr = false then (0, uG S 31 2) else if S.1 9 m = 4 then (0, uG S 31 3) else (S.1 9 m + 1, uA (uA (uA (uG S 31 0) 10 (4 * m + S.1 9 m) (atI c r)) 11 (4 * m + S.1 9 m) (atI lc lr)) 9 m (S.1 9 m + 1))
def takeX (S : MSt) (m : Int) : Int × MSt := if isMacB S m = false then (0, uG S 31 1) else (S.1 9 m, uA (uG S 31 0) 9 m 0)
def gcN (S : MSt) (x : Int) : Nat → Int
  | 0 => 0
  | n + 1 => gcN S x n + (if isGrantedB S n x = true then 1 else 0)
def grantedX (S : MSt) (c r : Int) : Int × MSt := if isCellB c r = false then (0, uG S 31 1) else (gcN S (atI c r) (S.2 22).toNat, uG S 31 0)
def reasonX (S : MSt) (m c r : Int) : Int × MSt := if isMacB S m = false ∨ isCellB c r = false then (45, uG S 31 1) else ((whyS (uG S 31 0) m (atI c r)).1, (whyS (uG S 31 0) m (atI c r)).2)
def setRankX (S : MSt) (q rank : Int) : Int × MSt := if isInB q 0 (S.2 23 - 1) = false then (0, uG S 31 1) else if isInB rank 0 9 = false then (0, uG S 31 2) else (S.1 15 q, uA (uG S 31 0) 15 q rank)
def addRuleX (S : MSt) (c r lc lr m rank : Int) : Int × MSt := if isCellB c r = false ∨ isCellB lc lr = false ∨ isMacB S m = false then (0, uG S 31 1) else if isRangeB c r lc lr = false ∨ isInB rank 0 9 = false then (0, uG S 31 2) else if S.2 23 = 6 then (0, uG S 31 3) else (S.2 23, uG (uA (uA (uA (uA (uG S 31 0) 12 (S.2 23) (atI c r)) 13 (S.2 23) (atI lc lr)) 14 (S.2 23) m) 15 (S.2 23) rank) 23 (S.2 23 + 1))
def ruleX (S : MSt) (c r : Int) : Int × MSt := if isCellB c r = false then (0, uG S 31 1) else if ruledI S (atI c r) < 0 then (0, uG S 31 2) else (ruledI S (atI c r), uG S 31 0)
theorem atI_in {c r : Int} (h : isCellB c r = true) : 0 ≤ atI c r ∧ atI c r < 48 := by
  simp only [isCellB, isInB, Bool.and_eq_true, decide_eq_true_eq] at h
  unfold atI
  omega
theorem isMac_in {S : MSt} {m : Int} (h : isMacB S m = true) (hw : S.2 22 ≤ 6) : 0 ≤ m ∧ m < 6 := by
  simp only [isMacB, isInB, Bool.and_eq_true, decide_eq_true_eq] at h
  omega

section
variable {l : Launch} {D : va_G} {cB cC cI cO cJ cD : ClassId} {ee : Nat × Nat} {mo : Nat} {Pm : Nat → Nat} {S : MSt}
end

/-! the reference's invariant, and its calls that make no action -/
theorem ruN_congr {S S' : MSt} {x : Int} (h1 : S'.1 12 = S.1 12) (h2 : S'.1 13 = S.1 13) (h3 : S'.1 15 = S.1 15) : ∀ n, ruN S' x n = ruN S x n
  | 0 => rfl
  | n + 1 => by rw [ruN, ruN, ruN_congr h1 h2 h3 n, h1, h2, h3]
theorem ruledI_u (S : MSt) (v x : Int) : ruledI (uG S 31 v) x = ruledI S x := ruN_congr (S' := uG S 31 v) (S := S) rfl rfl rfl _
theorem isGr_u (S : MSt) (v m x : Int) : isGrantedB (uG S 31 v) m x = isGrantedB S m x := isGrantedB_congr rfl rfl rfl
theorem WFp_u {S : MSt} {v : Int} (h : WFp S) : WFp (uG S 31 v) := h
theorem WFl_u {S : MSt} {v : Int} (h : WFl S) : WFl (uG S 31 v) := h
def HW (S : MSt) : Prop := 0 ≤ S.2 25 ∧ S.2 25 ≤ 8 ∧ S.1 20 0 = 0 ∧ S.1 20 (S.2 25) = S.2 24 ∧ ∀ k, 0 ≤ k → k < S.2 25 → S.1 20 k < S.1 20 (k + 1) ∧ S.1 20 (k + 1) ≤ S.1 20 k + 210
def RW (S : MSt) : Prop := 0 ≤ S.2 27 → S.2 27 < S.2 22 ∧ S.1 4 (S.2 27) < 10
def SW (S : MSt) (b : Int) : Prop := (∀ z, 0 ≤ z → z < 48 → -2 ≤ S.1 2 z ∧ S.1 2 z ≤ 5) ∧ 0 ≤ S.2 29 ∧ S.2 29 + S.2 24 ≤ b ∧ b ≤ 107520
def TW (S : MSt) : Prop := 0 ≤ S.2 30 ∧ S.2 30 ≤ 20 ∧ ∀ z, 0 ≤ z → z < 40 → 0 ≤ S.1 21 z ∧ S.1 21 z < 256
def MW (S : MSt) (b : Int) : Prop := WFp S ∧ WFl S ∧ HW S ∧ RW S ∧ SW S b ∧ TW S
theorem HW_le {S : MSt} (h : HW S) : ∀ n : Nat, (n : Int) ≤ S.2 25 → 0 ≤ S.1 20 n ∧ S.1 20 n ≤ 210 * n
  | 0, _ => by have := h.2.2.1; simp; omega
  | n + 1, hn => by
    have ih := HW_le h n (by omega)
    have := h.2.2.2.2 n (by omega) (by omega)
    rw [show ((n + 1 : Nat) : Int) = (n : Int) + 1 by omega]
    omega
theorem HW_log {S : MSt} (h : HW S) : S.2 24 ≤ 1680 := by
  have h1 := HW_le h (S.2 25).toNat (by have := h.1; omega)
  have h2 := h.1
  have h3 := h.2.1
  rw [show ((S.2 25).toNat : Int) = S.2 25 by omega, h.2.2.2.1] at h1
  omega
def lastN (S : MSt) (x : Int) : Nat → Int
  | 0 => S.1 2 x
  | n + 1 => if S.1 16 n = x then S.1 18 n else lastN S x n
def lastByX (S : MSt) (c r : Int) : Int × MSt := if isCellB c r = false then (0, uG S 31 1) else if lastN S (atI c r) (S.2 24).toNat = -2 then (0, uG S 31 2) else (lastN S (atI c r) (S.2 24).toNat, uG S 31 0)
def allN (S : MSt) (w : Int) : Nat → Int
  | 0 => S.1 3 (w + 1)
  | n + 1 => allN S w n + (if S.1 18 n = w then 1 else 0)
def allI (S : MSt) (w : Int) : Int := allN S w (S.2 24).toNat
theorem allN_congr {S S' : MSt} {w : Int} (h1 : S'.1 3 = S.1 3) (h2 : S'.1 18 = S.1 18) : ∀ n, allN S' w n = allN S w n
  | 0 => by rw [allN, allN, h1]
  | n + 1 => by rw [allN, allN, allN_congr h1 h2 n, h2]
theorem allI_u (S : MSt) (v w : Int) : allI (uG S 31 v) w = allI S w := allN_congr (S' := uG S 31 v) (S := S) rfl rfl _
def entriesOfX (S : MSt) (w : Int) : Int × MSt := if isInB w (-1) (S.2 22 - 1) = false then (0, uG S 31 1) else (allI S w, uG S 31 0)
def textAtX (S : MSt) (i : Int) : Int × MSt := if isInB i 0 (S.2 30 - 1) = false then (45, uG S 31 1) else (S.1 21 i, uG S 31 0)
/-- the undoing, j changes back -/
def unI (S : MSt) : Nat → MSt
  | 0 => S
  | j + 1 => uA (uG (unI S j) 24 ((unI S j).2 24 - 1)) 0 ((unI S j).1 16 ((unI S j).2 24 - 1)) ((unI S j).1 17 ((unI S j).2 24 - 1))
theorem unI_1 (S : MSt) (k : Nat) (h : k ≠ 0) : ∀ j, (unI S j).1 k = S.1 k
  | 0 => rfl
  | j + 1 => by
    rw [unI, uA_n _ h]
    exact unI_1 S k h j
theorem unI_2 (S : MSt) (k : Nat) (h : k ≠ 24) : ∀ j, (unI S j).2 k = S.2 k
  | 0 => rfl
  | j + 1 => by
    rw [unI, uA_2, uG_n _ h]
    exact unI_2 S k h j
theorem unI_24 (S : MSt) : ∀ j : Nat, (unI S j).2 24 = S.2 24 - j
  | 0 => by simp [unI]
  | j + 1 => by
    rw [unI, uA_2, uG_s, unI_24 S j]
    omega
def undoX (S : MSt) : Int × MSt := if S.2 25 = 0 then (0, uG S 31 1) else (S.2 24 - S.1 20 (S.2 25 - 1), unI (uG (uG S 31 0) 25 (S.2 25 - 1)) (S.2 24 - S.1 20 (S.2 25 - 1)).toNat)

section
variable {l : Launch} {D : va_G} {cB cC cI cO cJ cD : ClassId} {ee : Nat × Nat} {mo : Nat} {Pm : Nat → Nat} {S : MSt} {b : Int}
end

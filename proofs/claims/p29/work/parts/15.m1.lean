/-! the reference's methods, as functions -/
def isInB (v lo hi : Int) : Bool := decide (lo ≤ v) && decide (v ≤ hi)
def isCellB (c r : Int) : Bool := isInB c 0 5 && isInB r 0 7
def isValueB (v : Int) : Bool := isInB v (-9999) 9999
def isWithinB (at_ fr to : Int) : Bool := isInB (at_ % 6) (fr % 6) (to % 6) && isInB (at_ / 6) (fr / 6) (to / 6)
def atI (c r : Int) : Int := 6 * r + c
def thS (S : MSt) (b : Bool) (as_ : Int) : MSt := uG S 31 (if b = true then as_ else 0)
/-- a change of a cell -/
def becS (S : MSt) (at_ v by_ deep : Int) : MSt := if S.1 0 at_ = v then S else uA (uG (uA (uA (uA (uA S 16 (S.2 24) at_) 17 (S.2 24) (S.1 0 at_)) 18 (S.2 24) by_) 19 (S.2 24) deep) 24 (S.2 24 + 1)) 0 at_ v
def goalI (S : MSt) (m k at_ : Int) : Int := atI (at_ % 6 + S.1 6 (10 * m + k)) (at_ / 6 + S.1 7 (10 * m + k))
def isOutB (S : MSt) (m k at_ : Int) : Bool := !isCellB (at_ % 6 + S.1 6 (10 * m + k)) (at_ / 6 + S.1 7 (10 * m + k))
def stepI (S : MSt) (m k at_ : Int) : Int := if S.1 5 (10 * m + k) = 115 then S.1 8 (10 * m + k) else if S.1 5 (10 * m + k) = 97 then S.1 1 (goalI S m k at_) + S.1 8 (10 * m + k) else S.1 1 at_
def grN (S : MSt) (m at_ : Int) : Nat → Bool
  | 0 => false
  | n + 1 => grN S m at_ n || isWithinB at_ (S.1 10 (4 * m + n)) (S.1 11 (4 * m + n))
def isGrantedB (S : MSt) (m at_ : Int) : Bool := grN S m at_ (S.1 9 m).toNat
def ruN (S : MSt) (at_ : Int) : Nat → Int
  | 0 => -1
  | n + 1 => if isWithinB at_ (S.1 12 n) (S.1 13 n) = true ∧ (ruN S at_ n < 0 ∨ S.1 15 (ruN S at_ n) < S.1 15 n) then (n : Int) else ruN S at_ n
def ruledI (S : MSt) (at_ : Int) : Int := ruN S at_ (S.2 23).toNat
theorem ruN_yes {S : MSt} {x : Int} {n : Nat} (h1 : isWithinB x (S.1 12 n) (S.1 13 n) = true) (h2 : ruN S x n < 0 ∨ S.1 15 (ruN S x n) < S.1 15 n) : ruN S x (n + 1) = n := by
  unfold ruN
  rw [if_pos ⟨h1, h2⟩]
theorem ruN_no {S : MSt} {x : Int} {n : Nat} (h : isWithinB x (S.1 12 n) (S.1 13 n) = true → ¬ (ruN S x n < 0 ∨ S.1 15 (ruN S x n) < S.1 15 n)) : ruN S x (n + 1) = ruN S x n := by
  conv => lhs; unfold ruN
  rw [if_neg (fun q => h q.1 q.2)]
theorem ruN_in (S : MSt) (at_ : Int) : ∀ n : Nat, -1 ≤ ruN S at_ n ∧ ruN S at_ n < n
  | 0 => by simp [ruN]
  | n + 1 => by
    have := ruN_in S at_ n
    unfold ruN
    split <;> omega

section
variable {l : Launch} {D : va_G} {cB cC cI cO cJ cD : ClassId} {ee : Nat × Nat} {mo : Nat} {Pm : Nat → Nat} {S : MSt}
end

/-! the reference's copyBase, run, writeStep -/
theorem absI_in {x n : Int} (h : -n ≤ x ∧ x ≤ n) : 0 ≤ absI x ∧ absI x ≤ n := by
  unfold absI
  split <;> omega
theorem distS_30 (S : MSt) (x : Int) : S.2 30 ≤ (distS S x).2 30 ∧ (distS S x).2 30 ≤ S.2 30 + 2 := by
  have h := digN_30 1 (wrS S (signI x)) (absI x)
  rw [wrS_30] at h
  unfold distS
  omega
theorem distS_1 (S : MSt) (x : Int) (k : Nat) (h : k ≠ 21) : (distS S x).1 k = S.1 k := by
  unfold distS
  rw [digN_1 k h, wrS_1 _ _ k h]
theorem stepS_99 {S : MSt} {k : Int} (h : S.1 5 k = 99) : stepS S k = distS (distS (wrS (uG S 30 0) (S.1 5 k)) (S.1 6 k)) (S.1 7 k) := if_pos h
theorem stepS_n {S : MSt} {k : Int} (h : ¬ S.1 5 k = 99) : stepS S k = numS (wrS (distS (distS (wrS (uG S 30 0) (S.1 5 k)) (S.1 6 k)) (S.1 7 k)) 61) (S.1 8 k) := if_neg h
theorem signI_in (x : Int) : 0 ≤ signI x ∧ signI x < 65536 := by
  unfold signI
  split <;> decide

section
variable {l : Launch} {D : va_G} {cB cC cI cO cJ cD : ClassId} {ee : Nat × Nat} {mo : Nat} {Pm : Nat → Nat} {S : MSt} {b : Int}
end

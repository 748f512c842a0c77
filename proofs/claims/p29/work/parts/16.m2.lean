/-! the reference's trying, running, recording -/
/-- the program's part is well formed: steps, grants, rules, numbers; the cells are in range -/
def WFp (S : MSt) : Prop := (∀ z, 0 ≤ z → z < 60 → -5 ≤ S.1 6 z ∧ S.1 6 z ≤ 5 ∧ -7 ≤ S.1 7 z ∧ S.1 7 z ≤ 7 ∧ -9999 ≤ S.1 8 z ∧ S.1 8 z ≤ 9999 ∧ 0 ≤ S.1 5 z ∧ S.1 5 z ≤ 200)
  ∧ (∀ m, 0 ≤ m → m < 6 → 0 ≤ S.1 4 m ∧ S.1 4 m ≤ 10 ∧ 0 ≤ S.1 9 m ∧ S.1 9 m ≤ 4)
  ∧ (∀ g, 0 ≤ g → g < 24 → 0 ≤ S.1 10 g ∧ S.1 10 g < 48 ∧ 0 ≤ S.1 11 g ∧ S.1 11 g < 48)
  ∧ (∀ r, 0 ≤ r → r < 6 → 0 ≤ S.1 12 r ∧ S.1 12 r < 48 ∧ 0 ≤ S.1 13 r ∧ S.1 13 r < 48 ∧ 0 ≤ S.1 14 r ∧ S.1 14 r < 6 ∧ 0 ≤ S.1 15 r ∧ S.1 15 r ≤ 9)
  ∧ (0 ≤ S.2 22 ∧ S.2 22 ≤ 6 ∧ 0 ≤ S.2 23 ∧ S.2 23 ≤ 6 ∧ -1 ≤ S.2 27 ∧ S.2 27 < 6 ∧ 0 ≤ S.2 28 ∧ S.2 28 < 48)
  ∧ (∀ z, 0 ≤ z → z < 48 → -9999 ≤ S.1 0 z ∧ S.1 0 z ≤ 9999)
/-- the copy of the cells, so far -/
def cpN (S : MSt) (j : Nat) : MSt := (fun k => if k = 1 then (fun z => if 0 ≤ z ∧ z < j then S.1 0 z else S.1 1 z) else S.1 k, S.2)
theorem cpN_0 (S : MSt) : cpN S 0 = S := by
  refine Prod.ext (funext fun k => ?_) rfl
  by_cases h : k = 1
  · subst h
    funext z
    have : ¬ (0 ≤ z ∧ z < 0) := by omega
    simp [cpN, this]
  · simp [cpN, h]
theorem cpN_succ (S : MSt) (j : Nat) : uA (cpN S j) 1 j (S.1 0 j) = cpN S (j + 1) := by
  refine Prod.ext (funext fun k => ?_) rfl
  by_cases h : k = 1
  · subst h
    funext z
    by_cases q : z = j
    · subst q
      have : (0 : Int) ≤ (j : Int) ∧ (j : Int) < ((j + 1 : Nat) : Int) := by omega
      rw [uA_s, upZ_s]
      show S.1 0 j = if (0 : Int) ≤ (j : Int) ∧ (j : Int) < ((j + 1 : Nat) : Int) then S.1 0 j else S.1 1 j
      rw [if_pos this]
    · have : (0 ≤ z ∧ z < ((j + 1 : Nat) : Int)) ↔ (0 ≤ z ∧ z < (j : Int)) := by omega
      simp only [cpN, uA, upZ, if_neg q, if_true, this]
  · simp [cpN, uA, h]
/-- the trying of a macro's steps: the state behind j steps -/
def trI (S : MSt) (m x : Int) : Nat → MSt
  | 0 => cpN S 48
  | j + 1 => uA (trI S m x j) 1 (goalI (trI S m x j) m j x) (stepI (trI S m x j) m j x)
theorem trI_1 (S : MSt) (m x : Int) (k : Nat) (h : k ≠ 1) : ∀ j, (trI S m x j).1 k = S.1 k
  | 0 => by simp [trI, cpN, h]
  | j + 1 => by
    rw [trI, uA_n _ h]
    exact trI_1 S m x k h j
theorem trI_2 (S : MSt) (m x : Int) : ∀ j, (trI S m x j).2 = S.2
  | 0 => rfl
  | j + 1 => trI_2 S m x j
theorem trI_goal (S : MSt) (m x k : Int) (j : Nat) : goalI (trI S m x j) m k x = goalI S m k x := by
  unfold goalI
  rw [trI_1 S m x 6 (by decide), trI_1 S m x 7 (by decide)]
theorem trI_out (S : MSt) (m x k : Int) (j : Nat) : isOutB (trI S m x j) m k x = isOutB S m k x := by
  unfold isOutB
  rw [trI_1 S m x 6 (by decide), trI_1 S m x 7 (by decide)]
theorem grN_congr {S S' : MSt} {m x : Int} (h1 : S'.1 10 = S.1 10) (h2 : S'.1 11 = S.1 11) : ∀ n, grN S' m x n = grN S m x n
  | 0 => rfl
  | n + 1 => by rw [grN, grN, grN_congr h1 h2 n, h1, h2]
theorem isGrantedB_congr {S S' : MSt} {m x : Int} (h0 : S'.1 9 = S.1 9) (h1 : S'.1 10 = S.1 10) (h2 : S'.1 11 = S.1 11) : isGrantedB S' m x = isGrantedB S m x := by
  unfold isGrantedB
  rw [grN_congr h1 h2, h0]
theorem trI_gr (S : MSt) (m x y : Int) (j : Nat) : isGrantedB (trI S m x j) m y = isGrantedB S m y := isGrantedB_congr (trI_1 S m x 9 (by decide) j) (trI_1 S m x 10 (by decide) j) (trI_1 S m x 11 (by decide) j)
theorem goal_in {S : MSt} {m k x : Int} (h : isOutB S m k x = false) : 0 ≤ goalI S m k x ∧ goalI S m k x < 48 := by
  simp only [isOutB, isCellB, isInB, Bool.not_eq_false', Bool.and_eq_true, decide_eq_true_eq] at h
  unfold goalI atI
  omega
/-- the answer from the step j on, n steps left -/
def whyR (S : MSt) (m x : Int) : Nat → Nat → Int × MSt
  | 0, j => (45, trI S m x j)
  | n + 1, j => if isOutB S m j x = true then (111, trI S m x j) else if isGrantedB S m (goalI S m j x) = false then (103, trI S m x j) else if isValueB (stepI (trI S m x j) m j x) = false then (118, trI S m x j) else whyR S m x n (j + 1)
def whyS (S : MSt) (m x : Int) : Int × MSt := whyR S m x (S.1 4 m).toNat 0
theorem whyR_ans (S : MSt) (m x : Int) : ∀ n j, 45 ≤ (whyR S m x n j).1 ∧ (whyR S m x n j).1 ≤ 118
  | 0, j => by simp [whyR]
  | n + 1, j => by
    have := whyR_ans S m x n (j + 1)
    unfold whyR
    split
    · simp
    · split
      · simp
      · split
        · simp
        · exact this
def rgN (f : Int → Int) : Prop := ∀ z, 0 ≤ z → z < 48 → -9999 ≤ f z ∧ f z ≤ 9999
theorem rgN_up {f : Int → Int} {g v : Int} (h : rgN f) (hv : isValueB v = true) : rgN (upZ f g v) := by
  intro z h0 h1
  unfold upZ
  split
  · simp only [isValueB, isInB, Bool.and_eq_true, decide_eq_true_eq] at hv
    exact hv
  · exact h z h0 h1
theorem cpN_rg {S : MSt} (h : WFp S) : rgN ((cpN S 48).1 1) := by
  intro z h0 h1
  have := h.2.2.2.2.2 z h0 h1
  simp [cpN, h0, h1]
  exact this
theorem stepI_rI {S X : MSt} {m k x : Int} (h : WFp S) (h8 : X.1 8 = S.1 8) (hm : 0 ≤ m ∧ m < 6) (hk : 0 ≤ k ∧ k < 10) (hx : 0 ≤ x ∧ x < 48) (hr : rgN (X.1 1)) (hg : 0 ≤ goalI X m k x ∧ goalI X m k x < 48) : rI (stepI X m k x) := by
  have h1 := h.1 (10 * m + k) (by omega) (by omega)
  have h2 := hr _ hg.1 hg.2
  have h3 := hr x hx.1 hx.2
  unfold stepI
  rw [h8]
  split
  · omega
  · split <;> omega
/-- the running of a macro's steps: the state behind j steps -/
def rnI (S : MSt) (m x dp : Int) : Nat → MSt
  | 0 => cpN S 48
  | j + 1 => becS (uA (rnI S m x dp j) 1 (goalI (rnI S m x dp j) m j x) (stepI (rnI S m x dp j) m j x)) (goalI (rnI S m x dp j) m j x) (stepI (rnI S m x dp j) m j x) m dp
theorem becS_1 (S : MSt) (x v w dp : Int) (k : Nat) (h : k ≠ 0 ∧ k ≠ 16 ∧ k ≠ 17 ∧ k ≠ 18 ∧ k ≠ 19) : (becS S x v w dp).1 k = S.1 k := by
  unfold becS
  split
  · rfl
  · simp [uA, uG, h]
theorem becS_2 (S : MSt) (x v w dp : Int) (k : Nat) (h : k ≠ 24) : (becS S x v w dp).2 k = S.2 k := by
  unfold becS
  split
  · rfl
  · simp [uA, uG, h]
theorem rnI_1 (S : MSt) (m x dp : Int) (k : Nat) (h : k ≠ 0 ∧ k ≠ 1 ∧ k ≠ 16 ∧ k ≠ 17 ∧ k ≠ 18 ∧ k ≠ 19) : ∀ j, (rnI S m x dp j).1 k = S.1 k
  | 0 => by simp [rnI, cpN, h]
  | j + 1 => by
    rw [rnI, becS_1 _ _ _ _ _ k ⟨h.1, h.2.2.1, h.2.2.2.1, h.2.2.2.2.1, h.2.2.2.2.2⟩, uA_n _ h.2.1]
    exact rnI_1 S m x dp k h j
theorem rnI_2 (S : MSt) (m x dp : Int) (k : Nat) (h : k ≠ 24) : ∀ j, (rnI S m x dp j).2 k = S.2 k
  | 0 => rfl
  | j + 1 => by
    rw [rnI, becS_2 _ _ _ _ _ k h]
    exact rnI_2 S m x dp k h j
theorem rnI_goal (S : MSt) (m x dp k : Int) (j : Nat) : goalI (rnI S m x dp j) m k x = goalI S m k x := by
  unfold goalI
  rw [rnI_1 S m x dp 6 (by decide), rnI_1 S m x dp 7 (by decide)]
def runS (S : MSt) (m x dp : Int) : MSt := rnI S m x dp (S.1 4 m).toNat
/-- a change by hand becomes a step -/
def recS (S : MSt) (a x n : Int) : MSt := if S.2 27 < 0 then S else uA (uA (uA (uA (uA S 5 (10 * S.2 27 + S.1 4 (S.2 27)) a) 6 (10 * S.2 27 + S.1 4 (S.2 27)) (x % 6 - S.2 28 % 6)) 7 (10 * S.2 27 + S.1 4 (S.2 27)) (x / 6 - S.2 28 / 6)) 8 (10 * S.2 27 + S.1 4 (S.2 27)) n) 4 (S.2 27) (S.1 4 (S.2 27) + 1)

section
variable {l : Launch} {D : va_G} {cB cC cI cO cJ cD : ClassId} {ee : Nat × Nat} {mo : Nat} {Pm : Nat → Nat} {S : MSt}
end

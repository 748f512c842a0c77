/-! the reference's actions as calls -/
theorem recS_2 (S : MSt) (a x n : Int) : (recS S a x n).2 = S.2 := by
  unfold recS
  split
  · rfl
  · rfl
theorem recS_1 (S : MSt) (a x n : Int) (k : Nat) (h : k ≠ 4 ∧ k ≠ 5 ∧ k ≠ 6 ∧ k ≠ 7 ∧ k ≠ 8) : (recS S a x n).1 k = S.1 k := by
  unfold recS
  split
  · rfl
  · rw [uA_n _ h.1, uA_n _ h.2.2.2.2, uA_n _ h.2.2.2.1, uA_n _ h.2.2.1, uA_n _ h.2.1]
theorem recS_wf {S : MSt} {a x n : Int} (h : WFp S) (hr : RW S) (ha : 0 ≤ a ∧ a ≤ 200) (hx : 0 ≤ x ∧ x < 48) (hn : -9999 ≤ n ∧ n ≤ 9999) : WFp (recS S a x n) := by
  unfold recS
  split
  · exact h
  · rename_i hc
    obtain ⟨w1, w2, w3, w4, w5, w6⟩ := h
    have hr2 := hr (by omega)
    have hm := w2 (S.2 27) (by omega) (by omega)
    refine ⟨fun z h0 h1 => ?_, fun m h0 h1 => ?_, ?_, ?_, w5, w6⟩
    · have w := w1 z h0 h1
      repeat (first | rw [uA_s] | rw [uA_n _ (by decide)])
      by_cases q : z = 10 * S.2 27 + S.1 4 (S.2 27)
      · subst q
        simp only [upZ, if_true]
        omega
      · simp only [upZ, if_neg q]
        exact w
    · have w := w2 m h0 h1
      repeat (first | rw [uA_s] | rw [uA_n _ (by decide)])
      by_cases q : m = S.2 27
      · subst q
        simp only [upZ, if_true]
        omega
      · simp only [upZ, if_neg q]
        exact w
    · simpa [uA] using w3
    · simpa [uA] using w4
theorem hand_wf {S : MSt} {a x v n b : Int} (h : MW S b) (ha : 0 ≤ a ∧ a ≤ 200) (hx : 0 ≤ x ∧ x < 48) (hn : -9999 ≤ n ∧ n ≤ 9999) (hv : isValueB v = true) : AW (handS S a x v n) (S.2 24) := by
  obtain ⟨h1, h2, h3, h4, h5, h6⟩ := h
  have hp := recS_wf h1 h4 ha hx hn
  have hl : WFl (recS S a x n) := by
    unfold WFl
    rw [recS_2, recS_1 _ _ _ _ 16 (by decide), recS_1 _ _ _ _ 18 (by decide), recS_1 _ _ _ _ 19 (by decide)]
    exact h2
  have h24 := becS_24 (recS S a x n) x v (-1) 0
  have hlog := HW_log h3
  rw [recS_2] at h24
  refine ⟨WFp_of hp (fun k q1 q2 => becS_1 _ _ _ _ _ k (by omega)) ⟨becS_2 _ _ _ _ _ 22 (by decide), becS_2 _ _ _ _ _ 23 (by decide), becS_2 _ _ _ _ _ 27 (by decide), becS_2 _ _ _ _ _ 28 (by decide)⟩ ?_, WFl_bec hl hx (by omega) (by omega), h2.1, by unfold handS; omega, by unfold handS; omega, by unfold handS; omega, ?_, ?_, ?_⟩
  · unfold handS
    rw [becS_0]
    exact rgN_up hp.2.2.2.2.2 hv
  · unfold handS
    rw [becS_2 _ _ _ _ _ 25 (by decide), recS_2]
    exact h3.1
  · unfold handS
    rw [becS_2 _ _ _ _ _ 25 (by decide), recS_2]
    exact h3.2.1
  · unfold handS
    rw [becS_2 _ _ _ _ _ 25 (by decide), recS_2, becS_1 _ _ _ _ _ 20 (by decide), recS_1 _ _ _ _ 20 (by decide)]
    intro q
    have q1 := h3.2.2.2.2 0 (by omega) (by omega)
    have q2 := HW_le h3 1 (by omega)
    have q3 : ∀ j : Nat, (j : Int) + 1 ≤ S.2 25 → S.1 20 1 ≤ S.1 20 ((j : Int) + 1) := by
      intro j
      induction j with
      | zero => intro _; simp
      | succ j ih =>
        intro hj
        have e1 := ih (by omega)
        have e2 := h3.2.2.2.2 ((j : Int) + 1) (by omega) (by omega)
        rw [show ((j + 1 : Nat) : Int) = (j : Int) + 1 by omega]
        omega
    have q4 := q3 7 (by omega)
    rw [show ((7 : Nat) : Int) + 1 = S.2 25 by omega, h3.2.2.2.1] at q4
    exact ⟨q2.1, q4⟩
def setX (S : MSt) (c r v : Int) : Int × MSt := if isCellB c r = false then (0, uG S 31 1) else if isValueB v = false then (0, uG S 31 2) else byHandS (uG S 31 0) 115 (atI c r) v v
def addX (S : MSt) (c r n : Int) : Int × MSt := if isCellB c r = false then (0, uG S 31 1) else if isValueB n = false ∨ isValueB (S.1 0 (atI c r) + n) = false then (0, uG S 31 2) else byHandS (uG S 31 0) 97 (atI c r) (S.1 0 (atI c r) + n) n
def copyBaseX (S : MSt) (c r : Int) : Int × MSt := if isCellB c r = false then (0, uG S 31 1) else if S.2 27 < 0 then (0, uG S 31 2) else byHandS (uG S 31 0) 99 (atI c r) (S.1 0 (S.2 28)) 0
theorem isValue_of {v : Int} : isValueB v = true ↔ -9999 ≤ v ∧ v ≤ 9999 := by simp [isValueB, isInB]
def runX (S : MSt) (m c r : Int) : Int × MSt := if isMacB S m = false ∨ isCellB c r = false then (0, uG S 31 1) else if m = S.2 27 then (0, uG S 31 2) else if (whyS (uG S 31 0) m (atI c r)).1 ≠ 45 then (0, uG (whyS (uG S 31 0) m (atI c r)).2 31 3) else endsS (chX (runS (uG (whyS (uG S 31 0) m (atI c r)).2 31 0) m (atI c r) 0) (S.2 24)) (S.2 24) ((chX (runS (uG (whyS (uG S 31 0) m (atI c r)).2 31 0) m (atI c r) 0) (S.2 24)).2 24 - S.2 24)
/-- what a run by hand needs -/
theorem run_pre3 {X : MSt} {m x v b : Int} (hmw : MW X b) (hm : 0 ≤ m ∧ m < 6) (hx : 0 ≤ x ∧ x < 48) (hok : (whyS X m x).1 = 45) : WFp (uG (whyS X m x).2 31 v) ∧ (∀ j : Nat, (j : Int) < (uG (whyS X m x).2 31 v).1 4 m → 0 ≤ goalI (uG (whyS X m x).2 31 v) m j x ∧ goalI (uG (whyS X m x).2 31 v) m j x < 48) ∧ (∀ j : Nat, (j : Int) < (uG (whyS X m x).2 31 v).1 4 m → rI (stepI (rnI (uG (whyS X m x).2 31 v) m x 0 j) m j x) ∧ rI ((rnI (uG (whyS X m x).2 31 v) m x 0 j).1 0 (goalI (uG (whyS X m x).2 31 v) m j x)) ∧ 0 ≤ (rnI (uG (whyS X m x).2 31 v) m x 0 j).2 24 ∧ (rnI (uG (whyS X m x).2 31 v) m x 0 j).2 24 < 2100) ∧ AW (runS (uG (whyS X m x).2 31 v) m x 0) (X.2 24) := by
  generalize hY : uG (whyS X m x).2 31 v = Y
  obtain ⟨w1, w2, w3, w4, w5, w6⟩ := hmw
  have hlog := HW_log w3
  have y1 : ∀ k, k ≠ 1 → Y.1 k = X.1 k := fun k h => by rw [← hY]; exact whyS_1 X m x k h
  have y2 : ∀ k, k ≠ 31 → Y.2 k = X.2 k := fun k h => by rw [← hY, uG_n _ h, whyS_2]
  have hpe : PEq Y X := ⟨fun k h1 h2 => y1 k (by omega), y1 0 (by decide)⟩
  obtain ⟨g1, g2, g3⟩ := run_ok 0 w1 hpe hm hx (by rw [y2 24 (by decide)]; exact ⟨w2.1, by omega⟩) hok
  have hpY : WFp Y := WFp_of w1 (fun k q1 q2 => y1 k (by omega)) ⟨y2 22 (by decide), y2 23 (by decide), y2 27 (by decide), y2 28 (by decide)⟩ (by rw [y1 0 (by decide)]; exact w1.2.2.2.2.2)
  have hm4 := hpY.2.1 m hm.1 hm.2
  have hlY : WFl Y := by
    unfold WFl
    rw [y2 24 (by decide), y1 16 (by decide), y1 18 (by decide), y1 19 (by decide)]
    exact w2
  have z3 := rnI_24 Y m x 0 (Y.1 4 m).toNat
  rw [y2 24 (by decide)] at z3
  refine ⟨hpY, g1, g2, WFp_of hpY (fun k q1 q2 => rnI_1 Y m x 0 k (by omega) _) ⟨rnI_2 Y m x 0 22 (by decide) _, rnI_2 Y m x 0 23 (by decide) _, rnI_2 Y m x 0 27 (by decide) _, rnI_2 Y m x 0 28 (by decide) _⟩ (g3 _ (by omega)), rnI_wl hlY hm (by omega) g1 _ (by omega), w2.1, by unfold runS; omega, by unfold runS; omega, by unfold runS; omega, ?_, ?_, ?_⟩
  · unfold runS
    rw [rnI_2 Y m x 0 25 (by decide), y2 25 (by decide)]
    exact w3.1
  · unfold runS
    rw [rnI_2 Y m x 0 25 (by decide), y2 25 (by decide)]
    exact w3.2.1
  · unfold runS
    rw [rnI_2 Y m x 0 25 (by decide), y2 25 (by decide), rnI_1 Y m x 0 20 (by decide), y1 20 (by decide)]
    intro q
    have q2 := HW_le w3 1 (by omega)
    have q3 : ∀ j : Nat, (j : Int) + 1 ≤ X.2 25 → X.1 20 1 ≤ X.1 20 ((j : Int) + 1) := by
      intro j
      induction j with
      | zero => intro _; simp
      | succ j ih =>
        intro hj
        have e1 := ih (by omega)
        have e2 := w3.2.2.2.2 ((j : Int) + 1) (by omega) (by omega)
        rw [show ((j + 1 : Nat) : Int) = (j : Int) + 1 by omega]
        omega
    have q4 := q3 7 (by omega)
    rw [show ((7 : Nat) : Int) + 1 = X.2 25 by omega, w3.2.2.2.1] at q4
    exact ⟨q2.1, q4⟩

section
variable {l : Launch} {D : va_G} {cB cC cI cO cJ cD : ClassId} {ee : Nat × Nat} {mo : Nat} {Pm : Nat → Nat} {S : MSt} {b : Int}
end

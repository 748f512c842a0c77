/-! the reference's actions as calls -/
theorem recS_2 (S : MSt) (a x n : Int) : (recS S a x n).2 = S.2 := by
  unfold recS
  split
  · rfl
  · rfl
theorem recS_1 (S : MSt) (a x n : Int) (k : Nat) (h : k ≠ 4 ∧ k ≠ 5 ∧ k ≠ 6 ∧ k ≠ 7 ∧ k ≠ 8) : (recS S a x n).1 k = S.1 k := by
  unfold recS
  split
  · rfl
  · rw [uA_n _ h.1, uA_n _ h.2.2.2.2, uA_n _ h.2.2.2.1, uA_n _ h.2.2.1, uA_n _ h.2.1]
theorem recS_wf {S : MSt} {a x n : Int} (h : WFp S) (hr : RW S) (ha : 0 ≤ a ∧ a ≤ 200) (hx : 0 ≤ x ∧ x < 48) (hn : -9999 ≤ n ∧ n ≤ 9999) : WFp (recS S a x n) := by
  unfold recS
  split
  · exact h
  · rename_i hc
    obtain ⟨w1, w2, w3, w4, w5, w6⟩ := h
    have hr2 := hr (by omega)
    have hm := w2 (S.2 27) (by omega) (by omega)
    refine ⟨fun z h0 h1 => ?_, fun m h0 h1 => ?_, ?_, ?_, w5, w6⟩
    · have w := w1 z h0 h1
      repeat (first | rw [uA_s] | rw [uA_n _ (by decide)])
      by_cases q : z = 10 * S.2 27 + S.1 4 (S.2 27)
      · subst q
        simp only [upZ, if_true]
        omega
      · simp only [upZ, if_neg q]
        exact w
    · have w := w2 m h0 h1
      repeat (first | rw [uA_s] | rw [uA_n _ (by decide)])
      by_cases q : m = S.2 27
      · subst q
        simp only [upZ, if_true]
        omega
      · simp only [upZ, if_neg q]
        exact w
    · simpa [uA] using w3
    · simpa [uA] using w4
theorem hand_wf {S : MSt} {a x v n b : Int} (h : MW S b) (ha : 0 ≤ a ∧ a ≤ 200) (hx : 0 ≤ x ∧ x < 48) (hn : -9999 ≤ n ∧ n ≤ 9999) (hv : isValueB v = true) : AW (handS S a x v n) (S.2 24) := by
  obtain ⟨h1, h2, h3, h4, h5, h6⟩ := h
  have hp := recS_wf h1 h4 ha hx hn
  have hl : WFl (recS S a x n) := by
    unfold WFl
    rw [recS_2, recS_1 _ _ _ _ 16 (by decide), recS_1 _ _ _ _ 18 (by decide), recS_1 _ _ _ _ 19 (by decide)]
    exact h2
  have h24 := becS_24 (recS S a x n) x v (-1) 0
  have hlog := HW_log h3
  rw [recS_2] at h24
  refine ⟨WFp_of hp (fun k q1 q2 => becS_1 _ _ _ _ _ k (by omega)) ⟨becS_2 _ _ _ _ _ 22 (by decide), becS_2 _ _ _ _ _ 23 (by decide), becS_2 _ _ _ _ _ 27 (by decide), becS_2 _ _ _ _ _ 28 (by decide)⟩ ?_, WFl_bec hl hx (by omega) (by omega), h2.1, by unfold handS; omega, by unfold handS; omega, by unfold handS; omega, ?_, ?_, ?_⟩
  · unfold handS
    rw [becS_0]
    exact rgN_up hp.2.2.2.2.2 hv
  · unfold handS
    rw [becS_2 _ _ _ _ _ 25 (by decide), recS_2]
    exact h3.1
  · unfold handS
    rw [becS_2 _ _ _ _ _ 25 (by decide), recS_2]
    exact h3.2.1
  · unfold handS
    rw [becS_2 _ _ _ _ _ 25 (by decide), recS_2, becS_1 _ _ _ _ _ 20 (by decide), recS_1 _ _ _ _ 20 (by decide)]
    intro q
    have q1 := h3.2.2.2.2 0 (by omega) (by omega)
    have q2 := HW_le h3 1 (by omega)
    have q3 : ∀ j : Nat, (j : Int) + 1 ≤ S.2 25 → S.1 20 1 ≤ S.1 20 ((j : Int) + 1) := by
      intro j
      induction j with
      | zero => intro _; simp
      | succ j ih =>
        intro hj
        have e1 := ih (by omega)
        have e2 := h3.2.2.2.2 ((j : Int) + 1) (by omega) (by omega)
        rw [show ((j + 1 : Nat) : Int) = (j : Int) + 1 by omega]
        omega
    have q4 := q3 7 (by omega)
    rw [show ((7 : Nat) : Int) + 1 = S.2 25 by omega, h3.2.2.2.1] at q4
    exact ⟨q2.1, q4⟩
def setX (S : MSt) (c r v : Int) : Int × MSt := if isCellB c r = false then (0, uG S 31 1) else if isValueB v = false then (0, uG S 31 2) else byHandS (uG S 31 0) 115 (atI c r) v v
def addX (S : MSt) (c r n : Int) : Int × MSt := if isCellB c r = false then (0, uG S 31 1) else if isValueB n = false ∨ isValueB (S.1 0 (atI c r) + n) = false then (0, uG S 31 2) else byHandS (uG S 31 0) 97 (atI c r) (S.1 0 (atI c r) + n) n
def copyBaseX (S : MSt) (c r : Int) : Int × MSt := if isCellB c r = false then (0, uG S 31 1) else if S.2 27 < 0 then (0, uG S 31 2) else byHandS (uG S 31 0) 99 (atI c r) (S.1 0 (S.2 28)) 0
theorem isValue_of {v : Int} : isValueB v = true ↔ -9999 ≤ v ∧ v ≤ 9999 := by simp [isValueB, isInB]
def runX (S : MSt) (m c r : Int) : Int × MSt := if isMacB S m = false ∨ isCellB c r = false then (0, uG S 31 1) else if m = S.2 27 then (0, uG S 31 2) else if (whyS (uG S 31 0) m (atI c r)).1 ≠ 45 then (0, uG (whyS (uG S 31 0) m (atI c r)).2 31 3) else endsS (chX (runS (uG (whyS (uG S 31 0) m (atI c r)).2 31 0) m (atI c r) 0) (S.2 24)) (S.2 24) ((chX (runS (uG (whyS (uG S 31 0) m (atI c r)).2 31 0) m (atI c r) 0) (S.2 24)).2 24 - S.2 24)
/-- what a run by hand needs -/
theorem run_pre3 {X : MSt} {m x v b : Int} (hmw : MW X b) (hm : 0 ≤ m ∧ m < 6) (hx : 0 ≤ x ∧ x < 48) (hok : (whyS X m x).1 = 45) : WFp (uG (whyS X m x).2 31 v) ∧ (∀ j : Nat, (j : Int) < (uG (whyS X m x).2 31 v).1 4 m → 0 ≤ goalI (uG (whyS X m x).2 31 v) m j x ∧ goalI (uG (whyS X m x).2 31 v) m j x < 48) ∧ (∀ j : Nat, (j : Int) < (uG (whyS X m x).2 31 v).1 4 m → rI (stepI (rnI (uG (whyS X m x).2 31 v) m x 0 j) m j x) ∧ rI ((rnI (uG (whyS X m x).2 31 v) m x 0 j).1 0 (goalI (uG (whyS X m x).2 31 v) m j x)) ∧ 0 ≤ (rnI (uG (whyS X m x).2 31 v) m x 0 j).2 24 ∧ (rnI (uG (whyS X m x).2 31 v) m x 0 j).2 24 < 2100) ∧ AW (runS (uG (whyS X m x).2 31 v) m x 0) (X.2 24) := by
  generalize hY : uG (whyS X m x).2 31 v = Y
  obtain ⟨w1, w2, w3, w4, w5, w6⟩ := hmw
  have hlog := HW_log w3
  have y1 : ∀ k, k ≠ 1 → Y.1 k = X.1 k := fun k h => by rw [← hY]; exact whyS_1 X m x k h
  have y2 : ∀ k, k ≠ 31 → Y.2 k = X.2 k := fun k h => by rw [← hY, uG_n _ h, whyS_2]
  have hpe : PEq Y X := ⟨fun k h1 h2 => y1 k (by omega), y1 0 (by decide)⟩
  obtain ⟨g1, g2, g3⟩ := run_ok 0 w1 hpe hm hx (by rw [y2 24 (by decide)]; exact ⟨w2.1, by omega⟩) hok
  have hpY : WFp Y := WFp_of w1 (fun k q1 q2 => y1 k (by omega)) ⟨y2 22 (by decide), y2 23 (by decide), y2 27 (by decide), y2 28 (by decide)⟩ (by rw [y1 0 (by decide)]; exact w1.2.2.2.2.2)
  have hm4 := hpY.2.1 m hm.1 hm.2
  have hlY : WFl Y := by
    unfold WFl
    rw [y2 24 (by decide), y1 16 (by decide), y1 18 (by decide), y1 19 (by decide)]
    exact w2
  have z3 := rnI_24 Y m x 0 (Y.1 4 m).toNat
  rw [y2 24 (by decide)] at z3
  refine ⟨hpY, g1, g2, WFp_of hpY (fun k q1 q2 => rnI_1 Y m x 0 k (by omega) _) ⟨rnI_2 Y m x 0 22 (by decide) _, rnI_2 Y m x 0 23 (by decide) _, rnI_2 Y m x 0 27 (by decide) _, rnI_2 Y m x 0 28 (by decide) _⟩ (g3 _ (by omega)), rnI_wl hlY hm (by omega) g1 _ (by omega), w2.1, by unfold runS; omega, by unfold runS; omega, by unfold runS; omega, ?_, ?_, ?_⟩
  · unfold runS
    rw [rnI_2 Y m x 0 25 (by decide), y2 25 (by decide)]
    exact w3.1
  · unfold runS
    rw [rnI_2 Y m x 0 25 (by decide), y2 25 (by decide)]
    exact w3.2.1
  · unfold runS
    rw [rnI_2 Y m x 0 25 (by decide), y2 25 (by decide), rnI_1 Y m x 0 20 (by decide), y1 20 (by decide)]
    intro q
    have q2 := HW_le w3 1 (by omega)
    have q3 : ∀ j : Nat, (j : Int) + 1 ≤ X.2 25 → X.1 20 1 ≤ X.1 20 ((j : Int) + 1) := by
      intro j
      induction j with
      | zero => intro _; simp
      | succ j ih =>
        intro hj
        have e1 := ih (by omega)
        have e2 := w3.2.2.2.2 ((j : Int) + 1) (by omega) (by omega)
        rw [show ((j + 1 : Nat) : Int) = (j : Int) + 1 by omega]
        omega
    have q4 := q3 7 (by omega)
    rw [show ((7 : Nat) : Int) + 1 = X.2 25 by omega, w3.2.2.2.1] at q4
    exact ⟨q2.1, q4⟩

theorem ydX8_byHand : yX8_byHand.cls = RX8 ∧ yX8_byHand.cls ≠ "java/lang/invoke/MethodHandle" ∧ yX8_byHand.cls ≠ "java/lang/invoke/VarHandle" ∧ (parseMethodDescriptor yX8_byHand.desc).map (fun d => d.parameters.length) = some 4 := by decide +kernel
theorem ydX8_set : yX8_set.cls = RX8 ∧ yX8_set.cls ≠ "java/lang/invoke/MethodHandle" ∧ yX8_set.cls ≠ "java/lang/invoke/VarHandle" ∧ (parseMethodDescriptor yX8_set.desc).map (fun d => d.parameters.length) = some 3 := by decide +kernel
theorem ydX8_add : yX8_add.cls = RX8 ∧ yX8_add.cls ≠ "java/lang/invoke/MethodHandle" ∧ yX8_add.cls ≠ "java/lang/invoke/VarHandle" ∧ (parseMethodDescriptor yX8_add.desc).map (fun d => d.parameters.length) = some 3 := by decide +kernel
section
variable {l : Launch} {D : va_G} {cB cC cI cO cJ cD : ClassId} {ee mo : Nat} {Pm : Nat → Nat} {S : MSt} {b : Int}
set_option maxHeartbeats 4000000 in
set_option maxRecDepth 100000 in
theorem kX8_byHand (a : Int) (x : Int) (v : Int) (n : Int) (hmw : MW S b) (h1 : 0 ≤ a ∧ a ≤ 200) (h2 : 0 ≤ x ∧ x < 48) (h3 : isValueB v = true) (h4 : -9999 ≤ n ∧ n ≤ 9999) : Mf l D cB cC cI cO cJ cD ee yX8_byHand wsX8_byHand ({ frames := 6, cells := 0, slots := 0, locals := 139 } : Room) mo Pm [.int (iI a), .int (iI x), .int (iI v), .int (iI n)] S ((byHandS S a x v n).1, (byHandS S a x v n).2) := by
  refine Ct_of (cc := cX8_byHand) (own := RX8) [some (.ref mo), some (.int (iI a)), some (.int (iI x)), some (.int (iI v)), some (.int (iI n)), none, none] (by decide) rfl rfl (Nat.le_of_ble_eq_true rfl) (fun i9 v9 h9 => argL (.ref mo :: [.int (iI a), .int (iI x), .int (iI v), .int (iI n)]) 2 rfl i9 v9 h9) ?_
  intro p e s m9 args below meth c9 h0 sz hI C hr hlk hinit
  have hin : ∀ w ∈ wsX80, w ∈ wsX8_byHand := by decide +kernel
  refine V_weak (I2 := MI cC cI h0 mo Pm S) (fun x hx => by subst hx; exact ⟨hI, Fr.refl⟩) ?_
  obtain ⟨hwp, hwl, hwh, hwr, hws, hwt⟩ := id hmw
  obtain ⟨hw1, hw2, hw3, hw4, hw5, hw6⟩ := id hwp
  have ha := hand_wf hmw h1 h2 h4 h3
  obtain ⟨a1, a2, a3, a4, a5, a6⟩ := AW_chX ha
  have hv9 := isValue_of.mp h3
  have hr9 := recS_wf hwp hwr h1 h2 h4
  have hlog := HW_log hwh
  have hll := hwl.1
  have k27 : (endsS (chX (handS S a x v n) (S.2 24)) (S.2 24) ((chX (handS S a x v n) (S.2 24)).2 24 - S.2 24)).2.2 27 = S.2 27 := by rw [endsS_2 _ _ _ 27 (by decide), a5 27 (by decide) (by decide)]; unfold handS; rw [becS_2 _ _ _ _ _ 27 (by decide), recS_2]
  have k4 : (endsS (chX (handS S a x v n) (S.2 24)) (S.2 24) ((chX (handS S a x v n) (S.2 24)).2 24 - S.2 24)).2.1 4 = (chX (handS S a x v n) (S.2 24)).1 4 := endsS_1 _ _ _ 4 (by decide)
  refine V_aload0 (pc' := 1) C dX8_byHand_0 rfl ?_
  refine V_iload1 (pc' := 2) C dX8_byHand_1 rfl ?_
  refine V_iload2 (pc' := 3) C dX8_byHand_2 rfl ?_
  refine V_iload4 (pc' := 5) C dX8_byHand_3 rfl ?_
  refine mCallV3 (pc' := 8) C (kX8_records _ _ _ h2 (by omega) (fun q => ⟨by have := hw2 (S.2 27) (by omega) (by omega); omega, (hwr q).2⟩) (by omega)) gX8_byHand_X8_records rfl ydX8_records ⟨Nat.le_of_ble_eq_true rfl, Nat.le_of_ble_eq_true rfl⟩ ⟨rfl, rfl⟩ (Nat.le_of_ble_eq_true rfl) dX8_byHand_5 ⟨Nat.zero_le _, Nat.zero_le _⟩ rfl ?_
  refine V_aload0 (pc' := 9) C dX8_byHand_8 rfl ?_
  refine mGetI (pc' := 12) 24 C hin (by decide) (by decide +kernel) dX8_byHand_9 rfl ?_
  refine V_eq (st2 := [Value.int (iI (S.2 24))]) (by rw [recS_2]) ?_
  refine V_istore5 (pc' := 14) C dX8_byHand_12 rfl (by decide) rfl ?_
  refine V_aload0 (pc' := 15) C dX8_byHand_14 rfl ?_
  refine V_iload2 (pc' := 16) C dX8_byHand_15 rfl ?_
  refine V_iload3 (pc' := 17) C dX8_byHand_16 rfl ?_
  refine V_iconst (pc' := 18) C dX8_byHand_17 rfl ?_
  refine V_iconst (pc' := 19) C dX8_byHand_18 rfl ?_
  refine mCallV4 (pc' := 22) C (kX8_becomes _ _ _ _ h2 (by rw [recS_2]; omega) (by have := hr9.2.2.2.2.2 x h2.1 h2.2; omega) (by omega)) gX8_byHand_X8_becomes rfl ydX8_becomes ⟨Nat.le_of_ble_eq_true rfl, Nat.le_of_ble_eq_true rfl⟩ ⟨rfl, rfl⟩ (Nat.le_of_ble_eq_true rfl) dX8_byHand_19 ⟨Nat.zero_le _, Nat.zero_le _⟩ rfl ?_
  refine V_weak (I2 := MI cC cI h0 mo Pm (handS S a x v n)) (fun h q => by exact q) ?_
  refine V_aload0 (pc' := 23) C dX8_byHand_22 rfl ?_
  refine V_iload5 (pc' := 25) C dX8_byHand_23 rfl ?_
  refine mCallF1 (pc' := 28) C (kX8_ends _ ha) gX8_byHand_X8_ends rfl ydX8_ends ⟨Nat.le_of_ble_eq_true rfl, Nat.le_of_ble_eq_true rfl⟩ ⟨rfl, rfl⟩ (Nat.le_of_ble_eq_true rfl) dX8_byHand_25 ⟨Nat.zero_le _, Nat.zero_le _⟩ rfl ?_
  refine V_istore6 (pc' := 30) C dX8_byHand_28 rfl (by decide) rfl ?_
  refine V_aload0 (pc' := 31) C dX8_byHand_30 rfl ?_
  refine V_aload0 (pc' := 32) C dX8_byHand_31 rfl ?_
  refine mGetI (pc' := 35) 27 C hin (by decide) (by decide +kernel) dX8_byHand_32 rfl ?_
  refine V_iflt (tgt := 56) C (by rw [k27]; omega) dX8_byHand_35 (by decide) rfl (fun c_35 => ?_) (fun c_35 => ?_)
  · refine V_aload0 (pc' := 57) C dX8_byHand_56 rfl ?_
    refine mGetI (pc' := 60) 27 C hin (by decide) (by decide +kernel) dX8_byHand_57 rfl ?_
    refine mPutI (pc' := 63) 27 C hin (by decide) (by decide +kernel) dX8_byHand_60 rfl ?_
    refine V_iload6 (pc' := 65) C dX8_byHand_63 rfl ?_
    exact mEnd C hr hlk ⟨Nat.le_refl _, Nat.le_refl _⟩ dX8_byHand_65 (by first | (unfold byHandS afterS; rw [if_neg (fun q => by have := q.1; omega)]; done) | (unfold byHandS afterS; rw [if_pos ⟨by omega, by omega⟩]; done) | (unfold byHandS afterS; rw [if_neg (fun q => by have := q.2; omega)]; done))
  · have c9 : 0 ≤ S.2 27 := by rw [← k27]; omega
    have k5 := a1.2.1 (S.2 27) (by omega) (by omega)
    refine V_aload0 (pc' := 39) C dX8_byHand_38 rfl ?_
    refine mGetA (pc' := 42) 4 C hin (by decide) (by decide +kernel) dX8_byHand_39 rfl ?_
    refine V_aload0 (pc' := 43) C dX8_byHand_42 rfl ?_
    refine mGetI (pc' := 46) 27 C hin (by decide) (by decide +kernel) dX8_byHand_43 rfl ?_
    refine mLd (pc' := 47) (n := 6) 4 C (by decide) rfl (by rw [k27]; omega) dX8_byHand_46 rfl ?_
    refine V_bipush (pc' := 49) C dX8_byHand_47 rfl (by decide) ?_
    refine V_icmpne (tgt := 56) C (by rw [k27, k4]; omega) dX8_byHand_49 (by decide) rfl (fun c_49 => ?_) (fun c_49 => ?_)
    · refine V_aload0 (pc' := 57) C dX8_byHand_56 rfl ?_
      refine mGetI (pc' := 60) 27 C hin (by decide) (by decide +kernel) dX8_byHand_57 rfl ?_
      refine mPutI (pc' := 63) 27 C hin (by decide) (by decide +kernel) dX8_byHand_60 rfl ?_
      refine V_iload6 (pc' := 65) C dX8_byHand_63 rfl ?_
      exact mEnd C hr hlk ⟨Nat.le_refl _, Nat.le_refl _⟩ dX8_byHand_65 (by first | (unfold byHandS afterS; rw [if_neg (fun q => by have := q.1; omega)]; done) | (unfold byHandS afterS; rw [if_pos ⟨by omega, by omega⟩]; done) | (unfold byHandS afterS; rw [if_neg (fun q => by have := q.2; omega)]; done))
    · refine V_iconst (pc' := 53) C dX8_byHand_52 rfl ?_
      refine V_goto (tgt := 60) C dX8_byHand_53 (by decide) ?_
      refine mPutI (pc' := 63) 27 C hin (by decide) (by decide +kernel) dX8_byHand_60 rfl ?_
      refine V_iload6 (pc' := 65) C dX8_byHand_63 rfl ?_
      exact mEnd C hr hlk ⟨Nat.le_refl _, Nat.le_refl _⟩ dX8_byHand_65 (by first | (unfold byHandS afterS; rw [if_neg (fun q => by have := q.1; omega)]; done) | (unfold byHandS afterS; rw [if_pos ⟨by omega, by omega⟩]; done) | (unfold byHandS afterS; rw [if_neg (fun q => by have := q.2; omega)]; done))
set_option maxHeartbeats 4000000 in
set_option maxRecDepth 100000 in
theorem kX8_set (c : Int) (r : Int) (v : Int) (hmw : MW S b) (r0 : rI c) (r1 : rI r) (r2 : rI v) : Mf l D cB cC cI cO cJ cD ee yX8_set wsX8_set ({ frames := 7, cells := 0, slots := 0, locals := 165 } : Room) mo Pm [.int (iI c), .int (iI r), .int (iI v)] S ((setX S c r v).1, (setX S c r v).2) := by
  refine Ct_of (cc := cX8_set) (own := RX8) [some (.ref mo), some (.int (iI c)), some (.int (iI r)), some (.int (iI v))] (by decide) rfl rfl (Nat.le_of_ble_eq_true rfl) (fun i9 v9 h9 => argL (.ref mo :: [.int (iI c), .int (iI r), .int (iI v)]) 0 rfl i9 v9 h9) ?_
  intro p e s m9 args below meth c9 h0 sz hI C hr hlk hinit
  have hin : ∀ w ∈ wsX80, w ∈ wsX8_set := by decide +kernel
  refine V_weak (I2 := MI cC cI h0 mo Pm S) (fun x hx => by subst hx; exact ⟨hI, Fr.refl⟩) ?_
  obtain ⟨hwp, hwl, hwh, hwr, hws, hwt⟩ := id hmw
  obtain ⟨hw1, hw2, hw3, hw4, hw5, hw6⟩ := id hwp
  refine V_aload0 (pc' := 1) C dX8_set_0 rfl ?_
  refine V_iload1 (pc' := 2) C dX8_set_1 rfl ?_
  refine V_iload2 (pc' := 3) C dX8_set_2 rfl ?_
  refine mCallF2 (pc' := 6) C (kX8_isNoCell _ _ (by omega) (by omega)) gX8_set_X8_isNoCell rfl ydX8_isNoCell ⟨Nat.le_of_ble_eq_true rfl, Nat.le_of_ble_eq_true rfl⟩ ⟨rfl, rfl⟩ (Nat.le_of_ble_eq_true rfl) dX8_set_3 ⟨Nat.zero_le _, Nat.zero_le _⟩ rfl ?_
  refine V_ifneB (tgt := 29) C dX8_set_6 (by decide) rfl (fun c_6 => ?_) (fun c_6 => ?_)
  · refine V_iconst (pc' := 30) C dX8_set_29 rfl ?_
    refine V_goto (tgt := 46) C dX8_set_30 (by decide) ?_
    exact mEnd C hr hlk ⟨Nat.le_refl _, Nat.le_refl _⟩ dX8_set_46 (by first | (unfold setX; rw [if_neg (by simp_all), if_neg (by simp_all)]; done) | simp_all [setX, thS, uG_uG])
  · refine V_weak (I2 := MI cC cI h0 mo Pm (uG S 31 0)) (fun h q => by rw [c_6] at q; exact q) ?_
    refine V_aload0 (pc' := 10) C dX8_set_9 rfl ?_
    refine V_iload3 (pc' := 11) C dX8_set_10 rfl ?_
    refine sCall1 (pc' := 14) C (kX8_isValue _ (by omega)) gX8_set_X8_isValue rfl ydX8_isValue ⟨Nat.le_of_ble_eq_true rfl, Nat.le_of_ble_eq_true rfl⟩ ⟨rfl, rfl⟩ (Nat.le_of_ble_eq_true rfl) dX8_set_11 ⟨Nat.zero_le _, Nat.zero_le _⟩ rfl ?_
    refine V_ifneB (tgt := 21) C dX8_set_14 (by decide) rfl (fun c_14 => ?_) (fun c_14 => ?_)
    · refine V_iconst (pc' := 22) C dX8_set_21 rfl ?_
      refine V_iconst (pc' := 23) C dX8_set_22 rfl ?_
      refine mCallF2 (pc' := 26) C (kX8_isThrown false _ ) gX8_set_X8_isThrown rfl ydX8_isThrown ⟨Nat.le_of_ble_eq_true rfl, Nat.le_of_ble_eq_true rfl⟩ ⟨rfl, rfl⟩ (Nat.le_of_ble_eq_true rfl) dX8_set_23 ⟨Nat.zero_le _, Nat.zero_le _⟩ rfl ?_
      refine V_ifeqB (tgt := 33) C dX8_set_26 (by decide) rfl (fun c_26 => ?_) (fun c_26 => ?_)
      · have hx := atI_in (c := c) (r := r) (by simpa using c_6)
        have hv9 := isValue_of.mp c_14
        refine V_weak (I2 := MI cC cI h0 mo Pm (uG S 31 0)) (fun h q => by simpa [thS, uG_uG] using q) ?_
        refine V_aload0 (pc' := 34) C dX8_set_33 rfl ?_
        refine V_bipush (pc' := 36) C dX8_set_34 rfl (by decide) ?_
        refine V_iload1 (pc' := 37) C dX8_set_36 rfl ?_
        refine V_iload2 (pc' := 38) C dX8_set_37 rfl ?_
        refine sCall2 (pc' := 41) C (kX8_at _ _ ) gX8_set_X8_at rfl ydX8_at ⟨Nat.le_of_ble_eq_true rfl, Nat.le_of_ble_eq_true rfl⟩ ⟨rfl, rfl⟩ (Nat.le_of_ble_eq_true rfl) dX8_set_38 ⟨Nat.zero_le _, Nat.zero_le _⟩ rfl ?_
        refine V_iload3 (pc' := 42) C dX8_set_41 rfl ?_
        refine V_iload3 (pc' := 43) C dX8_set_42 rfl ?_
        refine mCallF4 (pc' := 46) C (kX8_byHand _ _ _ _ (b := b) hmw (by omega) (by omega) c_14 (by omega)) gX8_set_X8_byHand rfl ydX8_byHand ⟨Nat.le_of_ble_eq_true rfl, Nat.le_of_ble_eq_true rfl⟩ ⟨rfl, rfl⟩ (Nat.le_of_ble_eq_true rfl) dX8_set_43 ⟨Nat.zero_le _, Nat.zero_le _⟩ rfl ?_
        exact mEnd C hr hlk ⟨Nat.le_refl _, Nat.le_refl _⟩ dX8_set_46 (by first | (unfold setX; rw [if_neg (by simp_all), if_neg (by simp_all)]; done) | simp_all [setX, thS, uG_uG])
      · exact absurd c_26 (by decide)
    · refine V_iconst (pc' := 18) C dX8_set_17 rfl ?_
      refine V_goto (tgt := 22) C dX8_set_18 (by decide) ?_
      refine V_iconst (pc' := 23) C dX8_set_22 rfl ?_
      refine mCallF2 (pc' := 26) C (kX8_isThrown true _ ) gX8_set_X8_isThrown rfl ydX8_isThrown ⟨Nat.le_of_ble_eq_true rfl, Nat.le_of_ble_eq_true rfl⟩ ⟨rfl, rfl⟩ (Nat.le_of_ble_eq_true rfl) dX8_set_23 ⟨Nat.zero_le _, Nat.zero_le _⟩ rfl ?_
      refine V_ifeqB (tgt := 33) C dX8_set_26 (by decide) rfl (fun c_26 => ?_) (fun c_26 => ?_)
      · exact absurd c_26 (by decide)
      · refine V_iconst (pc' := 30) C dX8_set_29 rfl ?_
        refine V_goto (tgt := 46) C dX8_set_30 (by decide) ?_
        exact mEnd C hr hlk ⟨Nat.le_refl _, Nat.le_refl _⟩ dX8_set_46 (by first | (unfold setX; rw [if_neg (by simp_all), if_neg (by simp_all)]; done) | simp_all [setX, thS, uG_uG])
set_option maxHeartbeats 4000000 in
set_option maxRecDepth 100000 in
theorem kX8_add (c : Int) (r : Int) (n : Int) (hmw : MW S b) (r0 : rI c) (r1 : rI r) (r2 : rI n) : Mf l D cB cC cI cO cJ cD ee yX8_add wsX8_add ({ frames := 7, cells := 0, slots := 0, locals := 165 } : Room) mo Pm [.int (iI c), .int (iI r), .int (iI n)] S ((addX S c r n).1, (addX S c r n).2) := by
  refine Ct_of (cc := cX8_add) (own := RX8) [some (.ref mo), some (.int (iI c)), some (.int (iI r)), some (.int (iI n))] (by decide) rfl rfl (Nat.le_of_ble_eq_true rfl) (fun i9 v9 h9 => argL (.ref mo :: [.int (iI c), .int (iI r), .int (iI n)]) 0 rfl i9 v9 h9) ?_
  intro p e s m9 args below meth c9 h0 sz hI C hr hlk hinit
  have hin : ∀ w ∈ wsX80, w ∈ wsX8_add := by decide +kernel
  refine V_weak (I2 := MI cC cI h0 mo Pm S) (fun x hx => by subst hx; exact ⟨hI, Fr.refl⟩) ?_
  obtain ⟨hwp, hwl, hwh, hwr, hws, hwt⟩ := id hmw
  obtain ⟨hw1, hw2, hw3, hw4, hw5, hw6⟩ := id hwp
  refine V_aload0 (pc' := 1) C dX8_add_0 rfl ?_
  refine V_iload1 (pc' := 2) C dX8_add_1 rfl ?_
  refine V_iload2 (pc' := 3) C dX8_add_2 rfl ?_
  refine mCallF2 (pc' := 6) C (kX8_isNoCell _ _ (by omega) (by omega)) gX8_add_X8_isNoCell rfl ydX8_isNoCell ⟨Nat.le_of_ble_eq_true rfl, Nat.le_of_ble_eq_true rfl⟩ ⟨rfl, rfl⟩ (Nat.le_of_ble_eq_true rfl) dX8_add_3 ⟨Nat.zero_le _, Nat.zero_le _⟩ rfl ?_
  refine V_ifneB (tgt := 47) C dX8_add_6 (by decide) rfl (fun c_6 => ?_) (fun c_6 => ?_)
  · refine V_iconst (pc' := 48) C dX8_add_47 rfl ?_
    exact mEnd C hr hlk ⟨Nat.le_refl _, Nat.le_refl _⟩ dX8_add_48 (by first | (unfold addX; rw [if_pos (by simp_all)]; simp_all [thS]; done) | (unfold addX; rw [if_neg (by simp_all), if_pos (by first | exact Or.inl (by assumption) | exact Or.inr (by assumption))]; simp [thS, uG_uG]; done))
  · have hx := atI_in (c := c) (r := r) (by simpa using c_6)
    refine V_weak (I2 := MI cC cI h0 mo Pm (uG S 31 0)) (fun h q => by rw [c_6] at q; exact q) ?_
    refine V_aload0 (pc' := 10) C dX8_add_9 rfl ?_
    refine V_iload3 (pc' := 11) C dX8_add_10 rfl ?_
    refine sCall1 (pc' := 14) C (kX8_isValue _ (by omega)) gX8_add_X8_isValue rfl ydX8_isValue ⟨Nat.le_of_ble_eq_true rfl, Nat.le_of_ble_eq_true rfl⟩ ⟨rfl, rfl⟩ (Nat.le_of_ble_eq_true rfl) dX8_add_11 ⟨Nat.zero_le _, Nat.zero_le _⟩ rfl ?_
    refine V_ifeqB (tgt := 35) C dX8_add_14 (by decide) rfl (fun c_14 => ?_) (fun c_14 => ?_)
    · refine V_iconst (pc' := 36) C dX8_add_35 rfl ?_
      refine V_goto (tgt := 40) C dX8_add_36 (by decide) ?_
      refine V_iconst (pc' := 41) C dX8_add_40 rfl ?_
      refine mCallF2 (pc' := 44) C (kX8_isThrown true _ ) gX8_add_X8_isThrown rfl ydX8_isThrown ⟨Nat.le_of_ble_eq_true rfl, Nat.le_of_ble_eq_true rfl⟩ ⟨rfl, rfl⟩ (Nat.le_of_ble_eq_true rfl) dX8_add_41 ⟨Nat.zero_le _, Nat.zero_le _⟩ rfl ?_
      refine V_ifeqB (tgt := 49) C dX8_add_44 (by decide) rfl (fun c_44 => ?_) (fun c_44 => ?_)
      · exact absurd c_44 (by decide)
      · refine V_iconst (pc' := 48) C dX8_add_47 rfl ?_
        exact mEnd C hr hlk ⟨Nat.le_refl _, Nat.le_refl _⟩ dX8_add_48 (by first | (unfold addX; rw [if_pos (by simp_all)]; simp_all [thS]; done) | (unfold addX; rw [if_neg (by simp_all), if_pos (by first | exact Or.inl (by assumption) | exact Or.inr (by assumption))]; simp [thS, uG_uG]; done))
    · have hn9 := isValue_of.mp c_14
      have hc9 := hw6 (atI c r) hx.1 hx.2
      refine V_aload0 (pc' := 18) C dX8_add_17 rfl ?_
      refine mGetA (pc' := 21) 0 C hin (by decide) (by decide +kernel) dX8_add_18 rfl ?_
      refine V_iload1 (pc' := 22) C dX8_add_21 rfl ?_
      refine V_iload2 (pc' := 23) C dX8_add_22 rfl ?_
      refine sCall2 (pc' := 26) C (kX8_at _ _ ) gX8_add_X8_at rfl ydX8_at ⟨Nat.le_of_ble_eq_true rfl, Nat.le_of_ble_eq_true rfl⟩ ⟨rfl, rfl⟩ (Nat.le_of_ble_eq_true rfl) dX8_add_23 ⟨Nat.zero_le _, Nat.zero_le _⟩ rfl ?_
      refine mLd (pc' := 27) (n := 48) 0 C (by decide) rfl (by first | omega | (simp [uA, uG, thS] <;> omega)) dX8_add_26 rfl ?_
      refine V_iload3 (pc' := 28) C dX8_add_27 rfl ?_
      refine V_iadd (pc' := 29) C dX8_add_28 rfl ?_
      refine sCall1 (pc' := 32) C (kX8_isValue _ (by show rI (S.1 0 (atI c r) + n); omega)) gX8_add_X8_isValue rfl ydX8_isValue ⟨Nat.le_of_ble_eq_true rfl, Nat.le_of_ble_eq_true rfl⟩ ⟨rfl, rfl⟩ (Nat.le_of_ble_eq_true rfl) dX8_add_29 ⟨Nat.zero_le _, Nat.zero_le _⟩ rfl ?_
      refine V_ifneB (tgt := 39) C dX8_add_32 (by decide) rfl (fun c_32 => ?_) (fun c_32 => ?_)
      · refine V_iconst (pc' := 40) C dX8_add_39 rfl ?_
        refine V_iconst (pc' := 41) C dX8_add_40 rfl ?_
        refine mCallF2 (pc' := 44) C (kX8_isThrown false _ ) gX8_add_X8_isThrown rfl ydX8_isThrown ⟨Nat.le_of_ble_eq_true rfl, Nat.le_of_ble_eq_true rfl⟩ ⟨rfl, rfl⟩ (Nat.le_of_ble_eq_true rfl) dX8_add_41 ⟨Nat.zero_le _, Nat.zero_le _⟩ rfl ?_
        refine V_ifeqB (tgt := 49) C dX8_add_44 (by decide) rfl (fun c_44 => ?_) (fun c_44 => ?_)
        · have hv9 : isValueB (S.1 0 (atI c r) + n) = true := c_32
          refine V_weak (I2 := MI cC cI h0 mo Pm (uG S 31 0)) (fun h q => by simpa [thS, uG_uG] using q) ?_
          refine V_aload0 (pc' := 50) C dX8_add_49 rfl ?_
          refine V_bipush (pc' := 52) C dX8_add_50 rfl (by decide) ?_
          refine V_iload1 (pc' := 53) C dX8_add_52 rfl ?_
          refine V_iload2 (pc' := 54) C dX8_add_53 rfl ?_
          refine sCall2 (pc' := 57) C (kX8_at _ _ ) gX8_add_X8_at rfl ydX8_at ⟨Nat.le_of_ble_eq_true rfl, Nat.le_of_ble_eq_true rfl⟩ ⟨rfl, rfl⟩ (Nat.le_of_ble_eq_true rfl) dX8_add_54 ⟨Nat.zero_le _, Nat.zero_le _⟩ rfl ?_
          refine V_aload0 (pc' := 58) C dX8_add_57 rfl ?_
          refine mGetA (pc' := 61) 0 C hin (by decide) (by decide +kernel) dX8_add_58 rfl ?_
          refine V_iload1 (pc' := 62) C dX8_add_61 rfl ?_
          refine V_iload2 (pc' := 63) C dX8_add_62 rfl ?_
          refine sCall2 (pc' := 66) C (kX8_at _ _ ) gX8_add_X8_at rfl ydX8_at ⟨Nat.le_of_ble_eq_true rfl, Nat.le_of_ble_eq_true rfl⟩ ⟨rfl, rfl⟩ (Nat.le_of_ble_eq_true rfl) dX8_add_63 ⟨Nat.zero_le _, Nat.zero_le _⟩ rfl ?_
          refine mLd (pc' := 67) (n := 48) 0 C (by decide) rfl (by first | omega | (simp [uA, uG, thS] <;> omega)) dX8_add_66 rfl ?_
          refine V_iload3 (pc' := 68) C dX8_add_67 rfl ?_
          refine V_iadd (pc' := 69) C dX8_add_68 rfl ?_
          refine V_iload3 (pc' := 70) C dX8_add_69 rfl ?_
          refine mCallF4 (pc' := 73) C (kX8_byHand _ _ _ _ (b := b) hmw (by omega) (by omega) hv9 (by omega)) gX8_add_X8_byHand rfl ydX8_byHand ⟨Nat.le_of_ble_eq_true rfl, Nat.le_of_ble_eq_true rfl⟩ ⟨rfl, rfl⟩ (Nat.le_of_ble_eq_true rfl) dX8_add_70 ⟨Nat.zero_le _, Nat.zero_le _⟩ rfl ?_
          exact mEnd C hr hlk ⟨Nat.le_refl _, Nat.le_refl _⟩ dX8_add_73 (by unfold addX; rw [if_neg (by simp_all), if_neg (by simp_all)]; rfl)
        · exact absurd c_44 (by decide)
      · refine V_iconst (pc' := 36) C dX8_add_35 rfl ?_
        refine V_goto (tgt := 40) C dX8_add_36 (by decide) ?_
        refine V_iconst (pc' := 41) C dX8_add_40 rfl ?_
        refine mCallF2 (pc' := 44) C (kX8_isThrown true _ ) gX8_add_X8_isThrown rfl ydX8_isThrown ⟨Nat.le_of_ble_eq_true rfl, Nat.le_of_ble_eq_true rfl⟩ ⟨rfl, rfl⟩ (Nat.le_of_ble_eq_true rfl) dX8_add_41 ⟨Nat.zero_le _, Nat.zero_le _⟩ rfl ?_
        refine V_ifeqB (tgt := 49) C dX8_add_44 (by decide) rfl (fun c_44 => ?_) (fun c_44 => ?_)
        · exact absurd c_44 (by decide)
        · refine V_iconst (pc' := 48) C dX8_add_47 rfl ?_
          exact mEnd C hr hlk ⟨Nat.le_refl _, Nat.le_refl _⟩ dX8_add_48 (by first | (unfold addX; rw [if_pos (by simp_all)]; simp_all [thS]; done) | (unfold addX; rw [if_neg (by simp_all), if_pos (by first | exact Or.inl (by assumption) | exact Or.inr (by assumption))]; simp [thS, uG_uG]; done))
end

/-! the reference's copyBase, run, writeStep -/
theorem absI_in {x n : Int} (h : -n ≤ x ∧ x ≤ n) : 0 ≤ absI x ∧ absI x ≤ n := by
  unfold absI
  split <;> omega
theorem distS_30 (S : MSt) (x : Int) : S.2 30 ≤ (distS S x).2 30 ∧ (distS S x).2 30 ≤ S.2 30 + 2 := by
  have h := digN_30 1 (wrS S (signI x)) (absI x)
  rw [wrS_30] at h
  unfold distS
  omega
theorem distS_1 (S : MSt) (x : Int) (k : Nat) (h : k ≠ 21) : (distS S x).1 k = S.1 k := by
  unfold distS
  rw [digN_1 k h, wrS_1 _ _ k h]
theorem stepS_99 {S : MSt} {k : Int} (h : S.1 5 k = 99) : stepS S k = distS (distS (wrS (uG S 30 0) (S.1 5 k)) (S.1 6 k)) (S.1 7 k) := if_pos h
theorem stepS_n {S : MSt} {k : Int} (h : ¬ S.1 5 k = 99) : stepS S k = numS (wrS (distS (distS (wrS (uG S 30 0) (S.1 5 k)) (S.1 6 k)) (S.1 7 k)) 61) (S.1 8 k) := if_neg h
theorem signI_in (x : Int) : 0 ≤ signI x ∧ signI x < 65536 := by
  unfold signI
  split <;> decide

theorem ydX8_copyBase : yX8_copyBase.cls = RX8 ∧ yX8_copyBase.cls ≠ "java/lang/invoke/MethodHandle" ∧ yX8_copyBase.cls ≠ "java/lang/invoke/VarHandle" ∧ (parseMethodDescriptor yX8_copyBase.desc).map (fun d => d.parameters.length) = some 2 := by decide +kernel
theorem ydX8_run : yX8_run.cls = RX8 ∧ yX8_run.cls ≠ "java/lang/invoke/MethodHandle" ∧ yX8_run.cls ≠ "java/lang/invoke/VarHandle" ∧ (parseMethodDescriptor yX8_run.desc).map (fun d => d.parameters.length) = some 3 := by decide +kernel
theorem ydX8_digits : yX8_digits.cls = RX8 ∧ yX8_digits.cls ≠ "java/lang/invoke/MethodHandle" ∧ yX8_digits.cls ≠ "java/lang/invoke/VarHandle" ∧ (parseMethodDescriptor yX8_digits.desc).map (fun d => d.parameters.length) = some 1 := by decide +kernel
theorem ydX8_writeStep : yX8_writeStep.cls = RX8 ∧ yX8_writeStep.cls ≠ "java/lang/invoke/MethodHandle" ∧ yX8_writeStep.cls ≠ "java/lang/invoke/VarHandle" ∧ (parseMethodDescriptor yX8_writeStep.desc).map (fun d => d.parameters.length) = some 2 := by decide +kernel
section
variable {l : Launch} {D : va_G} {cB cC cI cO cJ cD : ClassId} {ee mo : Nat} {Pm : Nat → Nat} {S : MSt} {b : Int}
set_option maxHeartbeats 4000000 in
set_option maxRecDepth 100000 in
theorem kX8_copyBase (c : Int) (r : Int) (hmw : MW S b) (r0 : rI c) (r1 : rI r) : Mf l D cB cC cI cO cJ cD ee yX8_copyBase wsX8_copyBase ({ frames := 7, cells := 0, slots := 0, locals := 165 } : Room) mo Pm [.int (iI c), .int (iI r)] S ((copyBaseX S c r).1, (copyBaseX S c r).2) := by
  refine Ct_of (cc := cX8_copyBase) (own := RX8) [some (.ref mo), some (.int (iI c)), some (.int (iI r))] (by decide) rfl rfl (Nat.le_of_ble_eq_true rfl) (fun i9 v9 h9 => argL (.ref mo :: [.int (iI c), .int (iI r)]) 0 rfl i9 v9 h9) ?_
  intro p e s m9 args below meth c9 h0 sz hI C hr hlk hinit
  have hin : ∀ w ∈ wsX80, w ∈ wsX8_copyBase := by decide +kernel
  refine V_weak (I2 := MI cC cI h0 mo Pm S) (fun x hx => by subst hx; exact ⟨hI, Fr.refl⟩) ?_
  obtain ⟨hwp, hwl, hwh, hwr, hws, hwt⟩ := id hmw
  obtain ⟨hw1, hw2, hw3, hw4, hw5, hw6⟩ := id hwp
  refine V_aload0 (pc' := 1) C dX8_copyBase_0 rfl ?_
  refine V_iload1 (pc' := 2) C dX8_copyBase_1 rfl ?_
  refine V_iload2 (pc' := 3) C dX8_copyBase_2 rfl ?_
  refine mCallF2 (pc' := 6) C (kX8_isNoCell _ _ (by omega) (by omega)) gX8_copyBase_X8_isNoCell rfl ydX8_isNoCell ⟨Nat.le_of_ble_eq_true rfl, Nat.le_of_ble_eq_true rfl⟩ ⟨rfl, rfl⟩ (Nat.le_of_ble_eq_true rfl) dX8_copyBase_3 ⟨Nat.zero_le _, Nat.zero_le _⟩ rfl ?_
  refine V_ifneB (tgt := 29) C dX8_copyBase_6 (by decide) rfl (fun c_6 => ?_) (fun c_6 => ?_)
  · refine V_iconst (pc' := 30) C dX8_copyBase_29 rfl ?_
    refine V_goto (tgt := 54) C dX8_copyBase_30 (by decide) ?_
    exact mEnd C hr hlk ⟨Nat.le_refl _, Nat.le_refl _⟩ dX8_copyBase_54 (by first | (have h9 : ¬ S.2 27 < 0 := (by first | exact c_14 | exact Int.not_lt.mpr c_14); unfold copyBaseX; rw [if_neg (by simp_all), if_neg h9]; rfl) | (have h9 : S.2 27 < 0 := (by first | exact c_14 | exact Int.not_le.mp c_14); unfold copyBaseX; rw [if_neg (by simp_all), if_pos h9]; simp [thS, uG_uG]; done) | (unfold copyBaseX; rw [if_pos (by simp_all)]; simp_all [thS]; done))
  · have hx := atI_in (c := c) (r := r) (by simpa using c_6)
    refine V_weak (I2 := MI cC cI h0 mo Pm (uG S 31 0)) (fun h q => by rw [c_6] at q; exact q) ?_
    refine V_aload0 (pc' := 10) C dX8_copyBase_9 rfl ?_
    refine V_aload0 (pc' := 11) C dX8_copyBase_10 rfl ?_
    refine mGetI (pc' := 14) 27 C hin (by decide) (by decide +kernel) dX8_copyBase_11 rfl ?_
    refine V_ifge (tgt := 21) C (by first | omega | (simp [uA, uG, thS] <;> omega)) dX8_copyBase_14 (by decide) rfl (fun c_14 => ?_) (fun c_14 => ?_)
    · refine V_iconst (pc' := 22) C dX8_copyBase_21 rfl ?_
      refine V_iconst (pc' := 23) C dX8_copyBase_22 rfl ?_
      refine mCallF2 (pc' := 26) C (kX8_isThrown false _ ) gX8_copyBase_X8_isThrown rfl ydX8_isThrown ⟨Nat.le_of_ble_eq_true rfl, Nat.le_of_ble_eq_true rfl⟩ ⟨rfl, rfl⟩ (Nat.le_of_ble_eq_true rfl) dX8_copyBase_23 ⟨Nat.zero_le _, Nat.zero_le _⟩ rfl ?_
      refine V_ifeqB (tgt := 33) C dX8_copyBase_26 (by decide) rfl (fun c_26 => ?_) (fun c_26 => ?_)
      · have hb9 := hw6 (S.2 28) (by omega) (by omega)
        have hv9 := isValue_of.mpr hb9
        refine V_weak (I2 := MI cC cI h0 mo Pm (uG S 31 0)) (fun h q => by simpa [thS, uG_uG] using q) ?_
        refine V_aload0 (pc' := 34) C dX8_copyBase_33 rfl ?_
        refine V_bipush (pc' := 36) C dX8_copyBase_34 rfl (by decide) ?_
        refine V_iload1 (pc' := 37) C dX8_copyBase_36 rfl ?_
        refine V_iload2 (pc' := 38) C dX8_copyBase_37 rfl ?_
        refine sCall2 (pc' := 41) C (kX8_at _ _ ) gX8_copyBase_X8_at rfl ydX8_at ⟨Nat.le_of_ble_eq_true rfl, Nat.le_of_ble_eq_true rfl⟩ ⟨rfl, rfl⟩ (Nat.le_of_ble_eq_true rfl) dX8_copyBase_38 ⟨Nat.zero_le _, Nat.zero_le _⟩ rfl ?_
        refine V_aload0 (pc' := 42) C dX8_copyBase_41 rfl ?_
        refine mGetA (pc' := 45) 0 C hin (by decide) (by decide +kernel) dX8_copyBase_42 rfl ?_
        refine V_aload0 (pc' := 46) C dX8_copyBase_45 rfl ?_
        refine mGetI (pc' := 49) 28 C hin (by decide) (by decide +kernel) dX8_copyBase_46 rfl ?_
        refine mLd (pc' := 50) (n := 48) 0 C (by decide) rfl (by first | omega | (simp [uA, uG, thS] <;> omega)) dX8_copyBase_49 rfl ?_
        refine V_iconst (pc' := 51) C dX8_copyBase_50 rfl ?_
        refine mCallF4 (pc' := 54) C (kX8_byHand _ _ _ _ (b := b) hmw (by omega) (by omega) hv9 (by omega)) gX8_copyBase_X8_byHand rfl ydX8_byHand ⟨Nat.le_of_ble_eq_true rfl, Nat.le_of_ble_eq_true rfl⟩ ⟨rfl, rfl⟩ (Nat.le_of_ble_eq_true rfl) dX8_copyBase_51 ⟨Nat.zero_le _, Nat.zero_le _⟩ rfl ?_
        exact mEnd C hr hlk ⟨Nat.le_refl _, Nat.le_refl _⟩ dX8_copyBase_54 (by first | (have h9 : ¬ S.2 27 < 0 := (by first | exact c_14 | exact Int.not_lt.mpr c_14); unfold copyBaseX; rw [if_neg (by simp_all), if_neg h9]; rfl) | (have h9 : S.2 27 < 0 := (by first | exact c_14 | exact Int.not_le.mp c_14); unfold copyBaseX; rw [if_neg (by simp_all), if_pos h9]; simp [thS, uG_uG]; done) | (unfold copyBaseX; rw [if_pos (by simp_all)]; simp_all [thS]; done))
      · exact absurd c_26 (by decide)
    · refine V_iconst (pc' := 18) C dX8_copyBase_17 rfl ?_
      refine V_goto (tgt := 22) C dX8_copyBase_18 (by decide) ?_
      refine V_iconst (pc' := 23) C dX8_copyBase_22 rfl ?_
      refine mCallF2 (pc' := 26) C (kX8_isThrown true _ ) gX8_copyBase_X8_isThrown rfl ydX8_isThrown ⟨Nat.le_of_ble_eq_true rfl, Nat.le_of_ble_eq_true rfl⟩ ⟨rfl, rfl⟩ (Nat.le_of_ble_eq_true rfl) dX8_copyBase_23 ⟨Nat.zero_le _, Nat.zero_le _⟩ rfl ?_
      refine V_ifeqB (tgt := 33) C dX8_copyBase_26 (by decide) rfl (fun c_26 => ?_) (fun c_26 => ?_)
      · exact absurd c_26 (by decide)
      · refine V_iconst (pc' := 30) C dX8_copyBase_29 rfl ?_
        refine V_goto (tgt := 54) C dX8_copyBase_30 (by decide) ?_
        exact mEnd C hr hlk ⟨Nat.le_refl _, Nat.le_refl _⟩ dX8_copyBase_54 (by first | (have h9 : ¬ S.2 27 < 0 := (by first | exact c_14 | exact Int.not_lt.mpr c_14); unfold copyBaseX; rw [if_neg (by simp_all), if_neg h9]; rfl) | (have h9 : S.2 27 < 0 := (by first | exact c_14 | exact Int.not_le.mp c_14); unfold copyBaseX; rw [if_neg (by simp_all), if_pos h9]; simp [thS, uG_uG]; done) | (unfold copyBaseX; rw [if_pos (by simp_all)]; simp_all [thS]; done))
set_option maxHeartbeats 4000000 in
set_option maxRecDepth 100000 in
theorem kX8_run (m : Int) (c : Int) (r : Int) (hmw : MW S b) (r0 : rI m) (r1 : rI c) (r2 : rI r) : Mf l D cB cC cI cO cJ cD ee yX8_run wsX8_run ({ frames := 6, cells := 0, slots := 0, locals := 139 } : Room) mo Pm [.int (iI m), .int (iI c), .int (iI r)] S ((runX S m c r).1, (runX S m c r).2) := by
  refine Ct_of (cc := cX8_run) (own := RX8) [some (.ref mo), some (.int (iI m)), some (.int (iI c)), some (.int (iI r)), none] (by decide) rfl rfl (Nat.le_of_ble_eq_true rfl) (fun i9 v9 h9 => argL (.ref mo :: [.int (iI m), .int (iI c), .int (iI r)]) 1 rfl i9 v9 h9) ?_
  intro p e s m9 args below meth c9 h0 sz hI C hr hlk hinit
  have hin : ∀ w ∈ wsX80, w ∈ wsX8_run := by decide +kernel
  refine V_weak (I2 := MI cC cI h0 mo Pm S) (fun x hx => by subst hx; exact ⟨hI, Fr.refl⟩) ?_
  obtain ⟨hwp, hwl, hwh, hwr, hws, hwt⟩ := id hmw
  obtain ⟨hw1, hw2, hw3, hw4, hw5, hw6⟩ := id hwp
  refine V_aload0 (pc' := 1) C dX8_run_0 rfl ?_
  refine V_iload1 (pc' := 2) C dX8_run_1 rfl ?_
  refine V_iload2 (pc' := 3) C dX8_run_2 rfl ?_
  refine V_iload3 (pc' := 4) C dX8_run_3 rfl ?_
  refine mCallF3 (pc' := 7) C (kX8_isNoRun _ _ _ (by omega) (by omega) (by omega) (by omega)) gX8_run_X8_isNoRun rfl ydX8_isNoRun ⟨Nat.le_of_ble_eq_true rfl, Nat.le_of_ble_eq_true rfl⟩ ⟨rfl, rfl⟩ (Nat.le_of_ble_eq_true rfl) dX8_run_4 ⟨Nat.zero_le _, Nat.zero_le _⟩ rfl ?_
  refine V_ifneB (tgt := 59) C dX8_run_7 (by decide) rfl (fun c_7 => ?_) (fun c_7 => ?_)
  · refine V_iconst (pc' := 60) C dX8_run_59 rfl ?_
    exact mEnd C hr hlk ⟨Nat.le_refl _, Nat.le_refl _⟩ dX8_run_60 (by first | (unfold runX; rw [if_pos (by cases h1 : isMacB S m <;> cases h2 : isCellB c r <;> simp_all)]; simp_all [thS]; done) | (have h9 : m = S.2 27 := (by first | exact c_16 | exact Classical.not_not.mp c_16); unfold runX; rw [if_neg (by simp_all), if_pos h9]; simp [thS, uG_uG]; done) | (have h9 : ¬ m = S.2 27 := (by exact c_16); unfold runX; rw [if_neg (by simp_all), if_neg h9, if_pos hw9]; simp [thS]; done))
  · have hk9 : isMacB S m = true ∧ isCellB c r = true := by simpa using c_7
    have hx := atI_in hk9.2
    have hmm := isMac_in hk9.1 (by omega)
    refine V_weak (I2 := MI cC cI h0 mo Pm (uG S 31 0)) (fun h q => by rw [c_7] at q; exact q) ?_
    have ry := whyS_ans (uG S 31 0) m (atI c r)
    refine V_aload0 (pc' := 11) C dX8_run_10 rfl ?_
    refine V_iload1 (pc' := 12) C dX8_run_11 rfl ?_
    refine V_aload0 (pc' := 13) C dX8_run_12 rfl ?_
    refine mGetI (pc' := 16) 27 C hin (by decide) (by decide +kernel) dX8_run_13 rfl ?_
    refine V_icmpne (tgt := 23) C (by first | omega | (simp [uA, uG, thS] <;> omega)) dX8_run_16 (by decide) rfl (fun c_16 => ?_) (fun c_16 => ?_)
    · refine V_iconst (pc' := 24) C dX8_run_23 rfl ?_
      refine V_iconst (pc' := 25) C dX8_run_24 rfl ?_
      refine mCallF2 (pc' := 28) C (kX8_isThrown false _ ) gX8_run_X8_isThrown rfl ydX8_isThrown ⟨Nat.le_of_ble_eq_true rfl, Nat.le_of_ble_eq_true rfl⟩ ⟨rfl, rfl⟩ (Nat.le_of_ble_eq_true rfl) dX8_run_25 ⟨Nat.zero_le _, Nat.zero_le _⟩ rfl ?_
      refine V_ifneB (tgt := 59) C dX8_run_28 (by decide) rfl (fun c_28 => ?_) (fun c_28 => ?_)
      · exact absurd c_28 (by decide)
      · refine V_weak (I2 := MI cC cI h0 mo Pm (uG S 31 0)) (fun h q => by simpa [thS, uG_uG] using q) ?_
        refine V_aload0 (pc' := 32) C dX8_run_31 rfl ?_
        refine V_aload0 (pc' := 33) C dX8_run_32 rfl ?_
        refine V_iload1 (pc' := 34) C dX8_run_33 rfl ?_
        refine V_iload2 (pc' := 35) C dX8_run_34 rfl ?_
        refine V_iload3 (pc' := 36) C dX8_run_35 rfl ?_
        refine sCall2 (pc' := 39) C (kX8_at _ _ ) gX8_run_X8_at rfl ydX8_at ⟨Nat.le_of_ble_eq_true rfl, Nat.le_of_ble_eq_true rfl⟩ ⟨rfl, rfl⟩ (Nat.le_of_ble_eq_true rfl) dX8_run_36 ⟨Nat.zero_le _, Nat.zero_le _⟩ rfl ?_
        refine mCallF2 (pc' := 42) C (kX8_why _ _ (by omega) (by omega) (WFp_u hwp)) gX8_run_X8_why rfl ydX8_why ⟨Nat.le_of_ble_eq_true rfl, Nat.le_of_ble_eq_true rfl⟩ ⟨rfl, rfl⟩ (Nat.le_of_ble_eq_true rfl) dX8_run_39 ⟨Nat.zero_le _, Nat.zero_le _⟩ rfl ?_
        refine V_bipush (pc' := 44) C dX8_run_42 rfl (by decide) ?_
        refine V_icmpeq (tgt := 51) C (by first | omega | (simp [uA, uG, thS] <;> omega)) dX8_run_44 (by decide) rfl (fun c_44 => ?_) (fun c_44 => ?_)
        · refine V_iconst (pc' := 52) C dX8_run_51 rfl ?_
          refine V_iconst (pc' := 53) C dX8_run_52 rfl ?_
          refine mCallF2 (pc' := 56) C (kX8_isThrown false _ ) gX8_run_X8_isThrown rfl ydX8_isThrown ⟨Nat.le_of_ble_eq_true rfl, Nat.le_of_ble_eq_true rfl⟩ ⟨rfl, rfl⟩ (Nat.le_of_ble_eq_true rfl) dX8_run_53 ⟨Nat.zero_le _, Nat.zero_le _⟩ rfl ?_
          refine V_ifeqB (tgt := 61) C dX8_run_56 (by decide) rfl (fun c_56 => ?_) (fun c_56 => ?_)
          · have hw9 : (whyS (uG S 31 0) m (atI c r)).1 = 45 := (by omega)
            refine V_weak (I2 := MI cC cI h0 mo Pm (uG (whyS (uG S 31 0) m (atI c r)).2 31 0)) (fun h q => by simpa [thS] using q) ?_
            have hmw9 : MW (uG S 31 0) b := hmw
            obtain ⟨p1, p2, p3, p4⟩ := run_pre3 (v := 0) hmw9 hmm ⟨by omega, by omega⟩ hw9
            have k24 : (uG (whyS (uG S 31 0) m (atI c r)).2 31 0).2 24 = S.2 24 := by rw [uG_n _ (by decide), whyS_2]; rfl
            have hll := hwl.1
            have hl9 := HW_log hwh
            refine V_aload0 (pc' := 62) C dX8_run_61 rfl ?_
            refine mGetI (pc' := 65) 24 C hin (by decide) (by decide +kernel) dX8_run_62 rfl ?_
            refine V_istore4 (pc' := 67) C dX8_run_65 rfl (by decide) rfl ?_
            
            refine V_aload0 (pc' := 68) C dX8_run_67 rfl ?_
            refine V_iload1 (pc' := 69) C dX8_run_68 rfl ?_
            refine V_iload2 (pc' := 70) C dX8_run_69 rfl ?_
            refine V_iload3 (pc' := 71) C dX8_run_70 rfl ?_
            refine sCall2 (pc' := 74) C (kX8_at _ _ ) gX8_run_X8_at rfl ydX8_at ⟨Nat.le_of_ble_eq_true rfl, Nat.le_of_ble_eq_true rfl⟩ ⟨rfl, rfl⟩ (Nat.le_of_ble_eq_true rfl) dX8_run_71 ⟨Nat.zero_le _, Nat.zero_le _⟩ rfl ?_
            refine V_iconst (pc' := 75) C dX8_run_74 rfl ?_
            refine mCallV3 (pc' := 78) C (kX8_runs _ _ _ hmm ⟨by omega, by omega⟩ p1 p2 p3) gX8_run_X8_runs rfl ydX8_runs ⟨Nat.le_of_ble_eq_true rfl, Nat.le_of_ble_eq_true rfl⟩ ⟨rfl, rfl⟩ (Nat.le_of_ble_eq_true rfl) dX8_run_75 ⟨Nat.zero_le _, Nat.zero_le _⟩ rfl ?_
            refine V_aload0 (pc' := 79) C dX8_run_78 rfl ?_
            refine V_iload4 (pc' := 81) C dX8_run_79 rfl ?_
            refine mCallF1 (pc' := 84) C (kX8_ends _ (by rw [k24]; exact p4)) gX8_run_X8_ends rfl ydX8_ends ⟨Nat.le_of_ble_eq_true rfl, Nat.le_of_ble_eq_true rfl⟩ ⟨rfl, rfl⟩ (Nat.le_of_ble_eq_true rfl) dX8_run_81 ⟨Nat.zero_le _, Nat.zero_le _⟩ rfl ?_
            exact mEnd C hr hlk ⟨Nat.le_refl _, Nat.le_refl _⟩ dX8_run_84 (by have h9 : ¬ m = S.2 27 := (by exact c_16); unfold runX; rw [if_neg (by simp_all), if_neg h9, if_neg (fun q => q hw9), k24]; done)
          · exact absurd c_56 (by decide)
        · have hw9 : (whyS (uG S 31 0) m (atI c r)).1 ≠ 45 := (by omega)
          refine V_iconst (pc' := 48) C dX8_run_47 rfl ?_
          refine V_goto (tgt := 52) C dX8_run_48 (by decide) ?_
          refine V_iconst (pc' := 53) C dX8_run_52 rfl ?_
          refine mCallF2 (pc' := 56) C (kX8_isThrown true _ ) gX8_run_X8_isThrown rfl ydX8_isThrown ⟨Nat.le_of_ble_eq_true rfl, Nat.le_of_ble_eq_true rfl⟩ ⟨rfl, rfl⟩ (Nat.le_of_ble_eq_true rfl) dX8_run_53 ⟨Nat.zero_le _, Nat.zero_le _⟩ rfl ?_
          refine V_ifeqB (tgt := 61) C dX8_run_56 (by decide) rfl (fun c_56 => ?_) (fun c_56 => ?_)
          · exact absurd c_56 (by decide)
          · refine V_iconst (pc' := 60) C dX8_run_59 rfl ?_
            exact mEnd C hr hlk ⟨Nat.le_refl _, Nat.le_refl _⟩ dX8_run_60 (by first | (unfold runX; rw [if_pos (by cases h1 : isMacB S m <;> cases h2 : isCellB c r <;> simp_all)]; simp_all [thS]; done) | (have h9 : m = S.2 27 := (by first | exact c_16 | exact Classical.not_not.mp c_16); unfold runX; rw [if_neg (by simp_all), if_pos h9]; simp [thS, uG_uG]; done) | (have h9 : ¬ m = S.2 27 := (by exact c_16); unfold runX; rw [if_neg (by simp_all), if_neg h9, if_pos hw9]; simp [thS]; done))
    · refine V_iconst (pc' := 20) C dX8_run_19 rfl ?_
      refine V_goto (tgt := 24) C dX8_run_20 (by decide) ?_
      refine V_iconst (pc' := 25) C dX8_run_24 rfl ?_
      refine mCallF2 (pc' := 28) C (kX8_isThrown true _ ) gX8_run_X8_isThrown rfl ydX8_isThrown ⟨Nat.le_of_ble_eq_true rfl, Nat.le_of_ble_eq_true rfl⟩ ⟨rfl, rfl⟩ (Nat.le_of_ble_eq_true rfl) dX8_run_25 ⟨Nat.zero_le _, Nat.zero_le _⟩ rfl ?_
      refine V_ifneB (tgt := 59) C dX8_run_28 (by decide) rfl (fun c_28 => ?_) (fun c_28 => ?_)
      · refine V_iconst (pc' := 60) C dX8_run_59 rfl ?_
        exact mEnd C hr hlk ⟨Nat.le_refl _, Nat.le_refl _⟩ dX8_run_60 (by first | (unfold runX; rw [if_pos (by cases h1 : isMacB S m <;> cases h2 : isCellB c r <;> simp_all)]; simp_all [thS]; done) | (have h9 : m = S.2 27 := (by first | exact c_16 | exact Classical.not_not.mp c_16); unfold runX; rw [if_neg (by simp_all), if_pos h9]; simp [thS, uG_uG]; done) | (have h9 : ¬ m = S.2 27 := (by exact c_16); unfold runX; rw [if_neg (by simp_all), if_neg h9, if_pos hw9]; simp [thS]; done))
      · exact absurd c_28 (by decide)
set_option maxHeartbeats 4000000 in
set_option maxRecDepth 100000 in
theorem kX8_digits1 (n : Int) (h1 : 0 ≤ n ∧ n < 10) (h2 : 0 ≤ S.2 30 ∧ S.2 30 + 1 ≤ 40) : Mv l D cB cC cI cO cJ cD ee yX8_digits wsX8_digits ({ frames := 1, cells := 0, slots := 0, locals := 21 } : Room) mo Pm [.int (iI n)] S (digN 1 S n) := by
  refine Ct_of (cc := cX8_digits) (own := RX8) [some (.ref mo), some (.int (iI n))] (by decide) rfl rfl (Nat.le_of_ble_eq_true rfl) (fun i9 v9 h9 => argL (.ref mo :: [.int (iI n)]) 0 rfl i9 v9 h9) ?_
  intro p e s m9 args below meth c9 h0 sz hI C hr hlk hinit
  have hin : ∀ w ∈ wsX80, w ∈ wsX8_digits := by decide +kernel
  refine V_weak (I2 := MI cC cI h0 mo Pm S) (fun x hx => by subst hx; exact ⟨hI, Fr.refl⟩) ?_
  refine V_iload1 (pc' := 1) C dX8_digits_0 rfl ?_
  refine V_bipush (pc' := 3) C dX8_digits_1 rfl (by decide) ?_
  refine V_icmple (tgt := 14) C (by omega) dX8_digits_3 (by decide) rfl (fun c_3 => ?_) (fun c_3 => ?_)
  · refine V_aload0 (pc' := 15) C dX8_digits_14 rfl ?_
    refine V_bipush (pc' := 17) C dX8_digits_15 rfl (by decide) ?_
    refine V_iload1 (pc' := 18) C dX8_digits_17 rfl ?_
    refine V_bipush (pc' := 20) C dX8_digits_18 rfl (by decide) ?_
    refine V_irem (pc' := 21) C (by omega) dX8_digits_20 rfl ?_
    refine V_iadd (pc' := 22) C dX8_digits_21 rfl ?_
    refine V_i2c (pc' := 23) C (by omega) dX8_digits_22 rfl ?_
    refine mCallV1 (pc' := 26) C (kX8_writes _ (by first | omega | (have := digN_30 1 S (n / 10); omega)) (by omega)) gX8_digits_X8_writes rfl ydX8_writes ⟨Nat.le_of_ble_eq_true rfl, Nat.le_of_ble_eq_true rfl⟩ ⟨rfl, rfl⟩ (Nat.le_of_ble_eq_true rfl) dX8_digits_23 ⟨Nat.zero_le _, Nat.zero_le _⟩ rfl ?_
    exact mEndv C hr hlk ⟨Nat.le_refl _, Nat.le_refl _⟩ dX8_digits_26 (by rw [show digN 1 S n = wrS (if 9 < n then digN 0 S (n / 10) else S) (48 + n % 10) from rfl]; first | (rw [if_pos (by omega)]; done) | (rw [if_neg (by omega)]; done))
  · exact absurd c_3 (by omega)
set_option maxHeartbeats 4000000 in
set_option maxRecDepth 100000 in
theorem kX8_digits2 (n : Int) (h1 : 0 ≤ n ∧ n < 100) (h2 : 0 ≤ S.2 30 ∧ S.2 30 + 2 ≤ 40) : Mv l D cB cC cI cO cJ cD ee yX8_digits wsX8_digits ({ frames := 2, cells := 0, slots := 0, locals := 42 } : Room) mo Pm [.int (iI n)] S (digN 2 S n) := by
  refine Ct_of (cc := cX8_digits) (own := RX8) [some (.ref mo), some (.int (iI n))] (by decide) rfl rfl (Nat.le_of_ble_eq_true rfl) (fun i9 v9 h9 => argL (.ref mo :: [.int (iI n)]) 0 rfl i9 v9 h9) ?_
  intro p e s m9 args below meth c9 h0 sz hI C hr hlk hinit
  have hin : ∀ w ∈ wsX80, w ∈ wsX8_digits := by decide +kernel
  refine V_weak (I2 := MI cC cI h0 mo Pm S) (fun x hx => by subst hx; exact ⟨hI, Fr.refl⟩) ?_
  refine V_iload1 (pc' := 1) C dX8_digits_0 rfl ?_
  refine V_bipush (pc' := 3) C dX8_digits_1 rfl (by decide) ?_
  refine V_icmple (tgt := 14) C (by omega) dX8_digits_3 (by decide) rfl (fun c_3 => ?_) (fun c_3 => ?_)
  · refine V_aload0 (pc' := 15) C dX8_digits_14 rfl ?_
    refine V_bipush (pc' := 17) C dX8_digits_15 rfl (by decide) ?_
    refine V_iload1 (pc' := 18) C dX8_digits_17 rfl ?_
    refine V_bipush (pc' := 20) C dX8_digits_18 rfl (by decide) ?_
    refine V_irem (pc' := 21) C (by omega) dX8_digits_20 rfl ?_
    refine V_iadd (pc' := 22) C dX8_digits_21 rfl ?_
    refine V_i2c (pc' := 23) C (by omega) dX8_digits_22 rfl ?_
    refine mCallV1 (pc' := 26) C (kX8_writes _ (by first | omega | (have := digN_30 1 S (n / 10); omega)) (by omega)) gX8_digits_X8_writes rfl ydX8_writes ⟨Nat.le_of_ble_eq_true rfl, Nat.le_of_ble_eq_true rfl⟩ ⟨rfl, rfl⟩ (Nat.le_of_ble_eq_true rfl) dX8_digits_23 ⟨Nat.zero_le _, Nat.zero_le _⟩ rfl ?_
    exact mEndv C hr hlk ⟨Nat.le_refl _, Nat.le_refl _⟩ dX8_digits_26 (by rw [show digN 2 S n = wrS (if 9 < n then digN 1 S (n / 10) else S) (48 + n % 10) from rfl]; first | (rw [if_pos (by omega)]; done) | (rw [if_neg (by omega)]; done))
  · refine V_aload0 (pc' := 7) C dX8_digits_6 rfl ?_
    refine V_iload1 (pc' := 8) C dX8_digits_7 rfl ?_
    refine V_bipush (pc' := 10) C dX8_digits_8 rfl (by decide) ?_
    refine V_idiv (pc' := 11) C (by omega) dX8_digits_10 rfl ?_
    refine mCallV1 (pc' := 14) C (kX8_digits1 _ (by omega) (by omega)) gX8_digits_X8_digits rfl ydX8_digits ⟨Nat.le_of_ble_eq_true rfl, Nat.le_of_ble_eq_true rfl⟩ ⟨rfl, rfl⟩ (Nat.le_of_ble_eq_true rfl) dX8_digits_11 ⟨Nat.zero_le _, Nat.zero_le _⟩ rfl ?_
    refine V_aload0 (pc' := 15) C dX8_digits_14 rfl ?_
    refine V_bipush (pc' := 17) C dX8_digits_15 rfl (by decide) ?_
    refine V_iload1 (pc' := 18) C dX8_digits_17 rfl ?_
    refine V_bipush (pc' := 20) C dX8_digits_18 rfl (by decide) ?_
    refine V_irem (pc' := 21) C (by omega) dX8_digits_20 rfl ?_
    refine V_iadd (pc' := 22) C dX8_digits_21 rfl ?_
    refine V_i2c (pc' := 23) C (by omega) dX8_digits_22 rfl ?_
    refine mCallV1 (pc' := 26) C (kX8_writes _ (by first | omega | (have := digN_30 1 S (n / 10); omega)) (by omega)) gX8_digits_X8_writes rfl ydX8_writes ⟨Nat.le_of_ble_eq_true rfl, Nat.le_of_ble_eq_true rfl⟩ ⟨rfl, rfl⟩ (Nat.le_of_ble_eq_true rfl) dX8_digits_23 ⟨Nat.zero_le _, Nat.zero_le _⟩ rfl ?_
    exact mEndv C hr hlk ⟨Nat.le_refl _, Nat.le_refl _⟩ dX8_digits_26 (by rw [show digN 2 S n = wrS (if 9 < n then digN 1 S (n / 10) else S) (48 + n % 10) from rfl]; first | (rw [if_pos (by omega)]; done) | (rw [if_neg (by omega)]; done))
set_option maxHeartbeats 4000000 in
set_option maxRecDepth 100000 in
theorem kX8_digits3 (n : Int) (h1 : 0 ≤ n ∧ n < 1000) (h2 : 0 ≤ S.2 30 ∧ S.2 30 + 3 ≤ 40) : Mv l D cB cC cI cO cJ cD ee yX8_digits wsX8_digits ({ frames := 3, cells := 0, slots := 0, locals := 63 } : Room) mo Pm [.int (iI n)] S (digN 3 S n) := by
  refine Ct_of (cc := cX8_digits) (own := RX8) [some (.ref mo), some (.int (iI n))] (by decide) rfl rfl (Nat.le_of_ble_eq_true rfl) (fun i9 v9 h9 => argL (.ref mo :: [.int (iI n)]) 0 rfl i9 v9 h9) ?_
  intro p e s m9 args below meth c9 h0 sz hI C hr hlk hinit
  have hin : ∀ w ∈ wsX80, w ∈ wsX8_digits := by decide +kernel
  refine V_weak (I2 := MI cC cI h0 mo Pm S) (fun x hx => by subst hx; exact ⟨hI, Fr.refl⟩) ?_
  refine V_iload1 (pc' := 1) C dX8_digits_0 rfl ?_
  refine V_bipush (pc' := 3) C dX8_digits_1 rfl (by decide) ?_
  refine V_icmple (tgt := 14) C (by omega) dX8_digits_3 (by decide) rfl (fun c_3 => ?_) (fun c_3 => ?_)
  · refine V_aload0 (pc' := 15) C dX8_digits_14 rfl ?_
    refine V_bipush (pc' := 17) C dX8_digits_15 rfl (by decide) ?_
    refine V_iload1 (pc' := 18) C dX8_digits_17 rfl ?_
    refine V_bipush (pc' := 20) C dX8_digits_18 rfl (by decide) ?_
    refine V_irem (pc' := 21) C (by omega) dX8_digits_20 rfl ?_
    refine V_iadd (pc' := 22) C dX8_digits_21 rfl ?_
    refine V_i2c (pc' := 23) C (by omega) dX8_digits_22 rfl ?_
    refine mCallV1 (pc' := 26) C (kX8_writes _ (by first | omega | (have := digN_30 2 S (n / 10); omega)) (by omega)) gX8_digits_X8_writes rfl ydX8_writes ⟨Nat.le_of_ble_eq_true rfl, Nat.le_of_ble_eq_true rfl⟩ ⟨rfl, rfl⟩ (Nat.le_of_ble_eq_true rfl) dX8_digits_23 ⟨Nat.zero_le _, Nat.zero_le _⟩ rfl ?_
    exact mEndv C hr hlk ⟨Nat.le_refl _, Nat.le_refl _⟩ dX8_digits_26 (by rw [show digN 3 S n = wrS (if 9 < n then digN 2 S (n / 10) else S) (48 + n % 10) from rfl]; first | (rw [if_pos (by omega)]; done) | (rw [if_neg (by omega)]; done))
  · refine V_aload0 (pc' := 7) C dX8_digits_6 rfl ?_
    refine V_iload1 (pc' := 8) C dX8_digits_7 rfl ?_
    refine V_bipush (pc' := 10) C dX8_digits_8 rfl (by decide) ?_
    refine V_idiv (pc' := 11) C (by omega) dX8_digits_10 rfl ?_
    refine mCallV1 (pc' := 14) C (kX8_digits2 _ (by omega) (by omega)) gX8_digits_X8_digits rfl ydX8_digits ⟨Nat.le_of_ble_eq_true rfl, Nat.le_of_ble_eq_true rfl⟩ ⟨rfl, rfl⟩ (Nat.le_of_ble_eq_true rfl) dX8_digits_11 ⟨Nat.zero_le _, Nat.zero_le _⟩ rfl ?_
    refine V_aload0 (pc' := 15) C dX8_digits_14 rfl ?_
    refine V_bipush (pc' := 17) C dX8_digits_15 rfl (by decide) ?_
    refine V_iload1 (pc' := 18) C dX8_digits_17 rfl ?_
    refine V_bipush (pc' := 20) C dX8_digits_18 rfl (by decide) ?_
    refine V_irem (pc' := 21) C (by omega) dX8_digits_20 rfl ?_
    refine V_iadd (pc' := 22) C dX8_digits_21 rfl ?_
    refine V_i2c (pc' := 23) C (by omega) dX8_digits_22 rfl ?_
    refine mCallV1 (pc' := 26) C (kX8_writes _ (by first | omega | (have := digN_30 2 S (n / 10); omega)) (by omega)) gX8_digits_X8_writes rfl ydX8_writes ⟨Nat.le_of_ble_eq_true rfl, Nat.le_of_ble_eq_true rfl⟩ ⟨rfl, rfl⟩ (Nat.le_of_ble_eq_true rfl) dX8_digits_23 ⟨Nat.zero_le _, Nat.zero_le _⟩ rfl ?_
    exact mEndv C hr hlk ⟨Nat.le_refl _, Nat.le_refl _⟩ dX8_digits_26 (by rw [show digN 3 S n = wrS (if 9 < n then digN 2 S (n / 10) else S) (48 + n % 10) from rfl]; first | (rw [if_pos (by omega)]; done) | (rw [if_neg (by omega)]; done))
set_option maxHeartbeats 4000000 in
set_option maxRecDepth 100000 in
theorem kX8_digits4 (n : Int) (h1 : 0 ≤ n ∧ n < 10000) (h2 : 0 ≤ S.2 30 ∧ S.2 30 + 4 ≤ 40) : Mv l D cB cC cI cO cJ cD ee yX8_digits wsX8_digits ({ frames := 4, cells := 0, slots := 0, locals := 84 } : Room) mo Pm [.int (iI n)] S (digN 4 S n) := by
  refine Ct_of (cc := cX8_digits) (own := RX8) [some (.ref mo), some (.int (iI n))] (by decide) rfl rfl (Nat.le_of_ble_eq_true rfl) (fun i9 v9 h9 => argL (.ref mo :: [.int (iI n)]) 0 rfl i9 v9 h9) ?_
  intro p e s m9 args below meth c9 h0 sz hI C hr hlk hinit
  have hin : ∀ w ∈ wsX80, w ∈ wsX8_digits := by decide +kernel
  refine V_weak (I2 := MI cC cI h0 mo Pm S) (fun x hx => by subst hx; exact ⟨hI, Fr.refl⟩) ?_
  refine V_iload1 (pc' := 1) C dX8_digits_0 rfl ?_
  refine V_bipush (pc' := 3) C dX8_digits_1 rfl (by decide) ?_
  refine V_icmple (tgt := 14) C (by omega) dX8_digits_3 (by decide) rfl (fun c_3 => ?_) (fun c_3 => ?_)
  · refine V_aload0 (pc' := 15) C dX8_digits_14 rfl ?_
    refine V_bipush (pc' := 17) C dX8_digits_15 rfl (by decide) ?_
    refine V_iload1 (pc' := 18) C dX8_digits_17 rfl ?_
    refine V_bipush (pc' := 20) C dX8_digits_18 rfl (by decide) ?_
    refine V_irem (pc' := 21) C (by omega) dX8_digits_20 rfl ?_
    refine V_iadd (pc' := 22) C dX8_digits_21 rfl ?_
    refine V_i2c (pc' := 23) C (by omega) dX8_digits_22 rfl ?_
    refine mCallV1 (pc' := 26) C (kX8_writes _ (by first | omega | (have := digN_30 3 S (n / 10); omega)) (by omega)) gX8_digits_X8_writes rfl ydX8_writes ⟨Nat.le_of_ble_eq_true rfl, Nat.le_of_ble_eq_true rfl⟩ ⟨rfl, rfl⟩ (Nat.le_of_ble_eq_true rfl) dX8_digits_23 ⟨Nat.zero_le _, Nat.zero_le _⟩ rfl ?_
    exact mEndv C hr hlk ⟨Nat.le_refl _, Nat.le_refl _⟩ dX8_digits_26 (by rw [show digN 4 S n = wrS (if 9 < n then digN 3 S (n / 10) else S) (48 + n % 10) from rfl]; first | (rw [if_pos (by omega)]; done) | (rw [if_neg (by omega)]; done))
  · refine V_aload0 (pc' := 7) C dX8_digits_6 rfl ?_
    refine V_iload1 (pc' := 8) C dX8_digits_7 rfl ?_
    refine V_bipush (pc' := 10) C dX8_digits_8 rfl (by decide) ?_
    refine V_idiv (pc' := 11) C (by omega) dX8_digits_10 rfl ?_
    refine mCallV1 (pc' := 14) C (kX8_digits3 _ (by omega) (by omega)) gX8_digits_X8_digits rfl ydX8_digits ⟨Nat.le_of_ble_eq_true rfl, Nat.le_of_ble_eq_true rfl⟩ ⟨rfl, rfl⟩ (Nat.le_of_ble_eq_true rfl) dX8_digits_11 ⟨Nat.zero_le _, Nat.zero_le _⟩ rfl ?_
    refine V_aload0 (pc' := 15) C dX8_digits_14 rfl ?_
    refine V_bipush (pc' := 17) C dX8_digits_15 rfl (by decide) ?_
    refine V_iload1 (pc' := 18) C dX8_digits_17 rfl ?_
    refine V_bipush (pc' := 20) C dX8_digits_18 rfl (by decide) ?_
    refine V_irem (pc' := 21) C (by omega) dX8_digits_20 rfl ?_
    refine V_iadd (pc' := 22) C dX8_digits_21 rfl ?_
    refine V_i2c (pc' := 23) C (by omega) dX8_digits_22 rfl ?_
    refine mCallV1 (pc' := 26) C (kX8_writes _ (by first | omega | (have := digN_30 3 S (n / 10); omega)) (by omega)) gX8_digits_X8_writes rfl ydX8_writes ⟨Nat.le_of_ble_eq_true rfl, Nat.le_of_ble_eq_true rfl⟩ ⟨rfl, rfl⟩ (Nat.le_of_ble_eq_true rfl) dX8_digits_23 ⟨Nat.zero_le _, Nat.zero_le _⟩ rfl ?_
    exact mEndv C hr hlk ⟨Nat.le_refl _, Nat.le_refl _⟩ dX8_digits_26 (by rw [show digN 4 S n = wrS (if 9 < n then digN 3 S (n / 10) else S) (48 + n % 10) from rfl]; first | (rw [if_pos (by omega)]; done) | (rw [if_neg (by omega)]; done))
set_option maxHeartbeats 4000000 in
set_option maxRecDepth 100000 in
theorem kX8_writeStep (m : Int) (q : Int) (hmw : MW S b) (r0 : rI m) (r1 : rI q) : Mf l D cB cC cI cO cJ cD ee yX8_writeStep wsX8_writeStep ({ frames := 5, cells := 0, slots := 0, locals := 105 } : Room) mo Pm [.int (iI m), .int (iI q)] S ((writeStepX S m q).1, (writeStepX S m q).2) := by
  refine Ct_of (cc := cX8_writeStep) (own := RX8) [some (.ref mo), some (.int (iI m)), some (.int (iI q)), none] (by decide) rfl rfl (Nat.le_of_ble_eq_true rfl) (fun i9 v9 h9 => argL (.ref mo :: [.int (iI m), .int (iI q)]) 1 rfl i9 v9 h9) ?_
  intro p e s m9 args below meth c9 h0 sz hI C hr hlk hinit
  have hin : ∀ w ∈ wsX80, w ∈ wsX8_writeStep := by decide +kernel
  refine V_weak (I2 := MI cC cI h0 mo Pm S) (fun x hx => by subst hx; exact ⟨hI, Fr.refl⟩) ?_
  obtain ⟨hwp, hwl, hwh, hwr, hws, hwt⟩ := id hmw
  obtain ⟨hw1, hw2, hw3, hw4, hw5, hw6⟩ := id hwp
  refine V_aload0 (pc' := 1) C dX8_writeStep_0 rfl ?_
  refine V_iload1 (pc' := 2) C dX8_writeStep_1 rfl ?_
  refine mCallF1 (pc' := 5) C (kX8_isNoMacro _ (by omega) (by omega)) gX8_writeStep_X8_isNoMacro rfl ydX8_isNoMacro ⟨Nat.le_of_ble_eq_true rfl, Nat.le_of_ble_eq_true rfl⟩ ⟨rfl, rfl⟩ (Nat.le_of_ble_eq_true rfl) dX8_writeStep_2 ⟨Nat.zero_le _, Nat.zero_le _⟩ rfl ?_
  refine V_ifneB (tgt := 37) C dX8_writeStep_5 (by decide) rfl (fun c_5 => ?_) (fun c_5 => ?_)
  · refine V_iconst (pc' := 38) C dX8_writeStep_37 rfl ?_
    exact mEnd C hr hlk ⟨Nat.le_refl _, Nat.le_refl _⟩ dX8_writeStep_38 (by first | (have z8 : isInB q 0 (S.1 4 m - 1) = false := (by exact c_22); unfold writeStepX; rw [if_pos (Or.inr z8)]; simp [thS, uG_uG]; done) | (unfold writeStepX; rw [if_pos (by simp_all [isMacB])]; simp_all [isMacB, thS, uG_uG]; done))
  · refine V_weak (I2 := MI cC cI h0 mo Pm (uG S 31 0)) (fun h q => by rw [c_5] at q; exact q) ?_
    have hmm := isMac_in (S := S) (m := m) (by simpa [isMacB] using c_5) (by omega)
    have h4m := hw2 m hmm.1 hmm.2
    refine V_aload0 (pc' := 9) C dX8_writeStep_8 rfl ?_
    refine V_iload2 (pc' := 10) C dX8_writeStep_9 rfl ?_
    refine V_iconst (pc' := 11) C dX8_writeStep_10 rfl ?_
    refine V_aload0 (pc' := 12) C dX8_writeStep_11 rfl ?_
    refine mGetA (pc' := 15) 4 C hin (by decide) (by decide +kernel) dX8_writeStep_12 rfl ?_
    refine V_iload1 (pc' := 16) C dX8_writeStep_15 rfl ?_
    refine mLd (pc' := 17) (n := 6) 4 C (by decide) rfl (by first | omega | (simp [uA, uG, thS] <;> omega)) dX8_writeStep_16 rfl ?_
    refine V_iconst (pc' := 18) C dX8_writeStep_17 rfl ?_
    refine V_isub (pc' := 19) C dX8_writeStep_18 rfl ?_
    refine sCall3 (pc' := 22) C (kX8_isIn _ _ _ (by omega) (by omega) (by show rI (S.1 4 m - 1); omega)) gX8_writeStep_X8_isIn rfl ydX8_isIn ⟨Nat.le_of_ble_eq_true rfl, Nat.le_of_ble_eq_true rfl⟩ ⟨rfl, rfl⟩ (Nat.le_of_ble_eq_true rfl) dX8_writeStep_19 ⟨Nat.zero_le _, Nat.zero_le _⟩ rfl ?_
    refine V_ifneB (tgt := 29) C dX8_writeStep_22 (by decide) rfl (fun c_22 => ?_) (fun c_22 => ?_)
    · refine V_iconst (pc' := 30) C dX8_writeStep_29 rfl ?_
      refine V_iconst (pc' := 31) C dX8_writeStep_30 rfl ?_
      refine mCallF2 (pc' := 34) C (kX8_isThrown false _ ) gX8_writeStep_X8_isThrown rfl ydX8_isThrown ⟨Nat.le_of_ble_eq_true rfl, Nat.le_of_ble_eq_true rfl⟩ ⟨rfl, rfl⟩ (Nat.le_of_ble_eq_true rfl) dX8_writeStep_31 ⟨Nat.zero_le _, Nat.zero_le _⟩ rfl ?_
      refine V_ifeqB (tgt := 39) C dX8_writeStep_34 (by decide) rfl (fun c_34 => ?_) (fun c_34 => ?_)
      · have hq9 : 0 ≤ q ∧ q ≤ S.1 4 m - 1 := by have h9 := c_22; simp only [isInB, Bool.and_eq_true, decide_eq_true_eq] at h9; exact h9
        obtain ⟨s1, s2, s3, s4, s5, s6, s7, s8⟩ := hw1 (10 * m + q) (by omega) (by omega)
        have t6 := absI_in (x := S.1 6 (10 * m + q)) (n := 5) ⟨by omega, by omega⟩
        have t7 := absI_in (x := S.1 7 (10 * m + q)) (n := 7) ⟨by omega, by omega⟩
        have t8 := absI_in (x := S.1 8 (10 * m + q)) (n := 9999) ⟨by omega, by omega⟩
        have hq8 : isInB q 0 (S.1 4 m - 1) = true := c_22
        refine V_weak (I2 := MI cC cI h0 mo Pm (uG S 31 0)) (fun h q => by simpa [thS, uG_uG] using q) ?_
        refine V_bipush (pc' := 41) C dX8_writeStep_39 rfl (by decide) ?_
        refine V_iload1 (pc' := 42) C dX8_writeStep_41 rfl ?_
        refine V_imul (pc' := 43) C dX8_writeStep_42 rfl ?_
        refine V_iload2 (pc' := 44) C dX8_writeStep_43 rfl ?_
        refine V_iadd (pc' := 45) C dX8_writeStep_44 rfl ?_
        refine V_istore3 (pc' := 46) C dX8_writeStep_45 rfl (by decide) rfl ?_
        refine V_aload0 (pc' := 47) C dX8_writeStep_46 rfl ?_
        refine V_iconst (pc' := 48) C dX8_writeStep_47 rfl ?_
        refine mPutI (pc' := 51) 30 C hin (by decide) (by decide +kernel) dX8_writeStep_48 rfl ?_
        refine V_aload0 (pc' := 52) C dX8_writeStep_51 rfl ?_
        refine V_aload0 (pc' := 53) C dX8_writeStep_52 rfl ?_
        refine mGetA (pc' := 56) 5 C hin (by decide) (by decide +kernel) dX8_writeStep_53 rfl ?_
        refine V_iload3 (pc' := 57) C dX8_writeStep_56 rfl ?_
        refine mLd (pc' := 58) (n := 60) 5 C (by decide) rfl (by first | omega | (simp [uA, uG, thS] <;> omega)) dX8_writeStep_57 rfl ?_
        refine V_eq (st2 := [Value.int (iI (S.1 5 (10 * m + q))), .ref mo]) rfl ?_
        refine V_i2c (pc' := 59) C (by first | omega | (simp [uA, uG, thS] <;> omega)) dX8_writeStep_58 rfl ?_
        refine mCallV1 (pc' := 62) C (kX8_writes _ (by rw [uG_s]; omega) (by omega)) gX8_writeStep_X8_writes rfl ydX8_writes ⟨Nat.le_of_ble_eq_true rfl, Nat.le_of_ble_eq_true rfl⟩ ⟨rfl, rfl⟩ (Nat.le_of_ble_eq_true rfl) dX8_writeStep_59 ⟨Nat.zero_le _, Nat.zero_le _⟩ rfl ?_
        have xa30 : 1 ≤ (wrS (uG (uG S 31 0) 30 0) (S.1 5 (10 * m + q))).2 30 ∧ (wrS (uG (uG S 31 0) 30 0) (S.1 5 (10 * m + q))).2 30 ≤ 1 := by rw [wrS_30, uG_s]; omega
        have xa5 : (wrS (uG (uG S 31 0) 30 0) (S.1 5 (10 * m + q))).1 5 = S.1 5 := by rw [wrS_1 _ _ 5 (by decide)]; rfl
        have xa6 : (wrS (uG (uG S 31 0) 30 0) (S.1 5 (10 * m + q))).1 6 = S.1 6 := by rw [wrS_1 _ _ 6 (by decide)]; rfl
        have xa7 : (wrS (uG (uG S 31 0) 30 0) (S.1 5 (10 * m + q))).1 7 = S.1 7 := by rw [wrS_1 _ _ 7 (by decide)]; rfl
        have xa8 : (wrS (uG (uG S 31 0) 30 0) (S.1 5 (10 * m + q))).1 8 = S.1 8 := by rw [wrS_1 _ _ 8 (by decide)]; rfl
        generalize hxa : wrS (uG (uG S 31 0) 30 0) (S.1 5 (10 * m + q)) = XA at *
        
        refine V_aload0 (pc' := 63) C dX8_writeStep_62 rfl ?_
        refine V_aload0 (pc' := 64) C dX8_writeStep_63 rfl ?_
        refine mGetA (pc' := 67) 6 C hin (by decide) (by decide +kernel) dX8_writeStep_64 rfl ?_
        refine V_iload3 (pc' := 68) C dX8_writeStep_67 rfl ?_
        refine mLd (pc' := 69) (n := 60) 6 C (by decide) rfl (by first | omega | (simp [uA, uG, thS] <;> omega)) dX8_writeStep_68 rfl ?_
        refine V_eq (st2 := [Value.int (iI (S.1 6 (10 * m + q))), .ref mo]) (by rw [xa6]) ?_
        refine V_ifge (tgt := 77) C (by first | omega | (simp [uA, uG, thS] <;> omega)) dX8_writeStep_69 (by decide) rfl (fun c_69 => ?_) (fun c_69 => ?_)
        · refine V_bipush (pc' := 79) C dX8_writeStep_77 rfl (by decide) ?_
          refine V_eq (st2 := [Value.int (iI (signI (S.1 6 (10 * m + q)))), .ref mo]) (by unfold signI; first | (rw [if_pos (by omega)]; done) | (rw [if_neg (by omega)]; done)) ?_
          refine mCallV1 (pc' := 82) C (kX8_writes _ (by omega) (signI_in _)) gX8_writeStep_X8_writes rfl ydX8_writes ⟨Nat.le_of_ble_eq_true rfl, Nat.le_of_ble_eq_true rfl⟩ ⟨rfl, rfl⟩ (Nat.le_of_ble_eq_true rfl) dX8_writeStep_79 ⟨Nat.zero_le _, Nat.zero_le _⟩ rfl ?_
          refine V_aload0 (pc' := 83) C dX8_writeStep_82 rfl ?_
          refine V_aload0 (pc' := 84) C dX8_writeStep_83 rfl ?_
          refine mGetA (pc' := 87) 6 C hin (by decide) (by decide +kernel) dX8_writeStep_84 rfl ?_
          refine V_iload3 (pc' := 88) C dX8_writeStep_87 rfl ?_
          refine mLd (pc' := 89) (n := 60) 6 C (by decide) rfl (by first | omega | (simp [uA, uG, thS] <;> omega)) dX8_writeStep_88 rfl ?_
          refine V_eq (st2 := [Value.int (iI (S.1 6 (10 * m + q))), .ref mo]) (by rw [wrS_1 _ _ 6 (by decide), xa6]) ?_
          refine V_mabs (pc' := 92) C (by decide +kernel) (by decide +kernel) (by decide +kernel) (by decide +kernel) ⟨Nat.le_of_ble_eq_true rfl, Nat.le_of_ble_eq_true rfl⟩ ⟨Nat.zero_le _, Nat.zero_le _⟩ (by first | omega | (simp [uA, uG, thS] <;> omega)) dX8_writeStep_89 rfl ?_
          refine mCallV1 (pc' := 95) C (kX8_digits1 _ (by omega) (by rw [wrS_30]; omega)) gX8_writeStep_X8_digits rfl ydX8_digits ⟨Nat.le_of_ble_eq_true rfl, Nat.le_of_ble_eq_true rfl⟩ ⟨rfl, rfl⟩ (Nat.le_of_ble_eq_true rfl) dX8_writeStep_92 ⟨Nat.zero_le _, Nat.zero_le _⟩ rfl ?_
          refine V_weak (I2 := MI cC cI h0 mo Pm (distS XA (S.1 6 (10 * m + q)))) (fun h q => by exact q) ?_
          have d6 := distS_30 XA (S.1 6 (10 * m + q))
          have xb30 : 1 ≤ (distS XA (S.1 6 (10 * m + q))).2 30 ∧ (distS XA (S.1 6 (10 * m + q))).2 30 ≤ 3 := by omega
          have xb5 : (distS XA (S.1 6 (10 * m + q))).1 5 = S.1 5 := by rw [distS_1 _ _ _ (by decide), xa5]
          have xb6 : (distS XA (S.1 6 (10 * m + q))).1 6 = S.1 6 := by rw [distS_1 _ _ _ (by decide), xa6]
          have xb7 : (distS XA (S.1 6 (10 * m + q))).1 7 = S.1 7 := by rw [distS_1 _ _ _ (by decide), xa7]
          have xb8 : (distS XA (S.1 6 (10 * m + q))).1 8 = S.1 8 := by rw [distS_1 _ _ _ (by decide), xa8]
          generalize hxb : distS XA (S.1 6 (10 * m + q)) = XB at *
          
          refine V_aload0 (pc' := 96) C dX8_writeStep_95 rfl ?_
          refine V_aload0 (pc' := 97) C dX8_writeStep_96 rfl ?_
          refine mGetA (pc' := 100) 7 C hin (by decide) (by decide +kernel) dX8_writeStep_97 rfl ?_
          refine V_iload3 (pc' := 101) C dX8_writeStep_100 rfl ?_
          refine mLd (pc' := 102) (n := 60) 7 C (by decide) rfl (by first | omega | (simp [uA, uG, thS] <;> omega)) dX8_writeStep_101 rfl ?_
          refine V_eq (st2 := [Value.int (iI (S.1 7 (10 * m + q))), .ref mo]) (by rw [xb7]) ?_
          refine V_ifge (tgt := 110) C (by first | omega | (simp [uA, uG, thS] <;> omega)) dX8_writeStep_102 (by decide) rfl (fun c_102 => ?_) (fun c_102 => ?_)
          · refine V_bipush (pc' := 112) C dX8_writeStep_110 rfl (by decide) ?_
            refine V_eq (st2 := [Value.int (iI (signI (S.1 7 (10 * m + q)))), .ref mo]) (by unfold signI; first | (rw [if_pos (by omega)]; done) | (rw [if_neg (by omega)]; done)) ?_
            refine mCallV1 (pc' := 115) C (kX8_writes _ (by omega) (signI_in _)) gX8_writeStep_X8_writes rfl ydX8_writes ⟨Nat.le_of_ble_eq_true rfl, Nat.le_of_ble_eq_true rfl⟩ ⟨rfl, rfl⟩ (Nat.le_of_ble_eq_true rfl) dX8_writeStep_112 ⟨Nat.zero_le _, Nat.zero_le _⟩ rfl ?_
            refine V_aload0 (pc' := 116) C dX8_writeStep_115 rfl ?_
            refine V_aload0 (pc' := 117) C dX8_writeStep_116 rfl ?_
            refine mGetA (pc' := 120) 7 C hin (by decide) (by decide +kernel) dX8_writeStep_117 rfl ?_
            refine V_iload3 (pc' := 121) C dX8_writeStep_120 rfl ?_
            refine mLd (pc' := 122) (n := 60) 7 C (by decide) rfl (by first | omega | (simp [uA, uG, thS] <;> omega)) dX8_writeStep_121 rfl ?_
            refine V_eq (st2 := [Value.int (iI (S.1 7 (10 * m + q))), .ref mo]) (by rw [wrS_1 _ _ 7 (by decide), xb7]) ?_
            refine V_mabs (pc' := 125) C (by decide +kernel) (by decide +kernel) (by decide +kernel) (by decide +kernel) ⟨Nat.le_of_ble_eq_true rfl, Nat.le_of_ble_eq_true rfl⟩ ⟨Nat.zero_le _, Nat.zero_le _⟩ (by first | omega | (simp [uA, uG, thS] <;> omega)) dX8_writeStep_122 rfl ?_
            refine mCallV1 (pc' := 128) C (kX8_digits1 _ (by omega) (by rw [wrS_30]; omega)) gX8_writeStep_X8_digits rfl ydX8_digits ⟨Nat.le_of_ble_eq_true rfl, Nat.le_of_ble_eq_true rfl⟩ ⟨rfl, rfl⟩ (Nat.le_of_ble_eq_true rfl) dX8_writeStep_125 ⟨Nat.zero_le _, Nat.zero_le _⟩ rfl ?_
            refine V_weak (I2 := MI cC cI h0 mo Pm (distS XB (S.1 7 (10 * m + q)))) (fun h q => by exact q) ?_
            have d7 := distS_30 XB (S.1 7 (10 * m + q))
            have xc30 : 1 ≤ (distS XB (S.1 7 (10 * m + q))).2 30 ∧ (distS XB (S.1 7 (10 * m + q))).2 30 ≤ 5 := by omega
            have xc5 : (distS XB (S.1 7 (10 * m + q))).1 5 = S.1 5 := by rw [distS_1 _ _ _ (by decide), xb5]
            have xc6 : (distS XB (S.1 7 (10 * m + q))).1 6 = S.1 6 := by rw [distS_1 _ _ _ (by decide), xb6]
            have xc7 : (distS XB (S.1 7 (10 * m + q))).1 7 = S.1 7 := by rw [distS_1 _ _ _ (by decide), xb7]
            have xc8 : (distS XB (S.1 7 (10 * m + q))).1 8 = S.1 8 := by rw [distS_1 _ _ _ (by decide), xb8]
            generalize hxc : distS XB (S.1 7 (10 * m + q)) = XC at *
            
            refine V_aload0 (pc' := 129) C dX8_writeStep_128 rfl ?_
            refine mGetA (pc' := 132) 5 C hin (by decide) (by decide +kernel) dX8_writeStep_129 rfl ?_
            refine V_iload3 (pc' := 133) C dX8_writeStep_132 rfl ?_
            refine mLd (pc' := 134) (n := 60) 5 C (by decide) rfl (by first | omega | (simp [uA, uG, thS] <;> omega)) dX8_writeStep_133 rfl ?_
            refine V_eq (st2 := [Value.int (iI (S.1 5 (10 * m + q)))]) (by rw [xc5]) ?_
            refine V_bipush (pc' := 136) C dX8_writeStep_134 rfl (by decide) ?_
            refine V_icmpeq (tgt := 173) C (by first | omega | (simp [uA, uG, thS] <;> omega)) dX8_writeStep_136 (by decide) rfl (fun c_136 => ?_) (fun c_136 => ?_)
            · refine V_aload0 (pc' := 174) C dX8_writeStep_173 rfl ?_
              refine mGetI (pc' := 177) 30 C hin (by decide) (by decide +kernel) dX8_writeStep_174 rfl ?_
              exact mEnd C hr hlk ⟨Nat.le_refl _, Nat.le_refl _⟩ dX8_writeStep_177 (by have z9 : ¬ (isMacB S m = false ∨ isInB q 0 (S.1 4 m - 1) = false) := (by intro z8; rcases z8 with z8 | z8; exact absurd z8 (by simp_all [isMacB]); exact absurd (hq8.symm.trans z8) (by decide)); unfold writeStepX; rw [if_neg z9]; first | (rw [stepS_99 (S := uG S 31 0) (by first | exact c_136 | exact Classical.not_not.mp c_136)]; subst hxc hxb hxa; rfl) | (rw [stepS_n (S := uG S 31 0) (by exact c_136)]; subst hxe hxd hxc hxb hxa; rfl))
            · refine V_aload0 (pc' := 140) C dX8_writeStep_139 rfl ?_
              refine V_bipush (pc' := 142) C dX8_writeStep_140 rfl (by decide) ?_
              refine mCallV1 (pc' := 145) C (kX8_writes _ (by omega) (by omega)) gX8_writeStep_X8_writes rfl ydX8_writes ⟨Nat.le_of_ble_eq_true rfl, Nat.le_of_ble_eq_true rfl⟩ ⟨rfl, rfl⟩ (Nat.le_of_ble_eq_true rfl) dX8_writeStep_142 ⟨Nat.zero_le _, Nat.zero_le _⟩ rfl ?_
              have xd30 : 2 ≤ (wrS XC 61).2 30 ∧ (wrS XC 61).2 30 ≤ 6 := by rw [wrS_30]; omega
              have xd5 : (wrS XC 61).1 5 = S.1 5 := by rw [wrS_1 _ _ 5 (by decide)]; simp only [xc5, xc6, xc7, xc8]
              have xd6 : (wrS XC 61).1 6 = S.1 6 := by rw [wrS_1 _ _ 6 (by decide)]; simp only [xc5, xc6, xc7, xc8]
              have xd7 : (wrS XC 61).1 7 = S.1 7 := by rw [wrS_1 _ _ 7 (by decide)]; simp only [xc5, xc6, xc7, xc8]
              have xd8 : (wrS XC 61).1 8 = S.1 8 := by rw [wrS_1 _ _ 8 (by decide)]; simp only [xc5, xc6, xc7, xc8]
              generalize hxd : wrS XC 61 = XD at *
              
              refine V_aload0 (pc' := 146) C dX8_writeStep_145 rfl ?_
              refine mGetA (pc' := 149) 8 C hin (by decide) (by decide +kernel) dX8_writeStep_146 rfl ?_
              refine V_iload3 (pc' := 150) C dX8_writeStep_149 rfl ?_
              refine mLd (pc' := 151) (n := 60) 8 C (by decide) rfl (by first | omega | (simp [uA, uG, thS] <;> omega)) dX8_writeStep_150 rfl ?_
              refine V_eq (st2 := [Value.int (iI (S.1 8 (10 * m + q)))]) (by rw [xd8]) ?_
              refine V_ifge (tgt := 160) C (by first | omega | (simp [uA, uG, thS] <;> omega)) dX8_writeStep_151 (by decide) rfl (fun c_151 => ?_) (fun c_151 => ?_)
              · refine V_weak (I2 := MI cC cI h0 mo Pm (if 0 ≤ S.1 8 (10 * m + q) then XD else wrS XD 45)) (fun h q => by first | (rw [if_pos (by omega)]; exact q) | (rw [if_neg (by omega)]; exact q)) ?_
                have xe30 : 2 ≤ ((if 0 ≤ S.1 8 (10 * m + q) then XD else wrS XD 45)).2 30 ∧ ((if 0 ≤ S.1 8 (10 * m + q) then XD else wrS XD 45)).2 30 ≤ 7 := by split <;> first | omega | (rw [wrS_30]; omega)
                have xe5 : ((if 0 ≤ S.1 8 (10 * m + q) then XD else wrS XD 45)).1 5 = S.1 5 := by split <;> simp only [xd5, xd6, xd7, xd8, wrS_1 _ _ 5 (by decide), wrS_1 _ _ 6 (by decide), wrS_1 _ _ 7 (by decide), wrS_1 _ _ 8 (by decide)]
                have xe6 : ((if 0 ≤ S.1 8 (10 * m + q) then XD else wrS XD 45)).1 6 = S.1 6 := by split <;> simp only [xd5, xd6, xd7, xd8, wrS_1 _ _ 5 (by decide), wrS_1 _ _ 6 (by decide), wrS_1 _ _ 7 (by decide), wrS_1 _ _ 8 (by decide)]
                have xe7 : ((if 0 ≤ S.1 8 (10 * m + q) then XD else wrS XD 45)).1 7 = S.1 7 := by split <;> simp only [xd5, xd6, xd7, xd8, wrS_1 _ _ 5 (by decide), wrS_1 _ _ 6 (by decide), wrS_1 _ _ 7 (by decide), wrS_1 _ _ 8 (by decide)]
                have xe8 : ((if 0 ≤ S.1 8 (10 * m + q) then XD else wrS XD 45)).1 8 = S.1 8 := by split <;> simp only [xd5, xd6, xd7, xd8, wrS_1 _ _ 5 (by decide), wrS_1 _ _ 6 (by decide), wrS_1 _ _ 7 (by decide), wrS_1 _ _ 8 (by decide)]
                generalize hxe : (if 0 ≤ S.1 8 (10 * m + q) then XD else wrS XD 45) = XE at *
                
                refine V_aload0 (pc' := 161) C dX8_writeStep_160 rfl ?_
                refine V_aload0 (pc' := 162) C dX8_writeStep_161 rfl ?_
                refine mGetA (pc' := 165) 8 C hin (by decide) (by decide +kernel) dX8_writeStep_162 rfl ?_
                refine V_iload3 (pc' := 166) C dX8_writeStep_165 rfl ?_
                refine mLd (pc' := 167) (n := 60) 8 C (by decide) rfl (by first | omega | (simp [uA, uG, thS] <;> omega)) dX8_writeStep_166 rfl ?_
                refine V_eq (st2 := [Value.int (iI (S.1 8 (10 * m + q))), .ref mo]) (by rw [xe8]) ?_
                refine V_mabs (pc' := 170) C (by decide +kernel) (by decide +kernel) (by decide +kernel) (by decide +kernel) ⟨Nat.le_of_ble_eq_true rfl, Nat.le_of_ble_eq_true rfl⟩ ⟨Nat.zero_le _, Nat.zero_le _⟩ (by first | omega | (simp [uA, uG, thS] <;> omega)) dX8_writeStep_167 rfl ?_
                refine mCallV1 (pc' := 173) C (kX8_digits4 _ (by omega) (by omega)) gX8_writeStep_X8_digits rfl ydX8_digits ⟨Nat.le_of_ble_eq_true rfl, Nat.le_of_ble_eq_true rfl⟩ ⟨rfl, rfl⟩ (Nat.le_of_ble_eq_true rfl) dX8_writeStep_170 ⟨Nat.zero_le _, Nat.zero_le _⟩ rfl ?_
                refine V_aload0 (pc' := 174) C dX8_writeStep_173 rfl ?_
                refine mGetI (pc' := 177) 30 C hin (by decide) (by decide +kernel) dX8_writeStep_174 rfl ?_
                exact mEnd C hr hlk ⟨Nat.le_refl _, Nat.le_refl _⟩ dX8_writeStep_177 (by have z9 : ¬ (isMacB S m = false ∨ isInB q 0 (S.1 4 m - 1) = false) := (by intro z8; rcases z8 with z8 | z8; exact absurd z8 (by simp_all [isMacB]); exact absurd (hq8.symm.trans z8) (by decide)); unfold writeStepX; rw [if_neg z9]; first | (rw [stepS_99 (S := uG S 31 0) (by first | exact c_136 | exact Classical.not_not.mp c_136)]; subst hxc hxb hxa; rfl) | (rw [stepS_n (S := uG S 31 0) (by exact c_136)]; subst hxe hxd hxc hxb hxa; rfl))
              · refine V_aload0 (pc' := 155) C dX8_writeStep_154 rfl ?_
                refine V_bipush (pc' := 157) C dX8_writeStep_155 rfl (by decide) ?_
                refine mCallV1 (pc' := 160) C (kX8_writes _ (by omega) (by omega)) gX8_writeStep_X8_writes rfl ydX8_writes ⟨Nat.le_of_ble_eq_true rfl, Nat.le_of_ble_eq_true rfl⟩ ⟨rfl, rfl⟩ (Nat.le_of_ble_eq_true rfl) dX8_writeStep_157 ⟨Nat.zero_le _, Nat.zero_le _⟩ rfl ?_
                refine V_weak (I2 := MI cC cI h0 mo Pm (if 0 ≤ S.1 8 (10 * m + q) then XD else wrS XD 45)) (fun h q => by first | (rw [if_pos (by omega)]; exact q) | (rw [if_neg (by omega)]; exact q)) ?_
                have xe30 : 2 ≤ ((if 0 ≤ S.1 8 (10 * m + q) then XD else wrS XD 45)).2 30 ∧ ((if 0 ≤ S.1 8 (10 * m + q) then XD else wrS XD 45)).2 30 ≤ 7 := by split <;> first | omega | (rw [wrS_30]; omega)
                have xe5 : ((if 0 ≤ S.1 8 (10 * m + q) then XD else wrS XD 45)).1 5 = S.1 5 := by split <;> simp only [xd5, xd6, xd7, xd8, wrS_1 _ _ 5 (by decide), wrS_1 _ _ 6 (by decide), wrS_1 _ _ 7 (by decide), wrS_1 _ _ 8 (by decide)]
                have xe6 : ((if 0 ≤ S.1 8 (10 * m + q) then XD else wrS XD 45)).1 6 = S.1 6 := by split <;> simp only [xd5, xd6, xd7, xd8, wrS_1 _ _ 5 (by decide), wrS_1 _ _ 6 (by decide), wrS_1 _ _ 7 (by decide), wrS_1 _ _ 8 (by decide)]
                have xe7 : ((if 0 ≤ S.1 8 (10 * m + q) then XD else wrS XD 45)).1 7 = S.1 7 := by split <;> simp only [xd5, xd6, xd7, xd8, wrS_1 _ _ 5 (by decide), wrS_1 _ _ 6 (by decide), wrS_1 _ _ 7 (by decide), wrS_1 _ _ 8 (by decide)]
                have xe8 : ((if 0 ≤ S.1 8 (10 * m + q) then XD else wrS XD 45)).1 8 = S.1 8 := by split <;> simp only [xd5, xd6, xd7, xd8, wrS_1 _ _ 5 (by decide), wrS_1 _ _ 6 (by decide), wrS_1 _ _ 7 (by decide), wrS_1 _ _ 8 (by decide)]
                generalize hxe : (if 0 ≤ S.1 8 (10 * m + q) then XD else wrS XD 45) = XE at *
                
                refine V_aload0 (pc' := 161) C dX8_writeStep_160 rfl ?_
                refine V_aload0 (pc' := 162) C dX8_writeStep_161 rfl ?_
                refine mGetA (pc' := 165) 8 C hin (by decide) (by decide +kernel) dX8_writeStep_162 rfl ?_
                refine V_iload3 (pc' := 166) C dX8_writeStep_165 rfl ?_
                refine mLd (pc' := 167) (n := 60) 8 C (by decide) rfl (by first | omega | (simp [uA, uG, thS] <;> omega)) dX8_writeStep_166 rfl ?_
                refine V_eq (st2 := [Value.int (iI (S.1 8 (10 * m + q))), .ref mo]) (by rw [xe8]) ?_
                refine V_mabs (pc' := 170) C (by decide +kernel) (by decide +kernel) (by decide +kernel) (by decide +kernel) ⟨Nat.le_of_ble_eq_true rfl, Nat.le_of_ble_eq_true rfl⟩ ⟨Nat.zero_le _, Nat.zero_le _⟩ (by first | omega | (simp [uA, uG, thS] <;> omega)) dX8_writeStep_167 rfl ?_
                refine mCallV1 (pc' := 173) C (kX8_digits4 _ (by omega) (by omega)) gX8_writeStep_X8_digits rfl ydX8_digits ⟨Nat.le_of_ble_eq_true rfl, Nat.le_of_ble_eq_true rfl⟩ ⟨rfl, rfl⟩ (Nat.le_of_ble_eq_true rfl) dX8_writeStep_170 ⟨Nat.zero_le _, Nat.zero_le _⟩ rfl ?_
                refine V_aload0 (pc' := 174) C dX8_writeStep_173 rfl ?_
                refine mGetI (pc' := 177) 30 C hin (by decide) (by decide +kernel) dX8_writeStep_174 rfl ?_
                exact mEnd C hr hlk ⟨Nat.le_refl _, Nat.le_refl _⟩ dX8_writeStep_177 (by have z9 : ¬ (isMacB S m = false ∨ isInB q 0 (S.1 4 m - 1) = false) := (by intro z8; rcases z8 with z8 | z8; exact absurd z8 (by simp_all [isMacB]); exact absurd (hq8.symm.trans z8) (by decide)); unfold writeStepX; rw [if_neg z9]; first | (rw [stepS_99 (S := uG S 31 0) (by first | exact c_136 | exact Classical.not_not.mp c_136)]; subst hxc hxb hxa; rfl) | (rw [stepS_n (S := uG S 31 0) (by exact c_136)]; subst hxe hxd hxc hxb hxa; rfl))
          · refine V_bipush (pc' := 107) C dX8_writeStep_105 rfl (by decide) ?_
            refine V_goto (tgt := 112) C dX8_writeStep_107 (by decide) ?_
            refine V_eq (st2 := [Value.int (iI (signI (S.1 7 (10 * m + q)))), .ref mo]) (by unfold signI; first | (rw [if_pos (by omega)]; done) | (rw [if_neg (by omega)]; done)) ?_
            refine mCallV1 (pc' := 115) C (kX8_writes _ (by omega) (signI_in _)) gX8_writeStep_X8_writes rfl ydX8_writes ⟨Nat.le_of_ble_eq_true rfl, Nat.le_of_ble_eq_true rfl⟩ ⟨rfl, rfl⟩ (Nat.le_of_ble_eq_true rfl) dX8_writeStep_112 ⟨Nat.zero_le _, Nat.zero_le _⟩ rfl ?_
            refine V_aload0 (pc' := 116) C dX8_writeStep_115 rfl ?_
            refine V_aload0 (pc' := 117) C dX8_writeStep_116 rfl ?_
            refine mGetA (pc' := 120) 7 C hin (by decide) (by decide +kernel) dX8_writeStep_117 rfl ?_
            refine V_iload3 (pc' := 121) C dX8_writeStep_120 rfl ?_
            refine mLd (pc' := 122) (n := 60) 7 C (by decide) rfl (by first | omega | (simp [uA, uG, thS] <;> omega)) dX8_writeStep_121 rfl ?_
            refine V_eq (st2 := [Value.int (iI (S.1 7 (10 * m + q))), .ref mo]) (by rw [wrS_1 _ _ 7 (by decide), xb7]) ?_
            refine V_mabs (pc' := 125) C (by decide +kernel) (by decide +kernel) (by decide +kernel) (by decide +kernel) ⟨Nat.le_of_ble_eq_true rfl, Nat.le_of_ble_eq_true rfl⟩ ⟨Nat.zero_le _, Nat.zero_le _⟩ (by first | omega | (simp [uA, uG, thS] <;> omega)) dX8_writeStep_122 rfl ?_
            refine mCallV1 (pc' := 128) C (kX8_digits1 _ (by omega) (by rw [wrS_30]; omega)) gX8_writeStep_X8_digits rfl ydX8_digits ⟨Nat.le_of_ble_eq_true rfl, Nat.le_of_ble_eq_true rfl⟩ ⟨rfl, rfl⟩ (Nat.le_of_ble_eq_true rfl) dX8_writeStep_125 ⟨Nat.zero_le _, Nat.zero_le _⟩ rfl ?_
            refine V_weak (I2 := MI cC cI h0 mo Pm (distS XB (S.1 7 (10 * m + q)))) (fun h q => by exact q) ?_
            have d7 := distS_30 XB (S.1 7 (10 * m + q))
            have xc30 : 1 ≤ (distS XB (S.1 7 (10 * m + q))).2 30 ∧ (distS XB (S.1 7 (10 * m + q))).2 30 ≤ 5 := by omega
            have xc5 : (distS XB (S.1 7 (10 * m + q))).1 5 = S.1 5 := by rw [distS_1 _ _ _ (by decide), xb5]
            have xc6 : (distS XB (S.1 7 (10 * m + q))).1 6 = S.1 6 := by rw [distS_1 _ _ _ (by decide), xb6]
            have xc7 : (distS XB (S.1 7 (10 * m + q))).1 7 = S.1 7 := by rw [distS_1 _ _ _ (by decide), xb7]
            have xc8 : (distS XB (S.1 7 (10 * m + q))).1 8 = S.1 8 := by rw [distS_1 _ _ _ (by decide), xb8]
            generalize hxc : distS XB (S.1 7 (10 * m + q)) = XC at *
            
            refine V_aload0 (pc' := 129) C dX8_writeStep_128 rfl ?_
            refine mGetA (pc' := 132) 5 C hin (by decide) (by decide +kernel) dX8_writeStep_129 rfl ?_
            refine V_iload3 (pc' := 133) C dX8_writeStep_132 rfl ?_
            refine mLd (pc' := 134) (n := 60) 5 C (by decide) rfl (by first | omega | (simp [uA, uG, thS] <;> omega)) dX8_writeStep_133 rfl ?_
            refine V_eq (st2 := [Value.int (iI (S.1 5 (10 * m + q)))]) (by rw [xc5]) ?_
            refine V_bipush (pc' := 136) C dX8_writeStep_134 rfl (by decide) ?_
            refine V_icmpeq (tgt := 173) C (by first | omega | (simp [uA, uG, thS] <;> omega)) dX8_writeStep_136 (by decide) rfl (fun c_136 => ?_) (fun c_136 => ?_)
            · refine V_aload0 (pc' := 174) C dX8_writeStep_173 rfl ?_
              refine mGetI (pc' := 177) 30 C hin (by decide) (by decide +kernel) dX8_writeStep_174 rfl ?_
              exact mEnd C hr hlk ⟨Nat.le_refl _, Nat.le_refl _⟩ dX8_writeStep_177 (by have z9 : ¬ (isMacB S m = false ∨ isInB q 0 (S.1 4 m - 1) = false) := (by intro z8; rcases z8 with z8 | z8; exact absurd z8 (by simp_all [isMacB]); exact absurd (hq8.symm.trans z8) (by decide)); unfold writeStepX; rw [if_neg z9]; first | (rw [stepS_99 (S := uG S 31 0) (by first | exact c_136 | exact Classical.not_not.mp c_136)]; subst hxc hxb hxa; rfl) | (rw [stepS_n (S := uG S 31 0) (by exact c_136)]; subst hxe hxd hxc hxb hxa; rfl))
            · refine V_aload0 (pc' := 140) C dX8_writeStep_139 rfl ?_
              refine V_bipush (pc' := 142) C dX8_writeStep_140 rfl (by decide) ?_
              refine mCallV1 (pc' := 145) C (kX8_writes _ (by omega) (by omega)) gX8_writeStep_X8_writes rfl ydX8_writes ⟨Nat.le_of_ble_eq_true rfl, Nat.le_of_ble_eq_true rfl⟩ ⟨rfl, rfl⟩ (Nat.le_of_ble_eq_true rfl) dX8_writeStep_142 ⟨Nat.zero_le _, Nat.zero_le _⟩ rfl ?_
              have xd30 : 2 ≤ (wrS XC 61).2 30 ∧ (wrS XC 61).2 30 ≤ 6 := by rw [wrS_30]; omega
              have xd5 : (wrS XC 61).1 5 = S.1 5 := by rw [wrS_1 _ _ 5 (by decide)]; simp only [xc5, xc6, xc7, xc8]
              have xd6 : (wrS XC 61).1 6 = S.1 6 := by rw [wrS_1 _ _ 6 (by decide)]; simp only [xc5, xc6, xc7, xc8]
              have xd7 : (wrS XC 61).1 7 = S.1 7 := by rw [wrS_1 _ _ 7 (by decide)]; simp only [xc5, xc6, xc7, xc8]
              have xd8 : (wrS XC 61).1 8 = S.1 8 := by rw [wrS_1 _ _ 8 (by decide)]; simp only [xc5, xc6, xc7, xc8]
              generalize hxd : wrS XC 61 = XD at *
              
              refine V_aload0 (pc' := 146) C dX8_writeStep_145 rfl ?_
              refine mGetA (pc' := 149) 8 C hin (by decide) (by decide +kernel) dX8_writeStep_146 rfl ?_
              refine V_iload3 (pc' := 150) C dX8_writeStep_149 rfl ?_
              refine mLd (pc' := 151) (n := 60) 8 C (by decide) rfl (by first | omega | (simp [uA, uG, thS] <;> omega)) dX8_writeStep_150 rfl ?_
              refine V_eq (st2 := [Value.int (iI (S.1 8 (10 * m + q)))]) (by rw [xd8]) ?_
              refine V_ifge (tgt := 160) C (by first | omega | (simp [uA, uG, thS] <;> omega)) dX8_writeStep_151 (by decide) rfl (fun c_151 => ?_) (fun c_151 => ?_)
              · refine V_weak (I2 := MI cC cI h0 mo Pm (if 0 ≤ S.1 8 (10 * m + q) then XD else wrS XD 45)) (fun h q => by first | (rw [if_pos (by omega)]; exact q) | (rw [if_neg (by omega)]; exact q)) ?_
                have xe30 : 2 ≤ ((if 0 ≤ S.1 8 (10 * m + q) then XD else wrS XD 45)).2 30 ∧ ((if 0 ≤ S.1 8 (10 * m + q) then XD else wrS XD 45)).2 30 ≤ 7 := by split <;> first | omega | (rw [wrS_30]; omega)
                have xe5 : ((if 0 ≤ S.1 8 (10 * m + q) then XD else wrS XD 45)).1 5 = S.1 5 := by split <;> simp only [xd5, xd6, xd7, xd8, wrS_1 _ _ 5 (by decide), wrS_1 _ _ 6 (by decide), wrS_1 _ _ 7 (by decide), wrS_1 _ _ 8 (by decide)]
                have xe6 : ((if 0 ≤ S.1 8 (10 * m + q) then XD else wrS XD 45)).1 6 = S.1 6 := by split <;> simp only [xd5, xd6, xd7, xd8, wrS_1 _ _ 5 (by decide), wrS_1 _ _ 6 (by decide), wrS_1 _ _ 7 (by decide), wrS_1 _ _ 8 (by decide)]
                have xe7 : ((if 0 ≤ S.1 8 (10 * m + q) then XD else wrS XD 45)).1 7 = S.1 7 := by split <;> simp only [xd5, xd6, xd7, xd8, wrS_1 _ _ 5 (by decide), wrS_1 _ _ 6 (by decide), wrS_1 _ _ 7 (by decide), wrS_1 _ _ 8 (by decide)]
                have xe8 : ((if 0 ≤ S.1 8 (10 * m + q) then XD else wrS XD 45)).1 8 = S.1 8 := by split <;> simp only [xd5, xd6, xd7, xd8, wrS_1 _ _ 5 (by decide), wrS_1 _ _ 6 (by decide), wrS_1 _ _ 7 (by decide), wrS_1 _ _ 8 (by decide)]
                generalize hxe : (if 0 ≤ S.1 8 (10 * m + q) then XD else wrS XD 45) = XE at *
                
                refine V_aload0 (pc' := 161) C dX8_writeStep_160 rfl ?_
                refine V_aload0 (pc' := 162) C dX8_writeStep_161 rfl ?_
                refine mGetA (pc' := 165) 8 C hin (by decide) (by decide +kernel) dX8_writeStep_162 rfl ?_
                refine V_iload3 (pc' := 166) C dX8_writeStep_165 rfl ?_
                refine mLd (pc' := 167) (n := 60) 8 C (by decide) rfl (by first | omega | (simp [uA, uG, thS] <;> omega)) dX8_writeStep_166 rfl ?_
                refine V_eq (st2 := [Value.int (iI (S.1 8 (10 * m + q))), .ref mo]) (by rw [xe8]) ?_
                refine V_mabs (pc' := 170) C (by decide +kernel) (by decide +kernel) (by decide +kernel) (by decide +kernel) ⟨Nat.le_of_ble_eq_true rfl, Nat.le_of_ble_eq_true rfl⟩ ⟨Nat.zero_le _, Nat.zero_le _⟩ (by first | omega | (simp [uA, uG, thS] <;> omega)) dX8_writeStep_167 rfl ?_
                refine mCallV1 (pc' := 173) C (kX8_digits4 _ (by omega) (by omega)) gX8_writeStep_X8_digits rfl ydX8_digits ⟨Nat.le_of_ble_eq_true rfl, Nat.le_of_ble_eq_true rfl⟩ ⟨rfl, rfl⟩ (Nat.le_of_ble_eq_true rfl) dX8_writeStep_170 ⟨Nat.zero_le _, Nat.zero_le _⟩ rfl ?_
                refine V_aload0 (pc' := 174) C dX8_writeStep_173 rfl ?_
                refine mGetI (pc' := 177) 30 C hin (by decide) (by decide +kernel) dX8_writeStep_174 rfl ?_
                exact mEnd C hr hlk ⟨Nat.le_refl _, Nat.le_refl _⟩ dX8_writeStep_177 (by have z9 : ¬ (isMacB S m = false ∨ isInB q 0 (S.1 4 m - 1) = false) := (by intro z8; rcases z8 with z8 | z8; exact absurd z8 (by simp_all [isMacB]); exact absurd (hq8.symm.trans z8) (by decide)); unfold writeStepX; rw [if_neg z9]; first | (rw [stepS_99 (S := uG S 31 0) (by first | exact c_136 | exact Classical.not_not.mp c_136)]; subst hxc hxb hxa; rfl) | (rw [stepS_n (S := uG S 31 0) (by exact c_136)]; subst hxe hxd hxc hxb hxa; rfl))
              · refine V_aload0 (pc' := 155) C dX8_writeStep_154 rfl ?_
                refine V_bipush (pc' := 157) C dX8_writeStep_155 rfl (by decide) ?_
                refine mCallV1 (pc' := 160) C (kX8_writes _ (by omega) (by omega)) gX8_writeStep_X8_writes rfl ydX8_writes ⟨Nat.le_of_ble_eq_true rfl, Nat.le_of_ble_eq_true rfl⟩ ⟨rfl, rfl⟩ (Nat.le_of_ble_eq_true rfl) dX8_writeStep_157 ⟨Nat.zero_le _, Nat.zero_le _⟩ rfl ?_
                refine V_weak (I2 := MI cC cI h0 mo Pm (if 0 ≤ S.1 8 (10 * m + q) then XD else wrS XD 45)) (fun h q => by first | (rw [if_pos (by omega)]; exact q) | (rw [if_neg (by omega)]; exact q)) ?_
                have xe30 : 2 ≤ ((if 0 ≤ S.1 8 (10 * m + q) then XD else wrS XD 45)).2 30 ∧ ((if 0 ≤ S.1 8 (10 * m + q) then XD else wrS XD 45)).2 30 ≤ 7 := by split <;> first | omega | (rw [wrS_30]; omega)
                have xe5 : ((if 0 ≤ S.1 8 (10 * m + q) then XD else wrS XD 45)).1 5 = S.1 5 := by split <;> simp only [xd5, xd6, xd7, xd8, wrS_1 _ _ 5 (by decide), wrS_1 _ _ 6 (by decide), wrS_1 _ _ 7 (by decide), wrS_1 _ _ 8 (by decide)]
                have xe6 : ((if 0 ≤ S.1 8 (10 * m + q) then XD else wrS XD 45)).1 6 = S.1 6 := by split <;> simp only [xd5, xd6, xd7, xd8, wrS_1 _ _ 5 (by decide), wrS_1 _ _ 6 (by decide), wrS_1 _ _ 7 (by decide), wrS_1 _ _ 8 (by decide)]
                have xe7 : ((if 0 ≤ S.1 8 (10 * m + q) then XD else wrS XD 45)).1 7 = S.1 7 := by split <;> simp only [xd5, xd6, xd7, xd8, wrS_1 _ _ 5 (by decide), wrS_1 _ _ 6 (by decide), wrS_1 _ _ 7 (by decide), wrS_1 _ _ 8 (by decide)]
                have xe8 : ((if 0 ≤ S.1 8 (10 * m + q) then XD else wrS XD 45)).1 8 = S.1 8 := by split <;> simp only [xd5, xd6, xd7, xd8, wrS_1 _ _ 5 (by decide), wrS_1 _ _ 6 (by decide), wrS_1 _ _ 7 (by decide), wrS_1 _ _ 8 (by decide)]
                generalize hxe : (if 0 ≤ S.1 8 (10 * m + q) then XD else wrS XD 45) = XE at *
                
                refine V_aload0 (pc' := 161) C dX8_writeStep_160 rfl ?_
                refine V_aload0 (pc' := 162) C dX8_writeStep_161 rfl ?_
                refine mGetA (pc' := 165) 8 C hin (by decide) (by decide +kernel) dX8_writeStep_162 rfl ?_
                refine V_iload3 (pc' := 166) C dX8_writeStep_165 rfl ?_
                refine mLd (pc' := 167) (n := 60) 8 C (by decide) rfl (by first | omega | (simp [uA, uG, thS] <;> omega)) dX8_writeStep_166 rfl ?_
                refine V_eq (st2 := [Value.int (iI (S.1 8 (10 * m + q))), .ref mo]) (by rw [xe8]) ?_
                refine V_mabs (pc' := 170) C (by decide +kernel) (by decide +kernel) (by decide +kernel) (by decide +kernel) ⟨Nat.le_of_ble_eq_true rfl, Nat.le_of_ble_eq_true rfl⟩ ⟨Nat.zero_le _, Nat.zero_le _⟩ (by first | omega | (simp [uA, uG, thS] <;> omega)) dX8_writeStep_167 rfl ?_
                refine mCallV1 (pc' := 173) C (kX8_digits4 _ (by omega) (by omega)) gX8_writeStep_X8_digits rfl ydX8_digits ⟨Nat.le_of_ble_eq_true rfl, Nat.le_of_ble_eq_true rfl⟩ ⟨rfl, rfl⟩ (Nat.le_of_ble_eq_true rfl) dX8_writeStep_170 ⟨Nat.zero_le _, Nat.zero_le _⟩ rfl ?_
                refine V_aload0 (pc' := 174) C dX8_writeStep_173 rfl ?_
                refine mGetI (pc' := 177) 30 C hin (by decide) (by decide +kernel) dX8_writeStep_174 rfl ?_
                exact mEnd C hr hlk ⟨Nat.le_refl _, Nat.le_refl _⟩ dX8_writeStep_177 (by have z9 : ¬ (isMacB S m = false ∨ isInB q 0 (S.1 4 m - 1) = false) := (by intro z8; rcases z8 with z8 | z8; exact absurd z8 (by simp_all [isMacB]); exact absurd (hq8.symm.trans z8) (by decide)); unfold writeStepX; rw [if_neg z9]; first | (rw [stepS_99 (S := uG S 31 0) (by first | exact c_136 | exact Classical.not_not.mp c_136)]; subst hxc hxb hxa; rfl) | (rw [stepS_n (S := uG S 31 0) (by exact c_136)]; subst hxe hxd hxc hxb hxa; rfl))
        · refine V_bipush (pc' := 74) C dX8_writeStep_72 rfl (by decide) ?_
          refine V_goto (tgt := 79) C dX8_writeStep_74 (by decide) ?_
          refine V_eq (st2 := [Value.int (iI (signI (S.1 6 (10 * m + q)))), .ref mo]) (by unfold signI; first | (rw [if_pos (by omega)]; done) | (rw [if_neg (by omega)]; done)) ?_
          refine mCallV1 (pc' := 82) C (kX8_writes _ (by omega) (signI_in _)) gX8_writeStep_X8_writes rfl ydX8_writes ⟨Nat.le_of_ble_eq_true rfl, Nat.le_of_ble_eq_true rfl⟩ ⟨rfl, rfl⟩ (Nat.le_of_ble_eq_true rfl) dX8_writeStep_79 ⟨Nat.zero_le _, Nat.zero_le _⟩ rfl ?_
          refine V_aload0 (pc' := 83) C dX8_writeStep_82 rfl ?_
          refine V_aload0 (pc' := 84) C dX8_writeStep_83 rfl ?_
          refine mGetA (pc' := 87) 6 C hin (by decide) (by decide +kernel) dX8_writeStep_84 rfl ?_
          refine V_iload3 (pc' := 88) C dX8_writeStep_87 rfl ?_
          refine mLd (pc' := 89) (n := 60) 6 C (by decide) rfl (by first | omega | (simp [uA, uG, thS] <;> omega)) dX8_writeStep_88 rfl ?_
          refine V_eq (st2 := [Value.int (iI (S.1 6 (10 * m + q))), .ref mo]) (by rw [wrS_1 _ _ 6 (by decide), xa6]) ?_
          refine V_mabs (pc' := 92) C (by decide +kernel) (by decide +kernel) (by decide +kernel) (by decide +kernel) ⟨Nat.le_of_ble_eq_true rfl, Nat.le_of_ble_eq_true rfl⟩ ⟨Nat.zero_le _, Nat.zero_le _⟩ (by first | omega | (simp [uA, uG, thS] <;> omega)) dX8_writeStep_89 rfl ?_
          refine mCallV1 (pc' := 95) C (kX8_digits1 _ (by omega) (by rw [wrS_30]; omega)) gX8_writeStep_X8_digits rfl ydX8_digits ⟨Nat.le_of_ble_eq_true rfl, Nat.le_of_ble_eq_true rfl⟩ ⟨rfl, rfl⟩ (Nat.le_of_ble_eq_true rfl) dX8_writeStep_92 ⟨Nat.zero_le _, Nat.zero_le _⟩ rfl ?_
          refine V_weak (I2 := MI cC cI h0 mo Pm (distS XA (S.1 6 (10 * m + q)))) (fun h q => by exact q) ?_
          have d6 := distS_30 XA (S.1 6 (10 * m + q))
          have xb30 : 1 ≤ (distS XA (S.1 6 (10 * m + q))).2 30 ∧ (distS XA (S.1 6 (10 * m + q))).2 30 ≤ 3 := by omega
          have xb5 : (distS XA (S.1 6 (10 * m + q))).1 5 = S.1 5 := by rw [distS_1 _ _ _ (by decide), xa5]
          have xb6 : (distS XA (S.1 6 (10 * m + q))).1 6 = S.1 6 := by rw [distS_1 _ _ _ (by decide), xa6]
          have xb7 : (distS XA (S.1 6 (10 * m + q))).1 7 = S.1 7 := by rw [distS_1 _ _ _ (by decide), xa7]
          have xb8 : (distS XA (S.1 6 (10 * m + q))).1 8 = S.1 8 := by rw [distS_1 _ _ _ (by decide), xa8]
          generalize hxb : distS XA (S.1 6 (10 * m + q)) = XB at *
          
          refine V_aload0 (pc' := 96) C dX8_writeStep_95 rfl ?_
          refine V_aload0 (pc' := 97) C dX8_writeStep_96 rfl ?_
          refine mGetA (pc' := 100) 7 C hin (by decide) (by decide +kernel) dX8_writeStep_97 rfl ?_
          refine V_iload3 (pc' := 101) C dX8_writeStep_100 rfl ?_
          refine mLd (pc' := 102) (n := 60) 7 C (by decide) rfl (by first | omega | (simp [uA, uG, thS] <;> omega)) dX8_writeStep_101 rfl ?_
          refine V_eq (st2 := [Value.int (iI (S.1 7 (10 * m + q))), .ref mo]) (by rw [xb7]) ?_
          refine V_ifge (tgt := 110) C (by first | omega | (simp [uA, uG, thS] <;> omega)) dX8_writeStep_102 (by decide) rfl (fun c_102 => ?_) (fun c_102 => ?_)
          · refine V_bipush (pc' := 112) C dX8_writeStep_110 rfl (by decide) ?_
            refine V_eq (st2 := [Value.int (iI (signI (S.1 7 (10 * m + q)))), .ref mo]) (by unfold signI; first | (rw [if_pos (by omega)]; done) | (rw [if_neg (by omega)]; done)) ?_
            refine mCallV1 (pc' := 115) C (kX8_writes _ (by omega) (signI_in _)) gX8_writeStep_X8_writes rfl ydX8_writes ⟨Nat.le_of_ble_eq_true rfl, Nat.le_of_ble_eq_true rfl⟩ ⟨rfl, rfl⟩ (Nat.le_of_ble_eq_true rfl) dX8_writeStep_112 ⟨Nat.zero_le _, Nat.zero_le _⟩ rfl ?_
            refine V_aload0 (pc' := 116) C dX8_writeStep_115 rfl ?_
            refine V_aload0 (pc' := 117) C dX8_writeStep_116 rfl ?_
            refine mGetA (pc' := 120) 7 C hin (by decide) (by decide +kernel) dX8_writeStep_117 rfl ?_
            refine V_iload3 (pc' := 121) C dX8_writeStep_120 rfl ?_
            refine mLd (pc' := 122) (n := 60) 7 C (by decide) rfl (by first | omega | (simp [uA, uG, thS] <;> omega)) dX8_writeStep_121 rfl ?_
            refine V_eq (st2 := [Value.int (iI (S.1 7 (10 * m + q))), .ref mo]) (by rw [wrS_1 _ _ 7 (by decide), xb7]) ?_
            refine V_mabs (pc' := 125) C (by decide +kernel) (by decide +kernel) (by decide +kernel) (by decide +kernel) ⟨Nat.le_of_ble_eq_true rfl, Nat.le_of_ble_eq_true rfl⟩ ⟨Nat.zero_le _, Nat.zero_le _⟩ (by first | omega | (simp [uA, uG, thS] <;> omega)) dX8_writeStep_122 rfl ?_
            refine mCallV1 (pc' := 128) C (kX8_digits1 _ (by omega) (by rw [wrS_30]; omega)) gX8_writeStep_X8_digits rfl ydX8_digits ⟨Nat.le_of_ble_eq_true rfl, Nat.le_of_ble_eq_true rfl⟩ ⟨rfl, rfl⟩ (Nat.le_of_ble_eq_true rfl) dX8_writeStep_125 ⟨Nat.zero_le _, Nat.zero_le _⟩ rfl ?_
            refine V_weak (I2 := MI cC cI h0 mo Pm (distS XB (S.1 7 (10 * m + q)))) (fun h q => by exact q) ?_
            have d7 := distS_30 XB (S.1 7 (10 * m + q))
            have xc30 : 1 ≤ (distS XB (S.1 7 (10 * m + q))).2 30 ∧ (distS XB (S.1 7 (10 * m + q))).2 30 ≤ 5 := by omega
            have xc5 : (distS XB (S.1 7 (10 * m + q))).1 5 = S.1 5 := by rw [distS_1 _ _ _ (by decide), xb5]
            have xc6 : (distS XB (S.1 7 (10 * m + q))).1 6 = S.1 6 := by rw [distS_1 _ _ _ (by decide), xb6]
            have xc7 : (distS XB (S.1 7 (10 * m + q))).1 7 = S.1 7 := by rw [distS_1 _ _ _ (by decide), xb7]
            have xc8 : (distS XB (S.1 7 (10 * m + q))).1 8 = S.1 8 := by rw [distS_1 _ _ _ (by decide), xb8]
            generalize hxc : distS XB (S.1 7 (10 * m + q)) = XC at *
            
            refine V_aload0 (pc' := 129) C dX8_writeStep_128 rfl ?_
            refine mGetA (pc' := 132) 5 C hin (by decide) (by decide +kernel) dX8_writeStep_129 rfl ?_
            refine V_iload3 (pc' := 133) C dX8_writeStep_132 rfl ?_
            refine mLd (pc' := 134) (n := 60) 5 C (by decide) rfl (by first | omega | (simp [uA, uG, thS] <;> omega)) dX8_writeStep_133 rfl ?_
            refine V_eq (st2 := [Value.int (iI (S.1 5 (10 * m + q)))]) (by rw [xc5]) ?_
            refine V_bipush (pc' := 136) C dX8_writeStep_134 rfl (by decide) ?_
            refine V_icmpeq (tgt := 173) C (by first | omega | (simp [uA, uG, thS] <;> omega)) dX8_writeStep_136 (by decide) rfl (fun c_136 => ?_) (fun c_136 => ?_)
            · refine V_aload0 (pc' := 174) C dX8_writeStep_173 rfl ?_
              refine mGetI (pc' := 177) 30 C hin (by decide) (by decide +kernel) dX8_writeStep_174 rfl ?_
              exact mEnd C hr hlk ⟨Nat.le_refl _, Nat.le_refl _⟩ dX8_writeStep_177 (by have z9 : ¬ (isMacB S m = false ∨ isInB q 0 (S.1 4 m - 1) = false) := (by intro z8; rcases z8 with z8 | z8; exact absurd z8 (by simp_all [isMacB]); exact absurd (hq8.symm.trans z8) (by decide)); unfold writeStepX; rw [if_neg z9]; first | (rw [stepS_99 (S := uG S 31 0) (by first | exact c_136 | exact Classical.not_not.mp c_136)]; subst hxc hxb hxa; rfl) | (rw [stepS_n (S := uG S 31 0) (by exact c_136)]; subst hxe hxd hxc hxb hxa; rfl))
            · refine V_aload0 (pc' := 140) C dX8_writeStep_139 rfl ?_
              refine V_bipush (pc' := 142) C dX8_writeStep_140 rfl (by decide) ?_
              refine mCallV1 (pc' := 145) C (kX8_writes _ (by omega) (by omega)) gX8_writeStep_X8_writes rfl ydX8_writes ⟨Nat.le_of_ble_eq_true rfl, Nat.le_of_ble_eq_true rfl⟩ ⟨rfl, rfl⟩ (Nat.le_of_ble_eq_true rfl) dX8_writeStep_142 ⟨Nat.zero_le _, Nat.zero_le _⟩ rfl ?_
              have xd30 : 2 ≤ (wrS XC 61).2 30 ∧ (wrS XC 61).2 30 ≤ 6 := by rw [wrS_30]; omega
              have xd5 : (wrS XC 61).1 5 = S.1 5 := by rw [wrS_1 _ _ 5 (by decide)]; simp only [xc5, xc6, xc7, xc8]
              have xd6 : (wrS XC 61).1 6 = S.1 6 := by rw [wrS_1 _ _ 6 (by decide)]; simp only [xc5, xc6, xc7, xc8]
              have xd7 : (wrS XC 61).1 7 = S.1 7 := by rw [wrS_1 _ _ 7 (by decide)]; simp only [xc5, xc6, xc7, xc8]
              have xd8 : (wrS XC 61).1 8 = S.1 8 := by rw [wrS_1 _ _ 8 (by decide)]; simp only [xc5, xc6, xc7, xc8]
              generalize hxd : wrS XC 61 = XD at *
              
              refine V_aload0 (pc' := 146) C dX8_writeStep_145 rfl ?_
              refine mGetA (pc' := 149) 8 C hin (by decide) (by decide +kernel) dX8_writeStep_146 rfl ?_
              refine V_iload3 (pc' := 150) C dX8_writeStep_149 rfl ?_
              refine mLd (pc' := 151) (n := 60) 8 C (by decide) rfl (by first | omega | (simp [uA, uG, thS] <;> omega)) dX8_writeStep_150 rfl ?_
              refine V_eq (st2 := [Value.int (iI (S.1 8 (10 * m + q)))]) (by rw [xd8]) ?_
              refine V_ifge (tgt := 160) C (by first | omega | (simp [uA, uG, thS] <;> omega)) dX8_writeStep_151 (by decide) rfl (fun c_151 => ?_) (fun c_151 => ?_)
              · refine V_weak (I2 := MI cC cI h0 mo Pm (if 0 ≤ S.1 8 (10 * m + q) then XD else wrS XD 45)) (fun h q => by first | (rw [if_pos (by omega)]; exact q) | (rw [if_neg (by omega)]; exact q)) ?_
                have xe30 : 2 ≤ ((if 0 ≤ S.1 8 (10 * m + q) then XD else wrS XD 45)).2 30 ∧ ((if 0 ≤ S.1 8 (10 * m + q) then XD else wrS XD 45)).2 30 ≤ 7 := by split <;> first | omega | (rw [wrS_30]; omega)
                have xe5 : ((if 0 ≤ S.1 8 (10 * m + q) then XD else wrS XD 45)).1 5 = S.1 5 := by split <;> simp only [xd5, xd6, xd7, xd8, wrS_1 _ _ 5 (by decide), wrS_1 _ _ 6 (by decide), wrS_1 _ _ 7 (by decide), wrS_1 _ _ 8 (by decide)]
                have xe6 : ((if 0 ≤ S.1 8 (10 * m + q) then XD else wrS XD 45)).1 6 = S.1 6 := by split <;> simp only [xd5, xd6, xd7, xd8, wrS_1 _ _ 5 (by decide), wrS_1 _ _ 6 (by decide), wrS_1 _ _ 7 (by decide), wrS_1 _ _ 8 (by decide)]
                have xe7 : ((if 0 ≤ S.1 8 (10 * m + q) then XD else wrS XD 45)).1 7 = S.1 7 := by split <;> simp only [xd5, xd6, xd7, xd8, wrS_1 _ _ 5 (by decide), wrS_1 _ _ 6 (by decide), wrS_1 _ _ 7 (by decide), wrS_1 _ _ 8 (by decide)]
                have xe8 : ((if 0 ≤ S.1 8 (10 * m + q) then XD else wrS XD 45)).1 8 = S.1 8 := by split <;> simp only [xd5, xd6, xd7, xd8, wrS_1 _ _ 5 (by decide), wrS_1 _ _ 6 (by decide), wrS_1 _ _ 7 (by decide), wrS_1 _ _ 8 (by decide)]
                generalize hxe : (if 0 ≤ S.1 8 (10 * m + q) then XD else wrS XD 45) = XE at *
                
                refine V_aload0 (pc' := 161) C dX8_writeStep_160 rfl ?_
                refine V_aload0 (pc' := 162) C dX8_writeStep_161 rfl ?_
                refine mGetA (pc' := 165) 8 C hin (by decide) (by decide +kernel) dX8_writeStep_162 rfl ?_
                refine V_iload3 (pc' := 166) C dX8_writeStep_165 rfl ?_
                refine mLd (pc' := 167) (n := 60) 8 C (by decide) rfl (by first | omega | (simp [uA, uG, thS] <;> omega)) dX8_writeStep_166 rfl ?_
                refine V_eq (st2 := [Value.int (iI (S.1 8 (10 * m + q))), .ref mo]) (by rw [xe8]) ?_
                refine V_mabs (pc' := 170) C (by decide +kernel) (by decide +kernel) (by decide +kernel) (by decide +kernel) ⟨Nat.le_of_ble_eq_true rfl, Nat.le_of_ble_eq_true rfl⟩ ⟨Nat.zero_le _, Nat.zero_le _⟩ (by first | omega | (simp [uA, uG, thS] <;> omega)) dX8_writeStep_167 rfl ?_
                refine mCallV1 (pc' := 173) C (kX8_digits4 _ (by omega) (by omega)) gX8_writeStep_X8_digits rfl ydX8_digits ⟨Nat.le_of_ble_eq_true rfl, Nat.le_of_ble_eq_true rfl⟩ ⟨rfl, rfl⟩ (Nat.le_of_ble_eq_true rfl) dX8_writeStep_170 ⟨Nat.zero_le _, Nat.zero_le _⟩ rfl ?_
                refine V_aload0 (pc' := 174) C dX8_writeStep_173 rfl ?_
                refine mGetI (pc' := 177) 30 C hin (by decide) (by decide +kernel) dX8_writeStep_174 rfl ?_
                exact mEnd C hr hlk ⟨Nat.le_refl _, Nat.le_refl _⟩ dX8_writeStep_177 (by have z9 : ¬ (isMacB S m = false ∨ isInB q 0 (S.1 4 m - 1) = false) := (by intro z8; rcases z8 with z8 | z8; exact absurd z8 (by simp_all [isMacB]); exact absurd (hq8.symm.trans z8) (by decide)); unfold writeStepX; rw [if_neg z9]; first | (rw [stepS_99 (S := uG S 31 0) (by first | exact c_136 | exact Classical.not_not.mp c_136)]; subst hxc hxb hxa; rfl) | (rw [stepS_n (S := uG S 31 0) (by exact c_136)]; subst hxe hxd hxc hxb hxa; rfl))
              · refine V_aload0 (pc' := 155) C dX8_writeStep_154 rfl ?_
                refine V_bipush (pc' := 157) C dX8_writeStep_155 rfl (by decide) ?_
                refine mCallV1 (pc' := 160) C (kX8_writes _ (by omega) (by omega)) gX8_writeStep_X8_writes rfl ydX8_writes ⟨Nat.le_of_ble_eq_true rfl, Nat.le_of_ble_eq_true rfl⟩ ⟨rfl, rfl⟩ (Nat.le_of_ble_eq_true rfl) dX8_writeStep_157 ⟨Nat.zero_le _, Nat.zero_le _⟩ rfl ?_
                refine V_weak (I2 := MI cC cI h0 mo Pm (if 0 ≤ S.1 8 (10 * m + q) then XD else wrS XD 45)) (fun h q => by first | (rw [if_pos (by omega)]; exact q) | (rw [if_neg (by omega)]; exact q)) ?_
                have xe30 : 2 ≤ ((if 0 ≤ S.1 8 (10 * m + q) then XD else wrS XD 45)).2 30 ∧ ((if 0 ≤ S.1 8 (10 * m + q) then XD else wrS XD 45)).2 30 ≤ 7 := by split <;> first | omega | (rw [wrS_30]; omega)
                have xe5 : ((if 0 ≤ S.1 8 (10 * m + q) then XD else wrS XD 45)).1 5 = S.1 5 := by split <;> simp only [xd5, xd6, xd7, xd8, wrS_1 _ _ 5 (by decide), wrS_1 _ _ 6 (by decide), wrS_1 _ _ 7 (by decide), wrS_1 _ _ 8 (by decide)]
                have xe6 : ((if 0 ≤ S.1 8 (10 * m + q) then XD else wrS XD 45)).1 6 = S.1 6 := by split <;> simp only [xd5, xd6, xd7, xd8, wrS_1 _ _ 5 (by decide), wrS_1 _ _ 6 (by decide), wrS_1 _ _ 7 (by decide), wrS_1 _ _ 8 (by decide)]
                have xe7 : ((if 0 ≤ S.1 8 (10 * m + q) then XD else wrS XD 45)).1 7 = S.1 7 := by split <;> simp only [xd5, xd6, xd7, xd8, wrS_1 _ _ 5 (by decide), wrS_1 _ _ 6 (by decide), wrS_1 _ _ 7 (by decide), wrS_1 _ _ 8 (by decide)]
                have xe8 : ((if 0 ≤ S.1 8 (10 * m + q) then XD else wrS XD 45)).1 8 = S.1 8 := by split <;> simp only [xd5, xd6, xd7, xd8, wrS_1 _ _ 5 (by decide), wrS_1 _ _ 6 (by decide), wrS_1 _ _ 7 (by decide), wrS_1 _ _ 8 (by decide)]
                generalize hxe : (if 0 ≤ S.1 8 (10 * m + q) then XD else wrS XD 45) = XE at *
                
                refine V_aload0 (pc' := 161) C dX8_writeStep_160 rfl ?_
                refine V_aload0 (pc' := 162) C dX8_writeStep_161 rfl ?_
                refine mGetA (pc' := 165) 8 C hin (by decide) (by decide +kernel) dX8_writeStep_162 rfl ?_
                refine V_iload3 (pc' := 166) C dX8_writeStep_165 rfl ?_
                refine mLd (pc' := 167) (n := 60) 8 C (by decide) rfl (by first | omega | (simp [uA, uG, thS] <;> omega)) dX8_writeStep_166 rfl ?_
                refine V_eq (st2 := [Value.int (iI (S.1 8 (10 * m + q))), .ref mo]) (by rw [xe8]) ?_
                refine V_mabs (pc' := 170) C (by decide +kernel) (by decide +kernel) (by decide +kernel) (by decide +kernel) ⟨Nat.le_of_ble_eq_true rfl, Nat.le_of_ble_eq_true rfl⟩ ⟨Nat.zero_le _, Nat.zero_le _⟩ (by first | omega | (simp [uA, uG, thS] <;> omega)) dX8_writeStep_167 rfl ?_
                refine mCallV1 (pc' := 173) C (kX8_digits4 _ (by omega) (by omega)) gX8_writeStep_X8_digits rfl ydX8_digits ⟨Nat.le_of_ble_eq_true rfl, Nat.le_of_ble_eq_true rfl⟩ ⟨rfl, rfl⟩ (Nat.le_of_ble_eq_true rfl) dX8_writeStep_170 ⟨Nat.zero_le _, Nat.zero_le _⟩ rfl ?_
                refine V_aload0 (pc' := 174) C dX8_writeStep_173 rfl ?_
                refine mGetI (pc' := 177) 30 C hin (by decide) (by decide +kernel) dX8_writeStep_174 rfl ?_
                exact mEnd C hr hlk ⟨Nat.le_refl _, Nat.le_refl _⟩ dX8_writeStep_177 (by have z9 : ¬ (isMacB S m = false ∨ isInB q 0 (S.1 4 m - 1) = false) := (by intro z8; rcases z8 with z8 | z8; exact absurd z8 (by simp_all [isMacB]); exact absurd (hq8.symm.trans z8) (by decide)); unfold writeStepX; rw [if_neg z9]; first | (rw [stepS_99 (S := uG S 31 0) (by first | exact c_136 | exact Classical.not_not.mp c_136)]; subst hxc hxb hxa; rfl) | (rw [stepS_n (S := uG S 31 0) (by exact c_136)]; subst hxe hxd hxc hxb hxa; rfl))
          · refine V_bipush (pc' := 107) C dX8_writeStep_105 rfl (by decide) ?_
            refine V_goto (tgt := 112) C dX8_writeStep_107 (by decide) ?_
            refine V_eq (st2 := [Value.int (iI (signI (S.1 7 (10 * m + q)))), .ref mo]) (by unfold signI; first | (rw [if_pos (by omega)]; done) | (rw [if_neg (by omega)]; done)) ?_
            refine mCallV1 (pc' := 115) C (kX8_writes _ (by omega) (signI_in _)) gX8_writeStep_X8_writes rfl ydX8_writes ⟨Nat.le_of_ble_eq_true rfl, Nat.le_of_ble_eq_true rfl⟩ ⟨rfl, rfl⟩ (Nat.le_of_ble_eq_true rfl) dX8_writeStep_112 ⟨Nat.zero_le _, Nat.zero_le _⟩ rfl ?_
            refine V_aload0 (pc' := 116) C dX8_writeStep_115 rfl ?_
            refine V_aload0 (pc' := 117) C dX8_writeStep_116 rfl ?_
            refine mGetA (pc' := 120) 7 C hin (by decide) (by decide +kernel) dX8_writeStep_117 rfl ?_
            refine V_iload3 (pc' := 121) C dX8_writeStep_120 rfl ?_
            refine mLd (pc' := 122) (n := 60) 7 C (by decide) rfl (by first | omega | (simp [uA, uG, thS] <;> omega)) dX8_writeStep_121 rfl ?_
            refine V_eq (st2 := [Value.int (iI (S.1 7 (10 * m + q))), .ref mo]) (by rw [wrS_1 _ _ 7 (by decide), xb7]) ?_
            refine V_mabs (pc' := 125) C (by decide +kernel) (by decide +kernel) (by decide +kernel) (by decide +kernel) ⟨Nat.le_of_ble_eq_true rfl, Nat.le_of_ble_eq_true rfl⟩ ⟨Nat.zero_le _, Nat.zero_le _⟩ (by first | omega | (simp [uA, uG, thS] <;> omega)) dX8_writeStep_122 rfl ?_
            refine mCallV1 (pc' := 128) C (kX8_digits1 _ (by omega) (by rw [wrS_30]; omega)) gX8_writeStep_X8_digits rfl ydX8_digits ⟨Nat.le_of_ble_eq_true rfl, Nat.le_of_ble_eq_true rfl⟩ ⟨rfl, rfl⟩ (Nat.le_of_ble_eq_true rfl) dX8_writeStep_125 ⟨Nat.zero_le _, Nat.zero_le _⟩ rfl ?_
            refine V_weak (I2 := MI cC cI h0 mo Pm (distS XB (S.1 7 (10 * m + q)))) (fun h q => by exact q) ?_
            have d7 := distS_30 XB (S.1 7 (10 * m + q))
            have xc30 : 1 ≤ (distS XB (S.1 7 (10 * m + q))).2 30 ∧ (distS XB (S.1 7 (10 * m + q))).2 30 ≤ 5 := by omega
            have xc5 : (distS XB (S.1 7 (10 * m + q))).1 5 = S.1 5 := by rw [distS_1 _ _ _ (by decide), xb5]
            have xc6 : (distS XB (S.1 7 (10 * m + q))).1 6 = S.1 6 := by rw [distS_1 _ _ _ (by decide), xb6]
            have xc7 : (distS XB (S.1 7 (10 * m + q))).1 7 = S.1 7 := by rw [distS_1 _ _ _ (by decide), xb7]
            have xc8 : (distS XB (S.1 7 (10 * m + q))).1 8 = S.1 8 := by rw [distS_1 _ _ _ (by decide), xb8]
            generalize hxc : distS XB (S.1 7 (10 * m + q)) = XC at *
            
            refine V_aload0 (pc' := 129) C dX8_writeStep_128 rfl ?_
            refine mGetA (pc' := 132) 5 C hin (by decide) (by decide +kernel) dX8_writeStep_129 rfl ?_
            refine V_iload3 (pc' := 133) C dX8_writeStep_132 rfl ?_
            refine mLd (pc' := 134) (n := 60) 5 C (by decide) rfl (by first | omega | (simp [uA, uG, thS] <;> omega)) dX8_writeStep_133 rfl ?_
            refine V_eq (st2 := [Value.int (iI (S.1 5 (10 * m + q)))]) (by rw [xc5]) ?_
            refine V_bipush (pc' := 136) C dX8_writeStep_134 rfl (by decide) ?_
            refine V_icmpeq (tgt := 173) C (by first | omega | (simp [uA, uG, thS] <;> omega)) dX8_writeStep_136 (by decide) rfl (fun c_136 => ?_) (fun c_136 => ?_)
            · refine V_aload0 (pc' := 174) C dX8_writeStep_173 rfl ?_
              refine mGetI (pc' := 177) 30 C hin (by decide) (by decide +kernel) dX8_writeStep_174 rfl ?_
              exact mEnd C hr hlk ⟨Nat.le_refl _, Nat.le_refl _⟩ dX8_writeStep_177 (by have z9 : ¬ (isMacB S m = false ∨ isInB q 0 (S.1 4 m - 1) = false) := (by intro z8; rcases z8 with z8 | z8; exact absurd z8 (by simp_all [isMacB]); exact absurd (hq8.symm.trans z8) (by decide)); unfold writeStepX; rw [if_neg z9]; first | (rw [stepS_99 (S := uG S 31 0) (by first | exact c_136 | exact Classical.not_not.mp c_136)]; subst hxc hxb hxa; rfl) | (rw [stepS_n (S := uG S 31 0) (by exact c_136)]; subst hxe hxd hxc hxb hxa; rfl))
            · refine V_aload0 (pc' := 140) C dX8_writeStep_139 rfl ?_
              refine V_bipush (pc' := 142) C dX8_writeStep_140 rfl (by decide) ?_
              refine mCallV1 (pc' := 145) C (kX8_writes _ (by omega) (by omega)) gX8_writeStep_X8_writes rfl ydX8_writes ⟨Nat.le_of_ble_eq_true rfl, Nat.le_of_ble_eq_true rfl⟩ ⟨rfl, rfl⟩ (Nat.le_of_ble_eq_true rfl) dX8_writeStep_142 ⟨Nat.zero_le _, Nat.zero_le _⟩ rfl ?_
              have xd30 : 2 ≤ (wrS XC 61).2 30 ∧ (wrS XC 61).2 30 ≤ 6 := by rw [wrS_30]; omega
              have xd5 : (wrS XC 61).1 5 = S.1 5 := by rw [wrS_1 _ _ 5 (by decide)]; simp only [xc5, xc6, xc7, xc8]
              have xd6 : (wrS XC 61).1 6 = S.1 6 := by rw [wrS_1 _ _ 6 (by decide)]; simp only [xc5, xc6, xc7, xc8]
              have xd7 : (wrS XC 61).1 7 = S.1 7 := by rw [wrS_1 _ _ 7 (by decide)]; simp only [xc5, xc6, xc7, xc8]
              have xd8 : (wrS XC 61).1 8 = S.1 8 := by rw [wrS_1 _ _ 8 (by decide)]; simp only [xc5, xc6, xc7, xc8]
              generalize hxd : wrS XC 61 = XD at *
              
              refine V_aload0 (pc' := 146) C dX8_writeStep_145 rfl ?_
              refine mGetA (pc' := 149) 8 C hin (by decide) (by decide +kernel) dX8_writeStep_146 rfl ?_
              refine V_iload3 (pc' := 150) C dX8_writeStep_149 rfl ?_
              refine mLd (pc' := 151) (n := 60) 8 C (by decide) rfl (by first | omega | (simp [uA, uG, thS] <;> omega)) dX8_writeStep_150 rfl ?_
              refine V_eq (st2 := [Value.int (iI (S.1 8 (10 * m + q)))]) (by rw [xd8]) ?_
              refine V_ifge (tgt := 160) C (by first | omega | (simp [uA, uG, thS] <;> omega)) dX8_writeStep_151 (by decide) rfl (fun c_151 => ?_) (fun c_151 => ?_)
              · refine V_weak (I2 := MI cC cI h0 mo Pm (if 0 ≤ S.1 8 (10 * m + q) then XD else wrS XD 45)) (fun h q => by first | (rw [if_pos (by omega)]; exact q) | (rw [if_neg (by omega)]; exact q)) ?_
                have xe30 : 2 ≤ ((if 0 ≤ S.1 8 (10 * m + q) then XD else wrS XD 45)).2 30 ∧ ((if 0 ≤ S.1 8 (10 * m + q) then XD else wrS XD 45)).2 30 ≤ 7 := by split <;> first | omega | (rw [wrS_30]; omega)
                have xe5 : ((if 0 ≤ S.1 8 (10 * m + q) then XD else wrS XD 45)).1 5 = S.1 5 := by split <;> simp only [xd5, xd6, xd7, xd8, wrS_1 _ _ 5 (by decide), wrS_1 _ _ 6 (by decide), wrS_1 _ _ 7 (by decide), wrS_1 _ _ 8 (by decide)]
                have xe6 : ((if 0 ≤ S.1 8 (10 * m + q) then XD else wrS XD 45)).1 6 = S.1 6 := by split <;> simp only [xd5, xd6, xd7, xd8, wrS_1 _ _ 5 (by decide), wrS_1 _ _ 6 (by decide), wrS_1 _ _ 7 (by decide), wrS_1 _ _ 8 (by decide)]
                have xe7 : ((if 0 ≤ S.1 8 (10 * m + q) then XD else wrS XD 45)).1 7 = S.1 7 := by split <;> simp only [xd5, xd6, xd7, xd8, wrS_1 _ _ 5 (by decide), wrS_1 _ _ 6 (by decide), wrS_1 _ _ 7 (by decide), wrS_1 _ _ 8 (by decide)]
                have xe8 : ((if 0 ≤ S.1 8 (10 * m + q) then XD else wrS XD 45)).1 8 = S.1 8 := by split <;> simp only [xd5, xd6, xd7, xd8, wrS_1 _ _ 5 (by decide), wrS_1 _ _ 6 (by decide), wrS_1 _ _ 7 (by decide), wrS_1 _ _ 8 (by decide)]
                generalize hxe : (if 0 ≤ S.1 8 (10 * m + q) then XD else wrS XD 45) = XE at *
                
                refine V_aload0 (pc' := 161) C dX8_writeStep_160 rfl ?_
                refine V_aload0 (pc' := 162) C dX8_writeStep_161 rfl ?_
                refine mGetA (pc' := 165) 8 C hin (by decide) (by decide +kernel) dX8_writeStep_162 rfl ?_
                refine V_iload3 (pc' := 166) C dX8_writeStep_165 rfl ?_
                refine mLd (pc' := 167) (n := 60) 8 C (by decide) rfl (by first | omega | (simp [uA, uG, thS] <;> omega)) dX8_writeStep_166 rfl ?_
                refine V_eq (st2 := [Value.int (iI (S.1 8 (10 * m + q))), .ref mo]) (by rw [xe8]) ?_
                refine V_mabs (pc' := 170) C (by decide +kernel) (by decide +kernel) (by decide +kernel) (by decide +kernel) ⟨Nat.le_of_ble_eq_true rfl, Nat.le_of_ble_eq_true rfl⟩ ⟨Nat.zero_le _, Nat.zero_le _⟩ (by first | omega | (simp [uA, uG, thS] <;> omega)) dX8_writeStep_167 rfl ?_
                refine mCallV1 (pc' := 173) C (kX8_digits4 _ (by omega) (by omega)) gX8_writeStep_X8_digits rfl ydX8_digits ⟨Nat.le_of_ble_eq_true rfl, Nat.le_of_ble_eq_true rfl⟩ ⟨rfl, rfl⟩ (Nat.le_of_ble_eq_true rfl) dX8_writeStep_170 ⟨Nat.zero_le _, Nat.zero_le _⟩ rfl ?_
                refine V_aload0 (pc' := 174) C dX8_writeStep_173 rfl ?_
                refine mGetI (pc' := 177) 30 C hin (by decide) (by decide +kernel) dX8_writeStep_174 rfl ?_
                exact mEnd C hr hlk ⟨Nat.le_refl _, Nat.le_refl _⟩ dX8_writeStep_177 (by have z9 : ¬ (isMacB S m = false ∨ isInB q 0 (S.1 4 m - 1) = false) := (by intro z8; rcases z8 with z8 | z8; exact absurd z8 (by simp_all [isMacB]); exact absurd (hq8.symm.trans z8) (by decide)); unfold writeStepX; rw [if_neg z9]; first | (rw [stepS_99 (S := uG S 31 0) (by first | exact c_136 | exact Classical.not_not.mp c_136)]; subst hxc hxb hxa; rfl) | (rw [stepS_n (S := uG S 31 0) (by exact c_136)]; subst hxe hxd hxc hxb hxa; rfl))
              · refine V_aload0 (pc' := 155) C dX8_writeStep_154 rfl ?_
                refine V_bipush (pc' := 157) C dX8_writeStep_155 rfl (by decide) ?_
                refine mCallV1 (pc' := 160) C (kX8_writes _ (by omega) (by omega)) gX8_writeStep_X8_writes rfl ydX8_writes ⟨Nat.le_of_ble_eq_true rfl, Nat.le_of_ble_eq_true rfl⟩ ⟨rfl, rfl⟩ (Nat.le_of_ble_eq_true rfl) dX8_writeStep_157 ⟨Nat.zero_le _, Nat.zero_le _⟩ rfl ?_
                refine V_weak (I2 := MI cC cI h0 mo Pm (if 0 ≤ S.1 8 (10 * m + q) then XD else wrS XD 45)) (fun h q => by first | (rw [if_pos (by omega)]; exact q) | (rw [if_neg (by omega)]; exact q)) ?_
                have xe30 : 2 ≤ ((if 0 ≤ S.1 8 (10 * m + q) then XD else wrS XD 45)).2 30 ∧ ((if 0 ≤ S.1 8 (10 * m + q) then XD else wrS XD 45)).2 30 ≤ 7 := by split <;> first | omega | (rw [wrS_30]; omega)
                have xe5 : ((if 0 ≤ S.1 8 (10 * m + q) then XD else wrS XD 45)).1 5 = S.1 5 := by split <;> simp only [xd5, xd6, xd7, xd8, wrS_1 _ _ 5 (by decide), wrS_1 _ _ 6 (by decide), wrS_1 _ _ 7 (by decide), wrS_1 _ _ 8 (by decide)]
                have xe6 : ((if 0 ≤ S.1 8 (10 * m + q) then XD else wrS XD 45)).1 6 = S.1 6 := by split <;> simp only [xd5, xd6, xd7, xd8, wrS_1 _ _ 5 (by decide), wrS_1 _ _ 6 (by decide), wrS_1 _ _ 7 (by decide), wrS_1 _ _ 8 (by decide)]
                have xe7 : ((if 0 ≤ S.1 8 (10 * m + q) then XD else wrS XD 45)).1 7 = S.1 7 := by split <;> simp only [xd5, xd6, xd7, xd8, wrS_1 _ _ 5 (by decide), wrS_1 _ _ 6 (by decide), wrS_1 _ _ 7 (by decide), wrS_1 _ _ 8 (by decide)]
                have xe8 : ((if 0 ≤ S.1 8 (10 * m + q) then XD else wrS XD 45)).1 8 = S.1 8 := by split <;> simp only [xd5, xd6, xd7, xd8, wrS_1 _ _ 5 (by decide), wrS_1 _ _ 6 (by decide), wrS_1 _ _ 7 (by decide), wrS_1 _ _ 8 (by decide)]
                generalize hxe : (if 0 ≤ S.1 8 (10 * m + q) then XD else wrS XD 45) = XE at *
                
                refine V_aload0 (pc' := 161) C dX8_writeStep_160 rfl ?_
                refine V_aload0 (pc' := 162) C dX8_writeStep_161 rfl ?_
                refine mGetA (pc' := 165) 8 C hin (by decide) (by decide +kernel) dX8_writeStep_162 rfl ?_
                refine V_iload3 (pc' := 166) C dX8_writeStep_165 rfl ?_
                refine mLd (pc' := 167) (n := 60) 8 C (by decide) rfl (by first | omega | (simp [uA, uG, thS] <;> omega)) dX8_writeStep_166 rfl ?_
                refine V_eq (st2 := [Value.int (iI (S.1 8 (10 * m + q))), .ref mo]) (by rw [xe8]) ?_
                refine V_mabs (pc' := 170) C (by decide +kernel) (by decide +kernel) (by decide +kernel) (by decide +kernel) ⟨Nat.le_of_ble_eq_true rfl, Nat.le_of_ble_eq_true rfl⟩ ⟨Nat.zero_le _, Nat.zero_le _⟩ (by first | omega | (simp [uA, uG, thS] <;> omega)) dX8_writeStep_167 rfl ?_
                refine mCallV1 (pc' := 173) C (kX8_digits4 _ (by omega) (by omega)) gX8_writeStep_X8_digits rfl ydX8_digits ⟨Nat.le_of_ble_eq_true rfl, Nat.le_of_ble_eq_true rfl⟩ ⟨rfl, rfl⟩ (Nat.le_of_ble_eq_true rfl) dX8_writeStep_170 ⟨Nat.zero_le _, Nat.zero_le _⟩ rfl ?_
                refine V_aload0 (pc' := 174) C dX8_writeStep_173 rfl ?_
                refine mGetI (pc' := 177) 30 C hin (by decide) (by decide +kernel) dX8_writeStep_174 rfl ?_
                exact mEnd C hr hlk ⟨Nat.le_refl _, Nat.le_refl _⟩ dX8_writeStep_177 (by have z9 : ¬ (isMacB S m = false ∨ isInB q 0 (S.1 4 m - 1) = false) := (by intro z8; rcases z8 with z8 | z8; exact absurd z8 (by simp_all [isMacB]); exact absurd (hq8.symm.trans z8) (by decide)); unfold writeStepX; rw [if_neg z9]; first | (rw [stepS_99 (S := uG S 31 0) (by first | exact c_136 | exact Classical.not_not.mp c_136)]; subst hxc hxb hxa; rfl) | (rw [stepS_n (S := uG S 31 0) (by exact c_136)]; subst hxe hxd hxc hxb hxa; rfl))
      · exact absurd c_34 (by decide)
    · refine V_iconst (pc' := 26) C dX8_writeStep_25 rfl ?_
      refine V_goto (tgt := 30) C dX8_writeStep_26 (by decide) ?_
      refine V_iconst (pc' := 31) C dX8_writeStep_30 rfl ?_
      refine mCallF2 (pc' := 34) C (kX8_isThrown true _ ) gX8_writeStep_X8_isThrown rfl ydX8_isThrown ⟨Nat.le_of_ble_eq_true rfl, Nat.le_of_ble_eq_true rfl⟩ ⟨rfl, rfl⟩ (Nat.le_of_ble_eq_true rfl) dX8_writeStep_31 ⟨Nat.zero_le _, Nat.zero_le _⟩ rfl ?_
      refine V_ifeqB (tgt := 39) C dX8_writeStep_34 (by decide) rfl (fun c_34 => ?_) (fun c_34 => ?_)
      · exact absurd c_34 (by decide)
      · refine V_iconst (pc' := 38) C dX8_writeStep_37 rfl ?_
        exact mEnd C hr hlk ⟨Nat.le_refl _, Nat.le_refl _⟩ dX8_writeStep_38 (by first | (have z8 : isInB q 0 (S.1 4 m - 1) = false := (by exact c_22); unfold writeStepX; rw [if_pos (Or.inr z8)]; simp [thS, uG_uG]; done) | (unfold writeStepX; rw [if_pos (by simp_all [isMacB])]; simp_all [isMacB, thS, uG_uG]; done))
end

/-! the class: reason, rule -/
theorem ydX7_reason : yX7_reason.cls = RX7 ∧ yX7_reason.cls ≠ "java/lang/invoke/MethodHandle" ∧ yX7_reason.cls ≠ "java/lang/invoke/VarHandle" ∧ (parseMethodDescriptor yX7_reason.desc).map (fun d => d.parameters.length) = some 3 := by decide +kernel
theorem ydX7_rule : yX7_rule.cls = RX7 ∧ yX7_rule.cls ≠ "java/lang/invoke/MethodHandle" ∧ yX7_rule.cls ≠ "java/lang/invoke/VarHandle" ∧ (parseMethodDescriptor yX7_rule.desc).map (fun d => d.parameters.length) = some 2 := by decide +kernel
section
variable {l : Launch} {D : va_G} {cB cC cI cO cJ cD : ClassId} {ee : Nat × Nat} {Tx9 : (Nat → Nat) → MSt → Hp → Prop} {P : Nat → Nat} {S X : MSt}
set_option maxHeartbeats 4000000 in
set_option maxRecDepth 100000 in
theorem kX7_reason (hwp : WFp S) (hkd : KD S) (h9 : T9ok Tx9) {z : Int} (hz : 0 ≤ z ∧ z < S.2 22) {c r : Int} (hr2 : rI c ∧ rI r) (hc2 : isCellB c r = true) : Ct l yX7_reason wsX7_reason ({ frames := 8, cells := 0, slots := 0, locals := 170 } : Room) D (tyL cB cC cI cO cJ cD) ee [.ref (P 1), .int (iI z), .int (iI c), .int (iI r)] (CW cI cO ee Tx9 P S X) (Ji fun h z9 h' => z9 = (whyS S z (atI c r)).1 ∧ (∃ f, CW cI cO ee Tx9 P S (Xtr X f) h') ∧ Fr (tC 4) h h') (0) (0) := by
  refine Ct_of (cc := cX7_reason) (own := RX7) [some (.ref (P 1)), some (.int (iI z)), some (.int (iI c)), some (.int (iI r)), none] (by decide) rfl rfl (Nat.le_of_ble_eq_true rfl) (fun i9 v9 h9 => argL [.ref (P 1), .int (iI z), .int (iI c), .int (iI r)] 1 rfl i9 v9 h9) ?_
  intro p e s m9 args below meth c9 h0 sz hI C hr hlk hinit
  refine V_weak (I2 := fun x9 => CW cI cO ee Tx9 P S X x9 ∧ x9 = h0) (fun x9 hx9 => by subst hx9; exact ⟨hI, rfl⟩) ?_
  have hx := atI_in (c := c) (r := r) hc2
  have hcr : c = atI c r % 6 ∧ r = atI c r / 6 := by
    simp only [isCellB, isInB, Bool.and_eq_true, decide_eq_true_eq] at hc2
    unfold atI
    omega
  refine V_aload0 (pc' := 1) C dX7_reason_0 rfl ?_
  refine V_iload1 (pc' := 2) C dX7_reason_1 rfl ?_
  refine V_callV (ci := 12) (n := 1) [.int (iI z)] C (kX7_neededMacro (z := z) hwp hz) gX7_reason_X7_neededMacro rfl ydX7_neededMacro ⟨Nat.le_of_ble_eq_true rfl, Nat.le_of_ble_eq_true rfl⟩ ⟨rfl, rfl⟩ rfl rfl (fun h hh => ⟨1, _, hh.1.1⟩) (fun h hh => hh.1) rfl (Nat.le_of_ble_eq_true rfl) dX7_reason_2 ⟨Nat.le_of_ble_eq_true rfl, Nat.le_of_ble_eq_true rfl⟩ (fun h v h' hh hj9 => ?_)
  obtain ⟨rfl, rfl⟩ := hj9
  refine V_weak (I2 := fun x9 => CW cI cO ee Tx9 P S X x9 ∧ x9 = h0) (fun x9 hx9 => by rw [hx9]; exact hh) ?_
  refine V_astore4 (pc' := 7) C dX7_reason_5 rfl (by decide) rfl ?_
  refine V_iload2 (pc' := 8) C dX7_reason_7 rfl ?_
  refine V_iload3 (pc' := 9) C dX7_reason_8 rfl ?_
  refine V_callS (n := 2) [.int (iI c), .int (iI r)] C (kX7_needCell hr2 hc2) gX7_reason_X7_needCell rfl ydX7_needCell ⟨Nat.le_of_ble_eq_true rfl, Nat.le_of_ble_eq_true rfl⟩ ⟨rfl, rfl⟩ rfl (fun h hh => trivial) rfl (Nat.le_of_ble_eq_true rfl) dX7_reason_9 ⟨Nat.le_of_ble_eq_true rfl, Nat.le_of_ble_eq_true rfl⟩ (fun h v h' hh hj9 => ?_)
  obtain ⟨rfl, rfl⟩ := hj9
  refine V_weak (I2 := fun x9 => CW cI cO ee Tx9 P S X x9 ∧ x9 = h0) (fun x9 hx9 => by rw [hx9]; exact hh) ?_
  refine V_aload0 (pc' := 13) C dX7_reason_12 rfl ?_
  refine V_aload4 (pc' := 15) C dX7_reason_13 rfl ?_
  refine V_iload2 (pc' := 16) C dX7_reason_15 rfl ?_
  refine V_iload3 (pc' := 17) C dX7_reason_16 rfl ?_
  refine V_eq (st2 := [.int (iI (atI c r / 6)), .int (iI (atI c r % 6)), .ref (P (100 + z.toNat)), .ref (P 1)]) (by rw [← hcr.1, ← hcr.2]; rfl) ?_
  refine V_callV (ci := 12) (n := 3) [.ref (P (100 + z.toNat)), .int (iI (atI c r % 6)), .int (iI (atI c r / 6))] C (kX7_reasonAgainst hwp hkd (fun h h' a b => h9 P S S h h' (tC 4) rfl rfl b (by unfold tC; omega) (by unfold tC; omega) a) (m := z.toNat) (x := atI c r) (by omega) ⟨by omega, by omega⟩) gX7_reason_X7_reasonAgainst rfl ydX7_reasonAgainst ⟨Nat.le_of_ble_eq_true rfl, Nat.le_of_ble_eq_true rfl⟩ ⟨rfl, rfl⟩ rfl rfl (fun h hh => ⟨1, _, hh.1.1⟩) (fun h hh => hh.1) rfl (Nat.le_of_ble_eq_true rfl) dX7_reason_17 ⟨Nat.le_of_ble_eq_true rfl, Nat.le_of_ble_eq_true rfl⟩ (fun h v h' hh hj9 => ?_)
  obtain ⟨r9, rfl, hj8, ⟨f, hj1⟩, hj2⟩ := hj9
  rw [hj8, show ((z.toNat : Nat) : Int) = z by omega]
  refine V_weak (I2 := fun x9 => CW cI cO ee Tx9 P S (Xtr X (f)) x9 ∧ Fr (tC 4) h0 x9) (fun x9 hx9 => by rw [hx9]; exact ⟨hj1, by rw [← hh.2]; exact hj2⟩) ?_
  have hwr := whyS_ans S z (atI c r)
  exact V_endz (z := (whyS S z (atI c r)).1) C hr hlk (nar_c (by omega) (by omega)) (fun h' hh => ⟨_, rfl, rfl, ⟨f, hh.1⟩, hh.2⟩) ⟨Nat.le_refl _, Nat.le_refl _⟩ dX7_reason_20
set_option maxHeartbeats 4000000 in
set_option maxRecDepth 100000 in
theorem xX7_reason_m (hwp : WFp S) {z c r : Int} (hz : ¬ (0 ≤ z ∧ z < S.2 22)) (hr0 : rI z) (hst : l.stackTraces = false) : Tx l yX7_reason wsX7_reason ({ frames := 8, cells := 1, slots := 6, locals := 170 } : Room) D (tyL cB cC cI cO cJ cD) ee [.ref (P 1), .int (iI z), .int (iI c), .int (iI r)] (CW cI cO ee Tx9 P S X) "java/lang/IndexOutOfBoundsException" (fun h h' => h' = h) (1) (6) := by
  refine Tx_of (cc := cX7_reason) (own := RX7) [some (.ref (P 1)), some (.int (iI z)), some (.int (iI c)), some (.int (iI r)), none] (by decide) rfl rfl (Nat.le_of_ble_eq_true rfl) (fun i9 v9 h9 => argL [.ref (P 1), .int (iI z), .int (iI c), .int (iI r)] 1 rfl i9 v9 h9) ?_
  intro p e s m9 args below meth c9 h0 sz hI C hlk hxt
  refine V_weak (I2 := fun x9 => CW cI cO ee Tx9 P S X x9 ∧ x9 = h0) (fun x9 hx9 => by subst hx9; exact ⟨hI, rfl⟩) ?_
  refine V_aload0 (pc' := 1) C dX7_reason_0 rfl ?_
  refine V_iload1 (pc' := 2) C dX7_reason_1 rfl ?_
  exact V_outV (ci := 12) (n := 1) [.int (iI z)] C (xX7_neededMacro (z := z) hwp hz hr0 hst) gX7_reason_X7_neededMacro rfl ydX7_neededMacro ⟨Nat.le_of_ble_eq_true rfl, Nat.le_of_ble_eq_true rfl⟩ ⟨rfl, rfl⟩ rfl rfl (fun h hh => ⟨1, _, hh.1.1⟩) (fun h hh => hh.1) rfl (Nat.le_of_ble_eq_true rfl) dX7_reason_2 ⟨Nat.le_of_ble_eq_true rfl, Nat.le_of_ble_eq_true rfl⟩ hxt hlk (fun h h' hh hj => by rw [hj]; exact hh.2) ⟨Nat.le_of_ble_eq_true rfl, Nat.le_of_ble_eq_true rfl⟩
set_option maxHeartbeats 4000000 in
set_option maxRecDepth 100000 in
theorem xX7_reason_c (hwp : WFp S) {z : Int} (hz : 0 ≤ z ∧ z < S.2 22) {c r : Int} (hr2 : rI c ∧ rI r) (hc2 : isCellB c r = false) (hst : l.stackTraces = false) : Tx l yX7_reason wsX7_reason ({ frames := 8, cells := 1, slots := 6, locals := 170 } : Room) D (tyL cB cC cI cO cJ cD) ee [.ref (P 1), .int (iI z), .int (iI c), .int (iI r)] (CW cI cO ee Tx9 P S X) "java/lang/IndexOutOfBoundsException" (fun h h' => h' = h) (1) (6) := by
  refine Tx_of (cc := cX7_reason) (own := RX7) [some (.ref (P 1)), some (.int (iI z)), some (.int (iI c)), some (.int (iI r)), none] (by decide) rfl rfl (Nat.le_of_ble_eq_true rfl) (fun i9 v9 h9 => argL [.ref (P 1), .int (iI z), .int (iI c), .int (iI r)] 1 rfl i9 v9 h9) ?_
  intro p e s m9 args below meth c9 h0 sz hI C hlk hxt
  refine V_weak (I2 := fun x9 => CW cI cO ee Tx9 P S X x9 ∧ x9 = h0) (fun x9 hx9 => by subst hx9; exact ⟨hI, rfl⟩) ?_
  refine V_aload0 (pc' := 1) C dX7_reason_0 rfl ?_
  refine V_iload1 (pc' := 2) C dX7_reason_1 rfl ?_
  refine V_callV (ci := 12) (n := 1) [.int (iI z)] C (kX7_neededMacro (z := z) hwp hz) gX7_reason_X7_neededMacro rfl ydX7_neededMacro ⟨Nat.le_of_ble_eq_true rfl, Nat.le_of_ble_eq_true rfl⟩ ⟨rfl, rfl⟩ rfl rfl (fun h hh => ⟨1, _, hh.1.1⟩) (fun h hh => hh.1) rfl (Nat.le_of_ble_eq_true rfl) dX7_reason_2 ⟨Nat.le_of_ble_eq_true rfl, Nat.le_of_ble_eq_true rfl⟩ (fun h v h' hh hj9 => ?_)
  obtain ⟨rfl, rfl⟩ := hj9
  refine V_weak (I2 := fun x9 => CW cI cO ee Tx9 P S X x9 ∧ x9 = h0) (fun x9 hx9 => by rw [hx9]; exact hh) ?_
  refine V_astore4 (pc' := 7) C dX7_reason_5 rfl (by decide) rfl ?_
  refine V_iload2 (pc' := 8) C dX7_reason_7 rfl ?_
  refine V_iload3 (pc' := 9) C dX7_reason_8 rfl ?_
  exact V_outS (n := 2) [.int (iI c), .int (iI r)] C (xX7_needCell hr2 hc2 hst) gX7_reason_X7_needCell rfl ydX7_needCell ⟨Nat.le_of_ble_eq_true rfl, Nat.le_of_ble_eq_true rfl⟩ ⟨rfl, rfl⟩ rfl (fun h hh => trivial) rfl (Nat.le_of_ble_eq_true rfl) dX7_reason_9 ⟨Nat.le_of_ble_eq_true rfl, Nat.le_of_ble_eq_true rfl⟩ hxt hlk (fun h h' hh hj => by rw [hj]; exact hh.2) ⟨Nat.le_of_ble_eq_true rfl, Nat.le_of_ble_eq_true rfl⟩
set_option maxHeartbeats 4000000 in
set_option maxRecDepth 100000 in
theorem kX7_rule (hwp : WFp S) {c r : Int} (hr2 : rI c ∧ rI r) (hc2 : isCellB c r = true) (hn : 0 ≤ ruledI S (atI c r)) : Ct l yX7_rule wsX7_rule ({ frames := 6, cells := 0, slots := 0, locals := 130 } : Room) D (tyL cB cC cI cO cJ cD) ee [.ref (P 1), .int (iI c), .int (iI r)] (CW cI cO ee Tx9 P S X) (Ji fun h z9 h' => z9 = ruledI S (atI c r) ∧ h' = h) (0) (0) := by
  refine Ct_of (cc := cX7_rule) (own := RX7) [some (.ref (P 1)), some (.int (iI c)), some (.int (iI r)), none] (by decide) rfl rfl (Nat.le_of_ble_eq_true rfl) (fun i9 v9 h9 => argL [.ref (P 1), .int (iI c), .int (iI r)] 1 rfl i9 v9 h9) ?_
  intro p e s m9 args below meth c9 h0 sz hI C hr hlk hinit
  refine V_weak (I2 := fun x9 => CW cI cO ee Tx9 P S X x9 ∧ x9 = h0) (fun x9 hx9 => by subst hx9; exact ⟨hI, rfl⟩) ?_
  have hx := atI_in (c := c) (r := r) hc2
  have hcr : c = atI c r % 6 ∧ r = atI c r / 6 := by
    simp only [isCellB, isInB, Bool.and_eq_true, decide_eq_true_eq] at hc2
    unfold atI
    omega
  have hri := ruledI_in (S := S) (x := atI c r) ⟨by have := hwp.2.2.2.2.1; omega, by have := hwp.2.2.2.2.1; omega⟩
  refine V_iload1 (pc' := 1) C dX7_rule_0 rfl ?_
  refine V_iload2 (pc' := 2) C dX7_rule_1 rfl ?_
  refine V_callS (n := 2) [.int (iI c), .int (iI r)] C (kX7_needCell hr2 hc2) gX7_rule_X7_needCell rfl ydX7_needCell ⟨Nat.le_of_ble_eq_true rfl, Nat.le_of_ble_eq_true rfl⟩ ⟨rfl, rfl⟩ rfl (fun h hh => trivial) rfl (Nat.le_of_ble_eq_true rfl) dX7_rule_2 ⟨Nat.le_of_ble_eq_true rfl, Nat.le_of_ble_eq_true rfl⟩ (fun h v h' hh hj9 => ?_)
  obtain ⟨rfl, rfl⟩ := hj9
  refine V_weak (I2 := fun x9 => CW cI cO ee Tx9 P S X x9 ∧ x9 = h0) (fun x9 hx9 => by rw [hx9]; exact hh) ?_
  refine V_aload0 (pc' := 6) C dX7_rule_5 rfl ?_
  refine V_iload1 (pc' := 7) C dX7_rule_6 rfl ?_
  refine V_iload2 (pc' := 8) C dX7_rule_7 rfl ?_
  refine V_eq (st2 := [.int (iI (atI c r / 6)), .int (iI (atI c r % 6)), .ref (P 1)]) (by rw [← hcr.1, ← hcr.2]; rfl) ?_
  refine V_callV (ci := 12) (n := 2) [.int (iI (atI c r % 6)), .int (iI (atI c r / 6))] C (kX7_ruleNumberFor (x := atI c r) hwp ⟨by omega, by omega⟩) gX7_rule_X7_ruleNumberFor rfl ydX7_ruleNumberFor ⟨Nat.le_of_ble_eq_true rfl, Nat.le_of_ble_eq_true rfl⟩ ⟨rfl, rfl⟩ rfl rfl (fun h hh => ⟨1, _, hh.1.1⟩) (fun h hh => hh.1) rfl (Nat.le_of_ble_eq_true rfl) dX7_rule_8 ⟨Nat.le_of_ble_eq_true rfl, Nat.le_of_ble_eq_true rfl⟩ (fun h v h' hh hj9 => ?_)
  obtain ⟨r9, rfl, hj8, rfl⟩ := hj9
  rw [hj8]
  refine V_weak (I2 := fun x9 => CW cI cO ee Tx9 P S X x9 ∧ x9 = h0) (fun x9 hx9 => by rw [hx9]; exact hh) ?_
  refine V_istore3 (pc' := 12) C dX7_rule_11 rfl (by decide) rfl ?_
  refine V_iload3 (pc' := 13) C dX7_rule_12 rfl ?_
  refine V_iconst (pc' := 14) C dX7_rule_13 rfl ?_
  refine V_icmpne (tgt := 27) C (by omega) dX7_rule_14 (by decide) rfl (fun c_14 => ?_) (fun c_14 => ?_)
  · refine V_iload3 (pc' := 28) C dX7_rule_27 rfl ?_
    exact V_end C hr hlk (fun h' hh => ⟨_, rfl, rfl, hh.2⟩) ⟨Nat.le_refl _, Nat.le_refl _⟩ dX7_rule_28
  · exact absurd c_14 (by omega)
set_option maxHeartbeats 4000000 in
set_option maxRecDepth 100000 in
theorem xX7_rule {c r : Int} (hr2 : rI c ∧ rI r) (hc2 : isCellB c r = false) (hst : l.stackTraces = false) : Tx l yX7_rule wsX7_rule ({ frames := 8, cells := 1, slots := 6, locals := 170 } : Room) D (tyL cB cC cI cO cJ cD) ee [.ref (P 1), .int (iI c), .int (iI r)] (CW cI cO ee Tx9 P S X) "java/lang/IndexOutOfBoundsException" (fun h h' => h' = h) (1) (6) := by
  refine Tx_of (cc := cX7_rule) (own := RX7) [some (.ref (P 1)), some (.int (iI c)), some (.int (iI r)), none] (by decide) rfl rfl (Nat.le_of_ble_eq_true rfl) (fun i9 v9 h9 => argL [.ref (P 1), .int (iI c), .int (iI r)] 1 rfl i9 v9 h9) ?_
  intro p e s m9 args below meth c9 h0 sz hI C hlk hxt
  refine V_weak (I2 := fun x9 => CW cI cO ee Tx9 P S X x9 ∧ x9 = h0) (fun x9 hx9 => by subst hx9; exact ⟨hI, rfl⟩) ?_
  refine V_iload1 (pc' := 1) C dX7_rule_0 rfl ?_
  refine V_iload2 (pc' := 2) C dX7_rule_1 rfl ?_
  exact V_outS (n := 2) [.int (iI c), .int (iI r)] C (xX7_needCell hr2 hc2 hst) gX7_rule_X7_needCell rfl ydX7_needCell ⟨Nat.le_of_ble_eq_true rfl, Nat.le_of_ble_eq_true rfl⟩ ⟨rfl, rfl⟩ rfl (fun h hh => trivial) rfl (Nat.le_of_ble_eq_true rfl) dX7_rule_2 ⟨Nat.le_of_ble_eq_true rfl, Nat.le_of_ble_eq_true rfl⟩ hxt hlk (fun h h' hh hj => by rw [hj]; exact hh.2) ⟨Nat.le_of_ble_eq_true rfl, Nat.le_of_ble_eq_true rfl⟩
end

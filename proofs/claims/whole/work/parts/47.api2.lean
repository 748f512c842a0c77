/-! the class: steps, entriesOf -/
theorem ydX7_steps : yX7_steps.cls = RX7 ∧ yX7_steps.cls ≠ "java/lang/invoke/MethodHandle" ∧ yX7_steps.cls ≠ "java/lang/invoke/VarHandle" ∧ (parseMethodDescriptor yX7_steps.desc).map (fun d => d.parameters.length) = some 1 := by decide +kernel
theorem ydX7_entriesOf : yX7_entriesOf.cls = RX7 ∧ yX7_entriesOf.cls ≠ "java/lang/invoke/MethodHandle" ∧ yX7_entriesOf.cls ≠ "java/lang/invoke/VarHandle" ∧ (parseMethodDescriptor yX7_entriesOf.desc).map (fun d => d.parameters.length) = some 1 := by decide +kernel
section
variable {l : Launch} {D : va_G} {cB cC cI cO cJ cD : ClassId} {ee : Nat} {Tx9 : (Nat → Nat) → MSt → Hp → Prop} {P : Nat → Nat} {S X : MSt}
set_option maxHeartbeats 4000000 in
set_option maxRecDepth 100000 in
theorem kX7_steps {z : Int} (hwp : WFp S) (hz : 0 ≤ z ∧ z < S.2 22) : Ct l yX7_steps wsX7_steps ({ frames := 6, cells := 0, slots := 0, locals := 130 } : Room) D (tyL cB cC cI cO cJ cD) ee [.ref (P 1), .int (iI z)] (CW cI cO ee Tx9 P S X) (Ji fun h z9 h' => z9 = S.1 4 z ∧ h' = h) (0) (0) := by
  refine Ct_of (cc := cX7_steps) (own := RX7) [some (.ref (P 1)), some (.int (iI z))] (by decide) rfl rfl (Nat.le_of_ble_eq_true rfl) (fun i9 v9 h9 => argL [.ref (P 1), .int (iI z)] 0 rfl i9 v9 h9) ?_
  intro p e s m9 args below meth c9 h0 sz hI C hr hlk hinit
  obtain ⟨hma, ⟨md, ar, hsl⟩, hst9, ⟨md', ar', hgl⟩, hrg⟩ := hI.2.2.2.2.2.2.2.2.1 z.toNat (by omega)
  rw [show ((z.toNat : Nat) : Int) = z by omega] at hsl hgl
  refine V_weak (I2 := fun x9 => CW cI cO ee Tx9 P S X x9 ∧ x9 = h0) (fun x9 hx9 => by subst hx9; exact ⟨hI, rfl⟩) ?_
  refine V_aload0 (pc' := 1) C dX7_steps_0 rfl ?_
  refine V_iload1 (pc' := 2) C dX7_steps_1 rfl ?_
  refine V_callV (ci := 12) (n := 1) [.int (iI z)] C (kX7_neededMacro (z := z) hwp hz) gX7_steps_X7_neededMacro rfl ydX7_neededMacro ⟨Nat.le_of_ble_eq_true rfl, Nat.le_of_ble_eq_true rfl⟩ ⟨rfl, rfl⟩ rfl rfl (fun h hh => ⟨1, _, hh.1.1⟩) (fun h hh => hh.1) rfl (Nat.le_of_ble_eq_true rfl) dX7_steps_2 ⟨Nat.le_of_ble_eq_true rfl, Nat.le_of_ble_eq_true rfl⟩ (fun h v h' hh hj9 => ?_)
  obtain ⟨rfl, rfl⟩ := hj9
  refine V_weak (I2 := fun x9 => CW cI cO ee Tx9 P S X x9 ∧ x9 = h0) (fun x9 hx9 => by rw [hx9]; exact hh) ?_
  refine V_callV (ci := 8) (n := 0) [] C (kX3_stepCount (t := 100 + z.toNat) (ts := 110 + z.toNat) (sl := P (110 + z.toNat)) (gl := P (130 + z.toNat)) (z := ((z.toNat : Nat) : Int)) (md := md) (ar := ar) (sn := S.1 4 z) (f := _)) gX7_steps_X3_stepCount rfl ydX3_stepCount ⟨Nat.le_of_ble_eq_true rfl, Nat.le_of_ble_eq_true rfl⟩ ⟨rfl, rfl⟩ rfl rfl (fun h hh => by obtain ⟨_, rfl⟩ := hh; exact ⟨100 + z.toNat, _, hma⟩) (fun h hh => by obtain ⟨_, rfl⟩ := hh; exact ⟨hma, hsl⟩) rfl (Nat.le_of_ble_eq_true rfl) dX7_steps_5 ⟨Nat.le_of_ble_eq_true rfl, Nat.le_of_ble_eq_true rfl⟩ (fun h v h' hh hj9 => ?_)
  obtain ⟨r9, rfl, hj8, rfl⟩ := hj9
  rw [hj8]
  refine V_weak (I2 := fun x9 => CW cI cO ee Tx9 P S X x9 ∧ x9 = h0) (fun x9 hx9 => by rw [hx9]; exact hh) ?_
  exact V_end C hr hlk (fun h' hh => ⟨_, rfl, rfl, hh.2⟩) ⟨Nat.le_refl _, Nat.le_refl _⟩ dX7_steps_8
set_option maxHeartbeats 4000000 in
set_option maxRecDepth 100000 in
theorem xX7_steps {z : Int} (hwp : WFp S) (hz : ¬ (0 ≤ z ∧ z < S.2 22)) (hr0 : rI z) (hst : l.stackTraces = false) : Tx l yX7_steps wsX7_steps ({ frames := 8, cells := 1, slots := 6, locals := 170 } : Room) D (tyL cB cC cI cO cJ cD) ee [.ref (P 1), .int (iI z)] (CW cI cO ee Tx9 P S X) "java/lang/IndexOutOfBoundsException" (fun h h' => h' = h) (1) (6) := by
  refine Tx_of (cc := cX7_steps) (own := RX7) [some (.ref (P 1)), some (.int (iI z))] (by decide) rfl rfl (Nat.le_of_ble_eq_true rfl) (fun i9 v9 h9 => argL [.ref (P 1), .int (iI z)] 0 rfl i9 v9 h9) ?_
  intro p e s m9 args below meth c9 h0 sz hI C hlk hxt
  refine V_weak (I2 := fun x9 => CW cI cO ee Tx9 P S X x9 ∧ x9 = h0) (fun x9 hx9 => by subst hx9; exact ⟨hI, rfl⟩) ?_
  refine V_aload0 (pc' := 1) C dX7_steps_0 rfl ?_
  refine V_iload1 (pc' := 2) C dX7_steps_1 rfl ?_
  exact V_outV (ci := 12) (n := 1) [.int (iI z)] C (xX7_neededMacro (z := z) hwp hz hr0 hst) gX7_steps_X7_neededMacro rfl ydX7_neededMacro ⟨Nat.le_of_ble_eq_true rfl, Nat.le_of_ble_eq_true rfl⟩ ⟨rfl, rfl⟩ rfl rfl (fun h hh => ⟨1, _, hh.1.1⟩) (fun h hh => hh.1) rfl (Nat.le_of_ble_eq_true rfl) dX7_steps_2 ⟨Nat.le_of_ble_eq_true rfl, Nat.le_of_ble_eq_true rfl⟩ hxt hlk (fun h h' hh hj => by rw [hj]; exact hh.2) ⟨Nat.le_of_ble_eq_true rfl, Nat.le_of_ble_eq_true rfl⟩
set_option maxHeartbeats 4000000 in
set_option maxRecDepth 100000 in
theorem kX7_entriesOf_h {z : Int} (hwp : WFp S) (hz : z = -1) (hF : ∀ i, 0 ≤ i → i < X.2 25 → rI (X.1 7 i) ∧ rI (X.1 9 i) ∧ rI (X.1 10 i)) : Ct l yX7_entriesOf wsX7_entriesOf ({ frames := 6, cells := 0, slots := 0, locals := 130 } : Room) D (tyL cB cC cI cO cJ cD) ee [.ref (P 1), .int (iI z)] (CW cI cO ee Tx9 P S X) (Ji fun h z9 h' => z9 = cntN (fun k => X.1 (7 + k)) z (X.2 25).toNat ∧ h' = h) (0) (0) := by
  refine Ct_of (cc := cX7_entriesOf) (own := RX7) [some (.ref (P 1)), some (.int (iI z))] (by decide) rfl rfl (Nat.le_of_ble_eq_true rfl) (fun i9 v9 h9 => argL [.ref (P 1), .int (iI z)] 0 rfl i9 v9 h9) ?_
  intro p e s m9 args below meth c9 h0 sz hI C hr hlk hinit
  have hin : ∀ w ∈ wsX70, w ∈ wsX7_entriesOf := by decide +kernel
  refine V_weak (I2 := fun x9 => CW cI cO ee Tx9 P S X x9 ∧ x9 = h0) (fun x9 hx9 => by subst hx9; exact ⟨hI, rfl⟩) ?_
  refine V_iload1 (pc' := 1) C dX7_entriesOf_0 rfl ?_
  refine V_iconst (pc' := 2) C dX7_entriesOf_1 rfl ?_
  refine V_icmpeq (tgt := 23) C (by omega) dX7_entriesOf_2 (by decide) rfl (fun c_2 => ?_) (fun c_2 => ?_)
  · refine V_aload0 (pc' := 24) C dX7_entriesOf_23 rfl ?_
    refine V_getf (pc' := 27) (T := TX7) (N := 13) (ci := 12) C hin rfl 4 (by decide) (by decide +kernel) (fun h hh => ⟨1, _, hh.1.1, rfl⟩) dX7_entriesOf_24 rfl ?_
    refine V_iload1 (pc' := 28) C dX7_entriesOf_27 rfl ?_
    refine V_callV (ci := 5) (n := 1) [.int (iI z)] C (kX0_countBy (v := fun k => P (7 + k)) (t := 6) (F := fun k => X.1 (7 + k)) (n := X.2 25) (len := (X.2 26).toNat) (z := z) (by omega) hF) gX7_entriesOf_X0_countBy rfl ydX0_countBy ⟨Nat.le_of_ble_eq_true rfl, Nat.le_of_ble_eq_true rfl⟩ ⟨rfl, rfl⟩ rfl rfl (fun h hh => ⟨6, _, hh.1.2.2.2.1.1⟩) (fun h hh => hh.1.2.2.2.1) rfl (Nat.le_of_ble_eq_true rfl) dX7_entriesOf_28 ⟨Nat.le_of_ble_eq_true rfl, Nat.le_of_ble_eq_true rfl⟩ (fun h v h' hh hj9 => ?_)
    obtain ⟨r9, rfl, hj8, rfl⟩ := hj9
    rw [hj8]
    refine V_weak (I2 := fun x9 => CW cI cO ee Tx9 P S X x9 ∧ x9 = h0) (fun x9 hx9 => by rw [hx9]; exact hh) ?_
    exact V_end C hr hlk (fun h' hh => ⟨_, rfl, rfl, hh.2⟩) ⟨Nat.le_refl _, Nat.le_refl _⟩ dX7_entriesOf_31
  · exact absurd c_2 (by omega)
set_option maxHeartbeats 4000000 in
set_option maxRecDepth 100000 in
theorem kX7_entriesOf_m {z : Int} (hwp : WFp S) (hz : 0 ≤ z ∧ z < S.2 22) (hF : ∀ i, 0 ≤ i → i < X.2 25 → rI (X.1 7 i) ∧ rI (X.1 9 i) ∧ rI (X.1 10 i)) : Ct l yX7_entriesOf wsX7_entriesOf ({ frames := 6, cells := 0, slots := 0, locals := 130 } : Room) D (tyL cB cC cI cO cJ cD) ee [.ref (P 1), .int (iI z)] (CW cI cO ee Tx9 P S X) (Ji fun h z9 h' => z9 = cntN (fun k => X.1 (7 + k)) z (X.2 25).toNat ∧ h' = h) (0) (0) := by
  refine Ct_of (cc := cX7_entriesOf) (own := RX7) [some (.ref (P 1)), some (.int (iI z))] (by decide) rfl rfl (Nat.le_of_ble_eq_true rfl) (fun i9 v9 h9 => argL [.ref (P 1), .int (iI z)] 0 rfl i9 v9 h9) ?_
  intro p e s m9 args below meth c9 h0 sz hI C hr hlk hinit
  have hin : ∀ w ∈ wsX70, w ∈ wsX7_entriesOf := by decide +kernel
  refine V_weak (I2 := fun x9 => CW cI cO ee Tx9 P S X x9 ∧ x9 = h0) (fun x9 hx9 => by subst hx9; exact ⟨hI, rfl⟩) ?_
  refine V_iload1 (pc' := 1) C dX7_entriesOf_0 rfl ?_
  refine V_iconst (pc' := 2) C dX7_entriesOf_1 rfl ?_
  refine V_icmpeq (tgt := 23) C (by have := hwp.2.2.2.2.1.2.1; omega) dX7_entriesOf_2 (by decide) rfl (fun c_2 => ?_) (fun c_2 => ?_)
  · exact absurd c_2 (by omega)
  · refine V_aload0 (pc' := 6) C dX7_entriesOf_5 rfl ?_
    refine V_iload1 (pc' := 7) C dX7_entriesOf_6 rfl ?_
    refine V_callV (ci := 12) (n := 1) [.int (iI z)] C (kX7_macroAt_s (z := z) hwp hz) gX7_entriesOf_X7_macroAt rfl ydX7_macroAt ⟨Nat.le_of_ble_eq_true rfl, Nat.le_of_ble_eq_true rfl⟩ ⟨rfl, rfl⟩ rfl rfl (fun h hh => ⟨1, _, hh.1.1⟩) (fun h hh => hh.1) rfl (Nat.le_of_ble_eq_true rfl) dX7_entriesOf_7 ⟨Nat.le_of_ble_eq_true rfl, Nat.le_of_ble_eq_true rfl⟩ (fun h v h' hh hj9 => ?_)
    obtain ⟨rfl, rfl⟩ := hj9
    refine V_weak (I2 := fun x9 => CW cI cO ee Tx9 P S X x9 ∧ x9 = h0) (fun x9 hx9 => by rw [hx9]; exact hh) ?_
    refine V_ifnonnull (tgt := 23) C dX7_entriesOf_10 (by decide) ?_
    refine V_aload0 (pc' := 24) C dX7_entriesOf_23 rfl ?_
    refine V_getf (pc' := 27) (T := TX7) (N := 13) (ci := 12) C hin rfl 4 (by decide) (by decide +kernel) (fun h hh => ⟨1, _, hh.1.1, rfl⟩) dX7_entriesOf_24 rfl ?_
    refine V_iload1 (pc' := 28) C dX7_entriesOf_27 rfl ?_
    refine V_callV (ci := 5) (n := 1) [.int (iI z)] C (kX0_countBy (v := fun k => P (7 + k)) (t := 6) (F := fun k => X.1 (7 + k)) (n := X.2 25) (len := (X.2 26).toNat) (z := z) (by have := hwp.2.2.2.2.1.2.1; omega) hF) gX7_entriesOf_X0_countBy rfl ydX0_countBy ⟨Nat.le_of_ble_eq_true rfl, Nat.le_of_ble_eq_true rfl⟩ ⟨rfl, rfl⟩ rfl rfl (fun h hh => ⟨6, _, hh.1.2.2.2.1.1⟩) (fun h hh => hh.1.2.2.2.1) rfl (Nat.le_of_ble_eq_true rfl) dX7_entriesOf_28 ⟨Nat.le_of_ble_eq_true rfl, Nat.le_of_ble_eq_true rfl⟩ (fun h v h' hh hj9 => ?_)
    obtain ⟨r9, rfl, hj8, rfl⟩ := hj9
    rw [hj8]
    refine V_weak (I2 := fun x9 => CW cI cO ee Tx9 P S X x9 ∧ x9 = h0) (fun x9 hx9 => by rw [hx9]; exact hh) ?_
    exact V_end C hr hlk (fun h' hh => ⟨_, rfl, rfl, hh.2⟩) ⟨Nat.le_refl _, Nat.le_refl _⟩ dX7_entriesOf_31
set_option maxHeartbeats 4000000 in
set_option maxRecDepth 100000 in
theorem xX7_entriesOf {z : Int} (hwp : WFp S) (hz : ¬ (0 ≤ z ∧ z < S.2 22)) (hr0 : rI z) (hz2 : z ≠ -1) (hst : l.stackTraces = false) : Tx l yX7_entriesOf wsX7_entriesOf ({ frames := 8, cells := 1, slots := 6, locals := 170 } : Room) D (tyL cB cC cI cO cJ cD) ee [.ref (P 1), .int (iI z)] (CW cI cO ee Tx9 P S X) "java/lang/IndexOutOfBoundsException" (fun h h' => h' = h) (1) (6) := by
  refine Tx_of (cc := cX7_entriesOf) (own := RX7) [some (.ref (P 1)), some (.int (iI z))] (by decide) rfl rfl (Nat.le_of_ble_eq_true rfl) (fun i9 v9 h9 => argL [.ref (P 1), .int (iI z)] 0 rfl i9 v9 h9) ?_
  intro p e s m9 args below meth c9 h0 sz hI C hlk hxt
  have hin : ∀ w ∈ wsX70, w ∈ wsX7_entriesOf := by decide +kernel
  refine V_weak (I2 := fun x9 => CW cI cO ee Tx9 P S X x9 ∧ x9 = h0) (fun x9 hx9 => by subst hx9; exact ⟨hI, rfl⟩) ?_
  refine V_iload1 (pc' := 1) C dX7_entriesOf_0 rfl ?_
  refine V_iconst (pc' := 2) C dX7_entriesOf_1 rfl ?_
  refine V_icmpeq (tgt := 23) C (by omega) dX7_entriesOf_2 (by decide) rfl (fun c_2 => ?_) (fun c_2 => ?_)
  · exact absurd c_2 (by omega)
  · refine V_aload0 (pc' := 6) C dX7_entriesOf_5 rfl ?_
    refine V_iload1 (pc' := 7) C dX7_entriesOf_6 rfl ?_
    refine V_callV (ci := 12) (n := 1) [.int (iI z)] C (kX7_macroAt_n (z := z) hwp hz hr0) gX7_entriesOf_X7_macroAt rfl ydX7_macroAt ⟨Nat.le_of_ble_eq_true rfl, Nat.le_of_ble_eq_true rfl⟩ ⟨rfl, rfl⟩ rfl rfl (fun h hh => ⟨1, _, hh.1.1⟩) (fun h hh => hh.1) rfl (Nat.le_of_ble_eq_true rfl) dX7_entriesOf_7 ⟨Nat.le_of_ble_eq_true rfl, Nat.le_of_ble_eq_true rfl⟩ (fun h v h' hh hj9 => ?_)
    obtain ⟨rfl, rfl⟩ := hj9
    refine V_weak (I2 := fun x9 => CW cI cO ee Tx9 P S X x9 ∧ x9 = h0) (fun x9 hx9 => by rw [hx9]; exact hh) ?_
    refine V_ifnonnullN (pc' := 13) C dX7_entriesOf_10 rfl ?_
    exact V_throwS (text := "no such macro") (names := ["java/lang/RuntimeException", "java/lang/Exception"]) C hst (by decide +kernel) (by decide +kernel) (by decide +kernel) (by decide +kernel) (by decide +kernel) (by decide +kernel) (by decide +kernel) (by decide +kernel) dX7_entriesOf_13 dX7_entriesOf_16 dX7_entriesOf_17 dX7_entriesOf_19 dX7_entriesOf_22 hxt (Nat.le_of_ble_eq_true rfl) (Nat.le_of_ble_eq_true rfl) ⟨Nat.le_of_ble_eq_true rfl, Nat.le_of_ble_eq_true rfl⟩ hlk (fun h' hh => hh.2) rfl ⟨Nat.le_of_ble_eq_true rfl, Nat.le_of_ble_eq_true rfl⟩
end

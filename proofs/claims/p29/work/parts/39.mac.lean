/-! macros and rules by their numbers -/
def rkN (S : MSt) (x : Int) (j : Nat) : Int := if ruN S x j < 0 then -1 else S.1 15 (ruN S x j)
theorem ruN_lt {S : MSt} {x : Int} : ∀ j : Nat, -1 ≤ ruN S x j ∧ ruN S x j < j
  | 0 => by simp [ruN]
  | j + 1 => by
    have ih := ruN_lt (S := S) (x := x) j
    rw [ruN]
    split <;> omega
theorem rkN_in {S : MSt} {x : Int} (h : ∀ r : Int, 0 ≤ r → r < 6 → 0 ≤ S.1 15 r ∧ S.1 15 r ≤ 9) {j : Nat} (hj : j ≤ 6) : -1 ≤ rkN S x j ∧ rkN S x j ≤ 9 := by
  have h1 := ruN_lt (S := S) (x := x) j
  unfold rkN
  split
  · omega
  · have := h (ruN S x j) (by omega) (by omega)
    omega
theorem ruN_y {S : MSt} {x : Int} {j : Nat} (h : ∀ r : Int, 0 ≤ r → r < 6 → 0 ≤ S.1 15 r ∧ S.1 15 r ≤ 9) (hj : j < 6) (h1 : rkN S x j < S.1 15 j) (h2 : isWithinB x (S.1 12 j) (S.1 13 j) = true) : ruN S x (j + 1) = j ∧ rkN S x (j + 1) = S.1 15 j := by
  have e : ruN S x (j + 1) = j := by
    refine ruN_yes h2 ?_
    unfold rkN at h1
    by_cases q : ruN S x j < 0
    · exact Or.inl q
    · rw [if_neg q] at h1
      exact Or.inr h1
  refine ⟨e, ?_⟩
  unfold rkN
  rw [e, if_neg (by omega)]
theorem ruN_n {S : MSt} {x : Int} {j : Nat} (h : ∀ r : Int, 0 ≤ r → r < 6 → 0 ≤ S.1 15 r ∧ S.1 15 r ≤ 9) (hj : j < 6) (h1 : ¬ rkN S x j < S.1 15 j ∨ isWithinB x (S.1 12 j) (S.1 13 j) = false) : ruN S x (j + 1) = ruN S x j ∧ rkN S x (j + 1) = rkN S x j := by
  have e : ruN S x (j + 1) = ruN S x j := by
    rw [ruN, if_neg]
    rintro ⟨h2, h3⟩
    rcases h1 with h1 | h1
    · refine h1 ?_
      unfold rkN
      have := h j (by omega) (by omega)
      by_cases q : ruN S x j < 0
      · rw [if_pos q]
        omega
      · rw [if_neg q]
        omega
    · rw [h2] at h1
      cases h1
  exact ⟨e, by unfold rkN; rw [e]⟩
theorem ydX7_macroAt : yX7_macroAt.cls = RX7 ∧ yX7_macroAt.cls ≠ "java/lang/invoke/MethodHandle" ∧ yX7_macroAt.cls ≠ "java/lang/invoke/VarHandle" ∧ (parseMethodDescriptor yX7_macroAt.desc).map (fun d => d.parameters.length) = some 1 := by decide +kernel
theorem ydX7_ruleAt : yX7_ruleAt.cls = RX7 ∧ yX7_ruleAt.cls ≠ "java/lang/invoke/MethodHandle" ∧ yX7_ruleAt.cls ≠ "java/lang/invoke/VarHandle" ∧ (parseMethodDescriptor yX7_ruleAt.desc).map (fun d => d.parameters.length) = some 1 := by decide +kernel
theorem ydX7_neededMacro : yX7_neededMacro.cls = RX7 ∧ yX7_neededMacro.cls ≠ "java/lang/invoke/MethodHandle" ∧ yX7_neededMacro.cls ≠ "java/lang/invoke/VarHandle" ∧ (parseMethodDescriptor yX7_neededMacro.desc).map (fun d => d.parameters.length) = some 1 := by decide +kernel
theorem ydX7_ruleNumberFor : yX7_ruleNumberFor.cls = RX7 ∧ yX7_ruleNumberFor.cls ≠ "java/lang/invoke/MethodHandle" ∧ yX7_ruleNumberFor.cls ≠ "java/lang/invoke/VarHandle" ∧ (parseMethodDescriptor yX7_ruleNumberFor.desc).map (fun d => d.parameters.length) = some 2 := by decide +kernel
section
variable {l : Launch} {D : va_G} {cB cC cI cO cJ cD : ClassId} {ee : Nat × Nat} {Tx9 : (Nat → Nat) → MSt → Hp → Prop} {P : Nat → Nat} {S X : MSt}
set_option maxHeartbeats 4000000 in
set_option maxRecDepth 100000 in
theorem kX7_macroAt_s {z : Int} (hwp : WFp S) (hz : 0 ≤ z ∧ z < S.2 22) : Ct l yX7_macroAt wsX7_macroAt ({ frames := 3, cells := 0, slots := 0, locals := 65 } : Room) D (tyL cB cC cI cO cJ cD) ee [.ref (P 1), .int (iI z)] (CW cI cO ee Tx9 P S X) (fun h v9 h' => v9 = some (.ref (P (100 + z.toNat))) ∧ h' = h) (0) (0) := by
  refine Ct_of (cc := cX7_macroAt) (own := RX7) [some (.ref (P 1)), some (.int (iI z))] (by decide) rfl rfl (Nat.le_of_ble_eq_true rfl) (fun i9 v9 h9 => argL [.ref (P 1), .int (iI z)] 0 rfl i9 v9 h9) ?_
  intro p e s m9 args below meth c9 h0 sz hI C hr hlk hinit
  have hin : ∀ w ∈ wsX70, w ∈ wsX7_macroAt := by decide +kernel
  refine V_weak (I2 := fun x => CW cI cO ee Tx9 P S X x ∧ x = h0) (fun x hx => by subst hx; exact ⟨hI, rfl⟩) ?_
  obtain ⟨md1, ar1, hl1⟩ := hI.2.2.2.2.2.2.2.1
  obtain ⟨md2, ar2, hl2⟩ := hI.2.2.2.2.2.2.2.2.2.1
  have hmc := hI.2.2.2.2.2.2.2.2.1
  have hru := hI.2.2.2.2.2.2.2.2.2.2
  obtain ⟨hw1, hw2, hw3, hw4, hw5, hw6⟩ := id hwp
  refine V_iload1 (pc' := 1) C dX7_macroAt_0 rfl ?_
  refine V_iflt (tgt := 29) C (by omega) dX7_macroAt_1 (by decide) rfl (fun c_1 => ?_) (fun c_1 => ?_)
  · exact absurd c_1 (by omega)
  · refine V_iload1 (pc' := 5) C dX7_macroAt_4 rfl ?_
    refine V_aload0 (pc' := 6) C dX7_macroAt_5 rfl ?_
    refine V_getf (pc' := 9) (T := TX7) (N := 13) (ci := 12) C hin rfl 2 (by decide) (by decide +kernel) (fun h hh => ⟨1, _, hh.1.1, rfl⟩) dX7_macroAt_6 rfl ?_
    refine V_callV (ci := 4) (n := 0) [] C (kJx4a65c_size_8abf5 (t := 16) (md := md1) (ar := ar1) (sn := S.2 22)) gX7_macroAt_Jx4a65c_size_8abf5 rfl ydJx4a65c_size_8abf5 ⟨Nat.le_of_ble_eq_true rfl, Nat.le_of_ble_eq_true rfl⟩ ⟨rfl, rfl⟩ rfl rfl (fun h hh => by obtain ⟨_, rfl⟩ := hh; exact ⟨16, _, hl1.1⟩) (fun h hh => by rw [hh.2]; exact hl1) rfl (Nat.le_of_ble_eq_true rfl) dX7_macroAt_9 ⟨Nat.le_of_ble_eq_true rfl, Nat.le_of_ble_eq_true rfl⟩ (fun h v h' hh hj => ?_)
    obtain ⟨r9, rfl, hj8, rfl⟩ := hj
    rw [hj8]
    refine V_weak (I2 := fun x => CW cI cO ee Tx9 P S X x ∧ x = h0) (fun x hx => by rw [hx]; exact hh) ?_
    refine V_icmpge (tgt := 29) C (by omega) dX7_macroAt_12 (by decide) rfl (fun c_12 => ?_) (fun c_12 => ?_)
    · exact absurd c_12 (by omega)
    · refine V_aload0 (pc' := 16) C dX7_macroAt_15 rfl ?_
      refine V_getf (pc' := 19) (T := TX7) (N := 13) (ci := 12) C hin rfl 2 (by decide) (by decide +kernel) (fun h hh => ⟨1, _, hh.1.1, rfl⟩) dX7_macroAt_16 rfl ?_
      refine V_iload1 (pc' := 20) C dX7_macroAt_19 rfl ?_
      refine V_callV (ci := 4) (n := 1) [.int (iI z)] C (kL_get (t := 16) (md := md1) (ar := ar1) (sn := S.2 22) (f := fstP P 100 (S.2 22)) (i := z) hz) gX7_macroAt_Jx4a65c_get_915e3 rfl ydJx4a65c_get_915e3 ⟨Nat.le_of_ble_eq_true rfl, Nat.le_of_ble_eq_true rfl⟩ ⟨rfl, rfl⟩ rfl rfl (fun h hh => by obtain ⟨_, rfl⟩ := hh; exact ⟨16, _, hl1.1⟩) (fun h hh => by rw [hh.2]; exact hl1) rfl (Nat.le_of_ble_eq_true rfl) dX7_macroAt_20 ⟨Nat.le_of_ble_eq_true rfl, Nat.le_of_ble_eq_true rfl⟩ (fun h v h' hh hj9 => ?_)
      obtain ⟨rfl, rfl⟩ := hj9
      rw [fstP_at (by omega)]
      refine V_weak (I2 := fun x => CW cI cO ee Tx9 P S X x ∧ x = h0) (fun x hx => by rw [hx]; exact hh) ?_
      refine V_castC (pc' := 26) (ci := 8) C (by decide +kernel) rfl (fun h hh => ⟨100 + z.toNat, _, (hh.1.2.2.2.2.2.2.2.2.1 z.toNat (by omega)).1⟩) dX7_macroAt_23 rfl ?_
      refine V_goto (tgt := 30) C dX7_macroAt_26 (by decide) ?_
      exact V_enda (v := some (P (100 + z.toNat))) C hr (Or.inl ⟨_, rfl⟩) hlk (fun h' hh => ⟨rfl, hh.2⟩) ⟨Nat.le_refl _, Nat.le_refl _⟩ dX7_macroAt_30
set_option maxHeartbeats 4000000 in
set_option maxRecDepth 100000 in
theorem kX7_macroAt_n {z : Int} (hwp : WFp S) (hz : ¬ (0 ≤ z ∧ z < S.2 22)) (hr0 : rI z) : Ct l yX7_macroAt wsX7_macroAt ({ frames := 3, cells := 0, slots := 0, locals := 65 } : Room) D (tyL cB cC cI cO cJ cD) ee [.ref (P 1), .int (iI z)] (CW cI cO ee Tx9 P S X) (fun h v9 h' => v9 = some .null ∧ h' = h) (0) (0) := by
  refine Ct_of (cc := cX7_macroAt) (own := RX7) [some (.ref (P 1)), some (.int (iI z))] (by decide) rfl rfl (Nat.le_of_ble_eq_true rfl) (fun i9 v9 h9 => argL [.ref (P 1), .int (iI z)] 0 rfl i9 v9 h9) ?_
  intro p e s m9 args below meth c9 h0 sz hI C hr hlk hinit
  have hin : ∀ w ∈ wsX70, w ∈ wsX7_macroAt := by decide +kernel
  refine V_weak (I2 := fun x => CW cI cO ee Tx9 P S X x ∧ x = h0) (fun x hx => by subst hx; exact ⟨hI, rfl⟩) ?_
  obtain ⟨md1, ar1, hl1⟩ := hI.2.2.2.2.2.2.2.1
  obtain ⟨md2, ar2, hl2⟩ := hI.2.2.2.2.2.2.2.2.2.1
  have hmc := hI.2.2.2.2.2.2.2.2.1
  have hru := hI.2.2.2.2.2.2.2.2.2.2
  obtain ⟨hw1, hw2, hw3, hw4, hw5, hw6⟩ := id hwp
  refine V_iload1 (pc' := 1) C dX7_macroAt_0 rfl ?_
  refine V_iflt (tgt := 29) C (by omega) dX7_macroAt_1 (by decide) rfl (fun c_1 => ?_) (fun c_1 => ?_)
  · refine V_null (pc' := 30) C dX7_macroAt_29 rfl ?_
    exact V_enda (v := none) C hr (Or.inl ⟨_, rfl⟩) hlk (fun h' hh => ⟨rfl, hh.2⟩) ⟨Nat.le_refl _, Nat.le_refl _⟩ dX7_macroAt_30
  · refine V_iload1 (pc' := 5) C dX7_macroAt_4 rfl ?_
    refine V_aload0 (pc' := 6) C dX7_macroAt_5 rfl ?_
    refine V_getf (pc' := 9) (T := TX7) (N := 13) (ci := 12) C hin rfl 2 (by decide) (by decide +kernel) (fun h hh => ⟨1, _, hh.1.1, rfl⟩) dX7_macroAt_6 rfl ?_
    refine V_callV (ci := 4) (n := 0) [] C (kJx4a65c_size_8abf5 (t := 16) (md := md1) (ar := ar1) (sn := S.2 22)) gX7_macroAt_Jx4a65c_size_8abf5 rfl ydJx4a65c_size_8abf5 ⟨Nat.le_of_ble_eq_true rfl, Nat.le_of_ble_eq_true rfl⟩ ⟨rfl, rfl⟩ rfl rfl (fun h hh => by obtain ⟨_, rfl⟩ := hh; exact ⟨16, _, hl1.1⟩) (fun h hh => by rw [hh.2]; exact hl1) rfl (Nat.le_of_ble_eq_true rfl) dX7_macroAt_9 ⟨Nat.le_of_ble_eq_true rfl, Nat.le_of_ble_eq_true rfl⟩ (fun h v h' hh hj => ?_)
    obtain ⟨r9, rfl, hj8, rfl⟩ := hj
    rw [hj8]
    refine V_weak (I2 := fun x => CW cI cO ee Tx9 P S X x ∧ x = h0) (fun x hx => by rw [hx]; exact hh) ?_
    refine V_icmpge (tgt := 29) C (by omega) dX7_macroAt_12 (by decide) rfl (fun c_12 => ?_) (fun c_12 => ?_)
    · refine V_null (pc' := 30) C dX7_macroAt_29 rfl ?_
      exact V_enda (v := none) C hr (Or.inl ⟨_, rfl⟩) hlk (fun h' hh => ⟨rfl, hh.2⟩) ⟨Nat.le_refl _, Nat.le_refl _⟩ dX7_macroAt_30
    · exact absurd c_12 (by omega)
set_option maxHeartbeats 4000000 in
set_option maxRecDepth 100000 in
theorem kX7_ruleAt_s {z : Int} (hwp : WFp S) (hz : 0 ≤ z ∧ z < S.2 23) : Ct l yX7_ruleAt wsX7_ruleAt ({ frames := 3, cells := 0, slots := 0, locals := 65 } : Room) D (tyL cB cC cI cO cJ cD) ee [.ref (P 1), .int (iI z)] (CW cI cO ee Tx9 P S X) (fun h v9 h' => v9 = some (.ref (P (400 + z.toNat))) ∧ h' = h) (0) (0) := by
  refine Ct_of (cc := cX7_ruleAt) (own := RX7) [some (.ref (P 1)), some (.int (iI z))] (by decide) rfl rfl (Nat.le_of_ble_eq_true rfl) (fun i9 v9 h9 => argL [.ref (P 1), .int (iI z)] 0 rfl i9 v9 h9) ?_
  intro p e s m9 args below meth c9 h0 sz hI C hr hlk hinit
  have hin : ∀ w ∈ wsX70, w ∈ wsX7_ruleAt := by decide +kernel
  refine V_weak (I2 := fun x => CW cI cO ee Tx9 P S X x ∧ x = h0) (fun x hx => by subst hx; exact ⟨hI, rfl⟩) ?_
  obtain ⟨md1, ar1, hl1⟩ := hI.2.2.2.2.2.2.2.1
  obtain ⟨md2, ar2, hl2⟩ := hI.2.2.2.2.2.2.2.2.2.1
  have hmc := hI.2.2.2.2.2.2.2.2.1
  have hru := hI.2.2.2.2.2.2.2.2.2.2
  obtain ⟨hw1, hw2, hw3, hw4, hw5, hw6⟩ := id hwp
  refine V_iload1 (pc' := 1) C dX7_ruleAt_0 rfl ?_
  refine V_iflt (tgt := 29) C (by omega) dX7_ruleAt_1 (by decide) rfl (fun c_1 => ?_) (fun c_1 => ?_)
  · exact absurd c_1 (by omega)
  · refine V_iload1 (pc' := 5) C dX7_ruleAt_4 rfl ?_
    refine V_aload0 (pc' := 6) C dX7_ruleAt_5 rfl ?_
    refine V_getf (pc' := 9) (T := TX7) (N := 13) (ci := 12) C hin rfl 3 (by decide) (by decide +kernel) (fun h hh => ⟨1, _, hh.1.1, rfl⟩) dX7_ruleAt_6 rfl ?_
    refine V_callV (ci := 4) (n := 0) [] C (kJx4a65c_size_8abf5 (t := 18) (md := md2) (ar := ar2) (sn := S.2 23)) gX7_ruleAt_Jx4a65c_size_8abf5 rfl ydJx4a65c_size_8abf5 ⟨Nat.le_of_ble_eq_true rfl, Nat.le_of_ble_eq_true rfl⟩ ⟨rfl, rfl⟩ rfl rfl (fun h hh => by obtain ⟨_, rfl⟩ := hh; exact ⟨18, _, hl2.1⟩) (fun h hh => by rw [hh.2]; exact hl2) rfl (Nat.le_of_ble_eq_true rfl) dX7_ruleAt_9 ⟨Nat.le_of_ble_eq_true rfl, Nat.le_of_ble_eq_true rfl⟩ (fun h v h' hh hj => ?_)
    obtain ⟨r9, rfl, hj8, rfl⟩ := hj
    rw [hj8]
    refine V_weak (I2 := fun x => CW cI cO ee Tx9 P S X x ∧ x = h0) (fun x hx => by rw [hx]; exact hh) ?_
    refine V_icmpge (tgt := 29) C (by omega) dX7_ruleAt_12 (by decide) rfl (fun c_12 => ?_) (fun c_12 => ?_)
    · exact absurd c_12 (by omega)
    · refine V_aload0 (pc' := 16) C dX7_ruleAt_15 rfl ?_
      refine V_getf (pc' := 19) (T := TX7) (N := 13) (ci := 12) C hin rfl 3 (by decide) (by decide +kernel) (fun h hh => ⟨1, _, hh.1.1, rfl⟩) dX7_ruleAt_16 rfl ?_
      refine V_iload1 (pc' := 20) C dX7_ruleAt_19 rfl ?_
      refine V_callV (ci := 4) (n := 1) [.int (iI z)] C (kL_get (t := 18) (md := md2) (ar := ar2) (sn := S.2 23) (f := fstP P 400 (S.2 23)) (i := z) hz) gX7_ruleAt_Jx4a65c_get_915e3 rfl ydJx4a65c_get_915e3 ⟨Nat.le_of_ble_eq_true rfl, Nat.le_of_ble_eq_true rfl⟩ ⟨rfl, rfl⟩ rfl rfl (fun h hh => by obtain ⟨_, rfl⟩ := hh; exact ⟨18, _, hl2.1⟩) (fun h hh => by rw [hh.2]; exact hl2) rfl (Nat.le_of_ble_eq_true rfl) dX7_ruleAt_20 ⟨Nat.le_of_ble_eq_true rfl, Nat.le_of_ble_eq_true rfl⟩ (fun h v h' hh hj9 => ?_)
      obtain ⟨rfl, rfl⟩ := hj9
      rw [fstP_at (by omega)]
      refine V_weak (I2 := fun x => CW cI cO ee Tx9 P S X x ∧ x = h0) (fun x hx => by rw [hx]; exact hh) ?_
      refine V_castC (pc' := 26) (ci := 10) C (by decide +kernel) rfl (fun h hh => ⟨400 + z.toNat, _, (hh.1.2.2.2.2.2.2.2.2.2.2 z.toNat (by omega)).1⟩) dX7_ruleAt_23 rfl ?_
      refine V_goto (tgt := 30) C dX7_ruleAt_26 (by decide) ?_
      exact V_enda (v := some (P (400 + z.toNat))) C hr (Or.inl ⟨_, rfl⟩) hlk (fun h' hh => ⟨rfl, hh.2⟩) ⟨Nat.le_refl _, Nat.le_refl _⟩ dX7_ruleAt_30
set_option maxHeartbeats 4000000 in
set_option maxRecDepth 100000 in
theorem kX7_ruleAt_n {z : Int} (hwp : WFp S) (hz : ¬ (0 ≤ z ∧ z < S.2 23)) (hr0 : rI z) : Ct l yX7_ruleAt wsX7_ruleAt ({ frames := 3, cells := 0, slots := 0, locals := 65 } : Room) D (tyL cB cC cI cO cJ cD) ee [.ref (P 1), .int (iI z)] (CW cI cO ee Tx9 P S X) (fun h v9 h' => v9 = some .null ∧ h' = h) (0) (0) := by
  refine Ct_of (cc := cX7_ruleAt) (own := RX7) [some (.ref (P 1)), some (.int (iI z))] (by decide) rfl rfl (Nat.le_of_ble_eq_true rfl) (fun i9 v9 h9 => argL [.ref (P 1), .int (iI z)] 0 rfl i9 v9 h9) ?_
  intro p e s m9 args below meth c9 h0 sz hI C hr hlk hinit
  have hin : ∀ w ∈ wsX70, w ∈ wsX7_ruleAt := by decide +kernel
  refine V_weak (I2 := fun x => CW cI cO ee Tx9 P S X x ∧ x = h0) (fun x hx => by subst hx; exact ⟨hI, rfl⟩) ?_
  obtain ⟨md1, ar1, hl1⟩ := hI.2.2.2.2.2.2.2.1
  obtain ⟨md2, ar2, hl2⟩ := hI.2.2.2.2.2.2.2.2.2.1
  have hmc := hI.2.2.2.2.2.2.2.2.1
  have hru := hI.2.2.2.2.2.2.2.2.2.2
  obtain ⟨hw1, hw2, hw3, hw4, hw5, hw6⟩ := id hwp
  refine V_iload1 (pc' := 1) C dX7_ruleAt_0 rfl ?_
  refine V_iflt (tgt := 29) C (by omega) dX7_ruleAt_1 (by decide) rfl (fun c_1 => ?_) (fun c_1 => ?_)
  · refine V_null (pc' := 30) C dX7_ruleAt_29 rfl ?_
    exact V_enda (v := none) C hr (Or.inl ⟨_, rfl⟩) hlk (fun h' hh => ⟨rfl, hh.2⟩) ⟨Nat.le_refl _, Nat.le_refl _⟩ dX7_ruleAt_30
  · refine V_iload1 (pc' := 5) C dX7_ruleAt_4 rfl ?_
    refine V_aload0 (pc' := 6) C dX7_ruleAt_5 rfl ?_
    refine V_getf (pc' := 9) (T := TX7) (N := 13) (ci := 12) C hin rfl 3 (by decide) (by decide +kernel) (fun h hh => ⟨1, _, hh.1.1, rfl⟩) dX7_ruleAt_6 rfl ?_
    refine V_callV (ci := 4) (n := 0) [] C (kJx4a65c_size_8abf5 (t := 18) (md := md2) (ar := ar2) (sn := S.2 23)) gX7_ruleAt_Jx4a65c_size_8abf5 rfl ydJx4a65c_size_8abf5 ⟨Nat.le_of_ble_eq_true rfl, Nat.le_of_ble_eq_true rfl⟩ ⟨rfl, rfl⟩ rfl rfl (fun h hh => by obtain ⟨_, rfl⟩ := hh; exact ⟨18, _, hl2.1⟩) (fun h hh => by rw [hh.2]; exact hl2) rfl (Nat.le_of_ble_eq_true rfl) dX7_ruleAt_9 ⟨Nat.le_of_ble_eq_true rfl, Nat.le_of_ble_eq_true rfl⟩ (fun h v h' hh hj => ?_)
    obtain ⟨r9, rfl, hj8, rfl⟩ := hj
    rw [hj8]
    refine V_weak (I2 := fun x => CW cI cO ee Tx9 P S X x ∧ x = h0) (fun x hx => by rw [hx]; exact hh) ?_
    refine V_icmpge (tgt := 29) C (by omega) dX7_ruleAt_12 (by decide) rfl (fun c_12 => ?_) (fun c_12 => ?_)
    · refine V_null (pc' := 30) C dX7_ruleAt_29 rfl ?_
      exact V_enda (v := none) C hr (Or.inl ⟨_, rfl⟩) hlk (fun h' hh => ⟨rfl, hh.2⟩) ⟨Nat.le_refl _, Nat.le_refl _⟩ dX7_ruleAt_30
    · exact absurd c_12 (by omega)
set_option maxHeartbeats 4000000 in
set_option maxRecDepth 100000 in
theorem kX7_neededMacro {z : Int} (hwp : WFp S) (hz : 0 ≤ z ∧ z < S.2 22) : Ct l yX7_neededMacro wsX7_neededMacro ({ frames := 4, cells := 0, slots := 0, locals := 88 } : Room) D (tyL cB cC cI cO cJ cD) ee [.ref (P 1), .int (iI z)] (CW cI cO ee Tx9 P S X) (fun h v9 h' => v9 = some (.ref (P (100 + z.toNat))) ∧ h' = h) (0) (0) := by
  refine Ct_of (cc := cX7_neededMacro) (own := RX7) [some (.ref (P 1)), some (.int (iI z)), none] (by decide) rfl rfl (Nat.le_of_ble_eq_true rfl) (fun i9 v9 h9 => argL [.ref (P 1), .int (iI z)] 1 rfl i9 v9 h9) ?_
  intro p e s m9 args below meth c9 h0 sz hI C hr hlk hinit
  have hin : ∀ w ∈ wsX70, w ∈ wsX7_neededMacro := by decide +kernel
  refine V_weak (I2 := fun x => CW cI cO ee Tx9 P S X x ∧ x = h0) (fun x hx => by subst hx; exact ⟨hI, rfl⟩) ?_
  obtain ⟨md1, ar1, hl1⟩ := hI.2.2.2.2.2.2.2.1
  obtain ⟨md2, ar2, hl2⟩ := hI.2.2.2.2.2.2.2.2.2.1
  have hmc := hI.2.2.2.2.2.2.2.2.1
  have hru := hI.2.2.2.2.2.2.2.2.2.2
  obtain ⟨hw1, hw2, hw3, hw4, hw5, hw6⟩ := id hwp
  refine V_aload0 (pc' := 1) C dX7_neededMacro_0 rfl ?_
  refine V_iload1 (pc' := 2) C dX7_neededMacro_1 rfl ?_
  refine V_callV (ci := 12) (n := 1) [.int (iI z)] C (kX7_macroAt_s (z := z) hwp hz) gX7_neededMacro_X7_macroAt rfl ydX7_macroAt ⟨Nat.le_of_ble_eq_true rfl, Nat.le_of_ble_eq_true rfl⟩ ⟨rfl, rfl⟩ rfl rfl (fun h hh => ⟨1, _, hh.1.1⟩) (fun h hh => hh.1) rfl (Nat.le_of_ble_eq_true rfl) dX7_neededMacro_2 ⟨Nat.le_of_ble_eq_true rfl, Nat.le_of_ble_eq_true rfl⟩ (fun h v h' hh hj9 => ?_)
  obtain ⟨rfl, rfl⟩ := hj9
  refine V_weak (I2 := fun x => CW cI cO ee Tx9 P S X x ∧ x = h0) (fun x hx => by rw [hx]; exact hh) ?_
  refine V_astore2 (pc' := 6) C dX7_neededMacro_5 rfl (by decide) rfl ?_
  refine V_aload2 (pc' := 7) C dX7_neededMacro_6 rfl ?_
  refine V_ifnonnull (tgt := 20) C dX7_neededMacro_7 (by decide) ?_
  refine V_aload2 (pc' := 21) C dX7_neededMacro_20 rfl ?_
  exact V_enda (v := some (P (100 + z.toNat))) C hr (Or.inl ⟨_, rfl⟩) hlk (fun h' hh => ⟨rfl, hh.2⟩) ⟨Nat.le_refl _, Nat.le_refl _⟩ dX7_neededMacro_21
set_option maxHeartbeats 4000000 in
set_option maxRecDepth 100000 in
theorem xX7_neededMacro {z : Int} (hwp : WFp S) (hz : ¬ (0 ≤ z ∧ z < S.2 22)) (hr0 : rI z) (hst : l.stackTraces = false) : Tx l yX7_neededMacro wsX7_neededMacro ({ frames := 6, cells := 1, slots := 6, locals := 120 } : Room) D (tyL cB cC cI cO cJ cD) ee [.ref (P 1), .int (iI z)] (CW cI cO ee Tx9 P S X) "java/lang/IndexOutOfBoundsException" (fun h h' => h' = h) (1) (6) := by
  refine Tx_of (cc := cX7_neededMacro) (own := RX7) [some (.ref (P 1)), some (.int (iI z)), none] (by decide) rfl rfl (Nat.le_of_ble_eq_true rfl) (fun i9 v9 h9 => argL [.ref (P 1), .int (iI z)] 1 rfl i9 v9 h9) ?_
  intro p e s m9 args below meth c9 h0 sz hI C hlk hxt
  have hin : ∀ w ∈ wsX70, w ∈ wsX7_neededMacro := by decide +kernel
  refine V_weak (I2 := fun x => CW cI cO ee Tx9 P S X x ∧ x = h0) (fun x hx => by subst hx; exact ⟨hI, rfl⟩) ?_
  obtain ⟨md1, ar1, hl1⟩ := hI.2.2.2.2.2.2.2.1
  obtain ⟨md2, ar2, hl2⟩ := hI.2.2.2.2.2.2.2.2.2.1
  have hmc := hI.2.2.2.2.2.2.2.2.1
  have hru := hI.2.2.2.2.2.2.2.2.2.2
  obtain ⟨hw1, hw2, hw3, hw4, hw5, hw6⟩ := id hwp
  refine V_aload0 (pc' := 1) C dX7_neededMacro_0 rfl ?_
  refine V_iload1 (pc' := 2) C dX7_neededMacro_1 rfl ?_
  refine V_callV (ci := 12) (n := 1) [.int (iI z)] C (kX7_macroAt_n (z := z) hwp hz hr0) gX7_neededMacro_X7_macroAt rfl ydX7_macroAt ⟨Nat.le_of_ble_eq_true rfl, Nat.le_of_ble_eq_true rfl⟩ ⟨rfl, rfl⟩ rfl rfl (fun h hh => ⟨1, _, hh.1.1⟩) (fun h hh => hh.1) rfl (Nat.le_of_ble_eq_true rfl) dX7_neededMacro_2 ⟨Nat.le_of_ble_eq_true rfl, Nat.le_of_ble_eq_true rfl⟩ (fun h v h' hh hj9 => ?_)
  obtain ⟨rfl, rfl⟩ := hj9
  refine V_weak (I2 := fun x => CW cI cO ee Tx9 P S X x ∧ x = h0) (fun x hx => by rw [hx]; exact hh) ?_
  refine V_astoreN2 (pc' := 6) C dX7_neededMacro_5 rfl (by decide) rfl ?_
  refine V_aloadN2 (pc' := 7) C dX7_neededMacro_6 rfl ?_
  refine V_ifnonnullN (pc' := 10) C dX7_neededMacro_7 rfl ?_
  exact V_throwS (text := "no such macro") (names := ["java/lang/RuntimeException", "java/lang/Exception"]) C hst (by decide +kernel) (by decide +kernel) (by decide +kernel) (by decide +kernel) (by decide +kernel) (by decide +kernel) (by decide +kernel) (by decide +kernel) dX7_neededMacro_10 dX7_neededMacro_13 dX7_neededMacro_14 dX7_neededMacro_16 dX7_neededMacro_19 hxt (Nat.le_of_ble_eq_true rfl) (Nat.le_of_ble_eq_true rfl) ⟨Nat.le_of_ble_eq_true rfl, Nat.le_of_ble_eq_true rfl⟩ hlk (fun h' hh => hh.2) rfl ⟨Nat.le_of_ble_eq_true rfl, Nat.le_of_ble_eq_true rfl⟩
set_option maxHeartbeats 4000000 in
set_option maxRecDepth 100000 in
theorem kX7_ruleNumberFor {x : Int} (hwp : WFp S) (hx : 0 ≤ x ∧ x < 48) : Ct l yX7_ruleNumberFor wsX7_ruleNumberFor ({ frames := 3, cells := 0, slots := 0, locals := 65 } : Room) D (tyL cB cC cI cO cJ cD) ee [.ref (P 1), .int (iI (x % 6)), .int (iI (x / 6))] (CW cI cO ee Tx9 P S X) (Ji fun h r9 h' => r9 = ruledI S x ∧ h' = h) (0) (0) := by
  refine Ct_of (cc := cX7_ruleNumberFor) (own := RX7) [some (.ref (P 1)), some (.int (iI (x % 6))), some (.int (iI (x / 6))), none, none, none, none] (by decide) rfl rfl (Nat.le_of_ble_eq_true rfl) (fun i9 v9 h9 => argL [.ref (P 1), .int (iI (x % 6)), .int (iI (x / 6))] 4 rfl i9 v9 h9) ?_
  intro p e s m9 args below meth c9 h0 sz hI C hr hlk hinit
  have hin : ∀ w ∈ wsX70, w ∈ wsX7_ruleNumberFor := by decide +kernel
  have hin5 : ∀ w ∈ wsX50, w ∈ wsX7_ruleNumberFor := by decide +kernel
  refine V_weak (I2 := fun x => CW cI cO ee Tx9 P S X x ∧ x = h0) (fun x hx => by subst hx; exact ⟨hI, rfl⟩) ?_
  obtain ⟨md1, ar1, hl1⟩ := hI.2.2.2.2.2.2.2.1
  obtain ⟨md2, ar2, hl2⟩ := hI.2.2.2.2.2.2.2.2.2.1
  have hmc := hI.2.2.2.2.2.2.2.2.1
  have hru := hI.2.2.2.2.2.2.2.2.2.2
  obtain ⟨hw1, hw2, hw3, hw4, hw5, hw6⟩ := id hwp
  have hw4r : ∀ r : Int, 0 ≤ r → r < 6 → 0 ≤ S.1 15 r ∧ S.1 15 r ≤ 9 := fun r a b => by have := hw4 r a b; omega
  refine V_iconst (pc' := 1) C dX7_ruleNumberFor_0 rfl ?_
  refine V_istore3 (pc' := 2) C dX7_ruleNumberFor_1 rfl (by decide) rfl ?_
  refine V_iconst (pc' := 3) C dX7_ruleNumberFor_2 rfl ?_
  refine V_istore4 (pc' := 5) C dX7_ruleNumberFor_3 rfl (by decide) rfl ?_
  refine V_iconst (pc' := 6) C dX7_ruleNumberFor_5 rfl ?_
  refine V_istore5 (pc' := 8) C dX7_ruleNumberFor_6 rfl (by decide) rfl ?_
  refine V_for0 (N := (S.2 23).toNat) (fun j => fun x => CW cI cO ee Tx9 P S X x ∧ x = h0) (fun j => [some (.ref (P 1)), some (.int (iI (x % 6))), some (.int (iI (x / 6))), some (.int (iI (ruN S x j))), some (.int (iI (rkN S x j))), some (.int (iI j)), none]) (fun _ => True) trivial (fun h hh => hh) rfl (fun j hj hv hk => ?_) (fun hv => ?_)
  · have hrr9 := hw4 j (by omega) (by omega)
    have hru9 := hru j (by omega)
    have hrk9 := rkN_in (S := S) (x := x) (j := j) hw4r (by omega)
    have hrn9 := ruN_lt (S := S) (x := x) j
    refine V_iload5 (pc' := 10) C dX7_ruleNumberFor_8 rfl ?_
    refine V_aload0 (pc' := 11) C dX7_ruleNumberFor_10 rfl ?_
    refine V_getf (pc' := 14) (T := TX7) (N := 13) (ci := 12) C hin rfl 3 (by decide) (by decide +kernel) (fun h hh => ⟨1, _, hh.1.1, rfl⟩) dX7_ruleNumberFor_11 rfl ?_
    refine V_callV (ci := 4) (n := 0) [] C (kJx4a65c_size_8abf5 (t := 18) (md := md2) (ar := ar2) (sn := S.2 23)) gX7_ruleNumberFor_Jx4a65c_size_8abf5 rfl ydJx4a65c_size_8abf5 ⟨Nat.le_of_ble_eq_true rfl, Nat.le_of_ble_eq_true rfl⟩ ⟨rfl, rfl⟩ rfl rfl (fun h hh => by obtain ⟨_, rfl⟩ := hh; exact ⟨18, _, hl2.1⟩) (fun h hh => by rw [hh.2]; exact hl2) rfl (Nat.le_of_ble_eq_true rfl) dX7_ruleNumberFor_14 ⟨Nat.le_of_ble_eq_true rfl, Nat.le_of_ble_eq_true rfl⟩ (fun h v h' hh hj => ?_)
    obtain ⟨r9, rfl, hj8, rfl⟩ := hj
    rw [hj8]
    refine V_weak (I2 := fun x => CW cI cO ee Tx9 P S X x ∧ x = h0) (fun x hx => by rw [hx]; exact hh) ?_
    refine V_icmpge (tgt := 73) C (by omega) dX7_ruleNumberFor_17 (by decide) rfl (fun c_17 => ?_) (fun c_17 => ?_)
    · exact absurd c_17 (by omega)
    · refine V_aload0 (pc' := 21) C dX7_ruleNumberFor_20 rfl ?_
      refine V_getf (pc' := 24) (T := TX7) (N := 13) (ci := 12) C hin rfl 3 (by decide) (by decide +kernel) (fun h hh => ⟨1, _, hh.1.1, rfl⟩) dX7_ruleNumberFor_21 rfl ?_
      refine V_iload5 (pc' := 26) C dX7_ruleNumberFor_24 rfl ?_
      refine V_callV (ci := 4) (n := 1) [.int (iI (j : Int))] C (kL_get (t := 18) (md := md2) (ar := ar2) (sn := S.2 23) (f := fstP P 400 (S.2 23)) (i := (j : Int)) (by omega)) gX7_ruleNumberFor_Jx4a65c_get_915e3 rfl ydJx4a65c_get_915e3 ⟨Nat.le_of_ble_eq_true rfl, Nat.le_of_ble_eq_true rfl⟩ ⟨rfl, rfl⟩ rfl rfl (fun h hh => by obtain ⟨_, rfl⟩ := hh; exact ⟨18, _, hl2.1⟩) (fun h hh => by rw [hh.2]; exact hl2) rfl (Nat.le_of_ble_eq_true rfl) dX7_ruleNumberFor_26 ⟨Nat.le_of_ble_eq_true rfl, Nat.le_of_ble_eq_true rfl⟩ (fun h v h' hh hj9 => ?_)
      obtain ⟨rfl, rfl⟩ := hj9
      rw [fstP_at (by omega)]
      refine V_weak (I2 := fun x => CW cI cO ee Tx9 P S X x ∧ x = h0) (fun x hx => by rw [hx]; exact hh) ?_
      refine V_castC (pc' := 32) (ci := 10) C (by decide +kernel) rfl (fun h hh => by obtain ⟨_, rfl⟩ := hh; exact ⟨400 + j, _, hru9.1⟩) dX7_ruleNumberFor_29 rfl ?_
      refine V_astore6 (pc' := 34) C dX7_ruleNumberFor_32 rfl (by decide) rfl ?_
      refine V_aload6 (pc' := 36) C dX7_ruleNumberFor_34 rfl ?_
      refine V_getfN (pc' := 39) (T := TX5) (N := 3) (ci := 10) C hin5 rfl 2 (by decide) (by decide) (fun h hh => by obtain ⟨_, rfl⟩ := hh; exact ⟨400 + j, _, hru9.1, rfl⟩) dX7_ruleNumberFor_36 rfl ?_
      refine V_iload4 (pc' := 41) C dX7_ruleNumberFor_39 rfl ?_
      refine V_icmple (tgt := 67) C (by omega) dX7_ruleNumberFor_41 (by decide) rfl (fun c_41 => ?_) (fun c_41 => ?_)
      · refine V_iinc5 (pc' := 70) C dX7_ruleNumberFor_67 rfl (by decide) rfl ?_
        refine V_goto (tgt := 8) C dX7_ruleNumberFor_70 (by decide) ?_
        refine V_forget6 ?_
        exact V_conv (fun h q => q) (by first | (have hy := ruN_y (S := S) (x := x) (j := j) hw4r (by omega) (by omega) (by assumption); rw [hy.1, hy.2]; rfl) | (have hy := ruN_n (S := S) (x := x) (j := j) hw4r (by omega) (by first | exact Or.inl (by omega) | exact Or.inr (by assumption)); rw [hy.1, hy.2]; rfl)) (hk trivial)
      · refine V_aload6 (pc' := 46) C dX7_ruleNumberFor_44 rfl ?_
        refine V_getfN (pc' := 49) (T := TX5) (N := 3) (ci := 10) C hin5 rfl 0 (by decide) (by decide) (fun h hh => by obtain ⟨_, rfl⟩ := hh; exact ⟨400 + j, _, hru9.1, rfl⟩) dX7_ruleNumberFor_46 rfl ?_
        refine V_iload1 (pc' := 50) C dX7_ruleNumberFor_49 rfl ?_
        refine V_iload2 (pc' := 51) C dX7_ruleNumberFor_50 rfl ?_
        refine V_callV (ci := 9) (n := 2) [.int (iI (x % 6)), .int (iI (x / 6))] C (kX4_holds (t := 410 + j) (c := S.1 12 j % 6) (r := S.1 12 j / 6) (c2 := S.1 13 j % 6) (r2 := S.1 13 j / 6) (by omega)) gX7_ruleNumberFor_X4_holds rfl ydX4_holds ⟨Nat.le_of_ble_eq_true rfl, Nat.le_of_ble_eq_true rfl⟩ ⟨rfl, rfl⟩ rfl rfl (fun h hh => by obtain ⟨_, rfl⟩ := hh; exact ⟨410 + j, _, hru9.2⟩) (fun h hh => by rw [hh.2]; exact hru9.2) rfl (Nat.le_of_ble_eq_true rfl) dX7_ruleNumberFor_51 ⟨Nat.le_of_ble_eq_true rfl, Nat.le_of_ble_eq_true rfl⟩ (fun h v h' hh hj9 => ?_)
        obtain ⟨r9, rfl, hj8, rfl⟩ := hj9
        rw [hj8, holds_within]
        refine V_weak (I2 := fun x => CW cI cO ee Tx9 P S X x ∧ x = h0) (fun x hx => by rw [hx]; exact hh) ?_
        refine V_ifeqB (tgt := 67) C dX7_ruleNumberFor_54 (by decide) rfl (fun c_54 => ?_) (fun c_54 => ?_)
        · refine V_iinc5 (pc' := 70) C dX7_ruleNumberFor_67 rfl (by decide) rfl ?_
          refine V_goto (tgt := 8) C dX7_ruleNumberFor_70 (by decide) ?_
          refine V_forget6 ?_
          exact V_conv (fun h q => q) (by first | (have hy := ruN_y (S := S) (x := x) (j := j) hw4r (by omega) (by omega) (by assumption); rw [hy.1, hy.2]; rfl) | (have hy := ruN_n (S := S) (x := x) (j := j) hw4r (by omega) (by first | exact Or.inl (by omega) | exact Or.inr (by assumption)); rw [hy.1, hy.2]; rfl)) (hk trivial)
        · refine V_iload5 (pc' := 59) C dX7_ruleNumberFor_57 rfl ?_
          refine V_istore3 (pc' := 60) C dX7_ruleNumberFor_59 rfl (by decide) rfl ?_
          refine V_aload6 (pc' := 62) C dX7_ruleNumberFor_60 rfl ?_
          refine V_getfN (pc' := 65) (T := TX5) (N := 3) (ci := 10) C hin5 rfl 2 (by decide) (by decide) (fun h hh => by obtain ⟨_, rfl⟩ := hh; exact ⟨400 + j, _, hru9.1, rfl⟩) dX7_ruleNumberFor_62 rfl ?_
          refine V_istore4 (pc' := 67) C dX7_ruleNumberFor_65 rfl (by decide) rfl ?_
          refine V_iinc5 (pc' := 70) C dX7_ruleNumberFor_67 rfl (by decide) rfl ?_
          refine V_goto (tgt := 8) C dX7_ruleNumberFor_70 (by decide) ?_
          refine V_forget6 ?_
          exact V_conv (fun h q => q) (by first | (have hy := ruN_y (S := S) (x := x) (j := j) hw4r (by omega) (by omega) (by assumption); rw [hy.1, hy.2]; rfl) | (have hy := ruN_n (S := S) (x := x) (j := j) hw4r (by omega) (by first | exact Or.inl (by omega) | exact Or.inr (by assumption)); rw [hy.1, hy.2]; rfl)) (hk trivial)
  · refine V_iload5 (pc' := 10) C dX7_ruleNumberFor_8 rfl ?_
    refine V_aload0 (pc' := 11) C dX7_ruleNumberFor_10 rfl ?_
    refine V_getf (pc' := 14) (T := TX7) (N := 13) (ci := 12) C hin rfl 3 (by decide) (by decide +kernel) (fun h hh => ⟨1, _, hh.1.1, rfl⟩) dX7_ruleNumberFor_11 rfl ?_
    refine V_callV (ci := 4) (n := 0) [] C (kJx4a65c_size_8abf5 (t := 18) (md := md2) (ar := ar2) (sn := S.2 23)) gX7_ruleNumberFor_Jx4a65c_size_8abf5 rfl ydJx4a65c_size_8abf5 ⟨Nat.le_of_ble_eq_true rfl, Nat.le_of_ble_eq_true rfl⟩ ⟨rfl, rfl⟩ rfl rfl (fun h hh => by obtain ⟨_, rfl⟩ := hh; exact ⟨18, _, hl2.1⟩) (fun h hh => by rw [hh.2]; exact hl2) rfl (Nat.le_of_ble_eq_true rfl) dX7_ruleNumberFor_14 ⟨Nat.le_of_ble_eq_true rfl, Nat.le_of_ble_eq_true rfl⟩ (fun h v h' hh hj => ?_)
    obtain ⟨r9, rfl, hj8, rfl⟩ := hj
    rw [hj8]
    refine V_weak (I2 := fun x => CW cI cO ee Tx9 P S X x ∧ x = h0) (fun x hx => by rw [hx]; exact hh) ?_
    refine V_icmpge (tgt := 73) C (by omega) dX7_ruleNumberFor_17 (by decide) rfl (fun c_17 => ?_) (fun c_17 => ?_)
    · refine V_iload3 (pc' := 74) C dX7_ruleNumberFor_73 rfl ?_
      exact V_end C hr hlk (fun h' hh => ⟨_, rfl, rfl, hh.2⟩) ⟨Nat.le_refl _, Nat.le_refl _⟩ dX7_ruleNumberFor_74
    · exact absurd c_17 (by omega)
end

/-! the class's tests and places -/
def isRankB (k : Int) : Bool := decide (0 ≤ k) && decide (k ≤ 9)
theorem ydX7_isCell : yX7_isCell.cls ≠ "java/lang/invoke/MethodHandle" ∧ yX7_isCell.cls ≠ "java/lang/invoke/VarHandle" ∧ (parseMethodDescriptor yX7_isCell.desc).map (fun d => d.parameters.length) = some 2 := by decide +kernel
theorem ydX7_isRange : yX7_isRange.cls ≠ "java/lang/invoke/MethodHandle" ∧ yX7_isRange.cls ≠ "java/lang/invoke/VarHandle" ∧ (parseMethodDescriptor yX7_isRange.desc).map (fun d => d.parameters.length) = some 4 := by decide +kernel
theorem ydX7_isValue : yX7_isValue.cls ≠ "java/lang/invoke/MethodHandle" ∧ yX7_isValue.cls ≠ "java/lang/invoke/VarHandle" ∧ (parseMethodDescriptor yX7_isValue.desc).map (fun d => d.parameters.length) = some 1 := by decide +kernel
theorem ydX7_isRank : yX7_isRank.cls ≠ "java/lang/invoke/MethodHandle" ∧ yX7_isRank.cls ≠ "java/lang/invoke/VarHandle" ∧ (parseMethodDescriptor yX7_isRank.desc).map (fun d => d.parameters.length) = some 1 := by decide +kernel
theorem ydX7_placeOf : yX7_placeOf.cls ≠ "java/lang/invoke/MethodHandle" ∧ yX7_placeOf.cls ≠ "java/lang/invoke/VarHandle" ∧ (parseMethodDescriptor yX7_placeOf.desc).map (fun d => d.parameters.length) = some 2 := by decide +kernel
section
variable {l : Launch} {D : va_G} {cB cC cI cO cJ cD : ClassId} {ee : Nat × Nat} {la t : Nat} {md sn : Int} {ar : Option Nat} {f : Nat → Option Nat}
variable {v : Nat → Nat} {F : Nat → Int → Int} {n : Int} {len : Nat}
variable {q tq nl tn : Nat} {g : Int → Int}
set_option maxHeartbeats 4000000 in
set_option maxRecDepth 100000 in
theorem kX7_isCell {c r : Int} (h9 : rI c ∧ rI r) : Ct l yX7_isCell wsX7_isCell ({ frames := 0, cells := 0, slots := 0, locals := 0 } : Room) D (tyL cB cC cI cO cJ cD) ee [.int (iI c), .int (iI r)] (fun _ => True) (Ji fun h z h' => z = bI (isCellB c r) ∧ h' = h) (0) (0) := by
  refine Ct_of (cc := cX7_isCell) (own := RX7) [some (.int (iI c)), some (.int (iI r))] (by decide) rfl rfl (Nat.le_of_ble_eq_true rfl) (fun i9 v9 h9 => argL [.int (iI c), .int (iI r)] 0 rfl i9 v9 h9) ?_
  intro p e s m9 args below meth c9 h0 sz hI C hr hlk hinit
  refine V_weak (I2 := fun x => x = h0) (fun x hx => hx) ?_
  refine V_iload0 (pc' := 1) C dX7_isCell_0 rfl ?_
  refine V_iflt (tgt := 24) C (by omega) dX7_isCell_1 (by decide) rfl (fun c_1 => ?_) (fun c_1 => ?_)
  · refine V_iconst (pc' := 25) C dX7_isCell_24 rfl ?_
    first | exact sEndz (b := true) C hr hlk ⟨Nat.le_refl _, Nat.le_refl _⟩ dX7_isCell_25 (by simp [isCellB, isInB, bI]; omega) | exact sEndz (b := false) C hr hlk ⟨Nat.le_refl _, Nat.le_refl _⟩ dX7_isCell_25 (by simp [isCellB, isInB, bI]; omega)
  · refine V_iload0 (pc' := 5) C dX7_isCell_4 rfl ?_
    refine V_bipush (pc' := 7) C dX7_isCell_5 rfl (by decide) ?_
    refine V_icmpge (tgt := 24) C (by omega) dX7_isCell_7 (by decide) rfl (fun c_7 => ?_) (fun c_7 => ?_)
    · refine V_iconst (pc' := 25) C dX7_isCell_24 rfl ?_
      first | exact sEndz (b := true) C hr hlk ⟨Nat.le_refl _, Nat.le_refl _⟩ dX7_isCell_25 (by simp [isCellB, isInB, bI]; omega) | exact sEndz (b := false) C hr hlk ⟨Nat.le_refl _, Nat.le_refl _⟩ dX7_isCell_25 (by simp [isCellB, isInB, bI]; omega)
    · refine V_iload1 (pc' := 11) C dX7_isCell_10 rfl ?_
      refine V_iflt (tgt := 24) C (by omega) dX7_isCell_11 (by decide) rfl (fun c_11 => ?_) (fun c_11 => ?_)
      · refine V_iconst (pc' := 25) C dX7_isCell_24 rfl ?_
        first | exact sEndz (b := true) C hr hlk ⟨Nat.le_refl _, Nat.le_refl _⟩ dX7_isCell_25 (by simp [isCellB, isInB, bI]; omega) | exact sEndz (b := false) C hr hlk ⟨Nat.le_refl _, Nat.le_refl _⟩ dX7_isCell_25 (by simp [isCellB, isInB, bI]; omega)
      · refine V_iload1 (pc' := 15) C dX7_isCell_14 rfl ?_
        refine V_bipush (pc' := 17) C dX7_isCell_15 rfl (by decide) ?_
        refine V_icmpge (tgt := 24) C (by omega) dX7_isCell_17 (by decide) rfl (fun c_17 => ?_) (fun c_17 => ?_)
        · refine V_iconst (pc' := 25) C dX7_isCell_24 rfl ?_
          first | exact sEndz (b := true) C hr hlk ⟨Nat.le_refl _, Nat.le_refl _⟩ dX7_isCell_25 (by simp [isCellB, isInB, bI]; omega) | exact sEndz (b := false) C hr hlk ⟨Nat.le_refl _, Nat.le_refl _⟩ dX7_isCell_25 (by simp [isCellB, isInB, bI]; omega)
        · refine V_iconst (pc' := 21) C dX7_isCell_20 rfl ?_
          refine V_goto (tgt := 25) C dX7_isCell_21 (by decide) ?_
          first | exact sEndz (b := true) C hr hlk ⟨Nat.le_refl _, Nat.le_refl _⟩ dX7_isCell_25 (by simp [isCellB, isInB, bI]; omega) | exact sEndz (b := false) C hr hlk ⟨Nat.le_refl _, Nat.le_refl _⟩ dX7_isCell_25 (by simp [isCellB, isInB, bI]; omega)
set_option maxHeartbeats 4000000 in
set_option maxRecDepth 100000 in
theorem kX7_isRange {c r c2 r2 : Int} (h9 : rI c ∧ rI r ∧ rI c2 ∧ rI r2) : Ct l yX7_isRange wsX7_isRange ({ frames := 0, cells := 0, slots := 0, locals := 0 } : Room) D (tyL cB cC cI cO cJ cD) ee [.int (iI c), .int (iI r), .int (iI c2), .int (iI r2)] (fun _ => True) (Ji fun h z h' => z = bI (isRangeB c r c2 r2) ∧ h' = h) (0) (0) := by
  refine Ct_of (cc := cX7_isRange) (own := RX7) [some (.int (iI c)), some (.int (iI r)), some (.int (iI c2)), some (.int (iI r2))] (by decide) rfl rfl (Nat.le_of_ble_eq_true rfl) (fun i9 v9 h9 => argL [.int (iI c), .int (iI r), .int (iI c2), .int (iI r2)] 0 rfl i9 v9 h9) ?_
  intro p e s m9 args below meth c9 h0 sz hI C hr hlk hinit
  refine V_weak (I2 := fun x => x = h0) (fun x hx => hx) ?_
  refine V_iload2 (pc' := 1) C dX7_isRange_0 rfl ?_
  refine V_iload0 (pc' := 2) C dX7_isRange_1 rfl ?_
  refine V_icmplt (tgt := 14) C (by omega) dX7_isRange_2 (by decide) rfl (fun c_2 => ?_) (fun c_2 => ?_)
  · refine V_iconst (pc' := 15) C dX7_isRange_14 rfl ?_
    first | exact sEndz (b := true) C hr hlk ⟨Nat.le_refl _, Nat.le_refl _⟩ dX7_isRange_15 (by simp [isRangeB, bI]; omega) | exact sEndz (b := false) C hr hlk ⟨Nat.le_refl _, Nat.le_refl _⟩ dX7_isRange_15 (by simp [isRangeB, bI]; omega)
  · refine V_iload3 (pc' := 6) C dX7_isRange_5 rfl ?_
    refine V_iload1 (pc' := 7) C dX7_isRange_6 rfl ?_
    refine V_icmplt (tgt := 14) C (by omega) dX7_isRange_7 (by decide) rfl (fun c_7 => ?_) (fun c_7 => ?_)
    · refine V_iconst (pc' := 15) C dX7_isRange_14 rfl ?_
      first | exact sEndz (b := true) C hr hlk ⟨Nat.le_refl _, Nat.le_refl _⟩ dX7_isRange_15 (by simp [isRangeB, bI]; omega) | exact sEndz (b := false) C hr hlk ⟨Nat.le_refl _, Nat.le_refl _⟩ dX7_isRange_15 (by simp [isRangeB, bI]; omega)
    · refine V_iconst (pc' := 11) C dX7_isRange_10 rfl ?_
      refine V_goto (tgt := 15) C dX7_isRange_11 (by decide) ?_
      first | exact sEndz (b := true) C hr hlk ⟨Nat.le_refl _, Nat.le_refl _⟩ dX7_isRange_15 (by simp [isRangeB, bI]; omega) | exact sEndz (b := false) C hr hlk ⟨Nat.le_refl _, Nat.le_refl _⟩ dX7_isRange_15 (by simp [isRangeB, bI]; omega)
set_option maxHeartbeats 4000000 in
set_option maxRecDepth 100000 in
theorem kX7_isValue {x : Int} (h9 : rI x) : Ct l yX7_isValue wsX7_isValue ({ frames := 0, cells := 0, slots := 0, locals := 0 } : Room) D (tyL cB cC cI cO cJ cD) ee [.int (iI x)] (fun _ => True) (Ji fun h z h' => z = bI (isValueB x) ∧ h' = h) (0) (0) := by
  refine Ct_of (cc := cX7_isValue) (own := RX7) [some (.int (iI x))] (by decide) rfl rfl (Nat.le_of_ble_eq_true rfl) (fun i9 v9 h9 => argL [.int (iI x)] 0 rfl i9 v9 h9) ?_
  intro p e s m9 args below meth c9 h0 sz hI C hr hlk hinit
  refine V_weak (I2 := fun x => x = h0) (fun x hx => hx) ?_
  refine V_iload0 (pc' := 1) C dX7_isValue_0 rfl ?_
  refine V_sipush (pc' := 4) C dX7_isValue_1 rfl (by decide) ?_
  refine V_icmplt (tgt := 18) C (by omega) dX7_isValue_4 (by decide) rfl (fun c_4 => ?_) (fun c_4 => ?_)
  · refine V_iconst (pc' := 19) C dX7_isValue_18 rfl ?_
    first | exact sEndz (b := true) C hr hlk ⟨Nat.le_refl _, Nat.le_refl _⟩ dX7_isValue_19 (by simp [isValueB, isInB, bI]; omega) | exact sEndz (b := false) C hr hlk ⟨Nat.le_refl _, Nat.le_refl _⟩ dX7_isValue_19 (by simp [isValueB, isInB, bI]; omega)
  · refine V_iload0 (pc' := 8) C dX7_isValue_7 rfl ?_
    refine V_sipush (pc' := 11) C dX7_isValue_8 rfl (by decide) ?_
    refine V_icmpgt (tgt := 18) C (by omega) dX7_isValue_11 (by decide) rfl (fun c_11 => ?_) (fun c_11 => ?_)
    · refine V_iconst (pc' := 19) C dX7_isValue_18 rfl ?_
      first | exact sEndz (b := true) C hr hlk ⟨Nat.le_refl _, Nat.le_refl _⟩ dX7_isValue_19 (by simp [isValueB, isInB, bI]; omega) | exact sEndz (b := false) C hr hlk ⟨Nat.le_refl _, Nat.le_refl _⟩ dX7_isValue_19 (by simp [isValueB, isInB, bI]; omega)
    · refine V_iconst (pc' := 15) C dX7_isValue_14 rfl ?_
      refine V_goto (tgt := 19) C dX7_isValue_15 (by decide) ?_
      first | exact sEndz (b := true) C hr hlk ⟨Nat.le_refl _, Nat.le_refl _⟩ dX7_isValue_19 (by simp [isValueB, isInB, bI]; omega) | exact sEndz (b := false) C hr hlk ⟨Nat.le_refl _, Nat.le_refl _⟩ dX7_isValue_19 (by simp [isValueB, isInB, bI]; omega)
set_option maxHeartbeats 4000000 in
set_option maxRecDepth 100000 in
theorem kX7_isRank {x : Int} (h9 : rI x) : Ct l yX7_isRank wsX7_isRank ({ frames := 0, cells := 0, slots := 0, locals := 0 } : Room) D (tyL cB cC cI cO cJ cD) ee [.int (iI x)] (fun _ => True) (Ji fun h z h' => z = bI (isRankB x) ∧ h' = h) (0) (0) := by
  refine Ct_of (cc := cX7_isRank) (own := RX7) [some (.int (iI x))] (by decide) rfl rfl (Nat.le_of_ble_eq_true rfl) (fun i9 v9 h9 => argL [.int (iI x)] 0 rfl i9 v9 h9) ?_
  intro p e s m9 args below meth c9 h0 sz hI C hr hlk hinit
  refine V_weak (I2 := fun x => x = h0) (fun x hx => hx) ?_
  refine V_iload0 (pc' := 1) C dX7_isRank_0 rfl ?_
  refine V_iflt (tgt := 14) C (by omega) dX7_isRank_1 (by decide) rfl (fun c_1 => ?_) (fun c_1 => ?_)
  · refine V_iconst (pc' := 15) C dX7_isRank_14 rfl ?_
    first | exact sEndz (b := true) C hr hlk ⟨Nat.le_refl _, Nat.le_refl _⟩ dX7_isRank_15 (by simp [isRankB, bI]; omega) | exact sEndz (b := false) C hr hlk ⟨Nat.le_refl _, Nat.le_refl _⟩ dX7_isRank_15 (by simp [isRankB, bI]; omega)
  · refine V_iload0 (pc' := 5) C dX7_isRank_4 rfl ?_
    refine V_bipush (pc' := 7) C dX7_isRank_5 rfl (by decide) ?_
    refine V_icmpgt (tgt := 14) C (by omega) dX7_isRank_7 (by decide) rfl (fun c_7 => ?_) (fun c_7 => ?_)
    · refine V_iconst (pc' := 15) C dX7_isRank_14 rfl ?_
      first | exact sEndz (b := true) C hr hlk ⟨Nat.le_refl _, Nat.le_refl _⟩ dX7_isRank_15 (by simp [isRankB, bI]; omega) | exact sEndz (b := false) C hr hlk ⟨Nat.le_refl _, Nat.le_refl _⟩ dX7_isRank_15 (by simp [isRankB, bI]; omega)
    · refine V_iconst (pc' := 11) C dX7_isRank_10 rfl ?_
      refine V_goto (tgt := 15) C dX7_isRank_11 (by decide) ?_
      first | exact sEndz (b := true) C hr hlk ⟨Nat.le_refl _, Nat.le_refl _⟩ dX7_isRank_15 (by simp [isRankB, bI]; omega) | exact sEndz (b := false) C hr hlk ⟨Nat.le_refl _, Nat.le_refl _⟩ dX7_isRank_15 (by simp [isRankB, bI]; omega)
set_option maxHeartbeats 4000000 in
set_option maxRecDepth 100000 in
theorem kX7_placeOf {c r : Int} : Ct l yX7_placeOf wsX7_placeOf ({ frames := 0, cells := 0, slots := 0, locals := 0 } : Room) D (tyL cB cC cI cO cJ cD) ee [.int (iI c), .int (iI r)] (fun _ => True) (Ji fun h z h' => z = atI c r ∧ h' = h) (0) (0) := by
  refine Ct_of (cc := cX7_placeOf) (own := RX7) [some (.int (iI c)), some (.int (iI r))] (by decide) rfl rfl (Nat.le_of_ble_eq_true rfl) (fun i9 v9 h9 => argL [.int (iI c), .int (iI r)] 0 rfl i9 v9 h9) ?_
  intro p e s m9 args below meth c9 h0 sz hI C hr hlk hinit
  refine V_weak (I2 := fun x => x = h0) (fun x hx => hx) ?_
  refine V_iload1 (pc' := 1) C dX7_placeOf_0 rfl ?_
  refine V_bipush (pc' := 3) C dX7_placeOf_1 rfl (by decide) ?_
  refine V_imul (pc' := 4) C dX7_placeOf_3 rfl ?_
  refine V_iload0 (pc' := 5) C dX7_placeOf_4 rfl ?_
  refine V_iadd (pc' := 6) C dX7_placeOf_5 rfl ?_
  exact sEnd C hr hlk ⟨Nat.le_refl _, Nat.le_refl _⟩ dX7_placeOf_6 (by unfold atI; omega)
end

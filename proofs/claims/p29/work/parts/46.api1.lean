/-! the class: what only reads -/
theorem ydX7_skipped : yX7_skipped.cls = RX7 ∧ yX7_skipped.cls ≠ "java/lang/invoke/MethodHandle" ∧ yX7_skipped.cls ≠ "java/lang/invoke/VarHandle" ∧ (parseMethodDescriptor yX7_skipped.desc).map (fun d => d.parameters.length) = some 0 := by decide +kernel
theorem ydX7_entries : yX7_entries.cls = RX7 ∧ yX7_entries.cls ≠ "java/lang/invoke/MethodHandle" ∧ yX7_entries.cls ≠ "java/lang/invoke/VarHandle" ∧ (parseMethodDescriptor yX7_entries.desc).map (fun d => d.parameters.length) = some 0 := by decide +kernel
theorem ydX7_cell : yX7_cell.cls = RX7 ∧ yX7_cell.cls ≠ "java/lang/invoke/MethodHandle" ∧ yX7_cell.cls ≠ "java/lang/invoke/VarHandle" ∧ (parseMethodDescriptor yX7_cell.desc).map (fun d => d.parameters.length) = some 2 := by decide +kernel
theorem ydX7_cellByAudit : yX7_cellByAudit.cls = RX7 ∧ yX7_cellByAudit.cls ≠ "java/lang/invoke/MethodHandle" ∧ yX7_cellByAudit.cls ≠ "java/lang/invoke/VarHandle" ∧ (parseMethodDescriptor yX7_cellByAudit.desc).map (fun d => d.parameters.length) = some 2 := by decide +kernel
section
variable {l : Launch} {D : va_G} {cB cC cI cO cJ cD : ClassId} {ee : Nat × Nat} {Tx9 : (Nat → Nat) → MSt → Hp → Prop} {P : Nat → Nat} {S X : MSt}
set_option maxHeartbeats 4000000 in
set_option maxRecDepth 100000 in
theorem kX7_skipped : Ct l yX7_skipped wsX7_skipped ({ frames := 0, cells := 0, slots := 0, locals := 0 } : Room) D (tyL cB cC cI cO cJ cD) ee [.ref (P 1)] (CW cI cO ee Tx9 P S X) (Ji fun h z9 h' => z9 = S.2 26 ∧ h' = h) (0) (0) := by
  refine Ct_of (cc := cX7_skipped) (own := RX7) [some (.ref (P 1))] (by decide) rfl rfl (Nat.le_of_ble_eq_true rfl) (fun i9 v9 h9 => argL [.ref (P 1)] 0 rfl i9 v9 h9) ?_
  intro p e s m9 args below meth c9 h0 sz hI C hr hlk hinit
  have hin : ∀ w ∈ wsX70, w ∈ wsX7_skipped := by decide +kernel
  refine V_weak (I2 := fun x9 => CW cI cO ee Tx9 P S X x9 ∧ x9 = h0) (fun x9 hx9 => by subst hx9; exact ⟨hI, rfl⟩) ?_
  refine V_aload0 (pc' := 1) C dX7_skipped_0 rfl ?_
  refine V_getf (pc' := 4) (T := TX7) (N := 13) (ci := 12) C hin rfl 12 (by decide) (by decide +kernel) (fun h hh => ⟨1, _, hh.1.1, rfl⟩) dX7_skipped_1 rfl ?_
  exact V_end C hr hlk (fun h' hh => ⟨_, rfl, rfl, hh.2⟩) ⟨Nat.le_refl _, Nat.le_refl _⟩ dX7_skipped_4
set_option maxHeartbeats 4000000 in
set_option maxRecDepth 100000 in
theorem kX7_entries : Ct l yX7_entries wsX7_entries ({ frames := 1, cells := 0, slots := 0, locals := 20 } : Room) D (tyL cB cC cI cO cJ cD) ee [.ref (P 1)] (CW cI cO ee Tx9 P S X) (Ji fun h z9 h' => z9 = X.2 25 ∧ h' = h) (0) (0) := by
  refine Ct_of (cc := cX7_entries) (own := RX7) [some (.ref (P 1))] (by decide) rfl rfl (Nat.le_of_ble_eq_true rfl) (fun i9 v9 h9 => argL [.ref (P 1)] 0 rfl i9 v9 h9) ?_
  intro p e s m9 args below meth c9 h0 sz hI C hr hlk hinit
  have hin : ∀ w ∈ wsX70, w ∈ wsX7_entries := by decide +kernel
  refine V_weak (I2 := fun x9 => CW cI cO ee Tx9 P S X x9 ∧ x9 = h0) (fun x9 hx9 => by subst hx9; exact ⟨hI, rfl⟩) ?_
  refine V_aload0 (pc' := 1) C dX7_entries_0 rfl ?_
  refine V_getf (pc' := 4) (T := TX7) (N := 13) (ci := 12) C hin rfl 4 (by decide) (by decide +kernel) (fun h hh => ⟨1, _, hh.1.1, rfl⟩) dX7_entries_1 rfl ?_
  refine V_callV (ci := 5) (n := 0) [] C (kX0_size (v := fun k => P (7 + k)) (t := 6) (F := fun k => X.1 (7 + k)) (n := X.2 25) (len := (X.2 26).toNat)) gX7_entries_X0_size rfl ydX0_size ⟨Nat.le_of_ble_eq_true rfl, Nat.le_of_ble_eq_true rfl⟩ ⟨rfl, rfl⟩ rfl rfl (fun h hh => ⟨6, _, hh.1.2.2.2.1.1⟩) (fun h hh => hh.1.2.2.2.1) rfl (Nat.le_of_ble_eq_true rfl) dX7_entries_4 ⟨Nat.le_of_ble_eq_true rfl, Nat.le_of_ble_eq_true rfl⟩ (fun h v h' hh hj9 => ?_)
  obtain ⟨r9, rfl, hj8, rfl⟩ := hj9
  rw [hj8]
  refine V_weak (I2 := fun x9 => CW cI cO ee Tx9 P S X x9 ∧ x9 = h0) (fun x9 hx9 => by rw [hx9]; exact hh) ?_
  exact V_end C hr hlk (fun h' hh => ⟨_, rfl, rfl, hh.2⟩) ⟨Nat.le_refl _, Nat.le_refl _⟩ dX7_entries_7
set_option maxHeartbeats 4000000 in
set_option maxRecDepth 100000 in
theorem kX7_cell {c r : Int} (hr2 : rI c ∧ rI r) (hc2 : isCellB c r = true) : Ct l yX7_cell wsX7_cell ({ frames := 4, cells := 0, slots := 0, locals := 90 } : Room) D (tyL cB cC cI cO cJ cD) ee [.ref (P 1), .int (iI c), .int (iI r)] (CW cI cO ee Tx9 P S X) (Ji fun h z9 h' => z9 = S.1 0 (atI c r) ∧ h' = h) (0) (0) := by
  refine Ct_of (cc := cX7_cell) (own := RX7) [some (.ref (P 1)), some (.int (iI c)), some (.int (iI r))] (by decide) rfl rfl (Nat.le_of_ble_eq_true rfl) (fun i9 v9 h9 => argL [.ref (P 1), .int (iI c), .int (iI r)] 0 rfl i9 v9 h9) ?_
  intro p e s m9 args below meth c9 h0 sz hI C hr hlk hinit
  have hin : ∀ w ∈ wsX70, w ∈ wsX7_cell := by decide +kernel
  refine V_weak (I2 := fun x9 => CW cI cO ee Tx9 P S X x9 ∧ x9 = h0) (fun x9 hx9 => by subst hx9; exact ⟨hI, rfl⟩) ?_
  have hx := atI_in (c := c) (r := r) hc2
  refine V_iload1 (pc' := 1) C dX7_cell_0 rfl ?_
  refine V_iload2 (pc' := 2) C dX7_cell_1 rfl ?_
  refine V_callS (n := 2) [.int (iI c), .int (iI r)] C (kX7_needCell hr2 hc2) gX7_cell_X7_needCell rfl ydX7_needCell ⟨Nat.le_of_ble_eq_true rfl, Nat.le_of_ble_eq_true rfl⟩ ⟨rfl, rfl⟩ rfl (fun h hh => trivial) rfl (Nat.le_of_ble_eq_true rfl) dX7_cell_2 ⟨Nat.le_of_ble_eq_true rfl, Nat.le_of_ble_eq_true rfl⟩ (fun h v h' hh hj9 => ?_)
  obtain ⟨rfl, rfl⟩ := hj9
  refine V_weak (I2 := fun x9 => CW cI cO ee Tx9 P S X x9 ∧ x9 = h0) (fun x9 hx9 => by rw [hx9]; exact hh) ?_
  refine V_aload0 (pc' := 6) C dX7_cell_5 rfl ?_
  refine V_getf (pc' := 9) (T := TX7) (N := 13) (ci := 12) C hin rfl 0 (by decide) (by decide +kernel) (fun h hh => ⟨1, _, hh.1.1, rfl⟩) dX7_cell_6 rfl ?_
  refine V_iload1 (pc' := 10) C dX7_cell_9 rfl ?_
  refine V_iload2 (pc' := 11) C dX7_cell_10 rfl ?_
  refine sCall2 (pc' := 14) C (kX7_placeOf (c := c) (r := r)) gX7_cell_X7_placeOf rfl ydX7_placeOf ⟨Nat.le_of_ble_eq_true rfl, Nat.le_of_ble_eq_true rfl⟩ ⟨rfl, rfl⟩ (Nat.le_of_ble_eq_true rfl) dX7_cell_11 ⟨Nat.zero_le _, Nat.zero_le _⟩ rfl ?_
  refine V_callV (ci := 6) (n := 1) [.int (iI (atI c r))] C (kX1_valueAt (v := P 3) (g := S.1 0) (t := 2) (z := atI c r) (by omega)) gX7_cell_X1_valueAt rfl ydX1_valueAt ⟨Nat.le_of_ble_eq_true rfl, Nat.le_of_ble_eq_true rfl⟩ ⟨rfl, rfl⟩ rfl rfl (fun h hh => ⟨2, _, hh.1.2.1.1⟩) (fun h hh => hh.1.2.1) rfl (Nat.le_of_ble_eq_true rfl) dX7_cell_14 ⟨Nat.le_of_ble_eq_true rfl, Nat.le_of_ble_eq_true rfl⟩ (fun h v h' hh hj9 => ?_)
  obtain ⟨r9, rfl, hj8, rfl⟩ := hj9
  rw [hj8]
  refine V_weak (I2 := fun x9 => CW cI cO ee Tx9 P S X x9 ∧ x9 = h0) (fun x9 hx9 => by rw [hx9]; exact hh) ?_
  exact V_end C hr hlk (fun h' hh => ⟨_, rfl, rfl, hh.2⟩) ⟨Nat.le_refl _, Nat.le_refl _⟩ dX7_cell_17
set_option maxHeartbeats 4000000 in
set_option maxRecDepth 100000 in
theorem xX7_cell {c r : Int} (hr2 : rI c ∧ rI r) (hc2 : isCellB c r = false) (hst : l.stackTraces = false) : Tx l yX7_cell wsX7_cell ({ frames := 8, cells := 1, slots := 6, locals := 170 } : Room) D (tyL cB cC cI cO cJ cD) ee [.ref (P 1), .int (iI c), .int (iI r)] (CW cI cO ee Tx9 P S X) "java/lang/IndexOutOfBoundsException" (fun h h' => h' = h) (1) (6) := by
  refine Tx_of (cc := cX7_cell) (own := RX7) [some (.ref (P 1)), some (.int (iI c)), some (.int (iI r))] (by decide) rfl rfl (Nat.le_of_ble_eq_true rfl) (fun i9 v9 h9 => argL [.ref (P 1), .int (iI c), .int (iI r)] 0 rfl i9 v9 h9) ?_
  intro p e s m9 args below meth c9 h0 sz hI C hlk hxt
  have hin : ∀ w ∈ wsX70, w ∈ wsX7_cell := by decide +kernel
  refine V_weak (I2 := fun x9 => CW cI cO ee Tx9 P S X x9 ∧ x9 = h0) (fun x9 hx9 => by subst hx9; exact ⟨hI, rfl⟩) ?_
  refine V_iload1 (pc' := 1) C dX7_cell_0 rfl ?_
  refine V_iload2 (pc' := 2) C dX7_cell_1 rfl ?_
  exact V_outS (n := 2) [.int (iI c), .int (iI r)] C (xX7_needCell hr2 hc2 hst) gX7_cell_X7_needCell rfl ydX7_needCell ⟨Nat.le_of_ble_eq_true rfl, Nat.le_of_ble_eq_true rfl⟩ ⟨rfl, rfl⟩ rfl (fun h hh => trivial) rfl (Nat.le_of_ble_eq_true rfl) dX7_cell_2 ⟨Nat.le_of_ble_eq_true rfl, Nat.le_of_ble_eq_true rfl⟩ hxt hlk (fun h h' hh hj => by rw [hj]; exact hh.2) ⟨Nat.le_of_ble_eq_true rfl, Nat.le_of_ble_eq_true rfl⟩
set_option maxHeartbeats 4000000 in
set_option maxRecDepth 100000 in
theorem kX7_cellByAudit {c r : Int} (hr2 : rI c ∧ rI r) (hc2 : isCellB c r = true) (hF : ∀ i, 0 ≤ i → i < X.2 25 → rI (X.1 7 i) ∧ rI (X.1 9 i) ∧ rI (X.1 10 i)) : Ct l yX7_cellByAudit wsX7_cellByAudit ({ frames := 4, cells := 0, slots := 0, locals := 90 } : Room) D (tyL cB cC cI cO cJ cD) ee [.ref (P 1), .int (iI c), .int (iI r)] (CW cI cO ee Tx9 P S X) (Ji fun h z9 h' => z9 = anewN (fun k => X.1 (7 + k)) (atI c r) (X.2 25).toNat ∧ h' = h) (0) (0) := by
  refine Ct_of (cc := cX7_cellByAudit) (own := RX7) [some (.ref (P 1)), some (.int (iI c)), some (.int (iI r))] (by decide) rfl rfl (Nat.le_of_ble_eq_true rfl) (fun i9 v9 h9 => argL [.ref (P 1), .int (iI c), .int (iI r)] 0 rfl i9 v9 h9) ?_
  intro p e s m9 args below meth c9 h0 sz hI C hr hlk hinit
  have hin : ∀ w ∈ wsX70, w ∈ wsX7_cellByAudit := by decide +kernel
  refine V_weak (I2 := fun x9 => CW cI cO ee Tx9 P S X x9 ∧ x9 = h0) (fun x9 hx9 => by subst hx9; exact ⟨hI, rfl⟩) ?_
  have hx := atI_in (c := c) (r := r) hc2
  refine V_iload1 (pc' := 1) C dX7_cellByAudit_0 rfl ?_
  refine V_iload2 (pc' := 2) C dX7_cellByAudit_1 rfl ?_
  refine V_callS (n := 2) [.int (iI c), .int (iI r)] C (kX7_needCell hr2 hc2) gX7_cellByAudit_X7_needCell rfl ydX7_needCell ⟨Nat.le_of_ble_eq_true rfl, Nat.le_of_ble_eq_true rfl⟩ ⟨rfl, rfl⟩ rfl (fun h hh => trivial) rfl (Nat.le_of_ble_eq_true rfl) dX7_cellByAudit_2 ⟨Nat.le_of_ble_eq_true rfl, Nat.le_of_ble_eq_true rfl⟩ (fun h v h' hh hj9 => ?_)
  obtain ⟨rfl, rfl⟩ := hj9
  refine V_weak (I2 := fun x9 => CW cI cO ee Tx9 P S X x9 ∧ x9 = h0) (fun x9 hx9 => by rw [hx9]; exact hh) ?_
  refine V_aload0 (pc' := 6) C dX7_cellByAudit_5 rfl ?_
  refine V_getf (pc' := 9) (T := TX7) (N := 13) (ci := 12) C hin rfl 4 (by decide) (by decide +kernel) (fun h hh => ⟨1, _, hh.1.1, rfl⟩) dX7_cellByAudit_6 rfl ?_
  refine V_iload1 (pc' := 10) C dX7_cellByAudit_9 rfl ?_
  refine V_iload2 (pc' := 11) C dX7_cellByAudit_10 rfl ?_
  refine sCall2 (pc' := 14) C (kX7_placeOf (c := c) (r := r)) gX7_cellByAudit_X7_placeOf rfl ydX7_placeOf ⟨Nat.le_of_ble_eq_true rfl, Nat.le_of_ble_eq_true rfl⟩ ⟨rfl, rfl⟩ (Nat.le_of_ble_eq_true rfl) dX7_cellByAudit_11 ⟨Nat.zero_le _, Nat.zero_le _⟩ rfl ?_
  refine V_callV (ci := 5) (n := 1) [.int (iI (atI c r))] C (kX0_valueAnew (v := fun k => P (7 + k)) (t := 6) (F := fun k => X.1 (7 + k)) (n := X.2 25) (len := (X.2 26).toNat) (z := atI c r) (by omega) hF) gX7_cellByAudit_X0_valueAnew rfl ydX0_valueAnew ⟨Nat.le_of_ble_eq_true rfl, Nat.le_of_ble_eq_true rfl⟩ ⟨rfl, rfl⟩ rfl rfl (fun h hh => ⟨6, _, hh.1.2.2.2.1.1⟩) (fun h hh => hh.1.2.2.2.1) rfl (Nat.le_of_ble_eq_true rfl) dX7_cellByAudit_14 ⟨Nat.le_of_ble_eq_true rfl, Nat.le_of_ble_eq_true rfl⟩ (fun h v h' hh hj9 => ?_)
  obtain ⟨r9, rfl, hj8, rfl⟩ := hj9
  rw [hj8]
  refine V_weak (I2 := fun x9 => CW cI cO ee Tx9 P S X x9 ∧ x9 = h0) (fun x9 hx9 => by rw [hx9]; exact hh) ?_
  exact V_end C hr hlk (fun h' hh => ⟨_, rfl, rfl, hh.2⟩) ⟨Nat.le_refl _, Nat.le_refl _⟩ dX7_cellByAudit_17
set_option maxHeartbeats 4000000 in
set_option maxRecDepth 100000 in
theorem xX7_cellByAudit {c r : Int} (hr2 : rI c ∧ rI r) (hc2 : isCellB c r = false) (hst : l.stackTraces = false) : Tx l yX7_cellByAudit wsX7_cellByAudit ({ frames := 8, cells := 1, slots := 6, locals := 170 } : Room) D (tyL cB cC cI cO cJ cD) ee [.ref (P 1), .int (iI c), .int (iI r)] (CW cI cO ee Tx9 P S X) "java/lang/IndexOutOfBoundsException" (fun h h' => h' = h) (1) (6) := by
  refine Tx_of (cc := cX7_cellByAudit) (own := RX7) [some (.ref (P 1)), some (.int (iI c)), some (.int (iI r))] (by decide) rfl rfl (Nat.le_of_ble_eq_true rfl) (fun i9 v9 h9 => argL [.ref (P 1), .int (iI c), .int (iI r)] 0 rfl i9 v9 h9) ?_
  intro p e s m9 args below meth c9 h0 sz hI C hlk hxt
  have hin : ∀ w ∈ wsX70, w ∈ wsX7_cellByAudit := by decide +kernel
  refine V_weak (I2 := fun x9 => CW cI cO ee Tx9 P S X x9 ∧ x9 = h0) (fun x9 hx9 => by subst hx9; exact ⟨hI, rfl⟩) ?_
  refine V_iload1 (pc' := 1) C dX7_cellByAudit_0 rfl ?_
  refine V_iload2 (pc' := 2) C dX7_cellByAudit_1 rfl ?_
  exact V_outS (n := 2) [.int (iI c), .int (iI r)] C (xX7_needCell hr2 hc2 hst) gX7_cellByAudit_X7_needCell rfl ydX7_needCell ⟨Nat.le_of_ble_eq_true rfl, Nat.le_of_ble_eq_true rfl⟩ ⟨rfl, rfl⟩ rfl (fun h hh => trivial) rfl (Nat.le_of_ble_eq_true rfl) dX7_cellByAudit_2 ⟨Nat.le_of_ble_eq_true rfl, Nat.le_of_ble_eq_true rfl⟩ hxt hlk (fun h h' hh hj => by rw [hj]; exact hh.2) ⟨Nat.le_of_ble_eq_true rfl, Nat.le_of_ble_eq_true rfl⟩
end
